/-! whole's law: whole -/
def rWh (x2 x3 x4 x5 : Int32) (σ : zSt) (c : Int32) (σ2 : zSt) : Prop := (¬ yWhOk x2 x3 x4 x5 ∧ c = 1 ∧ σ2 = σ) ∨ (yWhOk x2 x3 x4 x5 ∧ rPw x5 (sWh x2.toNatClampNeg (zsW σ x3.toNatClampNeg) (zsW σ x4.toNatClampNeg)) σ c σ2)
theorem rWh_U {x2 x3 x4 x5 : Int32} {σ s t : zSt} {c c2 : Int32} (h : rWh x2 x3 x4 x5 σ c s) (g : rWh x2 x3 x4 x5 σ c2 t) : c = c2 ∧ s = t := by
  rcases h with ⟨h1, h2, h3⟩ | ⟨h1, h2⟩ <;> rcases g with ⟨g1, g2, g3⟩ | ⟨g1, g2⟩
  · exact ⟨h2.trans g2.symm, h3.trans g3.symm⟩
  · exact absurd g1 h1
  · exact absurd h1 g1
  · exact rPw_U h2 g2
set_option maxRecDepth 100000 in
set_option maxHeartbeats 4000000 in
theorem CW_whole (l : Launch) (D : va_G) (g : Nat → ClassId) (q : Nat → Nat) (ws : va_W) (x2 : Int32) (x3 : Int32) (x4 : Int32) (x5 : Int32) (i3 : Nat) (hi3 : i3 < 10) (i4 : Nat) (hi4 : i4 < 10) (i5 : Nat) (hi5 : i5 < 10) (e3 : x3.toNatClampNeg < 10 → i3 = x3.toNatClampNeg) (e4 : x4.toNatClampNeg < 10 → i4 = x4.toNatClampNeg) (e5 : x5.toNatClampNeg < 10 → i5 = x5.toNatClampNeg) (nei3i4 : i3 ≠ i4) (nei4i5 : i4 ≠ i5) (hlt : l.stackTraces = false) (hI : q_I (nsh g q) q ws) (hC : iC g q ws) {σ : zSt} (hS : sC g q ws σ) (hk0 : zOk σ) : ∀ sz, q_Mx l y_NH_whole prog_1_method_8_code 7 none 9 4 24 D g [.ref (q 0), .int x2, .int x3, .int x4, .int x5] ws sz (va_Qv (fun u => iP g q ws u ∧ ∃ σ2, rWh x2 x3 x4 x5 σ 0 σ2 ∧ sC g q u σ2) (q_B D g (va_A ws sz)) (va_A ws sz)) (fun E u => ∃ c : Int32, E = qE c ∧ (c = 1 ∨ c = 2) ∧ iP g q ws u ∧ rWh x2 x3 x4 x5 σ c σ ∧ sC g q u σ) := by
  intro sz
  obtain ⟨t0_0, t0_1, hT0, -⟩ := q_bigO hI (n_b10 g q)
  obtain ⟨t1_0, hT1, -⟩ := n_ai hI (n_s11 g q)
  obtain ⟨t2_0, t2_1, hT2, -⟩ := q_bigO hI (n_b12 g q)
  obtain ⟨t3_0, hT3, -⟩ := n_ai hI (n_s13 g q)
  obtain ⟨t4_0, t4_1, hT4, -⟩ := q_bigO hI (n_b18 g q)
  obtain ⟨t5_0, hT5, -⟩ := n_ai hI (n_s19 g q)
  obtain ⟨t6_0, t6_1, hT6, -⟩ := q_bigO hI (n_b22 g q)
  obtain ⟨t7_0, hT7, -⟩ := n_ai hI (n_s23 g q)
  obtain ⟨t8_0, t8_1, hT8, -⟩ := q_bigO hI (n_b24 g q)
  obtain ⟨t9_0, hT9, -⟩ := n_ai hI (n_s25 g q)
  obtain ⟨t10_0, t10_1, hT10, -⟩ := q_bigO hI (n_b26 g q)
  obtain ⟨t11_0, hT11, -⟩ := n_ai hI (n_s27 g q)
  obtain ⟨t12_0, t12_1, hT12, -⟩ := q_bigO hI (n_b28 g q)
  obtain ⟨t13_0, hT13, -⟩ := n_ai hI (n_s29 g q)
  obtain ⟨t14_0, t14_1, t15_0, hT14, hT15, vk3, hbk3, hBk3⟩ := hC.1 i3 hi3
  obtain ⟨t16_0, t16_1, t17_0, hT16, hT17, vk4, hbk4, hBk4⟩ := hC.1 i4 hi4
  obtain ⟨t18_0, t18_1, t19_0, hT18, hT19, vk5, hbk5, hBk5⟩ := hC.1 i5 hi5
  obtain ⟨hS1, hS2, hS3, hS4, hS5, hS6, hS7⟩ := hS
  obtain ⟨sw3, nw3, fw3, aw3, bw3, gw3⟩ := hS1 i3 hi3
  obtain ⟨rfl, rfl⟩ := x_b2 hT14 aw3
  obtain rfl := x_ri hT15 bw3
  obtain ⟨sw4, nw4, fw4, aw4, bw4, gw4⟩ := hS1 i4 hi4
  obtain ⟨rfl, rfl⟩ := x_b2 hT16 aw4
  obtain rfl := x_ri hT17 bw4
  obtain ⟨sw5, nw5, fw5, aw5, bw5, gw5⟩ := hS1 i5 hi5
  obtain ⟨rfl, rfl⟩ := x_b2 hT18 aw5
  obtain rfl := x_ri hT19 bw5
  have ev3 : vk3 = zsW σ i3 := hbk3.2.2.1.symm.trans gw3.2.2.1
  have hB3 := hBk3
  rw [ev3] at hB3
  have ev4 : vk4 = zsW σ i4 := hbk4.2.2.1.symm.trans gw4.2.2.1
  have hB4 := hBk4
  rw [ev4] at hB4
  have ev5 : vk5 = zsW σ i5 := hbk5.2.2.1.symm.trans gw5.2.2.1
  have hB5 := hBk5
  rw [ev5] at hB5
  have hq := T_whole (x2 := x2) (x3 := x3) (x4 := x4) (x5 := x5) (t0_0 := t0_0) (t0_1 := t0_1) (t1_0 := t1_0) (t2_0 := t2_0) (t2_1 := t2_1) (t3_0 := t3_0) (t4_0 := t4_0) (t4_1 := t4_1) (t5_0 := t5_0) (t6_0 := t6_0) (t6_1 := t6_1) (t7_0 := t7_0) (t8_0 := t8_0) (t8_1 := t8_1) (t9_0 := t9_0) (t10_0 := t10_0) (t10_1 := t10_1) (t11_0 := t11_0) (t12_0 := t12_0) (t12_1 := t12_1) (t13_0 := t13_0) (t14_0 := t14_0) (t14_1 := t14_1) (t15_0 := t15_0) (t16_0 := t16_0) (t16_1 := t16_1) (t17_0 := t17_0) (t18_0 := t18_0) (t18_1 := t18_1) (t19_0 := t19_0) hbk3 hBk3 hbk4 hBk4 ⟨_, hbk5, hBk5⟩
  refine q_MxV (X_NH_whole l D g q ws x2 x3 x4 x5 (66 + 5 * i3) (n_w g q hi3) (by omega) (fun h => by have z := e3 h; omega) (66 + 5 * i4) (n_w g q hi4) (by omega) (fun h => by have z := e4 h; omega) (66 + 5 * i5) (n_w g q hi5) (by omega) (fun h => by have z := e5 h; omega) (by omega) (by omega) (by omega) (by omega) (by omega) (by omega) hlt hI t0_0 t0_1 hT0 t1_0 hT1 t2_0 t2_1 hT2 t3_0 hT3 t4_0 t4_1 hT4 t5_0 hT5 t6_0 t6_1 hT6 t7_0 hT7 t8_0 t8_1 hT8 t9_0 hT9 t10_0 t10_1 hT10 t11_0 hT11 t12_0 t12_1 hT12 t13_0 hT13 t14_0 t14_1 hT14 t15_0 hT15 t16_0 t16_1 hT16 t17_0 hT17 t18_0 t18_1 hT18 t19_0 hT19 ⟨trivial, hq.1⟩ sz) ?_ ?_
  · rintro u ⟨hI2, hun, u0_0, u0_1, u1_0, u2_0, u2_1, u3_0, u4_0, u4_1, u5_0, u6_0, u6_1, u7_0, u8_0, u8_1, u9_0, u10_0, u10_1, u11_0, u12_0, u12_1, u13_0, u16_0, u16_1, u17_0, u18_0, u18_1, u19_0, hU0, hU1, hU2, hU3, hU4, hU5, hU6, hU7, hU8, hU9, hU10, hU11, hU12, hU13, hU14, hU15, hU16, hU17, hR⟩
    have hG := hR.2.2.2.2.2.2.2.2.2.2.2.2.2.2.2.2.2.2.2.2.2.2.2.2.2.2.2.2.2.2.2.2.2.2.2.2.2.2.2.2.2.2.2.2.2.2.2.2.2.2.2.2.2.2.2.2.2.2.2.2.2.2.2.2.2.2.2.2.2.2.2.2.2.2.2.2.2.2.2.2.2.2.2.2.2.2.2.2.2.2.2.2.2.2.2.2.2.2.2.2.2.2.2.2.2.2.2.2.2.2.2.2.2
    clear hR
    have hF := hG
    have hp := hq.2
    rw [← hF] at hp
    refine ⟨⟨hI2, ⟨fun i hi => ?_, fun i hi => ?_, ?_⟩, fun i hi => hun i (by simp only [List.mem_cons, List.not_mem_nil, or_false, not_or]; omega)⟩, ?_⟩
    · by_cases hk4 : i = i4
      · rw [hk4]; refine ⟨_, _, _, hU14, hU15, ?_⟩; first | exact ⟨_, hp.2, hBk4⟩
      · by_cases hk5 : i = i5
        · rw [hk5]; refine ⟨_, _, _, hU16, hU17, ?_⟩; first | exact hp.1
        · exact iW_fr (hC.1 i hi) (hun _ (by simp only [List.mem_cons, List.not_mem_nil, or_false, not_or]; omega)) (hun _ (by simp only [List.mem_cons, List.not_mem_nil, or_false, not_or]; omega))
    · exact iD_fr (hC.2.1 i hi) (hun _ (by simp only [List.mem_cons, List.not_mem_nil, or_false, not_or]; omega)) (hun _ (by simp only [List.mem_cons, List.not_mem_nil, or_false, not_or]; omega)) (hun _ (by simp only [List.mem_cons, List.not_mem_nil, or_false, not_or]; omega))
    · exact iO_fr hC.2.2 (hun _ (by simp only [List.mem_cons, List.not_mem_nil, or_false, not_or]; omega)) (hun _ (by simp only [List.mem_cons, List.not_mem_nil, or_false, not_or]; omega)) (hun _ (by simp only [List.mem_cons, List.not_mem_nil, or_false, not_or]; omega))
    · have fW : ∀ i, i < 10 → ¬ i = i4 → ¬ i = i5 → cWr g q u (66 + 5 * i) (zsW σ i) := fun i hi hk4 hk5 => cWr_fr (hS1 i hi) (hun _ (by simp only [List.mem_cons, List.not_mem_nil, or_false, not_or]; omega)) (hun _ (by simp only [List.mem_cons, List.not_mem_nil, or_false, not_or]; omega))
      have fD : ∀ i, i < 10 → cDr g q u (68 + 5 * i) (zsD σ i) := fun i hi => cDr_fr (hS2 i hi) (hun _ (by simp only [List.mem_cons, List.not_mem_nil, or_false, not_or]; omega)) (hun _ (by simp only [List.mem_cons, List.not_mem_nil, or_false, not_or]; omega)) (hun _ (by simp only [List.mem_cons, List.not_mem_nil, or_false, not_or]; omega))
      have fV : cFr g q u 7 (zsV σ) := (cFr_fr hS3 (hun _ (by simp only [List.mem_cons, List.not_mem_nil, or_false, not_or]; omega)))
      have fN : cFr g q u 8 (zsN σ) := (cFr_fr hS4 (hun _ (by simp only [List.mem_cons, List.not_mem_nil, or_false, not_or]; omega)))
      have fT : cTp g q u (zsL σ) (zsB σ) := (cTp_fr hS5 (hun _ (by simp only [List.mem_cons, List.not_mem_nil, or_false, not_or]; omega)) (hun _ (by simp only [List.mem_cons, List.not_mem_nil, or_false, not_or]; omega)))
      have fP : cPp g q u (zsP σ) := (cPp_fr hS6 (hun _ (by simp only [List.mem_cons, List.not_mem_nil, or_false, not_or]; omega)) (hun _ (by simp only [List.mem_cons, List.not_mem_nil, or_false, not_or]; omega)))
      have fA : cAr g q u (zsA σ) := (cAr_fr hS7 (fun i _ _ => (hun _ (by simp only [List.mem_cons, List.not_mem_nil, or_false, not_or]; omega))) (fun i _ _ => (hun _ (by simp only [List.mem_cons, List.not_mem_nil, or_false, not_or]; omega))))
      by_cases ok : yWhOk x2 x3 x4 x5
      · have e33 := e3 (x_reg ok.2.1)
        have e44 := e4 (x_reg ok.2.2.1)
        have e55 := e5 (x_reg ok.2.2.2)
        have hv := V_whole (x2 := x2) (x3 := x3) (x4 := x4) (x5 := x5) (t0_0 := t0_0) (t0_1 := t0_1) (t1_0 := t1_0) (t2_0 := t2_0) (t2_1 := t2_1) (t3_0 := t3_0) (t4_0 := t4_0) (t4_1 := t4_1) (t5_0 := t5_0) (t6_0 := t6_0) (t6_1 := t6_1) (t7_0 := t7_0) (t8_0 := t8_0) (t8_1 := t8_1) (t9_0 := t9_0) (t10_0 := t10_0) (t10_1 := t10_1) (t11_0 := t11_0) (t12_0 := t12_0) (t12_1 := t12_1) (t13_0 := t13_0) (t14_0 := t14_0) (t14_1 := t14_1) (t15_0 := t15_0) (t16_0 := t16_0) (t16_1 := t16_1) (t17_0 := t17_0) (t18_0 := t18_0) (t18_1 := t18_1) (t19_0 := t19_0) gw3 hB3 gw4 hB4 gw5 ok.1 (y_isRn ok.2.1) (y_isRn ok.2.2.1) (y_isRn ok.2.2.2)
        rw [← hG] at hv
        obtain ⟨hv, hb⟩ := hv
        rcases hv with ⟨v, o1, o2, z, o3⟩ | ⟨o1, z, o3⟩
        · refine ⟨(updW (zsW σ) x5.toNatClampNeg v, zsD σ, zsV σ, zsN σ, zsL σ, zsB σ, zsP σ, zsA σ), Or.inr ⟨ok, Or.inl ⟨v, by rw [← e33, ← e44]; exact o1, o2, rfl, rfl⟩⟩, ?_⟩
          refine ⟨(fun i hi => ?_), fD, fV, fN, fT, fP, fA⟩
          · show cWr g q u (66 + 5 * i) (updW (zsW σ) x5.toNatClampNeg v i)
            unfold updW
            by_cases hk4 : i = i4
            · rw [if_neg (by omega), hk4]; exact ⟨_, _, _, hU14, hU15, hb⟩
            · by_cases hk5 : i = i5
              · rw [if_pos (by omega), hk5]; exact ⟨_, _, _, hU16, hU17, o3⟩
              · rw [if_neg (by omega)]; exact fW i hi hk4 hk5
        · exact absurd (show (0 : Int32) = 2 from z) (by decide)
      · have hv := y_no_whole (x2 := x2) (x3 := x3) (x4 := x4) (x5 := x5) (t0_0 := t0_0) (t0_1 := t0_1) (t1_0 := t1_0) (t2_0 := t2_0) (t2_1 := t2_1) (t3_0 := t3_0) (t4_0 := t4_0) (t4_1 := t4_1) (t5_0 := t5_0) (t6_0 := t6_0) (t6_1 := t6_1) (t7_0 := t7_0) (t8_0 := t8_0) (t8_1 := t8_1) (t9_0 := t9_0) (t10_0 := t10_0) (t10_1 := t10_1) (t11_0 := t11_0) (t12_0 := t12_0) (t12_1 := t12_1) (t13_0 := t13_0) (t14_0 := t14_0) (t14_1 := t14_1) (t15_0 := t15_0) (t16_0 := t16_0) (t16_1 := t16_1) (t17_0 := t17_0) (t18_0 := t18_0) (t18_1 := t18_1) (t19_0 := t19_0) ok
        rw [← hG] at hv
        obtain ⟨z, eT0, eT1, eT2, eB0, eB1, eB2⟩ := hv
        exact absurd (show (0 : Int32) = 1 from z) (by decide)
  · rintro E u ⟨c, hE, hc, hI2, hun, u0_0, u0_1, u1_0, u2_0, u2_1, u3_0, u4_0, u4_1, u5_0, u6_0, u6_1, u7_0, u8_0, u8_1, u9_0, u10_0, u10_1, u11_0, u12_0, u12_1, u13_0, u16_0, u16_1, u17_0, u18_0, u18_1, u19_0, hU0, hU1, hU2, hU3, hU4, hU5, hU6, hU7, hU8, hU9, hU10, hU11, hU12, hU13, hU14, hU15, hU16, hU17, hF⟩
    have hp := hq.2
    rw [← hF] at hp
    have hk := K_NH_whole (x2 := x2) (x3 := x3) (x4 := x4) (x5 := x5) (t0_0 := t0_0) (t0_1 := t0_1) (t1_0 := t1_0) (t2_0 := t2_0) (t2_1 := t2_1) (t3_0 := t3_0) (t4_0 := t4_0) (t4_1 := t4_1) (t5_0 := t5_0) (t6_0 := t6_0) (t6_1 := t6_1) (t7_0 := t7_0) (t8_0 := t8_0) (t8_1 := t8_1) (t9_0 := t9_0) (t10_0 := t10_0) (t10_1 := t10_1) (t11_0 := t11_0) (t12_0 := t12_0) (t12_1 := t12_1) (t13_0 := t13_0) (t14_0 := t14_0) (t14_1 := t14_1) (t15_0 := t15_0) (t16_0 := t16_0) (t16_1 := t16_1) (t17_0 := t17_0) (t18_0 := t18_0) (t18_1 := t18_1) (t19_0 := t19_0)
    rw [← hF] at hk
    replace hk : kC12 c := hk
    refine ⟨c, hE, hk.resolve_left hc, ⟨hI2, ⟨fun i hi => ?_, fun i hi => ?_, ?_⟩, fun i hi => hun i (by simp only [List.mem_cons, List.not_mem_nil, or_false, not_or]; omega)⟩, ?_⟩
    · by_cases hk4 : i = i4
      · rw [hk4]; refine ⟨_, _, _, hU14, hU15, ?_⟩; first | exact ⟨_, hp.2, hBk4⟩
      · by_cases hk5 : i = i5
        · rw [hk5]; refine ⟨_, _, _, hU16, hU17, ?_⟩; first | exact hp.1
        · exact iW_fr (hC.1 i hi) (hun _ (by simp only [List.mem_cons, List.not_mem_nil, or_false, not_or]; omega)) (hun _ (by simp only [List.mem_cons, List.not_mem_nil, or_false, not_or]; omega))
    · exact iD_fr (hC.2.1 i hi) (hun _ (by simp only [List.mem_cons, List.not_mem_nil, or_false, not_or]; omega)) (hun _ (by simp only [List.mem_cons, List.not_mem_nil, or_false, not_or]; omega)) (hun _ (by simp only [List.mem_cons, List.not_mem_nil, or_false, not_or]; omega))
    · exact iO_fr hC.2.2 (hun _ (by simp only [List.mem_cons, List.not_mem_nil, or_false, not_or]; omega)) (hun _ (by simp only [List.mem_cons, List.not_mem_nil, or_false, not_or]; omega)) (hun _ (by simp only [List.mem_cons, List.not_mem_nil, or_false, not_or]; omega))
    · have hG := hF
      have fW : ∀ i, i < 10 → ¬ i = i4 → ¬ i = i5 → cWr g q u (66 + 5 * i) (zsW σ i) := fun i hi hk4 hk5 => cWr_fr (hS1 i hi) (hun _ (by simp only [List.mem_cons, List.not_mem_nil, or_false, not_or]; omega)) (hun _ (by simp only [List.mem_cons, List.not_mem_nil, or_false, not_or]; omega))
      have fD : ∀ i, i < 10 → cDr g q u (68 + 5 * i) (zsD σ i) := fun i hi => cDr_fr (hS2 i hi) (hun _ (by simp only [List.mem_cons, List.not_mem_nil, or_false, not_or]; omega)) (hun _ (by simp only [List.mem_cons, List.not_mem_nil, or_false, not_or]; omega)) (hun _ (by simp only [List.mem_cons, List.not_mem_nil, or_false, not_or]; omega))
      have fV : cFr g q u 7 (zsV σ) := (cFr_fr hS3 (hun _ (by simp only [List.mem_cons, List.not_mem_nil, or_false, not_or]; omega)))
      have fN : cFr g q u 8 (zsN σ) := (cFr_fr hS4 (hun _ (by simp only [List.mem_cons, List.not_mem_nil, or_false, not_or]; omega)))
      have fT : cTp g q u (zsL σ) (zsB σ) := (cTp_fr hS5 (hun _ (by simp only [List.mem_cons, List.not_mem_nil, or_false, not_or]; omega)) (hun _ (by simp only [List.mem_cons, List.not_mem_nil, or_false, not_or]; omega)))
      have fP : cPp g q u (zsP σ) := (cPp_fr hS6 (hun _ (by simp only [List.mem_cons, List.not_mem_nil, or_false, not_or]; omega)) (hun _ (by simp only [List.mem_cons, List.not_mem_nil, or_false, not_or]; omega)))
      have fA : cAr g q u (zsA σ) := (cAr_fr hS7 (fun i _ _ => (hun _ (by simp only [List.mem_cons, List.not_mem_nil, or_false, not_or]; omega))) (fun i _ _ => (hun _ (by simp only [List.mem_cons, List.not_mem_nil, or_false, not_or]; omega))))
      by_cases ok : yWhOk x2 x3 x4 x5
      · have e33 := e3 (x_reg ok.2.1)
        have e44 := e4 (x_reg ok.2.2.1)
        have e55 := e5 (x_reg ok.2.2.2)
        have hv := V_whole (x2 := x2) (x3 := x3) (x4 := x4) (x5 := x5) (t0_0 := t0_0) (t0_1 := t0_1) (t1_0 := t1_0) (t2_0 := t2_0) (t2_1 := t2_1) (t3_0 := t3_0) (t4_0 := t4_0) (t4_1 := t4_1) (t5_0 := t5_0) (t6_0 := t6_0) (t6_1 := t6_1) (t7_0 := t7_0) (t8_0 := t8_0) (t8_1 := t8_1) (t9_0 := t9_0) (t10_0 := t10_0) (t10_1 := t10_1) (t11_0 := t11_0) (t12_0 := t12_0) (t12_1 := t12_1) (t13_0 := t13_0) (t14_0 := t14_0) (t14_1 := t14_1) (t15_0 := t15_0) (t16_0 := t16_0) (t16_1 := t16_1) (t17_0 := t17_0) (t18_0 := t18_0) (t18_1 := t18_1) (t19_0 := t19_0) gw3 hB3 gw4 hB4 gw5 ok.1 (y_isRn ok.2.1) (y_isRn ok.2.2.1) (y_isRn ok.2.2.2)
        rw [← hG] at hv
        obtain ⟨hv, hb⟩ := hv
        rcases hv with ⟨v, o1, o2, z, o3⟩ | ⟨o1, z, o3⟩
        · exact absurd z hc
        · refine ⟨Or.inr ⟨ok, Or.inr ⟨by rw [← e33, ← e44]; exact o1, z, rfl⟩⟩, ?_⟩
          refine ⟨(fun i hi => ?_), fD, fV, fN, fT, fP, fA⟩
          · by_cases hk4 : i = i4
            · rw [hk4]; exact ⟨_, _, _, hU14, hU15, hb⟩
            · by_cases hk5 : i = i5
              · rw [hk5]; exact ⟨_, _, _, hU16, hU17, o3⟩
              · exact fW i hi hk4 hk5
      · have hv := y_no_whole (x2 := x2) (x3 := x3) (x4 := x4) (x5 := x5) (t0_0 := t0_0) (t0_1 := t0_1) (t1_0 := t1_0) (t2_0 := t2_0) (t2_1 := t2_1) (t3_0 := t3_0) (t4_0 := t4_0) (t4_1 := t4_1) (t5_0 := t5_0) (t6_0 := t6_0) (t6_1 := t6_1) (t7_0 := t7_0) (t8_0 := t8_0) (t8_1 := t8_1) (t9_0 := t9_0) (t10_0 := t10_0) (t10_1 := t10_1) (t11_0 := t11_0) (t12_0 := t12_0) (t12_1 := t12_1) (t13_0 := t13_0) (t14_0 := t14_0) (t14_1 := t14_1) (t15_0 := t15_0) (t16_0 := t16_0) (t16_1 := t16_1) (t17_0 := t17_0) (t18_0 := t18_0) (t18_1 := t18_1) (t19_0 := t19_0) ok
        rw [← hG] at hv
        obtain ⟨z, eT0, eT1, eT2, eB0, eB1, eB2⟩ := hv
        replace eT0 : u18_0 = t18_0 := eT0
        replace eT1 : u18_1 = t18_1 := eT1
        replace eT2 : u19_0 = t19_0 := eT2
        replace eB0 : u16_0 = t16_0 := eB0
        replace eB1 : u16_1 = t16_1 := eB1
        replace eB2 : u17_0 = t17_0 := eB2
        refine ⟨Or.inl ⟨ok, z, rfl⟩, ?_⟩
        refine ⟨(fun i hi => ?_), fD, fV, fN, fT, fP, fA⟩
        · by_cases hk4 : i = i4
          · rw [hk4]; exact ⟨_, _, _, hU14, hU15, (by rw [eB0, eB1, eB2]; exact gw4)⟩
          · by_cases hk5 : i = i5
            · rw [hk5]; exact ⟨_, _, _, hU16, hU17, (by rw [eT0, eT1, eT2]; exact gw5)⟩
            · exact fW i hi hk4 hk5
set_option maxRecDepth 100000 in
set_option maxHeartbeats 4000000 in
theorem CW_whole_ab (l : Launch) (D : va_G) (g : Nat → ClassId) (q : Nat → Nat) (ws : va_W) (x2 : Int32) (x3 : Int32) (x4 : Int32) (x5 : Int32) (i3 : Nat) (hi3 : i3 < 10) (i5 : Nat) (hi5 : i5 < 10) (e3 : x3.toNatClampNeg < 10 → i3 = x3.toNatClampNeg) (e4 : x4.toNatClampNeg < 10 → i3 = x4.toNatClampNeg) (e5 : x5.toNatClampNeg < 10 → i5 = x5.toNatClampNeg) (nei3i5 : i3 ≠ i5) (hlt : l.stackTraces = false) (hI : q_I (nsh g q) q ws) (hC : iC g q ws) {σ : zSt} (hS : sC g q ws σ) (hk0 : zOk σ) : ∀ sz, q_Mx l y_NH_whole prog_1_method_8_code 7 none 9 4 24 D g [.ref (q 0), .int x2, .int x3, .int x4, .int x5] ws sz (va_Qv (fun u => iP g q ws u ∧ ∃ σ2, rWh x2 x3 x4 x5 σ 0 σ2 ∧ sC g q u σ2) (q_B D g (va_A ws sz)) (va_A ws sz)) (fun E u => ∃ c : Int32, E = qE c ∧ (c = 1 ∨ c = 2) ∧ iP g q ws u ∧ rWh x2 x3 x4 x5 σ c σ ∧ sC g q u σ) := by
  intro sz
  obtain ⟨t0_0, t0_1, hT0, -⟩ := q_bigO hI (n_b10 g q)
  obtain ⟨t1_0, hT1, -⟩ := n_ai hI (n_s11 g q)
  obtain ⟨t2_0, t2_1, hT2, -⟩ := q_bigO hI (n_b12 g q)
  obtain ⟨t3_0, hT3, -⟩ := n_ai hI (n_s13 g q)
  obtain ⟨t4_0, t4_1, hT4, -⟩ := q_bigO hI (n_b18 g q)
  obtain ⟨t5_0, hT5, -⟩ := n_ai hI (n_s19 g q)
  obtain ⟨t6_0, t6_1, hT6, -⟩ := q_bigO hI (n_b22 g q)
  obtain ⟨t7_0, hT7, -⟩ := n_ai hI (n_s23 g q)
  obtain ⟨t8_0, t8_1, hT8, -⟩ := q_bigO hI (n_b24 g q)
  obtain ⟨t9_0, hT9, -⟩ := n_ai hI (n_s25 g q)
  obtain ⟨t10_0, t10_1, hT10, -⟩ := q_bigO hI (n_b26 g q)
  obtain ⟨t11_0, hT11, -⟩ := n_ai hI (n_s27 g q)
  obtain ⟨t12_0, t12_1, hT12, -⟩ := q_bigO hI (n_b28 g q)
  obtain ⟨t13_0, hT13, -⟩ := n_ai hI (n_s29 g q)
  obtain ⟨t14_0, t14_1, t15_0, hT14, hT15, vk3, hbk3, hBk3⟩ := hC.1 i3 hi3
  obtain ⟨t16_0, t16_1, t17_0, hT16, hT17, vk5, hbk5, hBk5⟩ := hC.1 i5 hi5
  obtain ⟨hS1, hS2, hS3, hS4, hS5, hS6, hS7⟩ := hS
  obtain ⟨sw3, nw3, fw3, aw3, bw3, gw3⟩ := hS1 i3 hi3
  obtain ⟨rfl, rfl⟩ := x_b2 hT14 aw3
  obtain rfl := x_ri hT15 bw3
  obtain ⟨sw5, nw5, fw5, aw5, bw5, gw5⟩ := hS1 i5 hi5
  obtain ⟨rfl, rfl⟩ := x_b2 hT16 aw5
  obtain rfl := x_ri hT17 bw5
  have ev3 : vk3 = zsW σ i3 := hbk3.2.2.1.symm.trans gw3.2.2.1
  have hB3 := hBk3
  rw [ev3] at hB3
  have ev5 : vk5 = zsW σ i5 := hbk5.2.2.1.symm.trans gw5.2.2.1
  have hB5 := hBk5
  rw [ev5] at hB5
  have hq := T_whole_ab (x2 := x2) (x3 := x3) (x4 := x4) (x5 := x5) (t0_0 := t0_0) (t0_1 := t0_1) (t1_0 := t1_0) (t2_0 := t2_0) (t2_1 := t2_1) (t3_0 := t3_0) (t4_0 := t4_0) (t4_1 := t4_1) (t5_0 := t5_0) (t6_0 := t6_0) (t6_1 := t6_1) (t7_0 := t7_0) (t8_0 := t8_0) (t8_1 := t8_1) (t9_0 := t9_0) (t10_0 := t10_0) (t10_1 := t10_1) (t11_0 := t11_0) (t12_0 := t12_0) (t12_1 := t12_1) (t13_0 := t13_0) (t14_0 := t14_0) (t14_1 := t14_1) (t15_0 := t15_0) (t16_0 := t16_0) (t16_1 := t16_1) (t17_0 := t17_0) hbk3 hBk3 ⟨_, hbk5, hBk5⟩
  refine q_MxV (X_NH_whole_ab l D g q ws x2 x3 x4 x5 (66 + 5 * i3) (n_w g q hi3) (by omega) (fun h => by have z := e3 h; omega) (fun h => by have z := e4 h; omega) (66 + 5 * i5) (n_w g q hi5) (by omega) (fun h => by have z := e5 h; omega) (by omega) (by omega) (by omega) hlt hI t0_0 t0_1 hT0 t1_0 hT1 t2_0 t2_1 hT2 t3_0 hT3 t4_0 t4_1 hT4 t5_0 hT5 t6_0 t6_1 hT6 t7_0 hT7 t8_0 t8_1 hT8 t9_0 hT9 t10_0 t10_1 hT10 t11_0 hT11 t12_0 t12_1 hT12 t13_0 hT13 t14_0 t14_1 hT14 t15_0 hT15 t16_0 t16_1 hT16 t17_0 hT17 ⟨trivial, hq.1⟩ sz) ?_ ?_
  · rintro u ⟨hI2, hun, u0_0, u0_1, u1_0, u2_0, u2_1, u3_0, u4_0, u4_1, u5_0, u6_0, u6_1, u7_0, u8_0, u8_1, u9_0, u10_0, u10_1, u11_0, u12_0, u12_1, u13_0, u14_0, u14_1, u15_0, u16_0, u16_1, u17_0, hU0, hU1, hU2, hU3, hU4, hU5, hU6, hU7, hU8, hU9, hU10, hU11, hU12, hU13, hU14, hU15, hU16, hU17, hR⟩
    have hG := hR.2.2.2.2.2.2.2.2.2.2.2.2.2.2.2.2.2.2.2.2.2.2.2.2.2.2.2.2.2.2.2.2.2.2.2.2.2.2.2.2.2.2.2.2.2.2.2.2.2.2.2.2.2.2.2.2.2.2.2.2.2.2.2.2.2.2.2.2.2.2.2.2.2.2.2.2.2.2.2.2.2.2.2.2.2.2.2.2.2.2.2.2.2.2.2.2.2.2.2.2.2.2.2.2.2.2.2.2.2.2.2
    clear hR
    have hF := hG
    have hp := hq.2
    rw [← hF] at hp
    refine ⟨⟨hI2, ⟨fun i hi => ?_, fun i hi => ?_, ?_⟩, fun i hi => hun i (by simp only [List.mem_cons, List.not_mem_nil, or_false, not_or]; omega)⟩, ?_⟩
    · by_cases hk3 : i = i3
      · rw [hk3]; refine ⟨_, _, _, hU14, hU15, ?_⟩; first | exact ⟨_, hp.2, hBk3⟩
      · by_cases hk5 : i = i5
        · rw [hk5]; refine ⟨_, _, _, hU16, hU17, ?_⟩; first | exact hp.1
        · exact iW_fr (hC.1 i hi) (hun _ (by simp only [List.mem_cons, List.not_mem_nil, or_false, not_or]; omega)) (hun _ (by simp only [List.mem_cons, List.not_mem_nil, or_false, not_or]; omega))
    · exact iD_fr (hC.2.1 i hi) (hun _ (by simp only [List.mem_cons, List.not_mem_nil, or_false, not_or]; omega)) (hun _ (by simp only [List.mem_cons, List.not_mem_nil, or_false, not_or]; omega)) (hun _ (by simp only [List.mem_cons, List.not_mem_nil, or_false, not_or]; omega))
    · exact iO_fr hC.2.2 (hun _ (by simp only [List.mem_cons, List.not_mem_nil, or_false, not_or]; omega)) (hun _ (by simp only [List.mem_cons, List.not_mem_nil, or_false, not_or]; omega)) (hun _ (by simp only [List.mem_cons, List.not_mem_nil, or_false, not_or]; omega))
    · have fW : ∀ i, i < 10 → ¬ i = i3 → ¬ i = i5 → cWr g q u (66 + 5 * i) (zsW σ i) := fun i hi hk3 hk5 => cWr_fr (hS1 i hi) (hun _ (by simp only [List.mem_cons, List.not_mem_nil, or_false, not_or]; omega)) (hun _ (by simp only [List.mem_cons, List.not_mem_nil, or_false, not_or]; omega))
      have fD : ∀ i, i < 10 → cDr g q u (68 + 5 * i) (zsD σ i) := fun i hi => cDr_fr (hS2 i hi) (hun _ (by simp only [List.mem_cons, List.not_mem_nil, or_false, not_or]; omega)) (hun _ (by simp only [List.mem_cons, List.not_mem_nil, or_false, not_or]; omega)) (hun _ (by simp only [List.mem_cons, List.not_mem_nil, or_false, not_or]; omega))
      have fV : cFr g q u 7 (zsV σ) := (cFr_fr hS3 (hun _ (by simp only [List.mem_cons, List.not_mem_nil, or_false, not_or]; omega)))
      have fN : cFr g q u 8 (zsN σ) := (cFr_fr hS4 (hun _ (by simp only [List.mem_cons, List.not_mem_nil, or_false, not_or]; omega)))
      have fT : cTp g q u (zsL σ) (zsB σ) := (cTp_fr hS5 (hun _ (by simp only [List.mem_cons, List.not_mem_nil, or_false, not_or]; omega)) (hun _ (by simp only [List.mem_cons, List.not_mem_nil, or_false, not_or]; omega)))
      have fP : cPp g q u (zsP σ) := (cPp_fr hS6 (hun _ (by simp only [List.mem_cons, List.not_mem_nil, or_false, not_or]; omega)) (hun _ (by simp only [List.mem_cons, List.not_mem_nil, or_false, not_or]; omega)))
      have fA : cAr g q u (zsA σ) := (cAr_fr hS7 (fun i _ _ => (hun _ (by simp only [List.mem_cons, List.not_mem_nil, or_false, not_or]; omega))) (fun i _ _ => (hun _ (by simp only [List.mem_cons, List.not_mem_nil, or_false, not_or]; omega))))
      by_cases ok : yWhOk x2 x3 x4 x5
      · have e33 := e3 (x_reg ok.2.1)
        have e44 := e4 (x_reg ok.2.2.1)
        have e55 := e5 (x_reg ok.2.2.2)
        have hv := V_whole_ab (x2 := x2) (x3 := x3) (x4 := x4) (x5 := x5) (t0_0 := t0_0) (t0_1 := t0_1) (t1_0 := t1_0) (t2_0 := t2_0) (t2_1 := t2_1) (t3_0 := t3_0) (t4_0 := t4_0) (t4_1 := t4_1) (t5_0 := t5_0) (t6_0 := t6_0) (t6_1 := t6_1) (t7_0 := t7_0) (t8_0 := t8_0) (t8_1 := t8_1) (t9_0 := t9_0) (t10_0 := t10_0) (t10_1 := t10_1) (t11_0 := t11_0) (t12_0 := t12_0) (t12_1 := t12_1) (t13_0 := t13_0) (t14_0 := t14_0) (t14_1 := t14_1) (t15_0 := t15_0) (t16_0 := t16_0) (t16_1 := t16_1) (t17_0 := t17_0) gw3 hB3 gw5 ok.1 (y_isRn ok.2.1) (y_isRn ok.2.2.1) (y_isRn ok.2.2.2)
        rw [← hG] at hv
        obtain ⟨hv, hb⟩ := hv
        rcases hv with ⟨v, o1, o2, z, o3⟩ | ⟨o1, z, o3⟩
        · refine ⟨(updW (zsW σ) x5.toNatClampNeg v, zsD σ, zsV σ, zsN σ, zsL σ, zsB σ, zsP σ, zsA σ), Or.inr ⟨ok, Or.inl ⟨v, by rw [← e33, ← e44]; exact o1, o2, rfl, rfl⟩⟩, ?_⟩
          refine ⟨(fun i hi => ?_), fD, fV, fN, fT, fP, fA⟩
          · show cWr g q u (66 + 5 * i) (updW (zsW σ) x5.toNatClampNeg v i)
            unfold updW
            by_cases hk3 : i = i3
            · rw [if_neg (by omega), hk3]; exact ⟨_, _, _, hU14, hU15, hb⟩
            · by_cases hk5 : i = i5
              · rw [if_pos (by omega), hk5]; exact ⟨_, _, _, hU16, hU17, o3⟩
              · rw [if_neg (by omega)]; exact fW i hi hk3 hk5
        · exact absurd (show (0 : Int32) = 2 from z) (by decide)
      · have hv := y_no_whole_ab (x2 := x2) (x3 := x3) (x4 := x4) (x5 := x5) (t0_0 := t0_0) (t0_1 := t0_1) (t1_0 := t1_0) (t2_0 := t2_0) (t2_1 := t2_1) (t3_0 := t3_0) (t4_0 := t4_0) (t4_1 := t4_1) (t5_0 := t5_0) (t6_0 := t6_0) (t6_1 := t6_1) (t7_0 := t7_0) (t8_0 := t8_0) (t8_1 := t8_1) (t9_0 := t9_0) (t10_0 := t10_0) (t10_1 := t10_1) (t11_0 := t11_0) (t12_0 := t12_0) (t12_1 := t12_1) (t13_0 := t13_0) (t14_0 := t14_0) (t14_1 := t14_1) (t15_0 := t15_0) (t16_0 := t16_0) (t16_1 := t16_1) (t17_0 := t17_0) ok
        rw [← hG] at hv
        obtain ⟨z, eT0, eT1, eT2, eB0, eB1, eB2⟩ := hv
        exact absurd (show (0 : Int32) = 1 from z) (by decide)
  · rintro E u ⟨c, hE, hc, hI2, hun, u0_0, u0_1, u1_0, u2_0, u2_1, u3_0, u4_0, u4_1, u5_0, u6_0, u6_1, u7_0, u8_0, u8_1, u9_0, u10_0, u10_1, u11_0, u12_0, u12_1, u13_0, u14_0, u14_1, u15_0, u16_0, u16_1, u17_0, hU0, hU1, hU2, hU3, hU4, hU5, hU6, hU7, hU8, hU9, hU10, hU11, hU12, hU13, hU14, hU15, hU16, hU17, hF⟩
    have hp := hq.2
    rw [← hF] at hp
    have hk := K_NH_whole_ab (x2 := x2) (x3 := x3) (x4 := x4) (x5 := x5) (t0_0 := t0_0) (t0_1 := t0_1) (t1_0 := t1_0) (t2_0 := t2_0) (t2_1 := t2_1) (t3_0 := t3_0) (t4_0 := t4_0) (t4_1 := t4_1) (t5_0 := t5_0) (t6_0 := t6_0) (t6_1 := t6_1) (t7_0 := t7_0) (t8_0 := t8_0) (t8_1 := t8_1) (t9_0 := t9_0) (t10_0 := t10_0) (t10_1 := t10_1) (t11_0 := t11_0) (t12_0 := t12_0) (t12_1 := t12_1) (t13_0 := t13_0) (t14_0 := t14_0) (t14_1 := t14_1) (t15_0 := t15_0) (t16_0 := t16_0) (t16_1 := t16_1) (t17_0 := t17_0)
    rw [← hF] at hk
    replace hk : kC12 c := hk
    refine ⟨c, hE, hk.resolve_left hc, ⟨hI2, ⟨fun i hi => ?_, fun i hi => ?_, ?_⟩, fun i hi => hun i (by simp only [List.mem_cons, List.not_mem_nil, or_false, not_or]; omega)⟩, ?_⟩
    · by_cases hk3 : i = i3
      · rw [hk3]; refine ⟨_, _, _, hU14, hU15, ?_⟩; first | exact ⟨_, hp.2, hBk3⟩
      · by_cases hk5 : i = i5
        · rw [hk5]; refine ⟨_, _, _, hU16, hU17, ?_⟩; first | exact hp.1
        · exact iW_fr (hC.1 i hi) (hun _ (by simp only [List.mem_cons, List.not_mem_nil, or_false, not_or]; omega)) (hun _ (by simp only [List.mem_cons, List.not_mem_nil, or_false, not_or]; omega))
    · exact iD_fr (hC.2.1 i hi) (hun _ (by simp only [List.mem_cons, List.not_mem_nil, or_false, not_or]; omega)) (hun _ (by simp only [List.mem_cons, List.not_mem_nil, or_false, not_or]; omega)) (hun _ (by simp only [List.mem_cons, List.not_mem_nil, or_false, not_or]; omega))
    · exact iO_fr hC.2.2 (hun _ (by simp only [List.mem_cons, List.not_mem_nil, or_false, not_or]; omega)) (hun _ (by simp only [List.mem_cons, List.not_mem_nil, or_false, not_or]; omega)) (hun _ (by simp only [List.mem_cons, List.not_mem_nil, or_false, not_or]; omega))
    · have hG := hF
      have fW : ∀ i, i < 10 → ¬ i = i3 → ¬ i = i5 → cWr g q u (66 + 5 * i) (zsW σ i) := fun i hi hk3 hk5 => cWr_fr (hS1 i hi) (hun _ (by simp only [List.mem_cons, List.not_mem_nil, or_false, not_or]; omega)) (hun _ (by simp only [List.mem_cons, List.not_mem_nil, or_false, not_or]; omega))
      have fD : ∀ i, i < 10 → cDr g q u (68 + 5 * i) (zsD σ i) := fun i hi => cDr_fr (hS2 i hi) (hun _ (by simp only [List.mem_cons, List.not_mem_nil, or_false, not_or]; omega)) (hun _ (by simp only [List.mem_cons, List.not_mem_nil, or_false, not_or]; omega)) (hun _ (by simp only [List.mem_cons, List.not_mem_nil, or_false, not_or]; omega))
      have fV : cFr g q u 7 (zsV σ) := (cFr_fr hS3 (hun _ (by simp only [List.mem_cons, List.not_mem_nil, or_false, not_or]; omega)))
      have fN : cFr g q u 8 (zsN σ) := (cFr_fr hS4 (hun _ (by simp only [List.mem_cons, List.not_mem_nil, or_false, not_or]; omega)))
      have fT : cTp g q u (zsL σ) (zsB σ) := (cTp_fr hS5 (hun _ (by simp only [List.mem_cons, List.not_mem_nil, or_false, not_or]; omega)) (hun _ (by simp only [List.mem_cons, List.not_mem_nil, or_false, not_or]; omega)))
      have fP : cPp g q u (zsP σ) := (cPp_fr hS6 (hun _ (by simp only [List.mem_cons, List.not_mem_nil, or_false, not_or]; omega)) (hun _ (by simp only [List.mem_cons, List.not_mem_nil, or_false, not_or]; omega)))
      have fA : cAr g q u (zsA σ) := (cAr_fr hS7 (fun i _ _ => (hun _ (by simp only [List.mem_cons, List.not_mem_nil, or_false, not_or]; omega))) (fun i _ _ => (hun _ (by simp only [List.mem_cons, List.not_mem_nil, or_false, not_or]; omega))))
      by_cases ok : yWhOk x2 x3 x4 x5
      · have e33 := e3 (x_reg ok.2.1)
        have e44 := e4 (x_reg ok.2.2.1)
        have e55 := e5 (x_reg ok.2.2.2)
        have hv := V_whole_ab (x2 := x2) (x3 := x3) (x4 := x4) (x5 := x5) (t0_0 := t0_0) (t0_1 := t0_1) (t1_0 := t1_0) (t2_0 := t2_0) (t2_1 := t2_1) (t3_0 := t3_0) (t4_0 := t4_0) (t4_1 := t4_1) (t5_0 := t5_0) (t6_0 := t6_0) (t6_1 := t6_1) (t7_0 := t7_0) (t8_0 := t8_0) (t8_1 := t8_1) (t9_0 := t9_0) (t10_0 := t10_0) (t10_1 := t10_1) (t11_0 := t11_0) (t12_0 := t12_0) (t12_1 := t12_1) (t13_0 := t13_0) (t14_0 := t14_0) (t14_1 := t14_1) (t15_0 := t15_0) (t16_0 := t16_0) (t16_1 := t16_1) (t17_0 := t17_0) gw3 hB3 gw5 ok.1 (y_isRn ok.2.1) (y_isRn ok.2.2.1) (y_isRn ok.2.2.2)
        rw [← hG] at hv
        obtain ⟨hv, hb⟩ := hv
        rcases hv with ⟨v, o1, o2, z, o3⟩ | ⟨o1, z, o3⟩
        · exact absurd z hc
        · refine ⟨Or.inr ⟨ok, Or.inr ⟨by rw [← e33, ← e44]; exact o1, z, rfl⟩⟩, ?_⟩
          refine ⟨(fun i hi => ?_), fD, fV, fN, fT, fP, fA⟩
          · by_cases hk3 : i = i3
            · rw [hk3]; exact ⟨_, _, _, hU14, hU15, hb⟩
            · by_cases hk5 : i = i5
              · rw [hk5]; exact ⟨_, _, _, hU16, hU17, o3⟩
              · exact fW i hi hk3 hk5
      · have hv := y_no_whole_ab (x2 := x2) (x3 := x3) (x4 := x4) (x5 := x5) (t0_0 := t0_0) (t0_1 := t0_1) (t1_0 := t1_0) (t2_0 := t2_0) (t2_1 := t2_1) (t3_0 := t3_0) (t4_0 := t4_0) (t4_1 := t4_1) (t5_0 := t5_0) (t6_0 := t6_0) (t6_1 := t6_1) (t7_0 := t7_0) (t8_0 := t8_0) (t8_1 := t8_1) (t9_0 := t9_0) (t10_0 := t10_0) (t10_1 := t10_1) (t11_0 := t11_0) (t12_0 := t12_0) (t12_1 := t12_1) (t13_0 := t13_0) (t14_0 := t14_0) (t14_1 := t14_1) (t15_0 := t15_0) (t16_0 := t16_0) (t16_1 := t16_1) (t17_0 := t17_0) ok
        rw [← hG] at hv
        obtain ⟨z, eT0, eT1, eT2, eB0, eB1, eB2⟩ := hv
        replace eT0 : u16_0 = t16_0 := eT0
        replace eT1 : u16_1 = t16_1 := eT1
        replace eT2 : u17_0 = t17_0 := eT2
        replace eB0 : u14_0 = t14_0 := eB0
        replace eB1 : u14_1 = t14_1 := eB1
        replace eB2 : u15_0 = t15_0 := eB2
        refine ⟨Or.inl ⟨ok, z, rfl⟩, ?_⟩
        refine ⟨(fun i hi => ?_), fD, fV, fN, fT, fP, fA⟩
        · by_cases hk3 : i = i3
          · rw [hk3]; exact ⟨_, _, _, hU14, hU15, (by rw [eB0, eB1, eB2]; exact gw3)⟩
          · by_cases hk5 : i = i5
            · rw [hk5]; exact ⟨_, _, _, hU16, hU17, (by rw [eT0, eT1, eT2]; exact gw5)⟩
            · exact fW i hi hk3 hk5
set_option maxRecDepth 100000 in
set_option maxHeartbeats 4000000 in
theorem CW_whole_bt (l : Launch) (D : va_G) (g : Nat → ClassId) (q : Nat → Nat) (ws : va_W) (x2 : Int32) (x3 : Int32) (x4 : Int32) (x5 : Int32) (i3 : Nat) (hi3 : i3 < 10) (i4 : Nat) (hi4 : i4 < 10) (e3 : x3.toNatClampNeg < 10 → i3 = x3.toNatClampNeg) (e4 : x4.toNatClampNeg < 10 → i4 = x4.toNatClampNeg) (e5 : x5.toNatClampNeg < 10 → i4 = x5.toNatClampNeg) (nei3i4 : i3 ≠ i4) (hlt : l.stackTraces = false) (hI : q_I (nsh g q) q ws) (hC : iC g q ws) {σ : zSt} (hS : sC g q ws σ) (hk0 : zOk σ) : ∀ sz, q_Mx l y_NH_whole prog_1_method_8_code 7 none 9 4 24 D g [.ref (q 0), .int x2, .int x3, .int x4, .int x5] ws sz (va_Qv (fun u => iP g q ws u ∧ ∃ σ2, rWh x2 x3 x4 x5 σ 0 σ2 ∧ sC g q u σ2) (q_B D g (va_A ws sz)) (va_A ws sz)) (fun E u => ∃ c : Int32, E = qE c ∧ (c = 1 ∨ c = 2) ∧ iP g q ws u ∧ rWh x2 x3 x4 x5 σ c σ ∧ sC g q u σ) := by
  intro sz
  obtain ⟨t0_0, t0_1, hT0, -⟩ := q_bigO hI (n_b10 g q)
  obtain ⟨t1_0, hT1, -⟩ := n_ai hI (n_s11 g q)
  obtain ⟨t2_0, t2_1, hT2, -⟩ := q_bigO hI (n_b12 g q)
  obtain ⟨t3_0, hT3, -⟩ := n_ai hI (n_s13 g q)
  obtain ⟨t4_0, t4_1, hT4, -⟩ := q_bigO hI (n_b18 g q)
  obtain ⟨t5_0, hT5, -⟩ := n_ai hI (n_s19 g q)
  obtain ⟨t6_0, t6_1, hT6, -⟩ := q_bigO hI (n_b22 g q)
  obtain ⟨t7_0, hT7, -⟩ := n_ai hI (n_s23 g q)
  obtain ⟨t8_0, t8_1, hT8, -⟩ := q_bigO hI (n_b24 g q)
  obtain ⟨t9_0, hT9, -⟩ := n_ai hI (n_s25 g q)
  obtain ⟨t10_0, t10_1, hT10, -⟩ := q_bigO hI (n_b26 g q)
  obtain ⟨t11_0, hT11, -⟩ := n_ai hI (n_s27 g q)
  obtain ⟨t12_0, t12_1, hT12, -⟩ := q_bigO hI (n_b28 g q)
  obtain ⟨t13_0, hT13, -⟩ := n_ai hI (n_s29 g q)
  obtain ⟨t14_0, t14_1, t15_0, hT14, hT15, vk3, hbk3, hBk3⟩ := hC.1 i3 hi3
  obtain ⟨t16_0, t16_1, t17_0, hT16, hT17, vk4, hbk4, hBk4⟩ := hC.1 i4 hi4
  obtain ⟨hS1, hS2, hS3, hS4, hS5, hS6, hS7⟩ := hS
  obtain ⟨sw3, nw3, fw3, aw3, bw3, gw3⟩ := hS1 i3 hi3
  obtain ⟨rfl, rfl⟩ := x_b2 hT14 aw3
  obtain rfl := x_ri hT15 bw3
  obtain ⟨sw4, nw4, fw4, aw4, bw4, gw4⟩ := hS1 i4 hi4
  obtain ⟨rfl, rfl⟩ := x_b2 hT16 aw4
  obtain rfl := x_ri hT17 bw4
  have ev3 : vk3 = zsW σ i3 := hbk3.2.2.1.symm.trans gw3.2.2.1
  have hB3 := hBk3
  rw [ev3] at hB3
  have ev4 : vk4 = zsW σ i4 := hbk4.2.2.1.symm.trans gw4.2.2.1
  have hB4 := hBk4
  rw [ev4] at hB4
  have hq := T_whole_bt (x2 := x2) (x3 := x3) (x4 := x4) (x5 := x5) (t0_0 := t0_0) (t0_1 := t0_1) (t1_0 := t1_0) (t2_0 := t2_0) (t2_1 := t2_1) (t3_0 := t3_0) (t4_0 := t4_0) (t4_1 := t4_1) (t5_0 := t5_0) (t6_0 := t6_0) (t6_1 := t6_1) (t7_0 := t7_0) (t8_0 := t8_0) (t8_1 := t8_1) (t9_0 := t9_0) (t10_0 := t10_0) (t10_1 := t10_1) (t11_0 := t11_0) (t12_0 := t12_0) (t12_1 := t12_1) (t13_0 := t13_0) (t14_0 := t14_0) (t14_1 := t14_1) (t15_0 := t15_0) (t16_0 := t16_0) (t16_1 := t16_1) (t17_0 := t17_0) hbk3 hBk3 hbk4 hBk4
  refine q_MxV (X_NH_whole_bt l D g q ws x2 x3 x4 x5 (66 + 5 * i3) (n_w g q hi3) (by omega) (fun h => by have z := e3 h; omega) (66 + 5 * i4) (n_w g q hi4) (by omega) (fun h => by have z := e4 h; omega) (fun h => by have z := e5 h; omega) (by omega) hlt hI t0_0 t0_1 hT0 t1_0 hT1 t2_0 t2_1 hT2 t3_0 hT3 t4_0 t4_1 hT4 t5_0 hT5 t6_0 t6_1 hT6 t7_0 hT7 t8_0 t8_1 hT8 t9_0 hT9 t10_0 t10_1 hT10 t11_0 hT11 t12_0 t12_1 hT12 t13_0 hT13 t14_0 t14_1 hT14 t15_0 hT15 t16_0 t16_1 hT16 t17_0 hT17 ⟨trivial, hq.1⟩ sz) ?_ ?_
  · rintro u ⟨hI2, hun, u0_0, u0_1, u1_0, u2_0, u2_1, u3_0, u4_0, u4_1, u5_0, u6_0, u6_1, u7_0, u8_0, u8_1, u9_0, u10_0, u10_1, u11_0, u12_0, u12_1, u13_0, u16_0, u16_1, u17_0, hU0, hU1, hU2, hU3, hU4, hU5, hU6, hU7, hU8, hU9, hU10, hU11, hU12, hU13, hU14, hU15, hR⟩
    have hG := hR.2.2.2.2.2.2.2.2.2.2.2.2.2.2.2.2.2.2.2.2.2.2.2.2.2.2.2.2.2.2.2.2.2.2.2.2.2.2.2.2.2.2.2.2.2.2.2.2.2.2.2.2.2.2.2.2.2.2.2.2.2.2.2.2.2.2.2.2.2.2.2.2.2.2.2.2.2.2.2.2.2.2.2.2.2.2.2.2.2.2.2.2.2.2.2.2.2.2.2.2.2
    clear hR
    have hF := hG
    have hp := hq.2
    rw [← hF] at hp
    refine ⟨⟨hI2, ⟨fun i hi => ?_, fun i hi => ?_, ?_⟩, fun i hi => hun i (by simp only [List.mem_cons, List.not_mem_nil, or_false, not_or]; omega)⟩, ?_⟩
    · by_cases hk4 : i = i4
      · rw [hk4]; refine ⟨_, _, _, hU14, hU15, ?_⟩; first | exact hp
      · exact iW_fr (hC.1 i hi) (hun _ (by simp only [List.mem_cons, List.not_mem_nil, or_false, not_or]; omega)) (hun _ (by simp only [List.mem_cons, List.not_mem_nil, or_false, not_or]; omega))
    · exact iD_fr (hC.2.1 i hi) (hun _ (by simp only [List.mem_cons, List.not_mem_nil, or_false, not_or]; omega)) (hun _ (by simp only [List.mem_cons, List.not_mem_nil, or_false, not_or]; omega)) (hun _ (by simp only [List.mem_cons, List.not_mem_nil, or_false, not_or]; omega))
    · exact iO_fr hC.2.2 (hun _ (by simp only [List.mem_cons, List.not_mem_nil, or_false, not_or]; omega)) (hun _ (by simp only [List.mem_cons, List.not_mem_nil, or_false, not_or]; omega)) (hun _ (by simp only [List.mem_cons, List.not_mem_nil, or_false, not_or]; omega))
    · have fW : ∀ i, i < 10 → ¬ i = i4 → cWr g q u (66 + 5 * i) (zsW σ i) := fun i hi hk4 => cWr_fr (hS1 i hi) (hun _ (by simp only [List.mem_cons, List.not_mem_nil, or_false, not_or]; omega)) (hun _ (by simp only [List.mem_cons, List.not_mem_nil, or_false, not_or]; omega))
      have fD : ∀ i, i < 10 → cDr g q u (68 + 5 * i) (zsD σ i) := fun i hi => cDr_fr (hS2 i hi) (hun _ (by simp only [List.mem_cons, List.not_mem_nil, or_false, not_or]; omega)) (hun _ (by simp only [List.mem_cons, List.not_mem_nil, or_false, not_or]; omega)) (hun _ (by simp only [List.mem_cons, List.not_mem_nil, or_false, not_or]; omega))
      have fV : cFr g q u 7 (zsV σ) := (cFr_fr hS3 (hun _ (by simp only [List.mem_cons, List.not_mem_nil, or_false, not_or]; omega)))
      have fN : cFr g q u 8 (zsN σ) := (cFr_fr hS4 (hun _ (by simp only [List.mem_cons, List.not_mem_nil, or_false, not_or]; omega)))
      have fT : cTp g q u (zsL σ) (zsB σ) := (cTp_fr hS5 (hun _ (by simp only [List.mem_cons, List.not_mem_nil, or_false, not_or]; omega)) (hun _ (by simp only [List.mem_cons, List.not_mem_nil, or_false, not_or]; omega)))
      have fP : cPp g q u (zsP σ) := (cPp_fr hS6 (hun _ (by simp only [List.mem_cons, List.not_mem_nil, or_false, not_or]; omega)) (hun _ (by simp only [List.mem_cons, List.not_mem_nil, or_false, not_or]; omega)))
      have fA : cAr g q u (zsA σ) := (cAr_fr hS7 (fun i _ _ => (hun _ (by simp only [List.mem_cons, List.not_mem_nil, or_false, not_or]; omega))) (fun i _ _ => (hun _ (by simp only [List.mem_cons, List.not_mem_nil, or_false, not_or]; omega))))
      by_cases ok : yWhOk x2 x3 x4 x5
      · have e33 := e3 (x_reg ok.2.1)
        have e44 := e4 (x_reg ok.2.2.1)
        have e55 := e5 (x_reg ok.2.2.2)
        have hv := V_whole_bt (x2 := x2) (x3 := x3) (x4 := x4) (x5 := x5) (t0_0 := t0_0) (t0_1 := t0_1) (t1_0 := t1_0) (t2_0 := t2_0) (t2_1 := t2_1) (t3_0 := t3_0) (t4_0 := t4_0) (t4_1 := t4_1) (t5_0 := t5_0) (t6_0 := t6_0) (t6_1 := t6_1) (t7_0 := t7_0) (t8_0 := t8_0) (t8_1 := t8_1) (t9_0 := t9_0) (t10_0 := t10_0) (t10_1 := t10_1) (t11_0 := t11_0) (t12_0 := t12_0) (t12_1 := t12_1) (t13_0 := t13_0) (t14_0 := t14_0) (t14_1 := t14_1) (t15_0 := t15_0) (t16_0 := t16_0) (t16_1 := t16_1) (t17_0 := t17_0) gw3 hB3 gw4 hB4 ok.1 (y_isRn ok.2.1) (y_isRn ok.2.2.1) (y_isRn ok.2.2.2)
        rw [← hG] at hv
        rcases hv with ⟨v, o1, o2, z, o3⟩ | ⟨o1, z, o3⟩
        · refine ⟨(updW (zsW σ) x5.toNatClampNeg v, zsD σ, zsV σ, zsN σ, zsL σ, zsB σ, zsP σ, zsA σ), Or.inr ⟨ok, Or.inl ⟨v, by rw [← e33, ← e44]; exact o1, o2, rfl, rfl⟩⟩, ?_⟩
          refine ⟨(fun i hi => ?_), fD, fV, fN, fT, fP, fA⟩
          · show cWr g q u (66 + 5 * i) (updW (zsW σ) x5.toNatClampNeg v i)
            unfold updW
            by_cases hk4 : i = i4
            · rw [if_pos (by omega), hk4]; exact ⟨_, _, _, hU14, hU15, o3⟩
            · rw [if_neg (by omega)]; exact fW i hi hk4
        · exact absurd (show (0 : Int32) = 2 from z) (by decide)
      · have hv := y_no_whole_bt (x2 := x2) (x3 := x3) (x4 := x4) (x5 := x5) (t0_0 := t0_0) (t0_1 := t0_1) (t1_0 := t1_0) (t2_0 := t2_0) (t2_1 := t2_1) (t3_0 := t3_0) (t4_0 := t4_0) (t4_1 := t4_1) (t5_0 := t5_0) (t6_0 := t6_0) (t6_1 := t6_1) (t7_0 := t7_0) (t8_0 := t8_0) (t8_1 := t8_1) (t9_0 := t9_0) (t10_0 := t10_0) (t10_1 := t10_1) (t11_0 := t11_0) (t12_0 := t12_0) (t12_1 := t12_1) (t13_0 := t13_0) (t14_0 := t14_0) (t14_1 := t14_1) (t15_0 := t15_0) (t16_0 := t16_0) (t16_1 := t16_1) (t17_0 := t17_0) ok
        rw [← hG] at hv
        obtain ⟨z, eT0, eT1, eT2⟩ := hv
        exact absurd (show (0 : Int32) = 1 from z) (by decide)
  · rintro E u ⟨c, hE, hc, hI2, hun, u0_0, u0_1, u1_0, u2_0, u2_1, u3_0, u4_0, u4_1, u5_0, u6_0, u6_1, u7_0, u8_0, u8_1, u9_0, u10_0, u10_1, u11_0, u12_0, u12_1, u13_0, u16_0, u16_1, u17_0, hU0, hU1, hU2, hU3, hU4, hU5, hU6, hU7, hU8, hU9, hU10, hU11, hU12, hU13, hU14, hU15, hF⟩
    have hp := hq.2
    rw [← hF] at hp
    have hk := K_NH_whole_bt (x2 := x2) (x3 := x3) (x4 := x4) (x5 := x5) (t0_0 := t0_0) (t0_1 := t0_1) (t1_0 := t1_0) (t2_0 := t2_0) (t2_1 := t2_1) (t3_0 := t3_0) (t4_0 := t4_0) (t4_1 := t4_1) (t5_0 := t5_0) (t6_0 := t6_0) (t6_1 := t6_1) (t7_0 := t7_0) (t8_0 := t8_0) (t8_1 := t8_1) (t9_0 := t9_0) (t10_0 := t10_0) (t10_1 := t10_1) (t11_0 := t11_0) (t12_0 := t12_0) (t12_1 := t12_1) (t13_0 := t13_0) (t14_0 := t14_0) (t14_1 := t14_1) (t15_0 := t15_0) (t16_0 := t16_0) (t16_1 := t16_1) (t17_0 := t17_0)
    rw [← hF] at hk
    replace hk : kC12 c := hk
    refine ⟨c, hE, hk.resolve_left hc, ⟨hI2, ⟨fun i hi => ?_, fun i hi => ?_, ?_⟩, fun i hi => hun i (by simp only [List.mem_cons, List.not_mem_nil, or_false, not_or]; omega)⟩, ?_⟩
    · by_cases hk4 : i = i4
      · rw [hk4]; refine ⟨_, _, _, hU14, hU15, ?_⟩; first | exact hp
      · exact iW_fr (hC.1 i hi) (hun _ (by simp only [List.mem_cons, List.not_mem_nil, or_false, not_or]; omega)) (hun _ (by simp only [List.mem_cons, List.not_mem_nil, or_false, not_or]; omega))
    · exact iD_fr (hC.2.1 i hi) (hun _ (by simp only [List.mem_cons, List.not_mem_nil, or_false, not_or]; omega)) (hun _ (by simp only [List.mem_cons, List.not_mem_nil, or_false, not_or]; omega)) (hun _ (by simp only [List.mem_cons, List.not_mem_nil, or_false, not_or]; omega))
    · exact iO_fr hC.2.2 (hun _ (by simp only [List.mem_cons, List.not_mem_nil, or_false, not_or]; omega)) (hun _ (by simp only [List.mem_cons, List.not_mem_nil, or_false, not_or]; omega)) (hun _ (by simp only [List.mem_cons, List.not_mem_nil, or_false, not_or]; omega))
    · have hG := hF
      have fW : ∀ i, i < 10 → ¬ i = i4 → cWr g q u (66 + 5 * i) (zsW σ i) := fun i hi hk4 => cWr_fr (hS1 i hi) (hun _ (by simp only [List.mem_cons, List.not_mem_nil, or_false, not_or]; omega)) (hun _ (by simp only [List.mem_cons, List.not_mem_nil, or_false, not_or]; omega))
      have fD : ∀ i, i < 10 → cDr g q u (68 + 5 * i) (zsD σ i) := fun i hi => cDr_fr (hS2 i hi) (hun _ (by simp only [List.mem_cons, List.not_mem_nil, or_false, not_or]; omega)) (hun _ (by simp only [List.mem_cons, List.not_mem_nil, or_false, not_or]; omega)) (hun _ (by simp only [List.mem_cons, List.not_mem_nil, or_false, not_or]; omega))
      have fV : cFr g q u 7 (zsV σ) := (cFr_fr hS3 (hun _ (by simp only [List.mem_cons, List.not_mem_nil, or_false, not_or]; omega)))
      have fN : cFr g q u 8 (zsN σ) := (cFr_fr hS4 (hun _ (by simp only [List.mem_cons, List.not_mem_nil, or_false, not_or]; omega)))
      have fT : cTp g q u (zsL σ) (zsB σ) := (cTp_fr hS5 (hun _ (by simp only [List.mem_cons, List.not_mem_nil, or_false, not_or]; omega)) (hun _ (by simp only [List.mem_cons, List.not_mem_nil, or_false, not_or]; omega)))
      have fP : cPp g q u (zsP σ) := (cPp_fr hS6 (hun _ (by simp only [List.mem_cons, List.not_mem_nil, or_false, not_or]; omega)) (hun _ (by simp only [List.mem_cons, List.not_mem_nil, or_false, not_or]; omega)))
      have fA : cAr g q u (zsA σ) := (cAr_fr hS7 (fun i _ _ => (hun _ (by simp only [List.mem_cons, List.not_mem_nil, or_false, not_or]; omega))) (fun i _ _ => (hun _ (by simp only [List.mem_cons, List.not_mem_nil, or_false, not_or]; omega))))
      by_cases ok : yWhOk x2 x3 x4 x5
      · have e33 := e3 (x_reg ok.2.1)
        have e44 := e4 (x_reg ok.2.2.1)
        have e55 := e5 (x_reg ok.2.2.2)
        have hv := V_whole_bt (x2 := x2) (x3 := x3) (x4 := x4) (x5 := x5) (t0_0 := t0_0) (t0_1 := t0_1) (t1_0 := t1_0) (t2_0 := t2_0) (t2_1 := t2_1) (t3_0 := t3_0) (t4_0 := t4_0) (t4_1 := t4_1) (t5_0 := t5_0) (t6_0 := t6_0) (t6_1 := t6_1) (t7_0 := t7_0) (t8_0 := t8_0) (t8_1 := t8_1) (t9_0 := t9_0) (t10_0 := t10_0) (t10_1 := t10_1) (t11_0 := t11_0) (t12_0 := t12_0) (t12_1 := t12_1) (t13_0 := t13_0) (t14_0 := t14_0) (t14_1 := t14_1) (t15_0 := t15_0) (t16_0 := t16_0) (t16_1 := t16_1) (t17_0 := t17_0) gw3 hB3 gw4 hB4 ok.1 (y_isRn ok.2.1) (y_isRn ok.2.2.1) (y_isRn ok.2.2.2)
        rw [← hG] at hv
        rcases hv with ⟨v, o1, o2, z, o3⟩ | ⟨o1, z, o3⟩
        · exact absurd z hc
        · refine ⟨Or.inr ⟨ok, Or.inr ⟨by rw [← e33, ← e44]; exact o1, z, rfl⟩⟩, ?_⟩
          refine ⟨(fun i hi => ?_), fD, fV, fN, fT, fP, fA⟩
          · by_cases hk4 : i = i4
            · rw [hk4]; exact ⟨_, _, _, hU14, hU15, o3⟩
            · exact fW i hi hk4
      · have hv := y_no_whole_bt (x2 := x2) (x3 := x3) (x4 := x4) (x5 := x5) (t0_0 := t0_0) (t0_1 := t0_1) (t1_0 := t1_0) (t2_0 := t2_0) (t2_1 := t2_1) (t3_0 := t3_0) (t4_0 := t4_0) (t4_1 := t4_1) (t5_0 := t5_0) (t6_0 := t6_0) (t6_1 := t6_1) (t7_0 := t7_0) (t8_0 := t8_0) (t8_1 := t8_1) (t9_0 := t9_0) (t10_0 := t10_0) (t10_1 := t10_1) (t11_0 := t11_0) (t12_0 := t12_0) (t12_1 := t12_1) (t13_0 := t13_0) (t14_0 := t14_0) (t14_1 := t14_1) (t15_0 := t15_0) (t16_0 := t16_0) (t16_1 := t16_1) (t17_0 := t17_0) ok
        rw [← hG] at hv
        obtain ⟨z, eT0, eT1, eT2⟩ := hv
        replace eT0 : u16_0 = t16_0 := eT0
        replace eT1 : u16_1 = t16_1 := eT1
        replace eT2 : u17_0 = t17_0 := eT2
        refine ⟨Or.inl ⟨ok, z, rfl⟩, ?_⟩
        refine ⟨(fun i hi => ?_), fD, fV, fN, fT, fP, fA⟩
        · by_cases hk4 : i = i4
          · rw [hk4]; exact ⟨_, _, _, hU14, hU15, (by rw [eT0, eT1, eT2]; exact gw4)⟩
          · exact fW i hi hk4
set_option maxRecDepth 100000 in
set_option maxHeartbeats 4000000 in
theorem CW_whole_abt (l : Launch) (D : va_G) (g : Nat → ClassId) (q : Nat → Nat) (ws : va_W) (x2 : Int32) (x3 : Int32) (x4 : Int32) (x5 : Int32) (i3 : Nat) (hi3 : i3 < 10) (e3 : x3.toNatClampNeg < 10 → i3 = x3.toNatClampNeg) (e4 : x4.toNatClampNeg < 10 → i3 = x4.toNatClampNeg) (e5 : x5.toNatClampNeg < 10 → i3 = x5.toNatClampNeg) (hlt : l.stackTraces = false) (hI : q_I (nsh g q) q ws) (hC : iC g q ws) {σ : zSt} (hS : sC g q ws σ) (hk0 : zOk σ) : ∀ sz, q_Mx l y_NH_whole prog_1_method_8_code 7 none 9 4 24 D g [.ref (q 0), .int x2, .int x3, .int x4, .int x5] ws sz (va_Qv (fun u => iP g q ws u ∧ ∃ σ2, rWh x2 x3 x4 x5 σ 0 σ2 ∧ sC g q u σ2) (q_B D g (va_A ws sz)) (va_A ws sz)) (fun E u => ∃ c : Int32, E = qE c ∧ (c = 1 ∨ c = 2) ∧ iP g q ws u ∧ rWh x2 x3 x4 x5 σ c σ ∧ sC g q u σ) := by
  intro sz
  obtain ⟨t0_0, t0_1, hT0, -⟩ := q_bigO hI (n_b10 g q)
  obtain ⟨t1_0, hT1, -⟩ := n_ai hI (n_s11 g q)
  obtain ⟨t2_0, t2_1, hT2, -⟩ := q_bigO hI (n_b12 g q)
  obtain ⟨t3_0, hT3, -⟩ := n_ai hI (n_s13 g q)
  obtain ⟨t4_0, t4_1, hT4, -⟩ := q_bigO hI (n_b18 g q)
  obtain ⟨t5_0, hT5, -⟩ := n_ai hI (n_s19 g q)
  obtain ⟨t6_0, t6_1, hT6, -⟩ := q_bigO hI (n_b22 g q)
  obtain ⟨t7_0, hT7, -⟩ := n_ai hI (n_s23 g q)
  obtain ⟨t8_0, t8_1, hT8, -⟩ := q_bigO hI (n_b24 g q)
  obtain ⟨t9_0, hT9, -⟩ := n_ai hI (n_s25 g q)
  obtain ⟨t10_0, t10_1, hT10, -⟩ := q_bigO hI (n_b26 g q)
  obtain ⟨t11_0, hT11, -⟩ := n_ai hI (n_s27 g q)
  obtain ⟨t12_0, t12_1, hT12, -⟩ := q_bigO hI (n_b28 g q)
  obtain ⟨t13_0, hT13, -⟩ := n_ai hI (n_s29 g q)
  obtain ⟨t14_0, t14_1, t15_0, hT14, hT15, vk3, hbk3, hBk3⟩ := hC.1 i3 hi3
  obtain ⟨hS1, hS2, hS3, hS4, hS5, hS6, hS7⟩ := hS
  obtain ⟨sw3, nw3, fw3, aw3, bw3, gw3⟩ := hS1 i3 hi3
  obtain ⟨rfl, rfl⟩ := x_b2 hT14 aw3
  obtain rfl := x_ri hT15 bw3
  have ev3 : vk3 = zsW σ i3 := hbk3.2.2.1.symm.trans gw3.2.2.1
  have hB3 := hBk3
  rw [ev3] at hB3
  have hq := T_whole_abt (x2 := x2) (x3 := x3) (x4 := x4) (x5 := x5) (t0_0 := t0_0) (t0_1 := t0_1) (t1_0 := t1_0) (t2_0 := t2_0) (t2_1 := t2_1) (t3_0 := t3_0) (t4_0 := t4_0) (t4_1 := t4_1) (t5_0 := t5_0) (t6_0 := t6_0) (t6_1 := t6_1) (t7_0 := t7_0) (t8_0 := t8_0) (t8_1 := t8_1) (t9_0 := t9_0) (t10_0 := t10_0) (t10_1 := t10_1) (t11_0 := t11_0) (t12_0 := t12_0) (t12_1 := t12_1) (t13_0 := t13_0) (t14_0 := t14_0) (t14_1 := t14_1) (t15_0 := t15_0) hbk3 hBk3
  refine q_MxV (X_NH_whole_abt l D g q ws x2 x3 x4 x5 (66 + 5 * i3) (n_w g q hi3) (by omega) (fun h => by have z := e3 h; omega) (fun h => by have z := e4 h; omega) (fun h => by have z := e5 h; omega) hlt hI t0_0 t0_1 hT0 t1_0 hT1 t2_0 t2_1 hT2 t3_0 hT3 t4_0 t4_1 hT4 t5_0 hT5 t6_0 t6_1 hT6 t7_0 hT7 t8_0 t8_1 hT8 t9_0 hT9 t10_0 t10_1 hT10 t11_0 hT11 t12_0 t12_1 hT12 t13_0 hT13 t14_0 t14_1 hT14 t15_0 hT15 ⟨trivial, hq.1⟩ sz) ?_ ?_
  · rintro u ⟨hI2, hun, u0_0, u0_1, u1_0, u2_0, u2_1, u3_0, u4_0, u4_1, u5_0, u6_0, u6_1, u7_0, u8_0, u8_1, u9_0, u10_0, u10_1, u11_0, u12_0, u12_1, u13_0, u14_0, u14_1, u15_0, hU0, hU1, hU2, hU3, hU4, hU5, hU6, hU7, hU8, hU9, hU10, hU11, hU12, hU13, hU14, hU15, hR⟩
    have hG := hR.2.2.2.2.2.2.2.2.2.2.2.2.2.2.2.2.2.2.2.2.2.2.2.2.2.2.2.2.2.2.2.2.2.2.2.2.2.2.2.2.2.2.2.2.2.2.2.2.2.2.2.2.2.2.2.2.2.2.2.2.2.2.2.2.2.2.2.2.2.2.2.2.2.2.2.2.2.2.2.2.2.2.2.2.2.2.2.2.2.2.2.2.2.2.2.2.2.2
    clear hR
    have hF := hG
    have hp := hq.2
    rw [← hF] at hp
    refine ⟨⟨hI2, ⟨fun i hi => ?_, fun i hi => ?_, ?_⟩, fun i hi => hun i (by simp only [List.mem_cons, List.not_mem_nil, or_false, not_or]; omega)⟩, ?_⟩
    · by_cases hk3 : i = i3
      · rw [hk3]; refine ⟨_, _, _, hU14, hU15, ?_⟩; first | exact hp
      · exact iW_fr (hC.1 i hi) (hun _ (by simp only [List.mem_cons, List.not_mem_nil, or_false, not_or]; omega)) (hun _ (by simp only [List.mem_cons, List.not_mem_nil, or_false, not_or]; omega))
    · exact iD_fr (hC.2.1 i hi) (hun _ (by simp only [List.mem_cons, List.not_mem_nil, or_false, not_or]; omega)) (hun _ (by simp only [List.mem_cons, List.not_mem_nil, or_false, not_or]; omega)) (hun _ (by simp only [List.mem_cons, List.not_mem_nil, or_false, not_or]; omega))
    · exact iO_fr hC.2.2 (hun _ (by simp only [List.mem_cons, List.not_mem_nil, or_false, not_or]; omega)) (hun _ (by simp only [List.mem_cons, List.not_mem_nil, or_false, not_or]; omega)) (hun _ (by simp only [List.mem_cons, List.not_mem_nil, or_false, not_or]; omega))
    · have fW : ∀ i, i < 10 → ¬ i = i3 → cWr g q u (66 + 5 * i) (zsW σ i) := fun i hi hk3 => cWr_fr (hS1 i hi) (hun _ (by simp only [List.mem_cons, List.not_mem_nil, or_false, not_or]; omega)) (hun _ (by simp only [List.mem_cons, List.not_mem_nil, or_false, not_or]; omega))
      have fD : ∀ i, i < 10 → cDr g q u (68 + 5 * i) (zsD σ i) := fun i hi => cDr_fr (hS2 i hi) (hun _ (by simp only [List.mem_cons, List.not_mem_nil, or_false, not_or]; omega)) (hun _ (by simp only [List.mem_cons, List.not_mem_nil, or_false, not_or]; omega)) (hun _ (by simp only [List.mem_cons, List.not_mem_nil, or_false, not_or]; omega))
      have fV : cFr g q u 7 (zsV σ) := (cFr_fr hS3 (hun _ (by simp only [List.mem_cons, List.not_mem_nil, or_false, not_or]; omega)))
      have fN : cFr g q u 8 (zsN σ) := (cFr_fr hS4 (hun _ (by simp only [List.mem_cons, List.not_mem_nil, or_false, not_or]; omega)))
      have fT : cTp g q u (zsL σ) (zsB σ) := (cTp_fr hS5 (hun _ (by simp only [List.mem_cons, List.not_mem_nil, or_false, not_or]; omega)) (hun _ (by simp only [List.mem_cons, List.not_mem_nil, or_false, not_or]; omega)))
      have fP : cPp g q u (zsP σ) := (cPp_fr hS6 (hun _ (by simp only [List.mem_cons, List.not_mem_nil, or_false, not_or]; omega)) (hun _ (by simp only [List.mem_cons, List.not_mem_nil, or_false, not_or]; omega)))
      have fA : cAr g q u (zsA σ) := (cAr_fr hS7 (fun i _ _ => (hun _ (by simp only [List.mem_cons, List.not_mem_nil, or_false, not_or]; omega))) (fun i _ _ => (hun _ (by simp only [List.mem_cons, List.not_mem_nil, or_false, not_or]; omega))))
      by_cases ok : yWhOk x2 x3 x4 x5
      · have e33 := e3 (x_reg ok.2.1)
        have e44 := e4 (x_reg ok.2.2.1)
        have e55 := e5 (x_reg ok.2.2.2)
        have hv := V_whole_abt (x2 := x2) (x3 := x3) (x4 := x4) (x5 := x5) (t0_0 := t0_0) (t0_1 := t0_1) (t1_0 := t1_0) (t2_0 := t2_0) (t2_1 := t2_1) (t3_0 := t3_0) (t4_0 := t4_0) (t4_1 := t4_1) (t5_0 := t5_0) (t6_0 := t6_0) (t6_1 := t6_1) (t7_0 := t7_0) (t8_0 := t8_0) (t8_1 := t8_1) (t9_0 := t9_0) (t10_0 := t10_0) (t10_1 := t10_1) (t11_0 := t11_0) (t12_0 := t12_0) (t12_1 := t12_1) (t13_0 := t13_0) (t14_0 := t14_0) (t14_1 := t14_1) (t15_0 := t15_0) gw3 hB3 ok.1 (y_isRn ok.2.1) (y_isRn ok.2.2.1) (y_isRn ok.2.2.2)
        rw [← hG] at hv
        rcases hv with ⟨v, o1, o2, z, o3⟩ | ⟨o1, z, o3⟩
        · refine ⟨(updW (zsW σ) x5.toNatClampNeg v, zsD σ, zsV σ, zsN σ, zsL σ, zsB σ, zsP σ, zsA σ), Or.inr ⟨ok, Or.inl ⟨v, by rw [← e33, ← e44]; exact o1, o2, rfl, rfl⟩⟩, ?_⟩
          refine ⟨(fun i hi => ?_), fD, fV, fN, fT, fP, fA⟩
          · show cWr g q u (66 + 5 * i) (updW (zsW σ) x5.toNatClampNeg v i)
            unfold updW
            by_cases hk3 : i = i3
            · rw [if_pos (by omega), hk3]; exact ⟨_, _, _, hU14, hU15, o3⟩
            · rw [if_neg (by omega)]; exact fW i hi hk3
        · exact absurd (show (0 : Int32) = 2 from z) (by decide)
      · have hv := y_no_whole_abt (x2 := x2) (x3 := x3) (x4 := x4) (x5 := x5) (t0_0 := t0_0) (t0_1 := t0_1) (t1_0 := t1_0) (t2_0 := t2_0) (t2_1 := t2_1) (t3_0 := t3_0) (t4_0 := t4_0) (t4_1 := t4_1) (t5_0 := t5_0) (t6_0 := t6_0) (t6_1 := t6_1) (t7_0 := t7_0) (t8_0 := t8_0) (t8_1 := t8_1) (t9_0 := t9_0) (t10_0 := t10_0) (t10_1 := t10_1) (t11_0 := t11_0) (t12_0 := t12_0) (t12_1 := t12_1) (t13_0 := t13_0) (t14_0 := t14_0) (t14_1 := t14_1) (t15_0 := t15_0) ok
        rw [← hG] at hv
        obtain ⟨z, eT0, eT1, eT2⟩ := hv
        exact absurd (show (0 : Int32) = 1 from z) (by decide)
  · rintro E u ⟨c, hE, hc, hI2, hun, u0_0, u0_1, u1_0, u2_0, u2_1, u3_0, u4_0, u4_1, u5_0, u6_0, u6_1, u7_0, u8_0, u8_1, u9_0, u10_0, u10_1, u11_0, u12_0, u12_1, u13_0, u14_0, u14_1, u15_0, hU0, hU1, hU2, hU3, hU4, hU5, hU6, hU7, hU8, hU9, hU10, hU11, hU12, hU13, hU14, hU15, hF⟩
    have hp := hq.2
    rw [← hF] at hp
    have hk := K_NH_whole_abt (x2 := x2) (x3 := x3) (x4 := x4) (x5 := x5) (t0_0 := t0_0) (t0_1 := t0_1) (t1_0 := t1_0) (t2_0 := t2_0) (t2_1 := t2_1) (t3_0 := t3_0) (t4_0 := t4_0) (t4_1 := t4_1) (t5_0 := t5_0) (t6_0 := t6_0) (t6_1 := t6_1) (t7_0 := t7_0) (t8_0 := t8_0) (t8_1 := t8_1) (t9_0 := t9_0) (t10_0 := t10_0) (t10_1 := t10_1) (t11_0 := t11_0) (t12_0 := t12_0) (t12_1 := t12_1) (t13_0 := t13_0) (t14_0 := t14_0) (t14_1 := t14_1) (t15_0 := t15_0)
    rw [← hF] at hk
    replace hk : kC12 c := hk
    refine ⟨c, hE, hk.resolve_left hc, ⟨hI2, ⟨fun i hi => ?_, fun i hi => ?_, ?_⟩, fun i hi => hun i (by simp only [List.mem_cons, List.not_mem_nil, or_false, not_or]; omega)⟩, ?_⟩
    · by_cases hk3 : i = i3
      · rw [hk3]; refine ⟨_, _, _, hU14, hU15, ?_⟩; first | exact hp
      · exact iW_fr (hC.1 i hi) (hun _ (by simp only [List.mem_cons, List.not_mem_nil, or_false, not_or]; omega)) (hun _ (by simp only [List.mem_cons, List.not_mem_nil, or_false, not_or]; omega))
    · exact iD_fr (hC.2.1 i hi) (hun _ (by simp only [List.mem_cons, List.not_mem_nil, or_false, not_or]; omega)) (hun _ (by simp only [List.mem_cons, List.not_mem_nil, or_false, not_or]; omega)) (hun _ (by simp only [List.mem_cons, List.not_mem_nil, or_false, not_or]; omega))
    · exact iO_fr hC.2.2 (hun _ (by simp only [List.mem_cons, List.not_mem_nil, or_false, not_or]; omega)) (hun _ (by simp only [List.mem_cons, List.not_mem_nil, or_false, not_or]; omega)) (hun _ (by simp only [List.mem_cons, List.not_mem_nil, or_false, not_or]; omega))
    · have hG := hF
      have fW : ∀ i, i < 10 → ¬ i = i3 → cWr g q u (66 + 5 * i) (zsW σ i) := fun i hi hk3 => cWr_fr (hS1 i hi) (hun _ (by simp only [List.mem_cons, List.not_mem_nil, or_false, not_or]; omega)) (hun _ (by simp only [List.mem_cons, List.not_mem_nil, or_false, not_or]; omega))
      have fD : ∀ i, i < 10 → cDr g q u (68 + 5 * i) (zsD σ i) := fun i hi => cDr_fr (hS2 i hi) (hun _ (by simp only [List.mem_cons, List.not_mem_nil, or_false, not_or]; omega)) (hun _ (by simp only [List.mem_cons, List.not_mem_nil, or_false, not_or]; omega)) (hun _ (by simp only [List.mem_cons, List.not_mem_nil, or_false, not_or]; omega))
      have fV : cFr g q u 7 (zsV σ) := (cFr_fr hS3 (hun _ (by simp only [List.mem_cons, List.not_mem_nil, or_false, not_or]; omega)))
      have fN : cFr g q u 8 (zsN σ) := (cFr_fr hS4 (hun _ (by simp only [List.mem_cons, List.not_mem_nil, or_false, not_or]; omega)))
      have fT : cTp g q u (zsL σ) (zsB σ) := (cTp_fr hS5 (hun _ (by simp only [List.mem_cons, List.not_mem_nil, or_false, not_or]; omega)) (hun _ (by simp only [List.mem_cons, List.not_mem_nil, or_false, not_or]; omega)))
      have fP : cPp g q u (zsP σ) := (cPp_fr hS6 (hun _ (by simp only [List.mem_cons, List.not_mem_nil, or_false, not_or]; omega)) (hun _ (by simp only [List.mem_cons, List.not_mem_nil, or_false, not_or]; omega)))
      have fA : cAr g q u (zsA σ) := (cAr_fr hS7 (fun i _ _ => (hun _ (by simp only [List.mem_cons, List.not_mem_nil, or_false, not_or]; omega))) (fun i _ _ => (hun _ (by simp only [List.mem_cons, List.not_mem_nil, or_false, not_or]; omega))))
      by_cases ok : yWhOk x2 x3 x4 x5
      · have e33 := e3 (x_reg ok.2.1)
        have e44 := e4 (x_reg ok.2.2.1)
        have e55 := e5 (x_reg ok.2.2.2)
        have hv := V_whole_abt (x2 := x2) (x3 := x3) (x4 := x4) (x5 := x5) (t0_0 := t0_0) (t0_1 := t0_1) (t1_0 := t1_0) (t2_0 := t2_0) (t2_1 := t2_1) (t3_0 := t3_0) (t4_0 := t4_0) (t4_1 := t4_1) (t5_0 := t5_0) (t6_0 := t6_0) (t6_1 := t6_1) (t7_0 := t7_0) (t8_0 := t8_0) (t8_1 := t8_1) (t9_0 := t9_0) (t10_0 := t10_0) (t10_1 := t10_1) (t11_0 := t11_0) (t12_0 := t12_0) (t12_1 := t12_1) (t13_0 := t13_0) (t14_0 := t14_0) (t14_1 := t14_1) (t15_0 := t15_0) gw3 hB3 ok.1 (y_isRn ok.2.1) (y_isRn ok.2.2.1) (y_isRn ok.2.2.2)
        rw [← hG] at hv
        rcases hv with ⟨v, o1, o2, z, o3⟩ | ⟨o1, z, o3⟩
        · exact absurd z hc
        · refine ⟨Or.inr ⟨ok, Or.inr ⟨by rw [← e33, ← e44]; exact o1, z, rfl⟩⟩, ?_⟩
          refine ⟨(fun i hi => ?_), fD, fV, fN, fT, fP, fA⟩
          · by_cases hk3 : i = i3
            · rw [hk3]; exact ⟨_, _, _, hU14, hU15, o3⟩
            · exact fW i hi hk3
      · have hv := y_no_whole_abt (x2 := x2) (x3 := x3) (x4 := x4) (x5 := x5) (t0_0 := t0_0) (t0_1 := t0_1) (t1_0 := t1_0) (t2_0 := t2_0) (t2_1 := t2_1) (t3_0 := t3_0) (t4_0 := t4_0) (t4_1 := t4_1) (t5_0 := t5_0) (t6_0 := t6_0) (t6_1 := t6_1) (t7_0 := t7_0) (t8_0 := t8_0) (t8_1 := t8_1) (t9_0 := t9_0) (t10_0 := t10_0) (t10_1 := t10_1) (t11_0 := t11_0) (t12_0 := t12_0) (t12_1 := t12_1) (t13_0 := t13_0) (t14_0 := t14_0) (t14_1 := t14_1) (t15_0 := t15_0) ok
        rw [← hG] at hv
        obtain ⟨z, eT0, eT1, eT2⟩ := hv
        replace eT0 : u14_0 = t14_0 := eT0
        replace eT1 : u14_1 = t14_1 := eT1
        replace eT2 : u15_0 = t15_0 := eT2
        refine ⟨Or.inl ⟨ok, z, rfl⟩, ?_⟩
        refine ⟨(fun i hi => ?_), fD, fV, fN, fT, fP, fA⟩
        · by_cases hk3 : i = i3
          · rw [hk3]; exact ⟨_, _, _, hU14, hU15, (by rw [eT0, eT1, eT2]; exact gw3)⟩
          · exact fW i hi hk3
theorem DW_whole (l : Launch) (D : va_G) (g : Nat → ClassId) (q : Nat → Nat) (ws : va_W) (x2 : Int32) (x3 : Int32) (x4 : Int32) (x5 : Int32) (hlt : l.stackTraces = false) (hI : q_I (nsh g q) q ws) (hC : iC g q ws) {σ : zSt} (hS : sC g q ws σ) (hk0 : zOk σ) : ∀ sz, q_Mx l y_NH_whole prog_1_method_8_code 7 none 9 4 24 D g [.ref (q 0), .int x2, .int x3, .int x4, .int x5] ws sz (va_Qv (fun u => iP g q ws u ∧ ∃ σ2, rWh x2 x3 x4 x5 σ 0 σ2 ∧ sC g q u σ2) (q_B D g (va_A ws sz)) (va_A ws sz)) (fun E u => ∃ c : Int32, E = qE c ∧ (c = 1 ∨ c = 2) ∧ iP g q ws u ∧ rWh x2 x3 x4 x5 σ c σ ∧ sC g q u σ) := by
  obtain ⟨i3, hi3, e3⟩ := iX x3
  obtain ⟨i4, hi4, e4⟩ := iX x4
  obtain ⟨i5, hi5, e5⟩ := iX x5
  by_cases c34 : i3 = i4
  · by_cases c45 : i4 = i5
    · exact CW_whole_abt l D g q ws x2 x3 x4 x5 i3 hi3 e3 (fun h => by have z := e4 h; omega) (fun h => by have z := e5 h; omega) hlt hI hC hS hk0
    · exact CW_whole_ab l D g q ws x2 x3 x4 x5 i3 hi3 i5 hi5 e3 (fun h => by have z := e4 h; omega) e5 (by omega) hlt hI hC hS hk0
  · by_cases c45 : i4 = i5
    · exact CW_whole_bt l D g q ws x2 x3 x4 x5 i3 hi3 i4 hi4 e3 e4 (fun h => by have z := e5 h; omega) (by omega) hlt hI hC hS hk0
    · exact CW_whole l D g q ws x2 x3 x4 x5 i3 hi3 i4 hi4 i5 hi5 e3 e4 e5 (by omega) (by omega) hlt hI hC hS hk0
set_option maxRecDepth 100000 in
set_option maxHeartbeats 4000000 in
theorem DM_whole (l : Launch) (D : va_G) (g : Nat → ClassId) (q : Nat → Nat) (ws : va_W) (x2 : Int32) (x3 : Int32) (x4 : Int32) (x5 : Int32) (hI : q_I (msh g q) q ws) (hM : iM g q ws) {th : Int32} {σ : zSt} (hS : sM g q ws th σ) (hk0 : zOk σ) : q_mV l y_NM_whole prog_14_method_20_code 5 5 0 0 D g [.ref (q 116), .int x2, .int x3, .int x4, .int x5] ws (fun u => jP g q ws u ∧ ∃ c σ2, rWh x2 x3 x4 x5 σ c σ2 ∧ sM g q u c σ2) := by
  have hM0 := hM
  obtain ⟨t2_0, t3_0, hT2, hT3, hW⟩ := hM.1
  obtain ⟨t0_0, t0_1, t0_2, hT0, bT0⟩ := n_o116 hI
  obtain ⟨t1_0, t1_1, t1_2, t1_3, t1_4, t1_5, t1_6, hT1, bT1⟩ := n_o119 hI
  obtain ⟨t4_0, hT4, -⟩ := n_ai hI (n_s123 g q)
  obtain ⟨t5_0, hT5, -⟩ := n_ai hI (n_s124 g q)
  obtain ⟨t6_0, hT6, -⟩ := n_ai hI (n_s125 g q)
  obtain ⟨t7_0, hT7, -⟩ := n_ai hI (n_s126 g q)
  obtain ⟨t8_0, hT8, -⟩ := n_ai hI (n_s127 g q)
  obtain ⟨t9_0, hT9, -⟩ := n_ai hI (n_s128 g q)
  obtain ⟨t10_0, hT10, -⟩ := n_ai hI (n_s129 g q)
  obtain ⟨t11_0, hT11, -⟩ := n_ai hI (n_s130 g q)
  obtain ⟨t12_0, hT12, -⟩ := n_ai hI (n_s131 g q)
  obtain ⟨t13_0, hT13, -⟩ := n_ai hI (n_s132 g q)
  obtain ⟨hS1, hS2, hS3, hS4, hS5⟩ := hS
  obtain ⟨s9, p9, r9, r8, y0, y1, y2, jL9, jT9, jP9⟩ := hS4
  obtain ⟨-, rfl, rfl⟩ := x_116 hT0 y0
  obtain ⟨f0, f1, ya, yb, hw9⟩ := hS1
  obtain rfl := x_ri hT2 ya
  obtain rfl := x_ri hT3 yb
  have hS1 : mWr g q ws (zsW σ) := ⟨_, _, ya, yb, hw9⟩
  have hq := T_NM_whole (x2 := x2) (x3 := x3) (x4 := x4) (x5 := x5) (t0_0 := t0_0) (t0_1 := t0_1) (t0_2 := t0_2) (t1_0 := t1_0) (t1_1 := t1_1) (t1_2 := t1_2) (t1_3 := t1_3) (t1_4 := t1_4) (t1_5 := t1_5) (t1_6 := t1_6) (t2_0 := t2_0) (t3_0 := t3_0) (t4_0 := t4_0) (t5_0 := t5_0) (t6_0 := t6_0) (t7_0 := t7_0) (t8_0 := t8_0) (t9_0 := t9_0) (t10_0 := t10_0) (t11_0 := t11_0) (t12_0 := t12_0) (t13_0 := t13_0) hW
  refine q_mVw (X_NM_whole l D g q ws x2 x3 x4 x5 hI t0_0 t0_1 t0_2 hT0 t1_0 t1_1 t1_2 t1_3 t1_4 t1_5 t1_6 hT1 t2_0 hT2 t3_0 hT3 t4_0 hT4 t5_0 hT5 t6_0 hT6 t7_0 hT7 t8_0 hT8 t9_0 hT9 t10_0 hT10 t11_0 hT11 t12_0 hT12 t13_0 hT13 ⟨trivial, hq.1⟩) ?_
  rintro u ⟨hI2, hun, u0_0, u1_0, u1_1, u1_2, u1_3, u1_4, u1_5, u1_6, u2_0, u3_0, u4_0, u5_0, u6_0, u7_0, u8_0, u9_0, u10_0, u11_0, u12_0, u13_0, hU0, hU1, hU2, hU3, hU4, hU5, hU6, hU7, hU8, hU9, hU10, hU11, hU12, hU13, hR⟩
  have hp := hq.2
  rw [← hR.2.2.2.2.2.2.2.2.2.2] at hp
  refine ⟨⟨hI2, ⟨⟨_, _, hU2, hU3, hp⟩, jD_fr hM0.2.1 (hun 136 (by decide)) (hun 137 (by decide)) (hun 138 (by decide)) (hun 139 (by decide)), jZ_fr hM0.2.2.1 (hun 160 (by decide)), jB_fr hM0.2.2.2 (hun 167 (by decide))⟩, jF_un hun (by decide)⟩, ?_⟩
  have hG := hR.2.2.2.2.2.2.2.2.2.2
  by_cases ok : yWhOk x2 x3 x4 x5
  · have hv := V_NM_whole (x2 := x2) (x3 := x3) (x4 := x4) (x5 := x5) (t0_0 := t0_0) (t0_1 := t0_1) (t0_2 := t0_2) (t1_0 := t1_0) (t1_1 := t1_1) (t1_2 := t1_2) (t1_3 := t1_3) (t1_4 := t1_4) (t1_5 := t1_5) (t1_6 := t1_6) (t2_0 := t2_0) (t3_0 := t3_0) (t4_0 := t4_0) (t5_0 := t5_0) (t6_0 := t6_0) (t7_0 := t7_0) (t8_0 := t8_0) (t9_0 := t9_0) (t10_0 := t10_0) (t11_0 := t11_0) (t12_0 := t12_0) (t13_0 := t13_0) hw9 ok.2.1 ok.2.2.1 ok.2.2.2 ok.1
    rw [← hG] at hv
    obtain ⟨hv, -⟩ := hv
    rcases hv with ⟨v, o1, o2, z, o3⟩ | ⟨o1, z, o3⟩
    · replace z : u0_0 = 0 := z
      exact ⟨0, (updW (zsW σ) x5.toNatClampNeg v, zsD σ, zsV σ, zsN σ, zsL σ, zsB σ, zsP σ, zsA σ), Or.inr ⟨ok, Or.inl ⟨v, o1, o2, rfl, rfl⟩⟩, ⟨⟨_, _, hU2, hU3, o3⟩, (mDr_fr hS2 (hun 136 (by decide)) (hun 137 (by decide)) (hun 138 (by decide)) (hun 139 (by decide))), (mFr_fr hS3 (hun 167 (by decide))), ⟨_, _, _, _, by rw [← z]; exact hU0, (hun 117 (by decide)).trans y1, (hun 118 (by decide)).trans y2, jL9, jT9, jP9⟩, (mAr_fr hS5 (hun 157 (by decide)) (hun 159 (by decide)) (hun 160 (by decide)) (hun 161 (by decide)) (hun 162 (by decide)))⟩⟩
    · replace z : u0_0 = 2 := z
      exact ⟨2, σ, Or.inr ⟨ok, Or.inr ⟨o1, rfl, rfl⟩⟩, ⟨⟨_, _, hU2, hU3, o3⟩, (mDr_fr hS2 (hun 136 (by decide)) (hun 137 (by decide)) (hun 138 (by decide)) (hun 139 (by decide))), (mFr_fr hS3 (hun 167 (by decide))), ⟨_, _, _, _, by rw [← z]; exact hU0, (hun 117 (by decide)).trans y1, (hun 118 (by decide)).trans y2, jL9, jT9, jP9⟩, (mAr_fr hS5 (hun 157 (by decide)) (hun 159 (by decide)) (hun 160 (by decide)) (hun 161 (by decide)) (hun 162 (by decide)))⟩⟩
  · have hv := y_mno_whole (x2 := x2) (x3 := x3) (x4 := x4) (x5 := x5) (t0_0 := t0_0) (t0_1 := t0_1) (t0_2 := t0_2) (t1_0 := t1_0) (t1_1 := t1_1) (t1_2 := t1_2) (t1_3 := t1_3) (t1_4 := t1_4) (t1_5 := t1_5) (t1_6 := t1_6) (t2_0 := t2_0) (t3_0 := t3_0) (t4_0 := t4_0) (t5_0 := t5_0) (t6_0 := t6_0) (t7_0 := t7_0) (t8_0 := t8_0) (t9_0 := t9_0) (t10_0 := t10_0) (t11_0 := t11_0) (t12_0 := t12_0) (t13_0 := t13_0) ok
    rw [← hG] at hv
    obtain ⟨z, e0, e1⟩ := hv
    replace z : u0_0 = 1 := z
    replace e0 : u2_0 = t2_0 := e0
    replace e1 : u3_0 = t3_0 := e1
    exact ⟨1, σ, Or.inl ⟨ok, rfl, rfl⟩, ⟨⟨_, _, hU2, hU3, (by rw [e0, e1]; exact hw9)⟩, (mDr_fr hS2 (hun 136 (by decide)) (hun 137 (by decide)) (hun 138 (by decide)) (hun 139 (by decide))), (mFr_fr hS3 (hun 167 (by decide))), ⟨_, _, _, _, by rw [← z]; exact hU0, (hun 117 (by decide)).trans y1, (hun 118 (by decide)).trans y2, jL9, jT9, jP9⟩, (mAr_fr hS5 (hun 157 (by decide)) (hun 159 (by decide)) (hun 160 (by decide)) (hun 161 (by decide)) (hun 162 (by decide)))⟩⟩
