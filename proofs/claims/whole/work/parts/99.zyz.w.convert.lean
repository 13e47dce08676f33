/-! whole's law: convert -/
theorem x_bw {x2 x3 : Int32} {f V : Nat → Int64} (hV : ∀ i, i < 10 → f i = V i) (hb : ∀ i, i < 10 → yBit 52 2047 (yu (V i))) (hr : yReg x3) (h2 : x2.toInt = 2) : ∀ a b c, yu (F_NM_bitsOf x2 x3 a b c f) = yu (V x3.toNatClampNeg) ∧ yBit 52 2047 (yu (V x3.toNatClampNeg)) := by
  intro a b c
  refine ⟨?_, hb _ (x_reg hr)⟩
  unfold F_NM_bitsOf
  rw [if_neg (fun e => by rw [e] at h2; exact absurd h2 (by decide)), hV _ (x_reg hr)]
theorem x_bn {x2 x3 : Int32} {f N : Nat → Int64} (hN : ∀ i, i < 10 → f (10 + i) = N i) (hb : ∀ i, i < 10 → yBit 23 255 (yu (N i))) (hr : yReg x3) (h2 : x2.toInt = 3) : ∀ a b c, yu (F_NM_bitsOf x2 x3 a b c f) = yu (N x3.toNatClampNeg) ∧ yBit 23 255 (yu (N x3.toNatClampNeg)) := by
  intro a b c
  refine ⟨?_, hb _ (x_reg hr)⟩
  unfold F_NM_bitsOf
  rw [if_pos (Int32.toInt_inj.mp h2), x_10 hr, hN _ (x_reg hr)]
def rCv (x2 x3 x4 x5 : Int32) (σ : zSt) (c : Int32) (σ2 : zSt) : Prop := (¬ yCvOk x2 x3 x4 x5 ∧ c = 1 ∧ σ2 = σ) ∨ (yCvOk x2 x3 x4 x5 ∧ ((x4 = 0 ∧ ∃ o : Option Int, yCvW x2.toInt (zsW σ x3.toNatClampNeg) (zsD σ x3.toNatClampNeg) (yu (zsV σ x3.toNatClampNeg)) (yu (zsN σ x3.toNatClampNeg)) o ∧ rPw x5 o σ c σ2) ∨ (x4 = 1 ∧ ∃ o : Option (Int × Int), yCvD x2.toInt (zsW σ x3.toNatClampNeg) (zsD σ x3.toNatClampNeg) (yu (zsV σ x3.toNatClampNeg)) (yu (zsN σ x3.toNatClampNeg)) o ∧ rPd x5 o σ c σ2) ∨ (x4 = 2 ∧ c = 0 ∧ ∃ y : Int64, yCvF 52 2047 (-1074) x2.toInt (zsW σ x3.toNatClampNeg) (zsD σ x3.toNatClampNeg) (yu (zsV σ x3.toNatClampNeg)) (yu (zsN σ x3.toNatClampNeg)) (yu y) ∧ σ2 = (zsW σ, zsD σ, vp_updL (zsV σ) x5.toNatClampNeg y, zsN σ, zsL σ, zsB σ, zsP σ, zsA σ)) ∨ (x4 = 3 ∧ c = 0 ∧ ∃ y : Int64, yCvF 23 255 (-149) x2.toInt (zsW σ x3.toNatClampNeg) (zsD σ x3.toNatClampNeg) (yu (zsV σ x3.toNatClampNeg)) (yu (zsN σ x3.toNatClampNeg)) (yu y) ∧ σ2 = (zsW σ, zsD σ, zsV σ, vp_updL (zsN σ) x5.toNatClampNeg y, zsL σ, zsB σ, zsP σ, zsA σ))))
theorem rCv_U {x2 x3 x4 x5 : Int32} {σ s t : zSt} {c c2 : Int32} (h : rCv x2 x3 x4 x5 σ c s) (g : rCv x2 x3 x4 x5 σ c2 t) : c = c2 ∧ s = t := by
  rcases h with ⟨h1, h2, h3⟩ | ⟨h1, h2⟩ <;> rcases g with ⟨g1, g2, g3⟩ | ⟨g1, g2⟩
  · exact ⟨h2.trans g2.symm, h3.trans g3.symm⟩
  · exact absurd g1 h1
  · exact absurd h1 g1
  · have ne : ∀ {p q : Int32}, x4 = p → x4 = q → p ≠ q → False := fun a b c => c (a.symm.trans b)
    rcases h2 with ⟨k, o, p, w⟩ | ⟨k, o, p, w⟩ | ⟨k, w, y, p, q⟩ | ⟨k, w, y, p, q⟩ <;> rcases g2 with ⟨j, o', r, v⟩ | ⟨j, o', r, v⟩ | ⟨j, v, y', r, q'⟩ | ⟨j, v, y', r, q'⟩
    · have e := yCvW_U p r
      subst e
      exact rPw_U w v
    · exact (ne k j (by decide)).elim
    · exact (ne k j (by decide)).elim
    · exact (ne k j (by decide)).elim
    · exact (ne k j (by decide)).elim
    · have e := yCvD_U p r
      subst e
      exact rPd_U w v
    · exact (ne k j (by decide)).elim
    · exact (ne k j (by decide)).elim
    · exact (ne k j (by decide)).elim
    · exact (ne k j (by decide)).elim
    · exact ⟨w.trans v.symm, by rw [q, q', x_yu (yCvF_U p r)]⟩
    · exact (ne k j (by decide)).elim
    · exact (ne k j (by decide)).elim
    · exact (ne k j (by decide)).elim
    · exact (ne k j (by decide)).elim
    · exact ⟨w.trans v.symm, by rw [q, q', x_yu (yCvF_U p r)]⟩
set_option maxRecDepth 100000 in
set_option maxHeartbeats 4000000 in
theorem CW_convert (l : Launch) (D : va_G) (g : Nat → ClassId) (q : Nat → Nat) (ws : va_W) (x2 : Int32) (x3 : Int32) (x4 : Int32) (x5 : Int32) (i3 : Nat) (hi3 : i3 < 10) (i5 : Nat) (hi5 : i5 < 10) (e3 : x3.toNatClampNeg < 10 → i3 = x3.toNatClampNeg) (e5 : x5.toNatClampNeg < 10 → i5 = x5.toNatClampNeg) (hlt : l.stackTraces = false) (hI : q_I (nsh g q) q ws) (hC : iC g q ws) {σ : zSt} (hS : sC g q ws σ) (hk0 : zOk σ) : ∀ sz, q_Mx l y_NH_convert prog_1_method_16_code 5 none 9 4 24 D g [.ref (q 0), .int x2, .int x3, .int x4, .int x5] ws sz (va_Qv (fun u => iP g q ws u ∧ ∃ σ2, rCv x2 x3 x4 x5 σ 0 σ2 ∧ sC g q u σ2) (q_B D g (va_A ws sz)) (va_A ws sz)) (fun E u => ∃ c : Int32, E = qE c ∧ (c = 1 ∨ c = 2) ∧ iP g q ws u ∧ rCv x2 x3 x4 x5 σ c σ ∧ sC g q u σ) := by
  intro sz
  obtain ⟨t0_0, t0_1, hT0, bT0⟩ := n_o30 hI
  obtain ⟨t1_0, t1_1, hT1, bT1⟩ := q_bigO hI (n_b10 g q)
  obtain ⟨t2_0, hT2, bT2⟩ := n_ai hI (n_s11 g q)
  obtain ⟨t3_0, t3_1, hT3, bT3⟩ := q_bigO hI (n_b12 g q)
  obtain ⟨t4_0, hT4, bT4⟩ := n_ai hI (n_s13 g q)
  obtain ⟨t5_0, t5_1, hT5, bT5⟩ := q_bigO hI (n_b20 g q)
  obtain ⟨t6_0, hT6, bT6⟩ := n_ai hI (n_s21 g q)
  obtain ⟨t7_0, t7_1, hT7, bT7⟩ := q_bigO hI (n_b22 g q)
  obtain ⟨t8_0, hT8, bT8⟩ := n_ai hI (n_s23 g q)
  obtain ⟨t9_0, t9_1, hT9, bT9⟩ := q_bigO hI (n_b24 g q)
  obtain ⟨t10_0, hT10, bT10⟩ := n_ai hI (n_s25 g q)
  obtain ⟨t11_0, hT11⟩ := n_al hI (n_s7 g q)
  obtain ⟨t12_0, hT12⟩ := n_al hI (n_s8 g q)
  obtain ⟨t13_0, t13_1, t14_0, hT13, hT14, vk3, hbk3, hBk3⟩ := hC.1 i3 hi3
  obtain ⟨t15_0, t15_1, t16_0, t16_1, t17_0, hT15, hT16, hT17, vd3, hbd3⟩ := hC.2.1 i3 hi3
  obtain ⟨t18_0, t18_1, t19_0, hT18, hT19, vk5, hbk5, hBk5⟩ := hC.1 i5 hi5
  obtain ⟨t20_0, t20_1, t21_0, t21_1, t22_0, hT20, hT21, hT22, vd5, hbd5⟩ := hC.2.1 i5 hi5
  obtain ⟨hS1, hS2, hS3, hS4, hS5, hS6, hS7⟩ := hS
  obtain ⟨sw3, nw3, fw3, aw3, bw3, gw3⟩ := hS1 i3 hi3
  obtain ⟨rfl, rfl⟩ := x_b2 hT13 aw3
  obtain rfl := x_ri hT14 bw3
  obtain ⟨sw5, nw5, fw5, aw5, bw5, gw5⟩ := hS1 i5 hi5
  obtain ⟨rfl, rfl⟩ := x_b2 hT18 aw5
  obtain rfl := x_ri hT19 bw5
  obtain ⟨pd3, qd3, sd3, nd3, fd3, ad3, bd3, cd3, gd3⟩ := hS2 i3 hi3
  obtain ⟨rfl, rfl⟩ := x_b2 hT15 ad3
  obtain ⟨rfl, rfl⟩ := x_b2 hT16 bd3
  obtain rfl := x_ri hT17 cd3
  obtain ⟨pd5, qd5, sd5, nd5, fd5, ad5, bd5, cd5, gd5⟩ := hS2 i5 hi5
  obtain ⟨rfl, rfl⟩ := x_b2 hT20 ad5
  obtain ⟨rfl, rfl⟩ := x_b2 hT21 bd5
  obtain rfl := x_ri hT22 cd5
  obtain ⟨fV, yV, hV9⟩ := hS3
  obtain rfl := x_rl hT11 yV
  have hS3 : cFr g q ws 7 (zsV σ) := ⟨_, yV, hV9⟩
  obtain ⟨fN, yN, hN9⟩ := hS4
  obtain rfl := x_rl hT12 yN
  have hS4 : cFr g q ws 8 (zsN σ) := ⟨_, yN, hN9⟩
  have hq := T_convert (x2 := x2) (x3 := x3) (x4 := x4) (x5 := x5) (t0_0 := t0_0) (t0_1 := t0_1) (t1_0 := t1_0) (t1_1 := t1_1) (t2_0 := t2_0) (t3_0 := t3_0) (t3_1 := t3_1) (t4_0 := t4_0) (t5_0 := t5_0) (t5_1 := t5_1) (t6_0 := t6_0) (t7_0 := t7_0) (t7_1 := t7_1) (t8_0 := t8_0) (t9_0 := t9_0) (t9_1 := t9_1) (t10_0 := t10_0) (t11_0 := t11_0) (t12_0 := t12_0) (t13_0 := t13_0) (t13_1 := t13_1) (t14_0 := t14_0) (t15_0 := t15_0) (t15_1 := t15_1) (t16_0 := t16_0) (t16_1 := t16_1) (t17_0 := t17_0) (t18_0 := t18_0) (t18_1 := t18_1) (t19_0 := t19_0) (t20_0 := t20_0) (t20_1 := t20_1) (t21_0 := t21_0) (t21_1 := t21_1) (t22_0 := t22_0) hbk3 hBk3 hbd3 ⟨_, hbk5, hBk5⟩ ⟨_, hbd5⟩
  refine q_MxV (X_NH_convert l D g q ws x2 x3 x4 x5 (66 + 5 * i3) (n_w g q hi3) (by omega) (fun h => by have z := e3 h; omega) (68 + 5 * i3) (n_d g q hi3) (by omega) (fun h => by have z := e3 h; omega) (66 + 5 * i5) (n_w g q hi5) (by omega) (fun h => by have z := e5 h; omega) (68 + 5 * i5) (n_d g q hi5) (by omega) (fun h => by have z := e5 h; omega) (by omega) (by omega) (by omega) (by omega) (by omega) (by omega) (by omega) (by omega) hlt hI t0_0 t0_1 hT0 t1_0 t1_1 hT1 t2_0 hT2 t3_0 t3_1 hT3 t4_0 hT4 t5_0 t5_1 hT5 t6_0 hT6 t7_0 t7_1 hT7 t8_0 hT8 t9_0 t9_1 hT9 t10_0 hT10 t11_0 hT11 t12_0 hT12 t13_0 t13_1 hT13 t14_0 hT14 t15_0 t15_1 hT15 t16_0 t16_1 hT16 t17_0 hT17 t18_0 t18_1 hT18 t19_0 hT19 t20_0 t20_1 hT20 t21_0 t21_1 hT21 t22_0 hT22 ⟨trivial, hq.1⟩ sz) ?_ ?_
  · rintro u ⟨hI2, hun, u0_0, u0_1, u1_0, u1_1, u2_0, u3_0, u3_1, u4_0, u5_0, u5_1, u6_0, u7_0, u7_1, u8_0, u9_0, u9_1, u10_0, u11_0, u12_0, u18_0, u18_1, u19_0, u20_0, u20_1, u21_0, u21_1, u22_0, hU0, hU1, hU2, hU3, hU4, hU5, hU6, hU7, hU8, hU9, hU10, hU11, hU12, hU13, hU14, hU15, hU16, hU17, hR⟩
    have hF := hR.2.2.2.2.2.2.2.2.2.2.2.2.2.2.2.2.2.2.2.2.2.2.2.2.2.2.2.2.2.2.2.2.2.2.2.2.2.2.2.2.2.2.2.2.2.2.2.2.2.2.2.2.2.2.2.2.2.2.2.2.2.2.2.2.2.2.2.2.2.2.2.2.2.2.2.2.2
    have hp := hq.2
    rw [← hF] at hp
    refine ⟨⟨hI2, ⟨fun i hi => ?_, fun i hi => ?_, ?_⟩, fun i hi => hun i (by simp only [List.mem_cons, List.not_mem_nil, or_false, not_or]; omega)⟩, ?_⟩
    · by_cases hk5 : i = i5
      · rw [hk5]; refine ⟨_, _, _, hU13, hU14, ?_⟩; first | exact hp.1
      · exact iW_fr (hC.1 i hi) (hun _ (by simp only [List.mem_cons, List.not_mem_nil, or_false, not_or]; omega)) (hun _ (by simp only [List.mem_cons, List.not_mem_nil, or_false, not_or]; omega))
    · by_cases hd5 : i = i5
      · rw [hd5]; refine ⟨_, _, _, _, _, hU15, hU16, hU17, ?_⟩; first | exact hp.2
      · exact iD_fr (hC.2.1 i hi) (hun _ (by simp only [List.mem_cons, List.not_mem_nil, or_false, not_or]; omega)) (hun _ (by simp only [List.mem_cons, List.not_mem_nil, or_false, not_or]; omega)) (hun _ (by simp only [List.mem_cons, List.not_mem_nil, or_false, not_or]; omega))
    · exact iO_fr hC.2.2 (hun _ (by simp only [List.mem_cons, List.not_mem_nil, or_false, not_or]; omega)) (hun _ (by simp only [List.mem_cons, List.not_mem_nil, or_false, not_or]; omega)) (hun _ (by simp only [List.mem_cons, List.not_mem_nil, or_false, not_or]; omega))
    · have hG := hR.2.2.2.2.2.2.2.2.2.2.2.2.2.2.2.2.2.2.2.2.2.2.2.2.2.2.2.2.2.2.2.2.2.2.2.2.2.2.2.2.2.2.2.2.2.2.2.2.2.2.2.2.2.2.2.2.2.2.2.2.2.2.2.2.2.2.2.2.2.2.2.2.2.2.2.2.2
      have fW : ∀ i, i < 10 → ¬ i = i5 → cWr g q u (66 + 5 * i) (zsW σ i) := fun i hi hk5 => cWr_fr (hS1 i hi) (hun _ (by simp only [List.mem_cons, List.not_mem_nil, or_false, not_or]; omega)) (hun _ (by simp only [List.mem_cons, List.not_mem_nil, or_false, not_or]; omega))
      have fD : ∀ i, i < 10 → ¬ i = i5 → cDr g q u (68 + 5 * i) (zsD σ i) := fun i hi hk5 => cDr_fr (hS2 i hi) (hun _ (by simp only [List.mem_cons, List.not_mem_nil, or_false, not_or]; omega)) (hun _ (by simp only [List.mem_cons, List.not_mem_nil, or_false, not_or]; omega)) (hun _ (by simp only [List.mem_cons, List.not_mem_nil, or_false, not_or]; omega))
      have fT : cTp g q u (zsL σ) (zsB σ) := (cTp_fr hS5 (hun _ (by simp only [List.mem_cons, List.not_mem_nil, or_false, not_or]; omega)) (hun _ (by simp only [List.mem_cons, List.not_mem_nil, or_false, not_or]; omega)))
      have fP : cPp g q u (zsP σ) := (cPp_fr hS6 (hun _ (by simp only [List.mem_cons, List.not_mem_nil, or_false, not_or]; omega)) (hun _ (by simp only [List.mem_cons, List.not_mem_nil, or_false, not_or]; omega)))
      have fA : cAr g q u (zsA σ) := (cAr_fr hS7 (fun i _ _ => (hun _ (by simp only [List.mem_cons, List.not_mem_nil, or_false, not_or]; omega))) (fun i _ _ => (hun _ (by simp only [List.mem_cons, List.not_mem_nil, or_false, not_or]; omega))))
      have hv := V_NH_convert (x2 := x2) (x3 := x3) (x4 := x4) (x5 := x5) (t0_0 := t0_0) (t0_1 := t0_1) (t1_0 := t1_0) (t1_1 := t1_1) (t2_0 := t2_0) (t3_0 := t3_0) (t3_1 := t3_1) (t4_0 := t4_0) (t5_0 := t5_0) (t5_1 := t5_1) (t6_0 := t6_0) (t7_0 := t7_0) (t7_1 := t7_1) (t8_0 := t8_0) (t9_0 := t9_0) (t9_1 := t9_1) (t10_0 := t10_0) (t11_0 := t11_0) (t12_0 := t12_0) (t13_0 := t13_0) (t13_1 := t13_1) (t14_0 := t14_0) (t15_0 := t15_0) (t15_1 := t15_1) (t16_0 := t16_0) (t16_1 := t16_1) (t17_0 := t17_0) (t18_0 := t18_0) (t18_1 := t18_1) (t19_0 := t19_0) (t20_0 := t20_0) (t20_1 := t20_1) (t21_0 := t21_0) (t21_1 := t21_1) (t22_0 := t22_0) gw3 (hk0.1 _ hi3) gd3 gw5 gd5
      rw [← hG] at hv
      rcases hv with ⟨ok, z, eV, eN, w1, w2⟩ | ⟨ok, k, ⟨o, h1, hv⟩, eV, eN, w2⟩ | ⟨ok, k, ⟨o, h1, hv⟩, eV, eN, w1⟩ | ⟨ok, k, z, ⟨y, h1, eV⟩, eN, w1, w2⟩ | ⟨ok, k, z, ⟨y, h1, eN⟩, eV, w1, w2⟩
      · exact absurd (show (0 : Int32) = 1 from z) (by decide)
      · rcases hv with ⟨v, o1, o2, z, o3⟩ | ⟨o1, z, o3⟩
        · have e33 := e3 (x_reg ok.1.2)
          have e55 := e5 (x_reg ok.2.2)
          replace eV : u11_0 = t11_0 := eV
          replace eN : u12_0 = t12_0 := eN
          rw [hV9 _ (x_reg ok.1.2), hN9 _ (x_reg ok.1.2), e33] at h1
          refine ⟨(updW (zsW σ) x5.toNatClampNeg v, zsD σ, zsV σ, zsN σ, zsL σ, zsB σ, zsP σ, zsA σ), Or.inr ⟨ok, Or.inl ⟨k, o, h1, Or.inl ⟨v, o1, o2, rfl, rfl⟩⟩⟩, ?_⟩
          refine ⟨(fun i hi => ?_), (fun i hi => ?_), ⟨_, hU11, fun i hi => by rw [eV]; exact hV9 i hi⟩, ⟨_, hU12, fun i hi => by rw [eN]; exact hN9 i hi⟩, fT, fP, fA⟩
          · show cWr g q u (66 + 5 * i) (updW (zsW σ) x5.toNatClampNeg v i)
            unfold updW
            by_cases hk5 : i = i5
            · rw [if_pos (by omega), hk5]; exact ⟨_, _, _, hU13, hU14, o3⟩
            · rw [if_neg (by omega)]; exact fW i hi hk5
          · by_cases hk5 : i = i5
            · rw [hk5]; exact ⟨_, _, _, _, _, hU15, hU16, hU17, w2⟩
            · exact fD i hi hk5
        · exact absurd (show (0 : Int32) = 2 from z) (by decide)
      · rcases hv with ⟨v, o1, o2, z, o3⟩ | ⟨o1, z, o3⟩
        · have e33 := e3 (x_reg ok.1.2)
          have e55 := e5 (x_reg ok.2.2)
          replace eV : u11_0 = t11_0 := eV
          replace eN : u12_0 = t12_0 := eN
          rw [hV9 _ (x_reg ok.1.2), hN9 _ (x_reg ok.1.2), e33] at h1
          refine ⟨(zsW σ, updD (zsD σ) x5.toNatClampNeg v, zsV σ, zsN σ, zsL σ, zsB σ, zsP σ, zsA σ), Or.inr ⟨ok, Or.inr (Or.inl ⟨k, o, h1, Or.inl ⟨v, o1, o2, rfl, rfl⟩⟩)⟩, ?_⟩
          refine ⟨(fun i hi => ?_), (fun i hi => ?_), ⟨_, hU11, fun i hi => by rw [eV]; exact hV9 i hi⟩, ⟨_, hU12, fun i hi => by rw [eN]; exact hN9 i hi⟩, fT, fP, fA⟩
          · by_cases hk5 : i = i5
            · rw [hk5]; exact ⟨_, _, _, hU13, hU14, w1⟩
            · exact fW i hi hk5
          · show cDr g q u (68 + 5 * i) (updD (zsD σ) x5.toNatClampNeg v i)
            unfold updD
            by_cases hk5 : i = i5
            · rw [if_pos (by omega), hk5]; exact ⟨_, _, _, _, _, hU15, hU16, hU17, o3⟩
            · rw [if_neg (by omega)]; exact fD i hi hk5
        · exact absurd (show (0 : Int32) = 2 from z) (by decide)
      · have e33 := e3 (x_reg ok.1.2)
        have e55 := e5 (x_reg ok.2.2)
        replace eV : u11_0 = vp_updL t11_0 x5.toNatClampNeg y := eV
        replace eN : u12_0 = t12_0 := eN
        rw [hV9 _ (x_reg ok.1.2), hN9 _ (x_reg ok.1.2), e33] at h1
        refine ⟨(zsW σ, zsD σ, vp_updL (zsV σ) x5.toNatClampNeg y, zsN σ, zsL σ, zsB σ, zsP σ, zsA σ), Or.inr ⟨ok, Or.inr (Or.inr (Or.inl ⟨k, rfl, y, h1, rfl⟩))⟩, ?_⟩
        refine ⟨(fun i hi => ?_), (fun i hi => ?_), ⟨_, hU11, fun i hi => by rw [eV]; exact x_up hV9 _ _ i hi⟩, ⟨_, hU12, fun i hi => by rw [eN]; exact hN9 i hi⟩, fT, fP, fA⟩
        · by_cases hk5 : i = i5
          · rw [hk5]; exact ⟨_, _, _, hU13, hU14, w1⟩
          · exact fW i hi hk5
        · by_cases hk5 : i = i5
          · rw [hk5]; exact ⟨_, _, _, _, _, hU15, hU16, hU17, w2⟩
          · exact fD i hi hk5
      · have e33 := e3 (x_reg ok.1.2)
        have e55 := e5 (x_reg ok.2.2)
        replace eV : u11_0 = t11_0 := eV
        replace eN : u12_0 = vp_updL t12_0 x5.toNatClampNeg y := eN
        rw [hV9 _ (x_reg ok.1.2), hN9 _ (x_reg ok.1.2), e33] at h1
        refine ⟨(zsW σ, zsD σ, zsV σ, vp_updL (zsN σ) x5.toNatClampNeg y, zsL σ, zsB σ, zsP σ, zsA σ), Or.inr ⟨ok, Or.inr (Or.inr (Or.inr (⟨k, rfl, y, h1, rfl⟩)))⟩, ?_⟩
        refine ⟨(fun i hi => ?_), (fun i hi => ?_), ⟨_, hU11, fun i hi => by rw [eV]; exact hV9 i hi⟩, ⟨_, hU12, fun i hi => by rw [eN]; exact x_up hN9 _ _ i hi⟩, fT, fP, fA⟩
        · by_cases hk5 : i = i5
          · rw [hk5]; exact ⟨_, _, _, hU13, hU14, w1⟩
          · exact fW i hi hk5
        · by_cases hk5 : i = i5
          · rw [hk5]; exact ⟨_, _, _, _, _, hU15, hU16, hU17, w2⟩
          · exact fD i hi hk5
  · rintro E u ⟨c, hE, hc, hI2, hun, u0_0, u0_1, u1_0, u1_1, u2_0, u3_0, u3_1, u4_0, u5_0, u5_1, u6_0, u7_0, u7_1, u8_0, u9_0, u9_1, u10_0, u11_0, u12_0, u18_0, u18_1, u19_0, u20_0, u20_1, u21_0, u21_1, u22_0, hU0, hU1, hU2, hU3, hU4, hU5, hU6, hU7, hU8, hU9, hU10, hU11, hU12, hU13, hU14, hU15, hU16, hU17, hF⟩
    have hp := hq.2
    rw [← hF] at hp
    have hk := K_NH_convert (x2 := x2) (x3 := x3) (x4 := x4) (x5 := x5) (t0_0 := t0_0) (t0_1 := t0_1) (t1_0 := t1_0) (t1_1 := t1_1) (t2_0 := t2_0) (t3_0 := t3_0) (t3_1 := t3_1) (t4_0 := t4_0) (t5_0 := t5_0) (t5_1 := t5_1) (t6_0 := t6_0) (t7_0 := t7_0) (t7_1 := t7_1) (t8_0 := t8_0) (t9_0 := t9_0) (t9_1 := t9_1) (t10_0 := t10_0) (t11_0 := t11_0) (t12_0 := t12_0) (t13_0 := t13_0) (t13_1 := t13_1) (t14_0 := t14_0) (t15_0 := t15_0) (t15_1 := t15_1) (t16_0 := t16_0) (t16_1 := t16_1) (t17_0 := t17_0) (t18_0 := t18_0) (t18_1 := t18_1) (t19_0 := t19_0) (t20_0 := t20_0) (t20_1 := t20_1) (t21_0 := t21_0) (t21_1 := t21_1) (t22_0 := t22_0)
    rw [← hF] at hk
    replace hk : kC12 c := hk
    refine ⟨c, hE, hk.resolve_left hc, ⟨hI2, ⟨fun i hi => ?_, fun i hi => ?_, ?_⟩, fun i hi => hun i (by simp only [List.mem_cons, List.not_mem_nil, or_false, not_or]; omega)⟩, ?_⟩
    · by_cases hk5 : i = i5
      · rw [hk5]; refine ⟨_, _, _, hU13, hU14, ?_⟩; first | exact hp.1
      · exact iW_fr (hC.1 i hi) (hun _ (by simp only [List.mem_cons, List.not_mem_nil, or_false, not_or]; omega)) (hun _ (by simp only [List.mem_cons, List.not_mem_nil, or_false, not_or]; omega))
    · by_cases hd5 : i = i5
      · rw [hd5]; refine ⟨_, _, _, _, _, hU15, hU16, hU17, ?_⟩; first | exact hp.2
      · exact iD_fr (hC.2.1 i hi) (hun _ (by simp only [List.mem_cons, List.not_mem_nil, or_false, not_or]; omega)) (hun _ (by simp only [List.mem_cons, List.not_mem_nil, or_false, not_or]; omega)) (hun _ (by simp only [List.mem_cons, List.not_mem_nil, or_false, not_or]; omega))
    · exact iO_fr hC.2.2 (hun _ (by simp only [List.mem_cons, List.not_mem_nil, or_false, not_or]; omega)) (hun _ (by simp only [List.mem_cons, List.not_mem_nil, or_false, not_or]; omega)) (hun _ (by simp only [List.mem_cons, List.not_mem_nil, or_false, not_or]; omega))
    · have hG := hF
      have fW : ∀ i, i < 10 → ¬ i = i5 → cWr g q u (66 + 5 * i) (zsW σ i) := fun i hi hk5 => cWr_fr (hS1 i hi) (hun _ (by simp only [List.mem_cons, List.not_mem_nil, or_false, not_or]; omega)) (hun _ (by simp only [List.mem_cons, List.not_mem_nil, or_false, not_or]; omega))
      have fD : ∀ i, i < 10 → ¬ i = i5 → cDr g q u (68 + 5 * i) (zsD σ i) := fun i hi hk5 => cDr_fr (hS2 i hi) (hun _ (by simp only [List.mem_cons, List.not_mem_nil, or_false, not_or]; omega)) (hun _ (by simp only [List.mem_cons, List.not_mem_nil, or_false, not_or]; omega)) (hun _ (by simp only [List.mem_cons, List.not_mem_nil, or_false, not_or]; omega))
      have fT : cTp g q u (zsL σ) (zsB σ) := (cTp_fr hS5 (hun _ (by simp only [List.mem_cons, List.not_mem_nil, or_false, not_or]; omega)) (hun _ (by simp only [List.mem_cons, List.not_mem_nil, or_false, not_or]; omega)))
      have fP : cPp g q u (zsP σ) := (cPp_fr hS6 (hun _ (by simp only [List.mem_cons, List.not_mem_nil, or_false, not_or]; omega)) (hun _ (by simp only [List.mem_cons, List.not_mem_nil, or_false, not_or]; omega)))
      have fA : cAr g q u (zsA σ) := (cAr_fr hS7 (fun i _ _ => (hun _ (by simp only [List.mem_cons, List.not_mem_nil, or_false, not_or]; omega))) (fun i _ _ => (hun _ (by simp only [List.mem_cons, List.not_mem_nil, or_false, not_or]; omega))))
      have hv := V_NH_convert (x2 := x2) (x3 := x3) (x4 := x4) (x5 := x5) (t0_0 := t0_0) (t0_1 := t0_1) (t1_0 := t1_0) (t1_1 := t1_1) (t2_0 := t2_0) (t3_0 := t3_0) (t3_1 := t3_1) (t4_0 := t4_0) (t5_0 := t5_0) (t5_1 := t5_1) (t6_0 := t6_0) (t7_0 := t7_0) (t7_1 := t7_1) (t8_0 := t8_0) (t9_0 := t9_0) (t9_1 := t9_1) (t10_0 := t10_0) (t11_0 := t11_0) (t12_0 := t12_0) (t13_0 := t13_0) (t13_1 := t13_1) (t14_0 := t14_0) (t15_0 := t15_0) (t15_1 := t15_1) (t16_0 := t16_0) (t16_1 := t16_1) (t17_0 := t17_0) (t18_0 := t18_0) (t18_1 := t18_1) (t19_0 := t19_0) (t20_0 := t20_0) (t20_1 := t20_1) (t21_0 := t21_0) (t21_1 := t21_1) (t22_0 := t22_0) gw3 (hk0.1 _ hi3) gd3 gw5 gd5
      rw [← hG] at hv
      rcases hv with ⟨ok, z, eV, eN, w1, w2⟩ | ⟨ok, k, ⟨o, h1, hv⟩, eV, eN, w2⟩ | ⟨ok, k, ⟨o, h1, hv⟩, eV, eN, w1⟩ | ⟨ok, k, z, ⟨y, h1, eV⟩, eN, w1, w2⟩ | ⟨ok, k, z, ⟨y, h1, eN⟩, eV, w1, w2⟩
      · replace eV : u11_0 = t11_0 := eV
        replace eN : u12_0 = t12_0 := eN
        refine ⟨Or.inl ⟨ok, z, rfl⟩, ?_⟩
        refine ⟨(fun i hi => ?_), (fun i hi => ?_), ⟨_, hU11, fun i hi => by rw [eV]; exact hV9 i hi⟩, ⟨_, hU12, fun i hi => by rw [eN]; exact hN9 i hi⟩, fT, fP, fA⟩
        · by_cases hk5 : i = i5
          · rw [hk5]; exact ⟨_, _, _, hU13, hU14, w1⟩
          · exact fW i hi hk5
        · by_cases hk5 : i = i5
          · rw [hk5]; exact ⟨_, _, _, _, _, hU15, hU16, hU17, w2⟩
          · exact fD i hi hk5
      · rcases hv with ⟨v, o1, o2, z, o3⟩ | ⟨o1, z, o3⟩
        · exact absurd z hc
        · have e33 := e3 (x_reg ok.1.2)
          have e55 := e5 (x_reg ok.2.2)
          replace eV : u11_0 = t11_0 := eV
          replace eN : u12_0 = t12_0 := eN
          rw [hV9 _ (x_reg ok.1.2), hN9 _ (x_reg ok.1.2), e33] at h1
          refine ⟨Or.inr ⟨ok, Or.inl ⟨k, o, h1, Or.inr ⟨o1, z, rfl⟩⟩⟩, ?_⟩
          refine ⟨(fun i hi => ?_), (fun i hi => ?_), ⟨_, hU11, fun i hi => by rw [eV]; exact hV9 i hi⟩, ⟨_, hU12, fun i hi => by rw [eN]; exact hN9 i hi⟩, fT, fP, fA⟩
          · by_cases hk5 : i = i5
            · rw [hk5]; exact ⟨_, _, _, hU13, hU14, o3⟩
            · exact fW i hi hk5
          · by_cases hk5 : i = i5
            · rw [hk5]; exact ⟨_, _, _, _, _, hU15, hU16, hU17, w2⟩
            · exact fD i hi hk5
      · rcases hv with ⟨v, o1, o2, z, o3⟩ | ⟨o1, z, o3⟩
        · exact absurd z hc
        · have e33 := e3 (x_reg ok.1.2)
          have e55 := e5 (x_reg ok.2.2)
          replace eV : u11_0 = t11_0 := eV
          replace eN : u12_0 = t12_0 := eN
          rw [hV9 _ (x_reg ok.1.2), hN9 _ (x_reg ok.1.2), e33] at h1
          refine ⟨Or.inr ⟨ok, Or.inr (Or.inl ⟨k, o, h1, Or.inr ⟨o1, z, rfl⟩⟩)⟩, ?_⟩
          refine ⟨(fun i hi => ?_), (fun i hi => ?_), ⟨_, hU11, fun i hi => by rw [eV]; exact hV9 i hi⟩, ⟨_, hU12, fun i hi => by rw [eN]; exact hN9 i hi⟩, fT, fP, fA⟩
          · by_cases hk5 : i = i5
            · rw [hk5]; exact ⟨_, _, _, hU13, hU14, w1⟩
            · exact fW i hi hk5
          · by_cases hk5 : i = i5
            · rw [hk5]; exact ⟨_, _, _, _, _, hU15, hU16, hU17, o3⟩
            · exact fD i hi hk5
      · exact absurd z hc
      · exact absurd z hc
theorem DW_convert (l : Launch) (D : va_G) (g : Nat → ClassId) (q : Nat → Nat) (ws : va_W) (x2 : Int32) (x3 : Int32) (x4 : Int32) (x5 : Int32) (hlt : l.stackTraces = false) (hI : q_I (nsh g q) q ws) (hC : iC g q ws) {σ : zSt} (hS : sC g q ws σ) (hk0 : zOk σ) : ∀ sz, q_Mx l y_NH_convert prog_1_method_16_code 5 none 9 4 24 D g [.ref (q 0), .int x2, .int x3, .int x4, .int x5] ws sz (va_Qv (fun u => iP g q ws u ∧ ∃ σ2, rCv x2 x3 x4 x5 σ 0 σ2 ∧ sC g q u σ2) (q_B D g (va_A ws sz)) (va_A ws sz)) (fun E u => ∃ c : Int32, E = qE c ∧ (c = 1 ∨ c = 2) ∧ iP g q ws u ∧ rCv x2 x3 x4 x5 σ c σ ∧ sC g q u σ) := by
  obtain ⟨i3, hi3, e3⟩ := iX x3
  obtain ⟨i5, hi5, e5⟩ := iX x5
  exact CW_convert l D g q ws x2 x3 x4 x5 i3 hi3 i5 hi5 e3 e5 hlt hI hC hS hk0
set_option maxRecDepth 100000 in
set_option maxHeartbeats 4000000 in
theorem DM_convert (l : Launch) (D : va_G) (g : Nat → ClassId) (q : Nat → Nat) (ws : va_W) (x2 : Int32) (x3 : Int32) (x4 : Int32) (x5 : Int32) (hI : q_I (msh g q) q ws) (hM : iM g q ws) {th : Int32} {σ : zSt} (hS : sM g q ws th σ) (hk0 : zOk σ) : q_mV l y_NM_convert prog_14_method_32_code 5 8 0 0 D g [.ref (q 116), .int x2, .int x3, .int x4, .int x5] ws (fun u => jP g q ws u ∧ ∃ c σ2, rCv x2 x3 x4 x5 σ c σ2 ∧ sM g q u c σ2) := by
  have hM0 := hM
  obtain ⟨t3_0, t4_0, hT3, hT4, hW⟩ := hM.1
  obtain ⟨t11_0, t12_0, t13_0, t14_0, hT11, hT12, hT13, hT14, hD⟩ := hM.2.1
  obtain ⟨t27_0, hT27, hB⟩ := hM.2.2.2
  obtain ⟨t0_0, t0_1, t0_2, hT0, bT0⟩ := n_o116 hI
  obtain ⟨t1_0, t1_1, t1_2, t1_3, t1_4, t1_5, t1_6, hT1, bT1⟩ := n_o119 hI
  obtain ⟨t2_0, hT2, -⟩ := n_ai hI (n_s120 g q)
  obtain ⟨t5_0, hT5, -⟩ := n_ai hI (n_s123 g q)
  obtain ⟨t6_0, hT6, -⟩ := n_ai hI (n_s124 g q)
  obtain ⟨t7_0, hT7, -⟩ := n_ai hI (n_s128 g q)
  obtain ⟨t8_0, hT8, -⟩ := n_ai hI (n_s133 g q)
  obtain ⟨t9_0, t9_1, t9_2, t9_3, t9_4, t9_5, t9_6, t9_7, t9_8, t9_9, t9_10, hT9, bT9⟩ := n_o134 hI
  obtain ⟨t10_0, hT10, -⟩ := n_ai hI (n_s135 g q)
  obtain ⟨t15_0, hT15, -⟩ := n_ai hI (n_s140 g q)
  obtain ⟨t16_0, hT16, -⟩ := n_ai hI (n_s144 g q)
  obtain ⟨t17_0, t17_1, t17_2, t17_3, t17_4, t17_5, t17_6, t17_7, t17_8, t17_9, t17_10, hT17, bT17⟩ := n_o145 hI
  obtain ⟨t18_0, hT18, -⟩ := n_ai hI (n_s146 g q)
  obtain ⟨t19_0, hT19, -⟩ := n_ai hI (n_s147 g q)
  obtain ⟨t20_0, hT20, -⟩ := n_ai hI (n_s148 g q)
  obtain ⟨t21_0, hT21, -⟩ := n_ai hI (n_s151 g q)
  obtain ⟨t22_0, hT22, -⟩ := n_ai hI (n_s152 g q)
  obtain ⟨t23_0, t23_1, t23_2, t23_3, t23_4, t23_5, t23_6, t23_7, t23_8, t23_9, t23_10, t23_11, t23_12, t23_13, hT23, bT23⟩ := n_o153 hI
  obtain ⟨t24_0, hT24, -⟩ := n_ai hI (n_s154 g q)
  obtain ⟨t25_0, hT25, -⟩ := n_ai hI (n_s155 g q)
  obtain ⟨t26_0, hT26, -⟩ := n_ai hI (n_s156 g q)
  obtain ⟨hS1, hS2, hS3, hS4, hS5⟩ := hS
  obtain ⟨s9, p9, r9, r8, y0, y1, y2, jL9, jT9, jP9⟩ := hS4
  obtain ⟨-, rfl, rfl⟩ := x_116 hT0 y0
  obtain ⟨f0, f1, ya, yb, hw9⟩ := hS1
  obtain rfl := x_ri hT3 ya
  obtain rfl := x_ri hT4 yb
  have hS1 : mWr g q ws (zsW σ) := ⟨_, _, ya, yb, hw9⟩
  obtain ⟨g0, g1, g2, g3, yc, yd, ye, yg, hd9⟩ := hS2
  obtain rfl := x_ri hT11 yc
  obtain rfl := x_ri hT12 yd
  obtain rfl := x_ri hT13 ye
  obtain rfl := x_ri hT14 yg
  have hS2 : mDr g q ws (zsD σ) := ⟨_, _, _, _, yc, yd, ye, yg, hd9⟩
  obtain ⟨f9, yf, hV9, hN9⟩ := hS3
  obtain rfl := x_rl hT27 yf
  have hS3 : mFr g q ws (zsV σ) (zsN σ) := ⟨_, yf, hV9, hN9⟩
  have hq := T_NM_convert (x2 := x2) (x3 := x3) (x4 := x4) (x5 := x5) (t0_0 := t0_0) (t0_1 := t0_1) (t0_2 := t0_2) (t1_0 := t1_0) (t1_1 := t1_1) (t1_2 := t1_2) (t1_3 := t1_3) (t1_4 := t1_4) (t1_5 := t1_5) (t1_6 := t1_6) (t2_0 := t2_0) (t3_0 := t3_0) (t4_0 := t4_0) (t5_0 := t5_0) (t6_0 := t6_0) (t7_0 := t7_0) (t8_0 := t8_0) (t9_0 := t9_0) (t9_1 := t9_1) (t9_2 := t9_2) (t9_3 := t9_3) (t9_4 := t9_4) (t9_5 := t9_5) (t9_6 := t9_6) (t9_7 := t9_7) (t9_8 := t9_8) (t9_9 := t9_9) (t9_10 := t9_10) (t10_0 := t10_0) (t11_0 := t11_0) (t12_0 := t12_0) (t13_0 := t13_0) (t14_0 := t14_0) (t15_0 := t15_0) (t16_0 := t16_0) (t17_0 := t17_0) (t17_1 := t17_1) (t17_2 := t17_2) (t17_3 := t17_3) (t17_4 := t17_4) (t17_5 := t17_5) (t17_6 := t17_6) (t17_7 := t17_7) (t17_8 := t17_8) (t17_9 := t17_9) (t17_10 := t17_10) (t18_0 := t18_0) (t19_0 := t19_0) (t20_0 := t20_0) (t21_0 := t21_0) (t22_0 := t22_0) (t23_0 := t23_0) (t23_1 := t23_1) (t23_2 := t23_2) (t23_3 := t23_3) (t23_4 := t23_4) (t23_5 := t23_5) (t23_6 := t23_6) (t23_7 := t23_7) (t23_8 := t23_8) (t23_9 := t23_9) (t23_10 := t23_10) (t23_11 := t23_11) (t23_12 := t23_12) (t23_13 := t23_13) (t24_0 := t24_0) (t25_0 := t25_0) (t26_0 := t26_0) (t27_0 := t27_0) hW hD hB
  refine q_mVw (X_NM_convert l D g q ws x2 x3 x4 x5 hI t0_0 t0_1 t0_2 hT0 t1_0 t1_1 t1_2 t1_3 t1_4 t1_5 t1_6 hT1 t2_0 hT2 t3_0 hT3 t4_0 hT4 t5_0 hT5 t6_0 hT6 t7_0 hT7 t8_0 hT8 t9_0 t9_1 t9_2 t9_3 t9_4 t9_5 t9_6 t9_7 t9_8 t9_9 t9_10 hT9 t10_0 hT10 t11_0 hT11 t12_0 hT12 t13_0 hT13 t14_0 hT14 t15_0 hT15 t16_0 hT16 t17_0 t17_1 t17_2 t17_3 t17_4 t17_5 t17_6 t17_7 t17_8 t17_9 t17_10 hT17 t18_0 hT18 t19_0 hT19 t20_0 hT20 t21_0 hT21 t22_0 hT22 t23_0 t23_1 t23_2 t23_3 t23_4 t23_5 t23_6 t23_7 t23_8 t23_9 t23_10 t23_11 t23_12 t23_13 hT23 t24_0 hT24 t25_0 hT25 t26_0 hT26 t27_0 hT27 ⟨trivial, hq.1⟩) ?_
  rintro u ⟨hI2, hun, hX⟩
  obtain ⟨u0_0, hX⟩ := hX
  obtain ⟨u1_0, hX⟩ := hX
  obtain ⟨u1_1, hX⟩ := hX
  obtain ⟨u1_2, hX⟩ := hX
  obtain ⟨u1_3, hX⟩ := hX
  obtain ⟨u1_4, hX⟩ := hX
  obtain ⟨u1_5, hX⟩ := hX
  obtain ⟨u1_6, hX⟩ := hX
  obtain ⟨u2_0, hX⟩ := hX
  obtain ⟨u3_0, hX⟩ := hX
  obtain ⟨u4_0, hX⟩ := hX
  obtain ⟨u5_0, hX⟩ := hX
  obtain ⟨u6_0, hX⟩ := hX
  obtain ⟨u7_0, hX⟩ := hX
  obtain ⟨u8_0, hX⟩ := hX
  obtain ⟨u9_0, hX⟩ := hX
  obtain ⟨u9_1, hX⟩ := hX
  obtain ⟨u9_2, hX⟩ := hX
  obtain ⟨u9_3, hX⟩ := hX
  obtain ⟨u9_4, hX⟩ := hX
  obtain ⟨u9_5, hX⟩ := hX
  obtain ⟨u9_6, hX⟩ := hX
  obtain ⟨u9_7, hX⟩ := hX
  obtain ⟨u9_8, hX⟩ := hX
  obtain ⟨u9_9, hX⟩ := hX
  obtain ⟨u9_10, hX⟩ := hX
  obtain ⟨u10_0, hX⟩ := hX
  obtain ⟨u11_0, hX⟩ := hX
  obtain ⟨u12_0, hX⟩ := hX
  obtain ⟨u13_0, hX⟩ := hX
  obtain ⟨u14_0, hX⟩ := hX
  obtain ⟨u15_0, hX⟩ := hX
  obtain ⟨u16_0, hX⟩ := hX
  obtain ⟨u17_0, hX⟩ := hX
  obtain ⟨u17_1, hX⟩ := hX
  obtain ⟨u17_2, hX⟩ := hX
  obtain ⟨u17_3, hX⟩ := hX
  obtain ⟨u17_4, hX⟩ := hX
  obtain ⟨u17_5, hX⟩ := hX
  obtain ⟨u17_6, hX⟩ := hX
  obtain ⟨u17_7, hX⟩ := hX
  obtain ⟨u17_8, hX⟩ := hX
  obtain ⟨u17_9, hX⟩ := hX
  obtain ⟨u17_10, hX⟩ := hX
  obtain ⟨u18_0, hX⟩ := hX
  obtain ⟨u19_0, hX⟩ := hX
  obtain ⟨u20_0, hX⟩ := hX
  obtain ⟨u21_0, hX⟩ := hX
  obtain ⟨u22_0, hX⟩ := hX
  obtain ⟨u23_0, hX⟩ := hX
  obtain ⟨u23_1, hX⟩ := hX
  obtain ⟨u23_2, hX⟩ := hX
  obtain ⟨u23_3, hX⟩ := hX
  obtain ⟨u23_4, hX⟩ := hX
  obtain ⟨u23_5, hX⟩ := hX
  obtain ⟨u23_6, hX⟩ := hX
  obtain ⟨u23_7, hX⟩ := hX
  obtain ⟨u23_8, hX⟩ := hX
  obtain ⟨u23_9, hX⟩ := hX
  obtain ⟨u23_10, hX⟩ := hX
  obtain ⟨u23_11, hX⟩ := hX
  obtain ⟨u23_12, hX⟩ := hX
  obtain ⟨u23_13, hX⟩ := hX
  obtain ⟨u24_0, hX⟩ := hX
  obtain ⟨u25_0, hX⟩ := hX
  obtain ⟨u26_0, hX⟩ := hX
  obtain ⟨u27_0, hX⟩ := hX
  have hU3 := hX.2.2.2.1
  have hU4 := hX.2.2.2.2.1
  have hU11 := hX.2.2.2.2.2.2.2.2.2.2.2.1
  have hU12 := hX.2.2.2.2.2.2.2.2.2.2.2.2.1
  have hU13 := hX.2.2.2.2.2.2.2.2.2.2.2.2.2.1
  have hU14 := hX.2.2.2.2.2.2.2.2.2.2.2.2.2.2.1
  have hU27 := hX.2.2.2.2.2.2.2.2.2.2.2.2.2.2.2.2.2.2.2.2.2.2.2.2.2.2.2.1
  have hR := hX.2.2.2.2.2.2.2.2.2.2.2.2.2.2.2.2.2.2.2.2.2.2.2.2.2.2.2.2
  have hp := hq.2
  rw [← hR.2.2.2.2.2.2.2.2.2.2.2.2.2.2.2.2.2.2.2.2.2.2.2.2.2.2.2.2.2.2.2.2.2.2.2.2.2.2.2.2.2.2.2.2.2] at hp
  refine ⟨⟨hI2, ⟨⟨_, _, hU3, hU4, hp.1⟩, ⟨_, _, _, _, hU11, hU12, hU13, hU14, hp.2.1⟩, jZ_fr hM0.2.2.1 (hun 160 (by decide)), ⟨_, hU27, hp.2.2⟩⟩, jF_un hun (by decide)⟩, ?_⟩
  have hG := hR.2.2.2.2.2.2.2.2.2.2.2.2.2.2.2.2.2.2.2.2.2.2.2.2.2.2.2.2.2.2.2.2.2.2.2.2.2.2.2.2.2.2.2.2.2
  have hU0 := hX.1
  have hv := V_NM_convert (x2 := x2) (x3 := x3) (x4 := x4) (x5 := x5) (t0_0 := t0_0) (t0_1 := t0_1) (t0_2 := t0_2) (t1_0 := t1_0) (t1_1 := t1_1) (t1_2 := t1_2) (t1_3 := t1_3) (t1_4 := t1_4) (t1_5 := t1_5) (t1_6 := t1_6) (t2_0 := t2_0) (t3_0 := t3_0) (t4_0 := t4_0) (t5_0 := t5_0) (t6_0 := t6_0) (t7_0 := t7_0) (t8_0 := t8_0) (t9_0 := t9_0) (t9_1 := t9_1) (t9_2 := t9_2) (t9_3 := t9_3) (t9_4 := t9_4) (t9_5 := t9_5) (t9_6 := t9_6) (t9_7 := t9_7) (t9_8 := t9_8) (t9_9 := t9_9) (t9_10 := t9_10) (t10_0 := t10_0) (t11_0 := t11_0) (t12_0 := t12_0) (t13_0 := t13_0) (t14_0 := t14_0) (t15_0 := t15_0) (t16_0 := t16_0) (t17_0 := t17_0) (t17_1 := t17_1) (t17_2 := t17_2) (t17_3 := t17_3) (t17_4 := t17_4) (t17_5 := t17_5) (t17_6 := t17_6) (t17_7 := t17_7) (t17_8 := t17_8) (t17_9 := t17_9) (t17_10 := t17_10) (t18_0 := t18_0) (t19_0 := t19_0) (t20_0 := t20_0) (t21_0 := t21_0) (t22_0 := t22_0) (t23_0 := t23_0) (t23_1 := t23_1) (t23_2 := t23_2) (t23_3 := t23_3) (t23_4 := t23_4) (t23_5 := t23_5) (t23_6 := t23_6) (t23_7 := t23_7) (t23_8 := t23_8) (t23_9 := t23_9) (t23_10 := t23_10) (t23_11 := t23_11) (t23_12 := t23_12) (t23_13 := t23_13) (t24_0 := t24_0) (t25_0 := t25_0) (t26_0 := t26_0) (t27_0 := t27_0) (wd := yu (zsV σ x3.toNatClampNeg)) (nr := yu (zsN σ x3.toNatClampNeg)) hw9 hd9 (fun r9 e9 => x_bw hV9 hk0.2.2.1 r9 e9) (fun r9 e9 => x_bn hN9 hk0.2.2.2.1 r9 e9)
  rw [← hG] at hv
  rcases hv with ⟨ok, z, eW0, eW1, eD0, eD1, eD2, eD3, eF⟩ | ⟨ok, ⟨k, ⟨o, h1, hv⟩, eD0, eD1, eD2, eD3, eF⟩ | ⟨k, ⟨o, h1, hv⟩, eW0, eW1, eF⟩ | ⟨k, z, ⟨y, h1, eF⟩, eW0, eW1, eD0, eD1, eD2, eD3⟩ | ⟨k, z, ⟨y, h1, eF⟩, eW0, eW1, eD0, eD1, eD2, eD3⟩⟩
  · replace z : u0_0 = 1 := z
    replace eW0 : u3_0 = t3_0 := eW0
    replace eW1 : u4_0 = t4_0 := eW1
    replace eD0 : u11_0 = t11_0 := eD0
    replace eD1 : u12_0 = t12_0 := eD1
    replace eD2 : u13_0 = t13_0 := eD2
    replace eD3 : u14_0 = t14_0 := eD3
    replace eF : u27_0 = t27_0 := eF
    exact ⟨1, σ, Or.inl ⟨ok, rfl, rfl⟩, ⟨⟨_, _, hU3, hU4, (by rw [eW0, eW1]; exact hw9)⟩, ⟨_, _, _, _, hU11, hU12, hU13, hU14, (by rw [eD0, eD1, eD2, eD3]; exact hd9)⟩, ⟨_, hU27, fun i hi => by rw [eF]; exact hV9 i hi, fun i hi => by rw [eF]; exact hN9 i hi⟩, ⟨_, _, _, _, by rw [← z]; exact hU0, (hun 117 (by decide)).trans y1, (hun 118 (by decide)).trans y2, jL9, jT9, jP9⟩, (mAr_fr hS5 (hun 157 (by decide)) (hun 159 (by decide)) (hun 160 (by decide)) (hun 161 (by decide)) (hun 162 (by decide)))⟩⟩
  · rcases hv with ⟨v, o1, o2, z, o3⟩ | ⟨o1, z, o3⟩
    · replace z : u0_0 = 0 := z
      replace eD0 : u11_0 = t11_0 := eD0
      replace eD1 : u12_0 = t12_0 := eD1
      replace eD2 : u13_0 = t13_0 := eD2
      replace eD3 : u14_0 = t14_0 := eD3
      replace eF : u27_0 = t27_0 := eF
      exact ⟨0, (updW (zsW σ) x5.toNatClampNeg v, zsD σ, zsV σ, zsN σ, zsL σ, zsB σ, zsP σ, zsA σ), Or.inr ⟨ok, Or.inl ⟨k, o, h1, Or.inl ⟨v, o1, o2, rfl, rfl⟩⟩⟩, ⟨⟨_, _, hU3, hU4, o3⟩, ⟨_, _, _, _, hU11, hU12, hU13, hU14, (by rw [eD0, eD1, eD2, eD3]; exact hd9)⟩, ⟨_, hU27, fun i hi => by rw [eF]; exact hV9 i hi, fun i hi => by rw [eF]; exact hN9 i hi⟩, ⟨_, _, _, _, by rw [← z]; exact hU0, (hun 117 (by decide)).trans y1, (hun 118 (by decide)).trans y2, jL9, jT9, jP9⟩, (mAr_fr hS5 (hun 157 (by decide)) (hun 159 (by decide)) (hun 160 (by decide)) (hun 161 (by decide)) (hun 162 (by decide)))⟩⟩
    · replace z : u0_0 = 2 := z
      replace eD0 : u11_0 = t11_0 := eD0
      replace eD1 : u12_0 = t12_0 := eD1
      replace eD2 : u13_0 = t13_0 := eD2
      replace eD3 : u14_0 = t14_0 := eD3
      replace eF : u27_0 = t27_0 := eF
      exact ⟨2, σ, Or.inr ⟨ok, Or.inl ⟨k, o, h1, Or.inr ⟨o1, rfl, rfl⟩⟩⟩, ⟨⟨_, _, hU3, hU4, o3⟩, ⟨_, _, _, _, hU11, hU12, hU13, hU14, (by rw [eD0, eD1, eD2, eD3]; exact hd9)⟩, ⟨_, hU27, fun i hi => by rw [eF]; exact hV9 i hi, fun i hi => by rw [eF]; exact hN9 i hi⟩, ⟨_, _, _, _, by rw [← z]; exact hU0, (hun 117 (by decide)).trans y1, (hun 118 (by decide)).trans y2, jL9, jT9, jP9⟩, (mAr_fr hS5 (hun 157 (by decide)) (hun 159 (by decide)) (hun 160 (by decide)) (hun 161 (by decide)) (hun 162 (by decide)))⟩⟩
  · rcases hv with ⟨v, o1, o2, z, o3⟩ | ⟨o1, z, o3⟩
    · replace z : u0_0 = 0 := z
      replace eW0 : u3_0 = t3_0 := eW0
      replace eW1 : u4_0 = t4_0 := eW1
      replace eF : u27_0 = t27_0 := eF
      exact ⟨0, (zsW σ, updD (zsD σ) x5.toNatClampNeg v, zsV σ, zsN σ, zsL σ, zsB σ, zsP σ, zsA σ), Or.inr ⟨ok, Or.inr (Or.inl ⟨k, o, h1, Or.inl ⟨v, o1, o2, rfl, rfl⟩⟩)⟩, ⟨⟨_, _, hU3, hU4, (by rw [eW0, eW1]; exact hw9)⟩, ⟨_, _, _, _, hU11, hU12, hU13, hU14, o3⟩, ⟨_, hU27, fun i hi => by rw [eF]; exact hV9 i hi, fun i hi => by rw [eF]; exact hN9 i hi⟩, ⟨_, _, _, _, by rw [← z]; exact hU0, (hun 117 (by decide)).trans y1, (hun 118 (by decide)).trans y2, jL9, jT9, jP9⟩, (mAr_fr hS5 (hun 157 (by decide)) (hun 159 (by decide)) (hun 160 (by decide)) (hun 161 (by decide)) (hun 162 (by decide)))⟩⟩
    · replace z : u0_0 = 2 := z
      replace eW0 : u3_0 = t3_0 := eW0
      replace eW1 : u4_0 = t4_0 := eW1
      replace eF : u27_0 = t27_0 := eF
      exact ⟨2, σ, Or.inr ⟨ok, Or.inr (Or.inl ⟨k, o, h1, Or.inr ⟨o1, rfl, rfl⟩⟩)⟩, ⟨⟨_, _, hU3, hU4, (by rw [eW0, eW1]; exact hw9)⟩, ⟨_, _, _, _, hU11, hU12, hU13, hU14, o3⟩, ⟨_, hU27, fun i hi => by rw [eF]; exact hV9 i hi, fun i hi => by rw [eF]; exact hN9 i hi⟩, ⟨_, _, _, _, by rw [← z]; exact hU0, (hun 117 (by decide)).trans y1, (hun 118 (by decide)).trans y2, jL9, jT9, jP9⟩, (mAr_fr hS5 (hun 157 (by decide)) (hun 159 (by decide)) (hun 160 (by decide)) (hun 161 (by decide)) (hun 162 (by decide)))⟩⟩
  · replace z : u0_0 = 0 := z
    replace eW0 : u3_0 = t3_0 := eW0
    replace eW1 : u4_0 = t4_0 := eW1
    replace eD0 : u11_0 = t11_0 := eD0
    replace eD1 : u12_0 = t12_0 := eD1
    replace eD2 : u13_0 = t13_0 := eD2
    replace eD3 : u14_0 = t14_0 := eD3
    replace eF : u27_0 = vp_updL t27_0 x5.toNatClampNeg y := eF
    exact ⟨0, (zsW σ, zsD σ, vp_updL (zsV σ) x5.toNatClampNeg y, zsN σ, zsL σ, zsB σ, zsP σ, zsA σ), Or.inr ⟨ok, Or.inr (Or.inr (Or.inl ⟨k, rfl, y, h1, rfl⟩))⟩, ⟨⟨_, _, hU3, hU4, (by rw [eW0, eW1]; exact hw9)⟩, ⟨_, _, _, _, hU11, hU12, hU13, hU14, (by rw [eD0, eD1, eD2, eD3]; exact hd9)⟩, ⟨_, hU27, fun i hi => by rw [eF]; exact x_up hV9 _ _ i hi, fun i hi => by rw [eF]; exact x_upV hN9 (x_reg ok.2.2) _ i hi⟩, ⟨_, _, _, _, by rw [← z]; exact hU0, (hun 117 (by decide)).trans y1, (hun 118 (by decide)).trans y2, jL9, jT9, jP9⟩, (mAr_fr hS5 (hun 157 (by decide)) (hun 159 (by decide)) (hun 160 (by decide)) (hun 161 (by decide)) (hun 162 (by decide)))⟩⟩
  · replace z : u0_0 = 0 := z
    replace eW0 : u3_0 = t3_0 := eW0
    replace eW1 : u4_0 = t4_0 := eW1
    replace eD0 : u11_0 = t11_0 := eD0
    replace eD1 : u12_0 = t12_0 := eD1
    replace eD2 : u13_0 = t13_0 := eD2
    replace eD3 : u14_0 = t14_0 := eD3
    replace eF : u27_0 = vp_updL t27_0 (10 + x5).toNatClampNeg y := eF
    exact ⟨0, (zsW σ, zsD σ, zsV σ, vp_updL (zsN σ) x5.toNatClampNeg y, zsL σ, zsB σ, zsP σ, zsA σ), Or.inr ⟨ok, Or.inr (Or.inr (Or.inr (⟨k, rfl, y, h1, rfl⟩)))⟩, ⟨⟨_, _, hU3, hU4, (by rw [eW0, eW1]; exact hw9)⟩, ⟨_, _, _, _, hU11, hU12, hU13, hU14, (by rw [eD0, eD1, eD2, eD3]; exact hd9)⟩, ⟨_, hU27, fun i hi => by rw [eF]; exact x_upN0 hV9 ok.2.2 _ i hi, fun i hi => by rw [eF]; exact x_upN1 hN9 ok.2.2 _ i hi⟩, ⟨_, _, _, _, by rw [← z]; exact hU0, (hun 117 (by decide)).trans y1, (hun 118 (by decide)).trans y2, jL9, jT9, jP9⟩, (mAr_fr hS5 (hun 157 (by decide)) (hun 159 (by decide)) (hun 160 (by decide)) (hun 161 (by decide)) (hun 162 (by decide)))⟩⟩
