/-! whole's law: read -/
theorem x_yu {x y : Int64} (h : yu x = yu y) : x = y := Int64.toBitVec_inj.mp (BitVec.eq_of_toNat_eq h)
def rRs {α : Type} (o : Option α) (fit : α → Prop) (new : α → zSt → Prop) (σ : zSt) (c a : Int32) (σ2 : zSt) : Prop := (o = none ∧ c = 0 ∧ a = 0 ∧ σ2 = σ) ∨ (∃ v, o = some v ∧ fit v ∧ c = 0 ∧ a = 1 ∧ new v σ2) ∨ (∃ v, o = some v ∧ ¬ fit v ∧ c = 2 ∧ σ2 = σ)
theorem rRs_U {α : Type} {o o' : Option α} {fit : α → Prop} {new : α → zSt → Prop} {σ s t : zSt} {c a c2 a2 : Int32} (ho : o = o') (hn : ∀ v s t, new v s → new v t → s = t) (h : rRs o fit new σ c a s) (g : rRs o' fit new σ c2 a2 t) : c = c2 ∧ (c = 0 → a = a2) ∧ s = t := by
  subst ho
  rcases h with ⟨h1, h2, h3, h4⟩ | ⟨v, h1, h2, h3, h4, h5⟩ | ⟨v, h1, h2, h3, h4⟩ <;> rcases g with ⟨g1, g2, g3, g4⟩ | ⟨w, g1, g2, g3, g4, g5⟩ | ⟨w, g1, g2, g3, g4⟩
  · exact ⟨h2.trans g2.symm, fun _ => h3.trans g3.symm, h4.trans g4.symm⟩
  · rw [h1] at g1; cases g1
  · rw [h1] at g1; cases g1
  · rw [h1] at g1; cases g1
  · have e : v = w := Option.some.inj (h1.symm.trans g1)
    subst e
    exact ⟨h3.trans g3.symm, fun _ => h4.trans g4.symm, hn _ _ _ h5 g5⟩
  · have e : v = w := Option.some.inj (h1.symm.trans g1)
    subst e
    exact absurd h2 g2
  · rw [h1] at g1; cases g1
  · have e : v = w := Option.some.inj (h1.symm.trans g1)
    subst e
    exact absurd g2 h2
  · exact ⟨h3.trans g3.symm, fun w => absurd (h3.symm.trans w) (by decide), h4.trans g4.symm⟩
def rRd (x2 x3 x4 : Int32) (σ : zSt) (c a : Int32) (σ2 : zSt) : Prop := (¬ yOk x2.toInt x3.toInt x4.toInt ∧ c = 1 ∧ σ2 = σ) ∨ (yOk x2.toInt x3.toInt x4.toInt ∧ ((x2 = 0 ∧ ∃ (b : Nat) (o : Option Int), x4.toInt = (b : Int) ∧ yRW (zsB σ) b (zsL σ) o ∧ rRs o (fun v => v.natAbs < 2 ^ 2048) (fun v s => s = (updW (zsW σ) x3.toNatClampNeg v, zsD σ, zsV σ, zsN σ, 0, zsB σ, zsP σ, zsA σ)) σ c a σ2) ∨ (x2 = 1 ∧ ∃ o : Option (Int × Int), yRD (zsB σ) (zsL σ) o ∧ rRs o dFit (fun v s => s = (zsW σ, updD (zsD σ) x3.toNatClampNeg v, zsV σ, zsN σ, 0, zsB σ, zsP σ, zsA σ)) σ c a σ2) ∨ (x2 = 2 ∧ ∃ o : Option Nat, yRF 52 2047 (-1074) (zsB σ) (zsL σ) o ∧ rRs o (fun _ => True) (fun v s => ∃ u : Int64, yu u = v ∧ s = (zsW σ, zsD σ, vp_updL (zsV σ) x3.toNatClampNeg u, zsN σ, 0, zsB σ, zsP σ, zsA σ)) σ c a σ2) ∨ (x2 = 3 ∧ ∃ o : Option Nat, yRF 23 255 (-149) (zsB σ) (zsL σ) o ∧ rRs o (fun _ => True) (fun v s => ∃ u : Int64, yu u = v ∧ s = (zsW σ, zsD σ, zsV σ, vp_updL (zsN σ) x3.toNatClampNeg u, 0, zsB σ, zsP σ, zsA σ)) σ c a σ2)))
theorem rRd_U {x2 x3 x4 : Int32} {σ s t : zSt} {c a c2 a2 : Int32} (hL : zsL σ ≤ 4100) (h : rRd x2 x3 x4 σ c a s) (g : rRd x2 x3 x4 σ c2 a2 t) : c = c2 ∧ (c = 0 → a = a2) ∧ s = t := by
  rcases h with ⟨h1, h2, h3⟩ | ⟨h1, h2⟩ <;> rcases g with ⟨g1, g2, g3⟩ | ⟨g1, g2⟩
  · exact ⟨h2.trans g2.symm, fun w => absurd (h2.symm.trans w) (by decide), h3.trans g3.symm⟩
  · exact absurd g1 h1
  · exact absurd h1 g1
  · have ne : ∀ {p q : Int32}, x2 = p → x2 = q → p ≠ q → False := fun a b c => c (a.symm.trans b)
    rcases h2 with ⟨k, b, o, p0, p, w⟩ | ⟨k, o, p, w⟩ | ⟨k, o, p, w⟩ | ⟨k, o, p, w⟩ <;> rcases g2 with ⟨j, b', o', r0, r, y⟩ | ⟨j, o', r, y⟩ | ⟨j, o', r, y⟩ | ⟨j, o', r, y⟩
    · have e : b = b' := Int.ofNat.inj (p0.symm.trans r0)
      subst e
      exact rRs_U (yRW_U p r) (fun v s t e f => e.trans f.symm) w y
    · exact (ne k j (by decide)).elim
    · exact (ne k j (by decide)).elim
    · exact (ne k j (by decide)).elim
    · exact (ne k j (by decide)).elim
    · exact rRs_U (yRD_U p r) (fun v s t e f => e.trans f.symm) w y
    · exact (ne k j (by decide)).elim
    · exact (ne k j (by decide)).elim
    · exact (ne k j (by decide)).elim
    · exact (ne k j (by decide)).elim
    · exact rRs_U (yRF_U yF2 hL p r) (fun v s t ⟨u, e1, e2⟩ ⟨w, f1, f2⟩ => by rw [e2, f2, x_yu (e1.trans f1.symm)]) w y
    · exact (ne k j (by decide)).elim
    · exact (ne k j (by decide)).elim
    · exact (ne k j (by decide)).elim
    · exact (ne k j (by decide)).elim
    · exact rRs_U (yRF_U yF3 hL p r) (fun v s t ⟨u, e1, e2⟩ ⟨w, f1, f2⟩ => by rw [e2, f2, x_yu (e1.trans f1.symm)]) w y
set_option maxRecDepth 100000 in
set_option maxHeartbeats 4000000 in
theorem CW_read (l : Launch) (D : va_G) (g : Nat → ClassId) (q : Nat → Nat) (ws : va_W) (x2 : Int32) (x3 : Int32) (x4 : Int32) (i3 : Nat) (hi3 : i3 < 10) (e3 : x3.toNatClampNeg < 10 → i3 = x3.toNatClampNeg) (hlt : l.stackTraces = false) (hI : q_I (nsh g q) q ws) (hC : iC g q ws) {σ : zSt} (hS : sC g q ws σ) (hk0 : zOk σ) : ∀ sz, q_Mx l y_NH_read prog_1_method_4_code 5 (some .boolean) 9 4 24 D g [.ref (q 0), .int x2, .int x3, .int x4] ws sz (va_Qi (fun r u => iP g q ws u ∧ ∃ σ2, rRd x2 x3 x4 σ 0 r σ2 ∧ sC g q u σ2) (q_B D g (va_A ws sz)) (va_A ws sz)) (fun E u => ∃ c : Int32, E = qE c ∧ (c = 1 ∨ c = 2) ∧ iP g q ws u ∧ rRd x2 x3 x4 σ c 0 σ ∧ sC g q u σ) := by
  intro sz
  obtain ⟨t0_0, t0_1, hT0, bT0⟩ := n_o30 hI
  obtain ⟨t1_0, t1_1, t1_2, t1_3, t1_4, t1_5, t1_6, t1_7, t1_8, t1_9, hT1, bT1⟩ := n_o38 hI
  obtain ⟨t2_0, hT2, bT2⟩ := n_shO hI (n_h1 g q)
  obtain ⟨t3_0, hT3⟩ := n_al hI (n_s2 g q)
  obtain ⟨t4_0, t4_1, hT4, bT4⟩ := q_bigO hI (n_b10 g q)
  obtain ⟨t5_0, hT5, bT5⟩ := n_ai hI (n_s11 g q)
  obtain ⟨t6_0, t6_1, hT6, bT6⟩ := q_bigO hI (n_b22 g q)
  obtain ⟨t7_0, hT7, bT7⟩ := n_ai hI (n_s23 g q)
  obtain ⟨t8_0, t8_1, hT8, bT8⟩ := q_bigO hI (n_b24 g q)
  obtain ⟨t9_0, hT9, bT9⟩ := n_ai hI (n_s25 g q)
  obtain ⟨t10_0, t10_1, hT10, bT10⟩ := q_bigO hI (n_b12 g q)
  obtain ⟨t11_0, hT11, bT11⟩ := n_ai hI (n_s13 g q)
  obtain ⟨t12_0, t12_1, hT12, bT12⟩ := q_bigO hI (n_b20 g q)
  obtain ⟨t13_0, hT13, bT13⟩ := n_ai hI (n_s21 g q)
  obtain ⟨t14_0, hT14⟩ := n_al hI (n_s7 g q)
  obtain ⟨t15_0, hT15⟩ := n_al hI (n_s8 g q)
  obtain ⟨t16_0, t16_1, t17_0, hT16, hT17, vk3, hbk3, hBk3⟩ := hC.1 i3 hi3
  obtain ⟨t18_0, t18_1, t19_0, t19_1, t20_0, hT18, hT19, hT20, vd3, hbd3⟩ := hC.2.1 i3 hi3
  obtain ⟨hS1, hS2, hS3, hS4, hS5, hS6, hS7⟩ := hS
  obtain ⟨sw3, nw3, fw3, aw3, bw3, gw3⟩ := hS1 i3 hi3
  obtain ⟨rfl, rfl⟩ := x_b2 hT16 aw3
  obtain rfl := x_ri hT17 bw3
  obtain ⟨pd3, qd3, sd3, nd3, fd3, ad3, bd3, cd3, gd3⟩ := hS2 i3 hi3
  obtain ⟨rfl, rfl⟩ := x_b2 hT18 ad3
  obtain ⟨rfl, rfl⟩ := x_b2 hT19 bd3
  obtain rfl := x_ri hT20 cd3
  obtain ⟨fV, yV, hV9⟩ := hS3
  obtain rfl := x_rl hT14 yV
  have hS3 : cFr g q ws 7 (zsV σ) := ⟨_, yV, hV9⟩
  obtain ⟨fN, yN, hN9⟩ := hS4
  obtain rfl := x_rl hT15 yN
  have hS4 : cFr g q ws 8 (zsN σ) := ⟨_, yN, hN9⟩
  obtain ⟨s9, c9, yt1, yt2, hL9, hB9⟩ := hS5
  obtain rfl := x_sh hT2 yt1
  obtain rfl := x_rl hT3 yt2
  have hS5 : cTp g q ws (zsL σ) (zsB σ) := ⟨_, _, yt1, yt2, hL9, hB9⟩
  have hq := T_read (x2 := x2) (x3 := x3) (x4 := x4) (t0_0 := t0_0) (t0_1 := t0_1) (t1_0 := t1_0) (t1_1 := t1_1) (t1_2 := t1_2) (t1_3 := t1_3) (t1_4 := t1_4) (t1_5 := t1_5) (t1_6 := t1_6) (t1_7 := t1_7) (t1_8 := t1_8) (t1_9 := t1_9) (t2_0 := t2_0) (t3_0 := t3_0) (t4_0 := t4_0) (t4_1 := t4_1) (t5_0 := t5_0) (t6_0 := t6_0) (t6_1 := t6_1) (t7_0 := t7_0) (t8_0 := t8_0) (t8_1 := t8_1) (t9_0 := t9_0) (t10_0 := t10_0) (t10_1 := t10_1) (t11_0 := t11_0) (t12_0 := t12_0) (t12_1 := t12_1) (t13_0 := t13_0) (t14_0 := t14_0) (t15_0 := t15_0) (t16_0 := t16_0) (t16_1 := t16_1) (t17_0 := t17_0) (t18_0 := t18_0) (t18_1 := t18_1) (t19_0 := t19_0) (t19_1 := t19_1) (t20_0 := t20_0) ⟨_, hbk3, hBk3⟩ ⟨_, hbd3⟩ (by first | exact bT2 | exact bT2.1 | exact bT2.2 | exact bT2.2.1 | exact bT2.2.2 | exact bT2.1.1) (by first | exact bT2 | exact bT2.1 | exact bT2.2 | exact bT2.2.1 | exact bT2.2.2 | exact bT2.1.1) (by first | exact bT1 | exact bT1.1 | exact bT1.2 | exact bT1.2.1 | exact bT1.2.2 | exact bT1.1.1)
  refine q_MxI (X_NH_read l D g q ws x2 x3 x4 (66 + 5 * i3) (n_w g q hi3) (by omega) (fun h => by have z := e3 h; omega) (68 + 5 * i3) (n_d g q hi3) (by omega) (fun h => by have z := e3 h; omega) (by omega) (by omega) (by omega) (by omega) hlt hI t0_0 t0_1 hT0 t1_0 t1_1 t1_2 t1_3 t1_4 t1_5 t1_6 t1_7 t1_8 t1_9 hT1 t2_0 hT2 t3_0 hT3 t4_0 t4_1 hT4 t5_0 hT5 t6_0 t6_1 hT6 t7_0 hT7 t8_0 t8_1 hT8 t9_0 hT9 t10_0 t10_1 hT10 t11_0 hT11 t12_0 t12_1 hT12 t13_0 hT13 t14_0 hT14 t15_0 hT15 t16_0 t16_1 hT16 t17_0 hT17 t18_0 t18_1 hT18 t19_0 t19_1 hT19 t20_0 hT20 ⟨trivial, hq.1⟩ sz) ?_ ?_
  · rintro r u ⟨hI2, hun, u1_0, u1_1, u1_2, u1_3, u1_4, u1_5, u1_6, u1_7, u1_8, u1_9, u2_0, u4_0, u4_1, u5_0, u6_0, u6_1, u7_0, u8_0, u8_1, u9_0, u10_0, u10_1, u11_0, u12_0, u12_1, u13_0, u14_0, u15_0, u16_0, u16_1, u17_0, u18_0, u18_1, u19_0, u19_1, u20_0, hU0, hU1, hU2, hU3, hU4, hU5, hU6, hU7, hU8, hU9, hU10, hU11, hU12, hU13, hU14, hU15, hU16, hU17, hU18, hR⟩
    have hF := hR.2.2.2.2.2.2.2.2.2.2.2.2.2.2.2.2.2.2.2.2.2.2.2.2.2.2.2.2.2.2.2.2.2.2.2.2.2.2.2.2.2.2.2
    have hp := hq.2
    rw [← hF] at hp
    refine ⟨⟨hI2, ⟨fun i hi => ?_, fun i hi => ?_, ?_⟩, fun i hi => hun i (by simp only [List.mem_cons, List.not_mem_nil, or_false, not_or]; omega)⟩, ?_⟩
    · by_cases hk3 : i = i3
      · rw [hk3]; refine ⟨_, _, _, hU14, hU15, ?_⟩; first | exact hp.1
      · exact iW_fr (hC.1 i hi) (hun _ (by simp only [List.mem_cons, List.not_mem_nil, or_false, not_or]; omega)) (hun _ (by simp only [List.mem_cons, List.not_mem_nil, or_false, not_or]; omega))
    · by_cases hd3 : i = i3
      · rw [hd3]; refine ⟨_, _, _, _, _, hU16, hU17, hU18, ?_⟩; first | exact hp.2
      · exact iD_fr (hC.2.1 i hi) (hun _ (by simp only [List.mem_cons, List.not_mem_nil, or_false, not_or]; omega)) (hun _ (by simp only [List.mem_cons, List.not_mem_nil, or_false, not_or]; omega)) (hun _ (by simp only [List.mem_cons, List.not_mem_nil, or_false, not_or]; omega))
    · exact iO_fr hC.2.2 (hun _ (by simp only [List.mem_cons, List.not_mem_nil, or_false, not_or]; omega)) (hun _ (by simp only [List.mem_cons, List.not_mem_nil, or_false, not_or]; omega)) (hun _ (by simp only [List.mem_cons, List.not_mem_nil, or_false, not_or]; omega))
    · have hG := hR.2.2.2.2.2.2.2.2.2.2.2.2.2.2.2.2.2.2.2.2.2.2.2.2.2.2.2.2.2.2.2.2.2.2.2.2.2.2.2.2.2.2.2
      have fW : ∀ i, i < 10 → ¬ i = i3 → cWr g q u (66 + 5 * i) (zsW σ i) := fun i hi hk3 => cWr_fr (hS1 i hi) (hun _ (by simp only [List.mem_cons, List.not_mem_nil, or_false, not_or]; omega)) (hun _ (by simp only [List.mem_cons, List.not_mem_nil, or_false, not_or]; omega))
      have fD : ∀ i, i < 10 → ¬ i = i3 → cDr g q u (68 + 5 * i) (zsD σ i) := fun i hi hk3 => cDr_fr (hS2 i hi) (hun _ (by simp only [List.mem_cons, List.not_mem_nil, or_false, not_or]; omega)) (hun _ (by simp only [List.mem_cons, List.not_mem_nil, or_false, not_or]; omega)) (hun _ (by simp only [List.mem_cons, List.not_mem_nil, or_false, not_or]; omega))
      have fP : cPp g q u (zsP σ) := (cPp_fr hS6 (hun _ (by simp only [List.mem_cons, List.not_mem_nil, or_false, not_or]; omega)) (hun _ (by simp only [List.mem_cons, List.not_mem_nil, or_false, not_or]; omega)))
      have fA : cAr g q u (zsA σ) := (cAr_fr hS7 (fun i _ _ => (hun _ (by simp only [List.mem_cons, List.not_mem_nil, or_false, not_or]; omega))) (fun i _ _ => (hun _ (by simp only [List.mem_cons, List.not_mem_nil, or_false, not_or]; omega))))
      by_cases ok : yOk x2.toInt x3.toInt x4.toInt
      · have e33 := e3 (x_reg ok.2.1)
        rcases x_k4 ok.1 with k | k | k | k
        · obtain ⟨b, hb⟩ : ∃ b : Nat, x4.toInt = (b : Int) := ⟨x4.toInt.toNat, by rcases ok.2.2 with w | w <;> omega⟩
          have hv := V_rd0 (x2 := x2) (x3 := x3) (x4 := x4) (t0_0 := t0_0) (t0_1 := t0_1) (t1_0 := t1_0) (t1_1 := t1_1) (t1_2 := t1_2) (t1_3 := t1_3) (t1_4 := t1_4) (t1_5 := t1_5) (t1_6 := t1_6) (t1_7 := t1_7) (t1_8 := t1_8) (t1_9 := t1_9) (t2_0 := t2_0) (t3_0 := t3_0) (t4_0 := t4_0) (t4_1 := t4_1) (t5_0 := t5_0) (t6_0 := t6_0) (t6_1 := t6_1) (t7_0 := t7_0) (t8_0 := t8_0) (t8_1 := t8_1) (t9_0 := t9_0) (t10_0 := t10_0) (t10_1 := t10_1) (t11_0 := t11_0) (t12_0 := t12_0) (t12_1 := t12_1) (t13_0 := t13_0) (t14_0 := t14_0) (t15_0 := t15_0) (t16_0 := t16_0) (t16_1 := t16_1) (t17_0 := t17_0) (t18_0 := t18_0) (t18_1 := t18_1) (t19_0 := t19_0) (t19_1 := t19_1) (t20_0 := t20_0) ok k hL9 hk0.2.2.2.2.1 hb
          rw [← hG] at hv
          obtain ⟨o, h1, h2, eV, eN, eD0, eD1, eD2, eD3, eD4⟩ := hv
          rw [← hB9] at h1
          rcases h2 with ⟨o1, z, a1, sz, w⟩ | ⟨v, o1, fv, z, a1, sz, w⟩ | ⟨v, o1, fv, z, sz, w⟩
          · replace eV : u14_0 = t14_0 := eV
            replace eN : u15_0 = t15_0 := eN
            replace eD0 : u18_0 = t18_0 := eD0
            replace eD1 : u18_1 = t18_1 := eD1
            replace eD2 : u19_0 = t19_0 := eD2
            replace eD3 : u19_1 = t19_1 := eD3
            replace eD4 : u20_0 = t20_0 := eD4
            replace sz : u2_0 = t2_0 := sz
            obtain ⟨eW0, eW1, eW2⟩ := w
            replace eW0 : u16_0 = t16_0 := eW0
            replace eW1 : u16_1 = t16_1 := eW1
            replace eW2 : u17_0 = t17_0 := eW2
            refine ⟨σ, Or.inr ⟨ok, Or.inl ⟨k, b, o, hb, h1, Or.inl ⟨o1, rfl, a1, rfl⟩⟩⟩, ?_⟩
            refine ⟨(fun i hi => ?_), (fun i hi => ?_), ⟨_, hU12, fun i hi => by rw [eV]; exact hV9 i hi⟩, ⟨_, hU13, fun i hi => by rw [eN]; exact hN9 i hi⟩, ⟨_, _, hU1, ((hun _ (by simp only [List.mem_cons, List.not_mem_nil, or_false, not_or]; omega)).trans hT3), by rw [sz]; exact hL9, hB9⟩, fP, fA⟩
            · by_cases hk3 : i = i3
              · rw [hk3]; exact ⟨_, _, _, hU14, hU15, (by rw [eW0, eW1, eW2]; exact gw3)⟩
              · exact fW i hi hk3
            · by_cases hk3 : i = i3
              · rw [hk3]; exact ⟨_, _, _, _, _, hU16, hU17, hU18, (by rw [eD0, eD1, eD2, eD3, eD4]; exact gd3)⟩
              · exact fD i hi hk3
          · replace eV : u14_0 = t14_0 := eV
            replace eN : u15_0 = t15_0 := eN
            replace eD0 : u18_0 = t18_0 := eD0
            replace eD1 : u18_1 = t18_1 := eD1
            replace eD2 : u19_0 = t19_0 := eD2
            replace eD3 : u19_1 = t19_1 := eD3
            replace eD4 : u20_0 = t20_0 := eD4
            replace sz : u2_0 = 0 := sz
            refine ⟨(updW (zsW σ) x3.toNatClampNeg v, zsD σ, zsV σ, zsN σ, 0, zsB σ, zsP σ, zsA σ), Or.inr ⟨ok, Or.inl ⟨k, b, o, hb, h1, Or.inr (Or.inl ⟨v, o1, fv, rfl, a1, rfl⟩)⟩⟩, ?_⟩
            refine ⟨(fun i hi => ?_), (fun i hi => ?_), ⟨_, hU12, fun i hi => by rw [eV]; exact hV9 i hi⟩, ⟨_, hU13, fun i hi => by rw [eN]; exact hN9 i hi⟩, ⟨_, _, hU1, ((hun _ (by simp only [List.mem_cons, List.not_mem_nil, or_false, not_or]; omega)).trans hT3), by rw [sz]; rfl, hB9⟩, fP, fA⟩
            · show cWr g q u (66 + 5 * i) (updW (zsW σ) x3.toNatClampNeg v i)
              unfold updW
              by_cases hk3 : i = i3
              · rw [if_pos (by omega), hk3]; exact ⟨_, _, _, hU14, hU15, w⟩
              · rw [if_neg (by omega)]; exact fW i hi hk3
            · by_cases hk3 : i = i3
              · rw [hk3]; exact ⟨_, _, _, _, _, hU16, hU17, hU18, (by rw [eD0, eD1, eD2, eD3, eD4]; exact gd3)⟩
              · exact fD i hi hk3
          · exact absurd (show (0 : Int32) = 2 from z) (by decide)
        · have hv := V_rd1 (x2 := x2) (x3 := x3) (x4 := x4) (t0_0 := t0_0) (t0_1 := t0_1) (t1_0 := t1_0) (t1_1 := t1_1) (t1_2 := t1_2) (t1_3 := t1_3) (t1_4 := t1_4) (t1_5 := t1_5) (t1_6 := t1_6) (t1_7 := t1_7) (t1_8 := t1_8) (t1_9 := t1_9) (t2_0 := t2_0) (t3_0 := t3_0) (t4_0 := t4_0) (t4_1 := t4_1) (t5_0 := t5_0) (t6_0 := t6_0) (t6_1 := t6_1) (t7_0 := t7_0) (t8_0 := t8_0) (t8_1 := t8_1) (t9_0 := t9_0) (t10_0 := t10_0) (t10_1 := t10_1) (t11_0 := t11_0) (t12_0 := t12_0) (t12_1 := t12_1) (t13_0 := t13_0) (t14_0 := t14_0) (t15_0 := t15_0) (t16_0 := t16_0) (t16_1 := t16_1) (t17_0 := t17_0) (t18_0 := t18_0) (t18_1 := t18_1) (t19_0 := t19_0) (t19_1 := t19_1) (t20_0 := t20_0) ok k hL9 hk0.2.2.2.2.1 gd3 trivial
          rw [← hG] at hv
          obtain ⟨o, h1, h2, eV, eN, eW0, eW1, eW2⟩ := hv
          rw [← hB9] at h1
          rcases h2 with ⟨o1, z, a1, sz, w⟩ | ⟨v, o1, fv, z, a1, sz, w⟩ | ⟨v, o1, fv, z, sz, w⟩
          · replace eV : u14_0 = t14_0 := eV
            replace eN : u15_0 = t15_0 := eN
            replace eW0 : u16_0 = t16_0 := eW0
            replace eW1 : u16_1 = t16_1 := eW1
            replace eW2 : u17_0 = t17_0 := eW2
            replace sz : u2_0 = t2_0 := sz
            refine ⟨σ, Or.inr ⟨ok, Or.inr (Or.inl ⟨k, o, h1, Or.inl ⟨o1, rfl, a1, rfl⟩⟩)⟩, ?_⟩
            refine ⟨(fun i hi => ?_), (fun i hi => ?_), ⟨_, hU12, fun i hi => by rw [eV]; exact hV9 i hi⟩, ⟨_, hU13, fun i hi => by rw [eN]; exact hN9 i hi⟩, ⟨_, _, hU1, ((hun _ (by simp only [List.mem_cons, List.not_mem_nil, or_false, not_or]; omega)).trans hT3), by rw [sz]; exact hL9, hB9⟩, fP, fA⟩
            · by_cases hk3 : i = i3
              · rw [hk3]; exact ⟨_, _, _, hU14, hU15, (by rw [eW0, eW1, eW2]; exact gw3)⟩
              · exact fW i hi hk3
            · by_cases hk3 : i = i3
              · rw [hk3]; exact ⟨_, _, _, _, _, hU16, hU17, hU18, w⟩
              · exact fD i hi hk3
          · replace eV : u14_0 = t14_0 := eV
            replace eN : u15_0 = t15_0 := eN
            replace eW0 : u16_0 = t16_0 := eW0
            replace eW1 : u16_1 = t16_1 := eW1
            replace eW2 : u17_0 = t17_0 := eW2
            replace sz : u2_0 = 0 := sz
            refine ⟨(zsW σ, updD (zsD σ) x3.toNatClampNeg v, zsV σ, zsN σ, 0, zsB σ, zsP σ, zsA σ), Or.inr ⟨ok, Or.inr (Or.inl ⟨k, o, h1, Or.inr (Or.inl ⟨v, o1, fv, rfl, a1, rfl⟩)⟩)⟩, ?_⟩
            refine ⟨(fun i hi => ?_), (fun i hi => ?_), ⟨_, hU12, fun i hi => by rw [eV]; exact hV9 i hi⟩, ⟨_, hU13, fun i hi => by rw [eN]; exact hN9 i hi⟩, ⟨_, _, hU1, ((hun _ (by simp only [List.mem_cons, List.not_mem_nil, or_false, not_or]; omega)).trans hT3), by rw [sz]; rfl, hB9⟩, fP, fA⟩
            · by_cases hk3 : i = i3
              · rw [hk3]; exact ⟨_, _, _, hU14, hU15, (by rw [eW0, eW1, eW2]; exact gw3)⟩
              · exact fW i hi hk3
            · show cDr g q u (68 + 5 * i) (updD (zsD σ) x3.toNatClampNeg v i)
              unfold updD
              by_cases hk3 : i = i3
              · rw [if_pos (by omega), hk3]; exact ⟨_, _, _, _, _, hU16, hU17, hU18, w⟩
              · rw [if_neg (by omega)]; exact fD i hi hk3
          · exact absurd (show (0 : Int32) = 2 from z) (by decide)
        · have hv := V_rd2 (x2 := x2) (x3 := x3) (x4 := x4) (t0_0 := t0_0) (t0_1 := t0_1) (t1_0 := t1_0) (t1_1 := t1_1) (t1_2 := t1_2) (t1_3 := t1_3) (t1_4 := t1_4) (t1_5 := t1_5) (t1_6 := t1_6) (t1_7 := t1_7) (t1_8 := t1_8) (t1_9 := t1_9) (t2_0 := t2_0) (t3_0 := t3_0) (t4_0 := t4_0) (t4_1 := t4_1) (t5_0 := t5_0) (t6_0 := t6_0) (t6_1 := t6_1) (t7_0 := t7_0) (t8_0 := t8_0) (t8_1 := t8_1) (t9_0 := t9_0) (t10_0 := t10_0) (t10_1 := t10_1) (t11_0 := t11_0) (t12_0 := t12_0) (t12_1 := t12_1) (t13_0 := t13_0) (t14_0 := t14_0) (t15_0 := t15_0) (t16_0 := t16_0) (t16_1 := t16_1) (t17_0 := t17_0) (t18_0 := t18_0) (t18_1 := t18_1) (t19_0 := t19_0) (t19_1 := t19_1) (t20_0 := t20_0) ok k hL9 hk0.2.2.2.2.1
          rw [← hG] at hv
          obtain ⟨o, h1, h2, eN, eW0, eW1, eW2, eD0, eD1, eD2, eD3, eD4⟩ := hv
          rw [← hB9] at h1
          rcases h2 with ⟨o1, z, a1, sz, w⟩ | ⟨v, o1, fv, z, a1, sz, w⟩ | ⟨v, o1, fv, z, sz, w⟩
          · replace eN : u15_0 = t15_0 := eN
            replace eW0 : u16_0 = t16_0 := eW0
            replace eW1 : u16_1 = t16_1 := eW1
            replace eW2 : u17_0 = t17_0 := eW2
            replace eD0 : u18_0 = t18_0 := eD0
            replace eD1 : u18_1 = t18_1 := eD1
            replace eD2 : u19_0 = t19_0 := eD2
            replace eD3 : u19_1 = t19_1 := eD3
            replace eD4 : u20_0 = t20_0 := eD4
            replace sz : u2_0 = t2_0 := sz
            replace w : u14_0 = t14_0 := w
            refine ⟨σ, Or.inr ⟨ok, Or.inr (Or.inr (Or.inl ⟨k, o, h1, Or.inl ⟨o1, rfl, a1, rfl⟩⟩))⟩, ?_⟩
            refine ⟨(fun i hi => ?_), (fun i hi => ?_), ⟨_, hU12, fun i hi => by rw [w]; exact hV9 i hi⟩, ⟨_, hU13, fun i hi => by rw [eN]; exact hN9 i hi⟩, ⟨_, _, hU1, ((hun _ (by simp only [List.mem_cons, List.not_mem_nil, or_false, not_or]; omega)).trans hT3), by rw [sz]; exact hL9, hB9⟩, fP, fA⟩
            · by_cases hk3 : i = i3
              · rw [hk3]; exact ⟨_, _, _, hU14, hU15, (by rw [eW0, eW1, eW2]; exact gw3)⟩
              · exact fW i hi hk3
            · by_cases hk3 : i = i3
              · rw [hk3]; exact ⟨_, _, _, _, _, hU16, hU17, hU18, (by rw [eD0, eD1, eD2, eD3, eD4]; exact gd3)⟩
              · exact fD i hi hk3
          · replace eN : u15_0 = t15_0 := eN
            replace eW0 : u16_0 = t16_0 := eW0
            replace eW1 : u16_1 = t16_1 := eW1
            replace eW2 : u17_0 = t17_0 := eW2
            replace eD0 : u18_0 = t18_0 := eD0
            replace eD1 : u18_1 = t18_1 := eD1
            replace eD2 : u19_0 = t19_0 := eD2
            replace eD3 : u19_1 = t19_1 := eD3
            replace eD4 : u20_0 = t20_0 := eD4
            replace sz : u2_0 = 0 := sz
            obtain ⟨uu, w1, w2⟩ := w
            replace w2 : u14_0 = vp_updL t14_0 x3.toNatClampNeg uu := w2
            refine ⟨(zsW σ, zsD σ, vp_updL (zsV σ) x3.toNatClampNeg uu, zsN σ, 0, zsB σ, zsP σ, zsA σ), Or.inr ⟨ok, Or.inr (Or.inr (Or.inl ⟨k, o, h1, Or.inr (Or.inl ⟨v, o1, fv, rfl, a1, ⟨uu, w1, rfl⟩⟩)⟩))⟩, ?_⟩
            refine ⟨(fun i hi => ?_), (fun i hi => ?_), ⟨_, hU12, fun i hi => by rw [w2]; exact x_up hV9 _ _ i hi⟩, ⟨_, hU13, fun i hi => by rw [eN]; exact hN9 i hi⟩, ⟨_, _, hU1, ((hun _ (by simp only [List.mem_cons, List.not_mem_nil, or_false, not_or]; omega)).trans hT3), by rw [sz]; rfl, hB9⟩, fP, fA⟩
            · by_cases hk3 : i = i3
              · rw [hk3]; exact ⟨_, _, _, hU14, hU15, (by rw [eW0, eW1, eW2]; exact gw3)⟩
              · exact fW i hi hk3
            · by_cases hk3 : i = i3
              · rw [hk3]; exact ⟨_, _, _, _, _, hU16, hU17, hU18, (by rw [eD0, eD1, eD2, eD3, eD4]; exact gd3)⟩
              · exact fD i hi hk3
          · exact absurd (show (0 : Int32) = 2 from z) (by decide)
        · have hv := V_rd3 (x2 := x2) (x3 := x3) (x4 := x4) (t0_0 := t0_0) (t0_1 := t0_1) (t1_0 := t1_0) (t1_1 := t1_1) (t1_2 := t1_2) (t1_3 := t1_3) (t1_4 := t1_4) (t1_5 := t1_5) (t1_6 := t1_6) (t1_7 := t1_7) (t1_8 := t1_8) (t1_9 := t1_9) (t2_0 := t2_0) (t3_0 := t3_0) (t4_0 := t4_0) (t4_1 := t4_1) (t5_0 := t5_0) (t6_0 := t6_0) (t6_1 := t6_1) (t7_0 := t7_0) (t8_0 := t8_0) (t8_1 := t8_1) (t9_0 := t9_0) (t10_0 := t10_0) (t10_1 := t10_1) (t11_0 := t11_0) (t12_0 := t12_0) (t12_1 := t12_1) (t13_0 := t13_0) (t14_0 := t14_0) (t15_0 := t15_0) (t16_0 := t16_0) (t16_1 := t16_1) (t17_0 := t17_0) (t18_0 := t18_0) (t18_1 := t18_1) (t19_0 := t19_0) (t19_1 := t19_1) (t20_0 := t20_0) ok k hL9 hk0.2.2.2.2.1
          rw [← hG] at hv
          obtain ⟨o, h1, h2, eV, eW0, eW1, eW2, eD0, eD1, eD2, eD3, eD4⟩ := hv
          rw [← hB9] at h1
          rcases h2 with ⟨o1, z, a1, sz, w⟩ | ⟨v, o1, fv, z, a1, sz, w⟩ | ⟨v, o1, fv, z, sz, w⟩
          · replace eV : u14_0 = t14_0 := eV
            replace eW0 : u16_0 = t16_0 := eW0
            replace eW1 : u16_1 = t16_1 := eW1
            replace eW2 : u17_0 = t17_0 := eW2
            replace eD0 : u18_0 = t18_0 := eD0
            replace eD1 : u18_1 = t18_1 := eD1
            replace eD2 : u19_0 = t19_0 := eD2
            replace eD3 : u19_1 = t19_1 := eD3
            replace eD4 : u20_0 = t20_0 := eD4
            replace sz : u2_0 = t2_0 := sz
            replace w : u15_0 = t15_0 := w
            refine ⟨σ, Or.inr ⟨ok, Or.inr (Or.inr (Or.inr (⟨k, o, h1, Or.inl ⟨o1, rfl, a1, rfl⟩⟩)))⟩, ?_⟩
            refine ⟨(fun i hi => ?_), (fun i hi => ?_), ⟨_, hU12, fun i hi => by rw [eV]; exact hV9 i hi⟩, ⟨_, hU13, fun i hi => by rw [w]; exact hN9 i hi⟩, ⟨_, _, hU1, ((hun _ (by simp only [List.mem_cons, List.not_mem_nil, or_false, not_or]; omega)).trans hT3), by rw [sz]; exact hL9, hB9⟩, fP, fA⟩
            · by_cases hk3 : i = i3
              · rw [hk3]; exact ⟨_, _, _, hU14, hU15, (by rw [eW0, eW1, eW2]; exact gw3)⟩
              · exact fW i hi hk3
            · by_cases hk3 : i = i3
              · rw [hk3]; exact ⟨_, _, _, _, _, hU16, hU17, hU18, (by rw [eD0, eD1, eD2, eD3, eD4]; exact gd3)⟩
              · exact fD i hi hk3
          · replace eV : u14_0 = t14_0 := eV
            replace eW0 : u16_0 = t16_0 := eW0
            replace eW1 : u16_1 = t16_1 := eW1
            replace eW2 : u17_0 = t17_0 := eW2
            replace eD0 : u18_0 = t18_0 := eD0
            replace eD1 : u18_1 = t18_1 := eD1
            replace eD2 : u19_0 = t19_0 := eD2
            replace eD3 : u19_1 = t19_1 := eD3
            replace eD4 : u20_0 = t20_0 := eD4
            replace sz : u2_0 = 0 := sz
            obtain ⟨uu, w1, w2⟩ := w
            replace w2 : u15_0 = vp_updL t15_0 x3.toNatClampNeg uu := w2
            refine ⟨(zsW σ, zsD σ, zsV σ, vp_updL (zsN σ) x3.toNatClampNeg uu, 0, zsB σ, zsP σ, zsA σ), Or.inr ⟨ok, Or.inr (Or.inr (Or.inr (⟨k, o, h1, Or.inr (Or.inl ⟨v, o1, fv, rfl, a1, ⟨uu, w1, rfl⟩⟩)⟩)))⟩, ?_⟩
            refine ⟨(fun i hi => ?_), (fun i hi => ?_), ⟨_, hU12, fun i hi => by rw [eV]; exact hV9 i hi⟩, ⟨_, hU13, fun i hi => by rw [w2]; exact x_up hN9 _ _ i hi⟩, ⟨_, _, hU1, ((hun _ (by simp only [List.mem_cons, List.not_mem_nil, or_false, not_or]; omega)).trans hT3), by rw [sz]; rfl, hB9⟩, fP, fA⟩
            · by_cases hk3 : i = i3
              · rw [hk3]; exact ⟨_, _, _, hU14, hU15, (by rw [eW0, eW1, eW2]; exact gw3)⟩
              · exact fW i hi hk3
            · by_cases hk3 : i = i3
              · rw [hk3]; exact ⟨_, _, _, _, _, hU16, hU17, hU18, (by rw [eD0, eD1, eD2, eD3, eD4]; exact gd3)⟩
              · exact fD i hi hk3
          · exact absurd (show (0 : Int32) = 2 from z) (by decide)
      · have hv := V_rdN (x2 := x2) (x3 := x3) (x4 := x4) (t0_0 := t0_0) (t0_1 := t0_1) (t1_0 := t1_0) (t1_1 := t1_1) (t1_2 := t1_2) (t1_3 := t1_3) (t1_4 := t1_4) (t1_5 := t1_5) (t1_6 := t1_6) (t1_7 := t1_7) (t1_8 := t1_8) (t1_9 := t1_9) (t2_0 := t2_0) (t3_0 := t3_0) (t4_0 := t4_0) (t4_1 := t4_1) (t5_0 := t5_0) (t6_0 := t6_0) (t6_1 := t6_1) (t7_0 := t7_0) (t8_0 := t8_0) (t8_1 := t8_1) (t9_0 := t9_0) (t10_0 := t10_0) (t10_1 := t10_1) (t11_0 := t11_0) (t12_0 := t12_0) (t12_1 := t12_1) (t13_0 := t13_0) (t14_0 := t14_0) (t15_0 := t15_0) (t16_0 := t16_0) (t16_1 := t16_1) (t17_0 := t17_0) (t18_0 := t18_0) (t18_1 := t18_1) (t19_0 := t19_0) (t19_1 := t19_1) (t20_0 := t20_0) ok
        rw [← hG] at hv
        obtain ⟨z, sz, eV, eN, eW0, eW1, eW2, eD0, eD1, eD2, eD3, eD4⟩ := hv
        exact absurd (show (0 : Int32) = 1 from z) (by decide)
  · rintro E u ⟨c, hE, hc, hI2, hun, u1_0, u1_1, u1_2, u1_3, u1_4, u1_5, u1_6, u1_7, u1_8, u1_9, u2_0, u4_0, u4_1, u5_0, u6_0, u6_1, u7_0, u8_0, u8_1, u9_0, u10_0, u10_1, u11_0, u12_0, u12_1, u13_0, u14_0, u15_0, u16_0, u16_1, u17_0, u18_0, u18_1, u19_0, u19_1, u20_0, hU0, hU1, hU2, hU3, hU4, hU5, hU6, hU7, hU8, hU9, hU10, hU11, hU12, hU13, hU14, hU15, hU16, hU17, hU18, hF⟩
    have hp := hq.2
    rw [← hF] at hp
    have hk := K_NH_read (x2 := x2) (x3 := x3) (x4 := x4) (t0_0 := t0_0) (t0_1 := t0_1) (t1_0 := t1_0) (t1_1 := t1_1) (t1_2 := t1_2) (t1_3 := t1_3) (t1_4 := t1_4) (t1_5 := t1_5) (t1_6 := t1_6) (t1_7 := t1_7) (t1_8 := t1_8) (t1_9 := t1_9) (t2_0 := t2_0) (t3_0 := t3_0) (t4_0 := t4_0) (t4_1 := t4_1) (t5_0 := t5_0) (t6_0 := t6_0) (t6_1 := t6_1) (t7_0 := t7_0) (t8_0 := t8_0) (t8_1 := t8_1) (t9_0 := t9_0) (t10_0 := t10_0) (t10_1 := t10_1) (t11_0 := t11_0) (t12_0 := t12_0) (t12_1 := t12_1) (t13_0 := t13_0) (t14_0 := t14_0) (t15_0 := t15_0) (t16_0 := t16_0) (t16_1 := t16_1) (t17_0 := t17_0) (t18_0 := t18_0) (t18_1 := t18_1) (t19_0 := t19_0) (t19_1 := t19_1) (t20_0 := t20_0)
    rw [← hF] at hk
    replace hk : kC12 c := hk
    refine ⟨c, hE, hk.resolve_left hc, ⟨hI2, ⟨fun i hi => ?_, fun i hi => ?_, ?_⟩, fun i hi => hun i (by simp only [List.mem_cons, List.not_mem_nil, or_false, not_or]; omega)⟩, ?_⟩
    · by_cases hk3 : i = i3
      · rw [hk3]; refine ⟨_, _, _, hU14, hU15, ?_⟩; first | exact hp.1
      · exact iW_fr (hC.1 i hi) (hun _ (by simp only [List.mem_cons, List.not_mem_nil, or_false, not_or]; omega)) (hun _ (by simp only [List.mem_cons, List.not_mem_nil, or_false, not_or]; omega))
    · by_cases hd3 : i = i3
      · rw [hd3]; refine ⟨_, _, _, _, _, hU16, hU17, hU18, ?_⟩; first | exact hp.2
      · exact iD_fr (hC.2.1 i hi) (hun _ (by simp only [List.mem_cons, List.not_mem_nil, or_false, not_or]; omega)) (hun _ (by simp only [List.mem_cons, List.not_mem_nil, or_false, not_or]; omega)) (hun _ (by simp only [List.mem_cons, List.not_mem_nil, or_false, not_or]; omega))
    · exact iO_fr hC.2.2 (hun _ (by simp only [List.mem_cons, List.not_mem_nil, or_false, not_or]; omega)) (hun _ (by simp only [List.mem_cons, List.not_mem_nil, or_false, not_or]; omega)) (hun _ (by simp only [List.mem_cons, List.not_mem_nil, or_false, not_or]; omega))
    · have hG := hF
      have fW : ∀ i, i < 10 → ¬ i = i3 → cWr g q u (66 + 5 * i) (zsW σ i) := fun i hi hk3 => cWr_fr (hS1 i hi) (hun _ (by simp only [List.mem_cons, List.not_mem_nil, or_false, not_or]; omega)) (hun _ (by simp only [List.mem_cons, List.not_mem_nil, or_false, not_or]; omega))
      have fD : ∀ i, i < 10 → ¬ i = i3 → cDr g q u (68 + 5 * i) (zsD σ i) := fun i hi hk3 => cDr_fr (hS2 i hi) (hun _ (by simp only [List.mem_cons, List.not_mem_nil, or_false, not_or]; omega)) (hun _ (by simp only [List.mem_cons, List.not_mem_nil, or_false, not_or]; omega)) (hun _ (by simp only [List.mem_cons, List.not_mem_nil, or_false, not_or]; omega))
      have fP : cPp g q u (zsP σ) := (cPp_fr hS6 (hun _ (by simp only [List.mem_cons, List.not_mem_nil, or_false, not_or]; omega)) (hun _ (by simp only [List.mem_cons, List.not_mem_nil, or_false, not_or]; omega)))
      have fA : cAr g q u (zsA σ) := (cAr_fr hS7 (fun i _ _ => (hun _ (by simp only [List.mem_cons, List.not_mem_nil, or_false, not_or]; omega))) (fun i _ _ => (hun _ (by simp only [List.mem_cons, List.not_mem_nil, or_false, not_or]; omega))))
      by_cases ok : yOk x2.toInt x3.toInt x4.toInt
      · have e33 := e3 (x_reg ok.2.1)
        rcases x_k4 ok.1 with k | k | k | k
        · obtain ⟨b, hb⟩ : ∃ b : Nat, x4.toInt = (b : Int) := ⟨x4.toInt.toNat, by rcases ok.2.2 with w | w <;> omega⟩
          have hv := V_rd0 (x2 := x2) (x3 := x3) (x4 := x4) (t0_0 := t0_0) (t0_1 := t0_1) (t1_0 := t1_0) (t1_1 := t1_1) (t1_2 := t1_2) (t1_3 := t1_3) (t1_4 := t1_4) (t1_5 := t1_5) (t1_6 := t1_6) (t1_7 := t1_7) (t1_8 := t1_8) (t1_9 := t1_9) (t2_0 := t2_0) (t3_0 := t3_0) (t4_0 := t4_0) (t4_1 := t4_1) (t5_0 := t5_0) (t6_0 := t6_0) (t6_1 := t6_1) (t7_0 := t7_0) (t8_0 := t8_0) (t8_1 := t8_1) (t9_0 := t9_0) (t10_0 := t10_0) (t10_1 := t10_1) (t11_0 := t11_0) (t12_0 := t12_0) (t12_1 := t12_1) (t13_0 := t13_0) (t14_0 := t14_0) (t15_0 := t15_0) (t16_0 := t16_0) (t16_1 := t16_1) (t17_0 := t17_0) (t18_0 := t18_0) (t18_1 := t18_1) (t19_0 := t19_0) (t19_1 := t19_1) (t20_0 := t20_0) ok k hL9 hk0.2.2.2.2.1 hb
          rw [← hG] at hv
          obtain ⟨o, h1, h2, eV, eN, eD0, eD1, eD2, eD3, eD4⟩ := hv
          rw [← hB9] at h1
          rcases h2 with ⟨o1, z, a1, sz, w⟩ | ⟨v, o1, fv, z, a1, sz, w⟩ | ⟨v, o1, fv, z, sz, w⟩
          · exact absurd z hc
          · exact absurd z hc
          · replace eV : u14_0 = t14_0 := eV
            replace eN : u15_0 = t15_0 := eN
            replace eD0 : u18_0 = t18_0 := eD0
            replace eD1 : u18_1 = t18_1 := eD1
            replace eD2 : u19_0 = t19_0 := eD2
            replace eD3 : u19_1 = t19_1 := eD3
            replace eD4 : u20_0 = t20_0 := eD4
            replace sz : u2_0 = t2_0 := sz
            obtain ⟨eW0, eW1, eW2⟩ := w
            replace eW0 : u16_0 = t16_0 := eW0
            replace eW1 : u16_1 = t16_1 := eW1
            replace eW2 : u17_0 = t17_0 := eW2
            refine ⟨Or.inr ⟨ok, Or.inl ⟨k, b, o, hb, h1, Or.inr (Or.inr ⟨v, o1, fv, z, rfl⟩)⟩⟩, ?_⟩
            refine ⟨(fun i hi => ?_), (fun i hi => ?_), ⟨_, hU12, fun i hi => by rw [eV]; exact hV9 i hi⟩, ⟨_, hU13, fun i hi => by rw [eN]; exact hN9 i hi⟩, ⟨_, _, hU1, ((hun _ (by simp only [List.mem_cons, List.not_mem_nil, or_false, not_or]; omega)).trans hT3), by rw [sz]; exact hL9, hB9⟩, fP, fA⟩
            · by_cases hk3 : i = i3
              · rw [hk3]; exact ⟨_, _, _, hU14, hU15, (by rw [eW0, eW1, eW2]; exact gw3)⟩
              · exact fW i hi hk3
            · by_cases hk3 : i = i3
              · rw [hk3]; exact ⟨_, _, _, _, _, hU16, hU17, hU18, (by rw [eD0, eD1, eD2, eD3, eD4]; exact gd3)⟩
              · exact fD i hi hk3
        · have hv := V_rd1 (x2 := x2) (x3 := x3) (x4 := x4) (t0_0 := t0_0) (t0_1 := t0_1) (t1_0 := t1_0) (t1_1 := t1_1) (t1_2 := t1_2) (t1_3 := t1_3) (t1_4 := t1_4) (t1_5 := t1_5) (t1_6 := t1_6) (t1_7 := t1_7) (t1_8 := t1_8) (t1_9 := t1_9) (t2_0 := t2_0) (t3_0 := t3_0) (t4_0 := t4_0) (t4_1 := t4_1) (t5_0 := t5_0) (t6_0 := t6_0) (t6_1 := t6_1) (t7_0 := t7_0) (t8_0 := t8_0) (t8_1 := t8_1) (t9_0 := t9_0) (t10_0 := t10_0) (t10_1 := t10_1) (t11_0 := t11_0) (t12_0 := t12_0) (t12_1 := t12_1) (t13_0 := t13_0) (t14_0 := t14_0) (t15_0 := t15_0) (t16_0 := t16_0) (t16_1 := t16_1) (t17_0 := t17_0) (t18_0 := t18_0) (t18_1 := t18_1) (t19_0 := t19_0) (t19_1 := t19_1) (t20_0 := t20_0) ok k hL9 hk0.2.2.2.2.1 gd3 trivial
          rw [← hG] at hv
          obtain ⟨o, h1, h2, eV, eN, eW0, eW1, eW2⟩ := hv
          rw [← hB9] at h1
          rcases h2 with ⟨o1, z, a1, sz, w⟩ | ⟨v, o1, fv, z, a1, sz, w⟩ | ⟨v, o1, fv, z, sz, w⟩
          · exact absurd z hc
          · exact absurd z hc
          · replace eV : u14_0 = t14_0 := eV
            replace eN : u15_0 = t15_0 := eN
            replace eW0 : u16_0 = t16_0 := eW0
            replace eW1 : u16_1 = t16_1 := eW1
            replace eW2 : u17_0 = t17_0 := eW2
            replace sz : u2_0 = t2_0 := sz
            refine ⟨Or.inr ⟨ok, Or.inr (Or.inl ⟨k, o, h1, Or.inr (Or.inr ⟨v, o1, fv, z, rfl⟩)⟩)⟩, ?_⟩
            refine ⟨(fun i hi => ?_), (fun i hi => ?_), ⟨_, hU12, fun i hi => by rw [eV]; exact hV9 i hi⟩, ⟨_, hU13, fun i hi => by rw [eN]; exact hN9 i hi⟩, ⟨_, _, hU1, ((hun _ (by simp only [List.mem_cons, List.not_mem_nil, or_false, not_or]; omega)).trans hT3), by rw [sz]; exact hL9, hB9⟩, fP, fA⟩
            · by_cases hk3 : i = i3
              · rw [hk3]; exact ⟨_, _, _, hU14, hU15, (by rw [eW0, eW1, eW2]; exact gw3)⟩
              · exact fW i hi hk3
            · by_cases hk3 : i = i3
              · rw [hk3]; exact ⟨_, _, _, _, _, hU16, hU17, hU18, w⟩
              · exact fD i hi hk3
        · have hv := V_rd2 (x2 := x2) (x3 := x3) (x4 := x4) (t0_0 := t0_0) (t0_1 := t0_1) (t1_0 := t1_0) (t1_1 := t1_1) (t1_2 := t1_2) (t1_3 := t1_3) (t1_4 := t1_4) (t1_5 := t1_5) (t1_6 := t1_6) (t1_7 := t1_7) (t1_8 := t1_8) (t1_9 := t1_9) (t2_0 := t2_0) (t3_0 := t3_0) (t4_0 := t4_0) (t4_1 := t4_1) (t5_0 := t5_0) (t6_0 := t6_0) (t6_1 := t6_1) (t7_0 := t7_0) (t8_0 := t8_0) (t8_1 := t8_1) (t9_0 := t9_0) (t10_0 := t10_0) (t10_1 := t10_1) (t11_0 := t11_0) (t12_0 := t12_0) (t12_1 := t12_1) (t13_0 := t13_0) (t14_0 := t14_0) (t15_0 := t15_0) (t16_0 := t16_0) (t16_1 := t16_1) (t17_0 := t17_0) (t18_0 := t18_0) (t18_1 := t18_1) (t19_0 := t19_0) (t19_1 := t19_1) (t20_0 := t20_0) ok k hL9 hk0.2.2.2.2.1
          rw [← hG] at hv
          obtain ⟨o, h1, h2, eN, eW0, eW1, eW2, eD0, eD1, eD2, eD3, eD4⟩ := hv
          rw [← hB9] at h1
          rcases h2 with ⟨o1, z, a1, sz, w⟩ | ⟨v, o1, fv, z, a1, sz, w⟩ | ⟨v, o1, fv, z, sz, w⟩
          · exact absurd z hc
          · exact absurd z hc
          · replace eN : u15_0 = t15_0 := eN
            replace eW0 : u16_0 = t16_0 := eW0
            replace eW1 : u16_1 = t16_1 := eW1
            replace eW2 : u17_0 = t17_0 := eW2
            replace eD0 : u18_0 = t18_0 := eD0
            replace eD1 : u18_1 = t18_1 := eD1
            replace eD2 : u19_0 = t19_0 := eD2
            replace eD3 : u19_1 = t19_1 := eD3
            replace eD4 : u20_0 = t20_0 := eD4
            replace sz : u2_0 = t2_0 := sz
            replace w : u14_0 = t14_0 := w
            refine ⟨Or.inr ⟨ok, Or.inr (Or.inr (Or.inl ⟨k, o, h1, Or.inr (Or.inr ⟨v, o1, fv, z, rfl⟩)⟩))⟩, ?_⟩
            refine ⟨(fun i hi => ?_), (fun i hi => ?_), ⟨_, hU12, fun i hi => by rw [w]; exact hV9 i hi⟩, ⟨_, hU13, fun i hi => by rw [eN]; exact hN9 i hi⟩, ⟨_, _, hU1, ((hun _ (by simp only [List.mem_cons, List.not_mem_nil, or_false, not_or]; omega)).trans hT3), by rw [sz]; exact hL9, hB9⟩, fP, fA⟩
            · by_cases hk3 : i = i3
              · rw [hk3]; exact ⟨_, _, _, hU14, hU15, (by rw [eW0, eW1, eW2]; exact gw3)⟩
              · exact fW i hi hk3
            · by_cases hk3 : i = i3
              · rw [hk3]; exact ⟨_, _, _, _, _, hU16, hU17, hU18, (by rw [eD0, eD1, eD2, eD3, eD4]; exact gd3)⟩
              · exact fD i hi hk3
        · have hv := V_rd3 (x2 := x2) (x3 := x3) (x4 := x4) (t0_0 := t0_0) (t0_1 := t0_1) (t1_0 := t1_0) (t1_1 := t1_1) (t1_2 := t1_2) (t1_3 := t1_3) (t1_4 := t1_4) (t1_5 := t1_5) (t1_6 := t1_6) (t1_7 := t1_7) (t1_8 := t1_8) (t1_9 := t1_9) (t2_0 := t2_0) (t3_0 := t3_0) (t4_0 := t4_0) (t4_1 := t4_1) (t5_0 := t5_0) (t6_0 := t6_0) (t6_1 := t6_1) (t7_0 := t7_0) (t8_0 := t8_0) (t8_1 := t8_1) (t9_0 := t9_0) (t10_0 := t10_0) (t10_1 := t10_1) (t11_0 := t11_0) (t12_0 := t12_0) (t12_1 := t12_1) (t13_0 := t13_0) (t14_0 := t14_0) (t15_0 := t15_0) (t16_0 := t16_0) (t16_1 := t16_1) (t17_0 := t17_0) (t18_0 := t18_0) (t18_1 := t18_1) (t19_0 := t19_0) (t19_1 := t19_1) (t20_0 := t20_0) ok k hL9 hk0.2.2.2.2.1
          rw [← hG] at hv
          obtain ⟨o, h1, h2, eV, eW0, eW1, eW2, eD0, eD1, eD2, eD3, eD4⟩ := hv
          rw [← hB9] at h1
          rcases h2 with ⟨o1, z, a1, sz, w⟩ | ⟨v, o1, fv, z, a1, sz, w⟩ | ⟨v, o1, fv, z, sz, w⟩
          · exact absurd z hc
          · exact absurd z hc
          · replace eV : u14_0 = t14_0 := eV
            replace eW0 : u16_0 = t16_0 := eW0
            replace eW1 : u16_1 = t16_1 := eW1
            replace eW2 : u17_0 = t17_0 := eW2
            replace eD0 : u18_0 = t18_0 := eD0
            replace eD1 : u18_1 = t18_1 := eD1
            replace eD2 : u19_0 = t19_0 := eD2
            replace eD3 : u19_1 = t19_1 := eD3
            replace eD4 : u20_0 = t20_0 := eD4
            replace sz : u2_0 = t2_0 := sz
            replace w : u15_0 = t15_0 := w
            refine ⟨Or.inr ⟨ok, Or.inr (Or.inr (Or.inr (⟨k, o, h1, Or.inr (Or.inr ⟨v, o1, fv, z, rfl⟩)⟩)))⟩, ?_⟩
            refine ⟨(fun i hi => ?_), (fun i hi => ?_), ⟨_, hU12, fun i hi => by rw [eV]; exact hV9 i hi⟩, ⟨_, hU13, fun i hi => by rw [w]; exact hN9 i hi⟩, ⟨_, _, hU1, ((hun _ (by simp only [List.mem_cons, List.not_mem_nil, or_false, not_or]; omega)).trans hT3), by rw [sz]; exact hL9, hB9⟩, fP, fA⟩
            · by_cases hk3 : i = i3
              · rw [hk3]; exact ⟨_, _, _, hU14, hU15, (by rw [eW0, eW1, eW2]; exact gw3)⟩
              · exact fW i hi hk3
            · by_cases hk3 : i = i3
              · rw [hk3]; exact ⟨_, _, _, _, _, hU16, hU17, hU18, (by rw [eD0, eD1, eD2, eD3, eD4]; exact gd3)⟩
              · exact fD i hi hk3
      · have hv := V_rdN (x2 := x2) (x3 := x3) (x4 := x4) (t0_0 := t0_0) (t0_1 := t0_1) (t1_0 := t1_0) (t1_1 := t1_1) (t1_2 := t1_2) (t1_3 := t1_3) (t1_4 := t1_4) (t1_5 := t1_5) (t1_6 := t1_6) (t1_7 := t1_7) (t1_8 := t1_8) (t1_9 := t1_9) (t2_0 := t2_0) (t3_0 := t3_0) (t4_0 := t4_0) (t4_1 := t4_1) (t5_0 := t5_0) (t6_0 := t6_0) (t6_1 := t6_1) (t7_0 := t7_0) (t8_0 := t8_0) (t8_1 := t8_1) (t9_0 := t9_0) (t10_0 := t10_0) (t10_1 := t10_1) (t11_0 := t11_0) (t12_0 := t12_0) (t12_1 := t12_1) (t13_0 := t13_0) (t14_0 := t14_0) (t15_0 := t15_0) (t16_0 := t16_0) (t16_1 := t16_1) (t17_0 := t17_0) (t18_0 := t18_0) (t18_1 := t18_1) (t19_0 := t19_0) (t19_1 := t19_1) (t20_0 := t20_0) ok
        rw [← hG] at hv
        obtain ⟨z, sz, eV, eN, eW0, eW1, eW2, eD0, eD1, eD2, eD3, eD4⟩ := hv
        replace eV : u14_0 = t14_0 := eV
        replace eN : u15_0 = t15_0 := eN
        replace eW0 : u16_0 = t16_0 := eW0
        replace eW1 : u16_1 = t16_1 := eW1
        replace eW2 : u17_0 = t17_0 := eW2
        replace eD0 : u18_0 = t18_0 := eD0
        replace eD1 : u18_1 = t18_1 := eD1
        replace eD2 : u19_0 = t19_0 := eD2
        replace eD3 : u19_1 = t19_1 := eD3
        replace eD4 : u20_0 = t20_0 := eD4
        replace sz : u2_0 = t2_0 := sz
        refine ⟨Or.inl ⟨ok, z, rfl⟩, ?_⟩
        refine ⟨(fun i hi => ?_), (fun i hi => ?_), ⟨_, hU12, fun i hi => by rw [eV]; exact hV9 i hi⟩, ⟨_, hU13, fun i hi => by rw [eN]; exact hN9 i hi⟩, ⟨_, _, hU1, ((hun _ (by simp only [List.mem_cons, List.not_mem_nil, or_false, not_or]; omega)).trans hT3), by rw [sz]; exact hL9, hB9⟩, fP, fA⟩
        · by_cases hk3 : i = i3
          · rw [hk3]; exact ⟨_, _, _, hU14, hU15, (by rw [eW0, eW1, eW2]; exact gw3)⟩
          · exact fW i hi hk3
        · by_cases hk3 : i = i3
          · rw [hk3]; exact ⟨_, _, _, _, _, hU16, hU17, hU18, (by rw [eD0, eD1, eD2, eD3, eD4]; exact gd3)⟩
          · exact fD i hi hk3
set_option maxRecDepth 100000 in
set_option maxHeartbeats 4000000 in
theorem DM_read (l : Launch) (D : va_G) (g : Nat → ClassId) (q : Nat → Nat) (ws : va_W) (x2 : Int32) (x3 : Int32) (x4 : Int32) (hI : q_I (msh g q) q ws) (hM : iM g q ws) {th : Int32} {σ : zSt} (hS : sM g q ws th σ) (hk0 : zOk σ) : q_mI l y_NM_read prog_14_method_15_code 8 (.boolean) 7 0 0 D g [.ref (q 116), .int x2, .int x3, .int x4] ws (fun r u => jP g q ws u ∧ ∃ c σ2, rRd x2 x3 x4 σ c r σ2 ∧ sM g q u c σ2) := by
  have hM0 := hM
  obtain ⟨t3_0, t4_0, hT3, hT4, hW⟩ := hM.1
  obtain ⟨t8_0, t9_0, t10_0, t11_0, hT8, hT9, hT10, hT11, hD⟩ := hM.2.1
  obtain ⟨t18_0, hT18, hB⟩ := hM.2.2.2
  obtain ⟨t0_0, t0_1, t0_2, hT0, bT0⟩ := n_o116 hI
  obtain ⟨t1_0, t1_1, t1_2, t1_3, t1_4, t1_5, t1_6, hT1, bT1⟩ := n_o119 hI
  obtain ⟨t2_0, hT2, -⟩ := n_ai hI (n_s120 g q)
  obtain ⟨t5_0, hT5, -⟩ := n_ai hI (n_s123 g q)
  obtain ⟨t6_0, t6_1, t6_2, t6_3, t6_4, t6_5, t6_6, t6_7, t6_8, t6_9, t6_10, hT6, bT6⟩ := n_o134 hI
  obtain ⟨t7_0, hT7, -⟩ := n_ai hI (n_s135 g q)
  obtain ⟨t12_0, hT12, -⟩ := n_ai hI (n_s140 g q)
  obtain ⟨t13_0, t13_1, t13_2, t13_3, t13_4, t13_5, t13_6, t13_7, t13_8, t13_9, t13_10, t13_11, t13_12, t13_13, hT13, bT13⟩ := n_o153 hI
  obtain ⟨t14_0, hT14, -⟩ := n_ai hI (n_s154 g q)
  obtain ⟨t15_0, hT15, -⟩ := n_ai hI (n_s155 g q)
  obtain ⟨t16_0, hT16, -⟩ := n_ai hI (n_s156 g q)
  obtain ⟨t17_0, hT17, -⟩ := n_ai hI (n_s117 g q)
  obtain ⟨hS1, hS2, hS3, hS4, hS5⟩ := hS
  obtain ⟨s9, p9, r9, r8, y0, y1, y2, jL9, jT9, jP9⟩ := hS4
  obtain ⟨-, rfl, rfl⟩ := x_116 hT0 y0
  obtain rfl := x_ri hT17 y1
  obtain ⟨f0, f1, ya, yb, hw9⟩ := hS1
  obtain rfl := x_ri hT3 ya
  obtain rfl := x_ri hT4 yb
  have hS1 : mWr g q ws (zsW σ) := ⟨_, _, ya, yb, hw9⟩
  obtain ⟨g0, g1, g2, g3, yc, yd, ye, yg, hd9⟩ := hS2
  obtain rfl := x_ri hT8 yc
  obtain rfl := x_ri hT9 yd
  obtain rfl := x_ri hT10 ye
  obtain rfl := x_ri hT11 yg
  have hS2 : mDr g q ws (zsD σ) := ⟨_, _, _, _, yc, yd, ye, yg, hd9⟩
  obtain ⟨f9, yf, hV9, hN9⟩ := hS3
  obtain rfl := x_rl hT18 yf
  have hS3 : mFr g q ws (zsV σ) (zsN σ) := ⟨_, yf, hV9, hN9⟩
  have hq := T_NM_read (x2 := x2) (x3 := x3) (x4 := x4) (t0_0 := t0_0) (t0_1 := t0_1) (t0_2 := t0_2) (t1_0 := t1_0) (t1_1 := t1_1) (t1_2 := t1_2) (t1_3 := t1_3) (t1_4 := t1_4) (t1_5 := t1_5) (t1_6 := t1_6) (t2_0 := t2_0) (t3_0 := t3_0) (t4_0 := t4_0) (t5_0 := t5_0) (t6_0 := t6_0) (t6_1 := t6_1) (t6_2 := t6_2) (t6_3 := t6_3) (t6_4 := t6_4) (t6_5 := t6_5) (t6_6 := t6_6) (t6_7 := t6_7) (t6_8 := t6_8) (t6_9 := t6_9) (t6_10 := t6_10) (t7_0 := t7_0) (t8_0 := t8_0) (t9_0 := t9_0) (t10_0 := t10_0) (t11_0 := t11_0) (t12_0 := t12_0) (t13_0 := t13_0) (t13_1 := t13_1) (t13_2 := t13_2) (t13_3 := t13_3) (t13_4 := t13_4) (t13_5 := t13_5) (t13_6 := t13_6) (t13_7 := t13_7) (t13_8 := t13_8) (t13_9 := t13_9) (t13_10 := t13_10) (t13_11 := t13_11) (t13_12 := t13_12) (t13_13 := t13_13) (t14_0 := t14_0) (t15_0 := t15_0) (t16_0 := t16_0) (t17_0 := t17_0) (t18_0 := t18_0) (by first | exact bT0 | exact bT0.1 | exact bT0.2 | exact bT0.2.1 | exact bT0.2.2 | exact bT0.2.2.1 | exact bT0.2.2.2) hW hD hB
  refine q_mIw (X_NM_read l D g q ws x2 x3 x4 hI t0_0 t0_1 t0_2 hT0 t1_0 t1_1 t1_2 t1_3 t1_4 t1_5 t1_6 hT1 t2_0 hT2 t3_0 hT3 t4_0 hT4 t5_0 hT5 t6_0 t6_1 t6_2 t6_3 t6_4 t6_5 t6_6 t6_7 t6_8 t6_9 t6_10 hT6 t7_0 hT7 t8_0 hT8 t9_0 hT9 t10_0 hT10 t11_0 hT11 t12_0 hT12 t13_0 t13_1 t13_2 t13_3 t13_4 t13_5 t13_6 t13_7 t13_8 t13_9 t13_10 t13_11 t13_12 t13_13 hT13 t14_0 hT14 t15_0 hT15 t16_0 hT16 t17_0 hT17 t18_0 hT18 ⟨trivial, hq.1⟩) ?_
  rintro r u ⟨hI2, hun, u0_0, u0_1, u1_0, u1_1, u1_2, u1_3, u1_4, u1_5, u1_6, u2_0, u3_0, u4_0, u5_0, u6_0, u6_1, u6_2, u6_3, u6_4, u6_5, u6_6, u6_7, u6_8, u6_9, u6_10, u7_0, u8_0, u9_0, u10_0, u11_0, u12_0, u13_0, u13_1, u13_2, u13_3, u13_4, u13_5, u13_6, u13_7, u13_8, u13_9, u13_10, u13_11, u13_12, u13_13, u14_0, u15_0, u16_0, u18_0, hU0, hU1, hU2, hU3, hU4, hU5, hU6, hU7, hU8, hU9, hU10, hU11, hU12, hU13, hU14, hU15, hU16, hU17, hR⟩
  have hp := hq.2
  rw [← hR.2.2.2.2.2.2.2.2.2.2.2.2.2.2.2.2.2.2.2.2.2.2.2.2.2.2.2.2.2.2.2.2.2.2.2.2.2.2.2.2.2.2.2.2.2.2.2.2] at hp
  refine ⟨⟨hI2, ⟨⟨_, _, hU3, hU4, hp.1⟩, ⟨_, _, _, _, hU8, hU9, hU10, hU11, hp.2.1⟩, jZ_fr hM0.2.2.1 (hun 160 (by decide)), ⟨_, hU17, hp.2.2⟩⟩, jF_un hun (by decide)⟩, ?_⟩
  have hG := hR.2.2.2.2.2.2.2.2.2.2.2.2.2.2.2.2.2.2.2.2.2.2.2.2.2.2.2.2.2.2.2.2.2.2.2.2.2.2.2.2.2.2.2.2.2.2.2.2
  by_cases ok : yOk x2.toInt x3.toInt x4.toInt
  · rcases x_k4 ok.1 with k | k | k | k
    · obtain ⟨b, hb⟩ : ∃ b : Nat, x4.toInt = (b : Int) := ⟨x4.toInt.toNat, by rcases ok.2.2 with w | w <;> omega⟩
      obtain ⟨W9, hr9, hE9⟩ := hw9
      have hv := V_mrd0 (x2 := x2) (x3 := x3) (x4 := x4) (t0_0 := t0_0) (t0_1 := t0_1) (t0_2 := t0_2) (t1_0 := t1_0) (t1_1 := t1_1) (t1_2 := t1_2) (t1_3 := t1_3) (t1_4 := t1_4) (t1_5 := t1_5) (t1_6 := t1_6) (t2_0 := t2_0) (t3_0 := t3_0) (t4_0 := t4_0) (t5_0 := t5_0) (t6_0 := t6_0) (t6_1 := t6_1) (t6_2 := t6_2) (t6_3 := t6_3) (t6_4 := t6_4) (t6_5 := t6_5) (t6_6 := t6_6) (t6_7 := t6_7) (t6_8 := t6_8) (t6_9 := t6_9) (t6_10 := t6_10) (t7_0 := t7_0) (t8_0 := t8_0) (t9_0 := t9_0) (t10_0 := t10_0) (t11_0 := t11_0) (t12_0 := t12_0) (t13_0 := t13_0) (t13_1 := t13_1) (t13_2 := t13_2) (t13_3 := t13_3) (t13_4 := t13_4) (t13_5 := t13_5) (t13_6 := t13_6) (t13_7 := t13_7) (t13_8 := t13_8) (t13_9 := t13_9) (t13_10 := t13_10) (t13_11 := t13_11) (t13_12 := t13_12) (t13_13 := t13_13) (t14_0 := t14_0) (t15_0 := t15_0) (t16_0 := t16_0) (t17_0 := t17_0) (t18_0 := t18_0) ok k jT9 jL9 hk0.2.2.2.2.1 hb hr9
      rw [← hG] at hv
      obtain ⟨o, h1, h2, eD0, eD1, eD2, eD3, eF⟩ := hv
      rcases h2 with ⟨o1, z, a1, sz, w⟩ | ⟨v, o1, fv, z, a1, sz, w⟩ | ⟨v, o1, fv, z, sz, w⟩
      · replace eD0 : u8_0 = t8_0 := eD0
        replace eD1 : u9_0 = t9_0 := eD1
        replace eD2 : u10_0 = t10_0 := eD2
        replace eD3 : u11_0 = t11_0 := eD3
        replace eF : u18_0 = t18_0 := eF
        replace z : u0_0 = 0 := z
        replace sz : u0_1 = t0_1 := sz
        exact ⟨0, σ, Or.inr ⟨ok, Or.inl ⟨k, b, o, hb, h1, Or.inl ⟨o1, rfl, a1, rfl⟩⟩⟩, ⟨⟨_, _, hU3, hU4, ⟨_, w, hE9⟩⟩, ⟨_, _, _, _, hU8, hU9, hU10, hU11, (by rw [eD0, eD1, eD2, eD3]; exact hd9)⟩, ⟨_, hU17, fun i hi => by rw [eF]; exact hV9 i hi, fun i hi => by rw [eF]; exact hN9 i hi⟩, ⟨_, _, _, _, by rw [← z]; exact hU0, (hun 117 (by decide)).trans y1, (hun 118 (by decide)).trans y2, by rw [sz]; exact jL9, jT9, jP9⟩, (mAr_fr hS5 (hun 157 (by decide)) (hun 159 (by decide)) (hun 160 (by decide)) (hun 161 (by decide)) (hun 162 (by decide)))⟩⟩
      · replace eD0 : u8_0 = t8_0 := eD0
        replace eD1 : u9_0 = t9_0 := eD1
        replace eD2 : u10_0 = t10_0 := eD2
        replace eD3 : u11_0 = t11_0 := eD3
        replace eF : u18_0 = t18_0 := eF
        replace z : u0_0 = 0 := z
        replace sz : u0_1 = 0 := sz
        exact ⟨0, (updW (zsW σ) x3.toNatClampNeg v, zsD σ, zsV σ, zsN σ, 0, zsB σ, zsP σ, zsA σ), Or.inr ⟨ok, Or.inl ⟨k, b, o, hb, h1, Or.inr (Or.inl ⟨v, o1, fv, rfl, a1, rfl⟩)⟩⟩, ⟨⟨_, _, hU3, hU4, ⟨_, w, fun i hi => by unfold updW; rw [hE9 i hi]⟩⟩, ⟨_, _, _, _, hU8, hU9, hU10, hU11, (by rw [eD0, eD1, eD2, eD3]; exact hd9)⟩, ⟨_, hU17, fun i hi => by rw [eF]; exact hV9 i hi, fun i hi => by rw [eF]; exact hN9 i hi⟩, ⟨_, _, _, _, by rw [← z]; exact hU0, (hun 117 (by decide)).trans y1, (hun 118 (by decide)).trans y2, by rw [sz]; rfl, fun i hi => absurd hi (Nat.not_lt_zero _), jP9⟩, (mAr_fr hS5 (hun 157 (by decide)) (hun 159 (by decide)) (hun 160 (by decide)) (hun 161 (by decide)) (hun 162 (by decide)))⟩⟩
      · replace eD0 : u8_0 = t8_0 := eD0
        replace eD1 : u9_0 = t9_0 := eD1
        replace eD2 : u10_0 = t10_0 := eD2
        replace eD3 : u11_0 = t11_0 := eD3
        replace eF : u18_0 = t18_0 := eF
        replace z : u0_0 = 2 := z
        replace sz : u0_1 = t0_1 := sz
        exact ⟨2, σ, Or.inr ⟨ok, Or.inl ⟨k, b, o, hb, h1, Or.inr (Or.inr ⟨v, o1, fv, rfl, rfl⟩)⟩⟩, ⟨⟨_, _, hU3, hU4, ⟨_, w, hE9⟩⟩, ⟨_, _, _, _, hU8, hU9, hU10, hU11, (by rw [eD0, eD1, eD2, eD3]; exact hd9)⟩, ⟨_, hU17, fun i hi => by rw [eF]; exact hV9 i hi, fun i hi => by rw [eF]; exact hN9 i hi⟩, ⟨_, _, _, _, by rw [← z]; exact hU0, (hun 117 (by decide)).trans y1, (hun 118 (by decide)).trans y2, by rw [sz]; exact jL9, jT9, jP9⟩, (mAr_fr hS5 (hun 157 (by decide)) (hun 159 (by decide)) (hun 160 (by decide)) (hun 161 (by decide)) (hun 162 (by decide)))⟩⟩
    · have hv := V_mrd1 (x2 := x2) (x3 := x3) (x4 := x4) (t0_0 := t0_0) (t0_1 := t0_1) (t0_2 := t0_2) (t1_0 := t1_0) (t1_1 := t1_1) (t1_2 := t1_2) (t1_3 := t1_3) (t1_4 := t1_4) (t1_5 := t1_5) (t1_6 := t1_6) (t2_0 := t2_0) (t3_0 := t3_0) (t4_0 := t4_0) (t5_0 := t5_0) (t6_0 := t6_0) (t6_1 := t6_1) (t6_2 := t6_2) (t6_3 := t6_3) (t6_4 := t6_4) (t6_5 := t6_5) (t6_6 := t6_6) (t6_7 := t6_7) (t6_8 := t6_8) (t6_9 := t6_9) (t6_10 := t6_10) (t7_0 := t7_0) (t8_0 := t8_0) (t9_0 := t9_0) (t10_0 := t10_0) (t11_0 := t11_0) (t12_0 := t12_0) (t13_0 := t13_0) (t13_1 := t13_1) (t13_2 := t13_2) (t13_3 := t13_3) (t13_4 := t13_4) (t13_5 := t13_5) (t13_6 := t13_6) (t13_7 := t13_7) (t13_8 := t13_8) (t13_9 := t13_9) (t13_10 := t13_10) (t13_11 := t13_11) (t13_12 := t13_12) (t13_13 := t13_13) (t14_0 := t14_0) (t15_0 := t15_0) (t16_0 := t16_0) (t17_0 := t17_0) (t18_0 := t18_0) ok k jT9 jL9 hk0.2.2.2.2.1 hd9
      rw [← hG] at hv
      obtain ⟨o, h1, h2, eW0, eW1, eF⟩ := hv
      rcases h2 with ⟨o1, z, a1, sz, w⟩ | ⟨v, o1, fv, z, a1, sz, w⟩ | ⟨v, o1, fv, z, sz, w⟩
      · replace eW0 : u3_0 = t3_0 := eW0
        replace eW1 : u4_0 = t4_0 := eW1
        replace eF : u18_0 = t18_0 := eF
        replace z : u0_0 = 0 := z
        replace sz : u0_1 = t0_1 := sz
        exact ⟨0, σ, Or.inr ⟨ok, Or.inr (Or.inl ⟨k, o, h1, Or.inl ⟨o1, rfl, a1, rfl⟩⟩)⟩, ⟨⟨_, _, hU3, hU4, (by rw [eW0, eW1]; exact hw9)⟩, ⟨_, _, _, _, hU8, hU9, hU10, hU11, w⟩, ⟨_, hU17, fun i hi => by rw [eF]; exact hV9 i hi, fun i hi => by rw [eF]; exact hN9 i hi⟩, ⟨_, _, _, _, by rw [← z]; exact hU0, (hun 117 (by decide)).trans y1, (hun 118 (by decide)).trans y2, by rw [sz]; exact jL9, jT9, jP9⟩, (mAr_fr hS5 (hun 157 (by decide)) (hun 159 (by decide)) (hun 160 (by decide)) (hun 161 (by decide)) (hun 162 (by decide)))⟩⟩
      · replace eW0 : u3_0 = t3_0 := eW0
        replace eW1 : u4_0 = t4_0 := eW1
        replace eF : u18_0 = t18_0 := eF
        replace z : u0_0 = 0 := z
        replace sz : u0_1 = 0 := sz
        exact ⟨0, (zsW σ, updD (zsD σ) x3.toNatClampNeg v, zsV σ, zsN σ, 0, zsB σ, zsP σ, zsA σ), Or.inr ⟨ok, Or.inr (Or.inl ⟨k, o, h1, Or.inr (Or.inl ⟨v, o1, fv, rfl, a1, rfl⟩)⟩)⟩, ⟨⟨_, _, hU3, hU4, (by rw [eW0, eW1]; exact hw9)⟩, ⟨_, _, _, _, hU8, hU9, hU10, hU11, w⟩, ⟨_, hU17, fun i hi => by rw [eF]; exact hV9 i hi, fun i hi => by rw [eF]; exact hN9 i hi⟩, ⟨_, _, _, _, by rw [← z]; exact hU0, (hun 117 (by decide)).trans y1, (hun 118 (by decide)).trans y2, by rw [sz]; rfl, fun i hi => absurd hi (Nat.not_lt_zero _), jP9⟩, (mAr_fr hS5 (hun 157 (by decide)) (hun 159 (by decide)) (hun 160 (by decide)) (hun 161 (by decide)) (hun 162 (by decide)))⟩⟩
      · replace eW0 : u3_0 = t3_0 := eW0
        replace eW1 : u4_0 = t4_0 := eW1
        replace eF : u18_0 = t18_0 := eF
        replace z : u0_0 = 2 := z
        replace sz : u0_1 = t0_1 := sz
        exact ⟨2, σ, Or.inr ⟨ok, Or.inr (Or.inl ⟨k, o, h1, Or.inr (Or.inr ⟨v, o1, fv, rfl, rfl⟩)⟩)⟩, ⟨⟨_, _, hU3, hU4, (by rw [eW0, eW1]; exact hw9)⟩, ⟨_, _, _, _, hU8, hU9, hU10, hU11, w⟩, ⟨_, hU17, fun i hi => by rw [eF]; exact hV9 i hi, fun i hi => by rw [eF]; exact hN9 i hi⟩, ⟨_, _, _, _, by rw [← z]; exact hU0, (hun 117 (by decide)).trans y1, (hun 118 (by decide)).trans y2, by rw [sz]; exact jL9, jT9, jP9⟩, (mAr_fr hS5 (hun 157 (by decide)) (hun 159 (by decide)) (hun 160 (by decide)) (hun 161 (by decide)) (hun 162 (by decide)))⟩⟩
    · have hv := V_mrd2 (x2 := x2) (x3 := x3) (x4 := x4) (t0_0 := t0_0) (t0_1 := t0_1) (t0_2 := t0_2) (t1_0 := t1_0) (t1_1 := t1_1) (t1_2 := t1_2) (t1_3 := t1_3) (t1_4 := t1_4) (t1_5 := t1_5) (t1_6 := t1_6) (t2_0 := t2_0) (t3_0 := t3_0) (t4_0 := t4_0) (t5_0 := t5_0) (t6_0 := t6_0) (t6_1 := t6_1) (t6_2 := t6_2) (t6_3 := t6_3) (t6_4 := t6_4) (t6_5 := t6_5) (t6_6 := t6_6) (t6_7 := t6_7) (t6_8 := t6_8) (t6_9 := t6_9) (t6_10 := t6_10) (t7_0 := t7_0) (t8_0 := t8_0) (t9_0 := t9_0) (t10_0 := t10_0) (t11_0 := t11_0) (t12_0 := t12_0) (t13_0 := t13_0) (t13_1 := t13_1) (t13_2 := t13_2) (t13_3 := t13_3) (t13_4 := t13_4) (t13_5 := t13_5) (t13_6 := t13_6) (t13_7 := t13_7) (t13_8 := t13_8) (t13_9 := t13_9) (t13_10 := t13_10) (t13_11 := t13_11) (t13_12 := t13_12) (t13_13 := t13_13) (t14_0 := t14_0) (t15_0 := t15_0) (t16_0 := t16_0) (t17_0 := t17_0) (t18_0 := t18_0) ok k jT9 jL9 hk0.2.2.2.2.1
      rw [← hG] at hv
      obtain ⟨o, h1, h2, eW0, eW1, eD0, eD1, eD2, eD3⟩ := hv
      rcases h2 with ⟨o1, z, a1, sz, w⟩ | ⟨v, o1, fv, z, a1, sz, w⟩ | ⟨v, o1, fv, z, sz, w⟩
      · replace eW0 : u3_0 = t3_0 := eW0
        replace eW1 : u4_0 = t4_0 := eW1
        replace eD0 : u8_0 = t8_0 := eD0
        replace eD1 : u9_0 = t9_0 := eD1
        replace eD2 : u10_0 = t10_0 := eD2
        replace eD3 : u11_0 = t11_0 := eD3
        replace z : u0_0 = 0 := z
        replace sz : u0_1 = t0_1 := sz
        replace w : u18_0 = t18_0 := w
        exact ⟨0, σ, Or.inr ⟨ok, Or.inr (Or.inr (Or.inl ⟨k, o, h1, Or.inl ⟨o1, rfl, a1, rfl⟩⟩))⟩, ⟨⟨_, _, hU3, hU4, (by rw [eW0, eW1]; exact hw9)⟩, ⟨_, _, _, _, hU8, hU9, hU10, hU11, (by rw [eD0, eD1, eD2, eD3]; exact hd9)⟩, ⟨_, hU17, fun i hi => by rw [w]; exact hV9 i hi, fun i hi => by rw [w]; exact hN9 i hi⟩, ⟨_, _, _, _, by rw [← z]; exact hU0, (hun 117 (by decide)).trans y1, (hun 118 (by decide)).trans y2, by rw [sz]; exact jL9, jT9, jP9⟩, (mAr_fr hS5 (hun 157 (by decide)) (hun 159 (by decide)) (hun 160 (by decide)) (hun 161 (by decide)) (hun 162 (by decide)))⟩⟩
      · replace eW0 : u3_0 = t3_0 := eW0
        replace eW1 : u4_0 = t4_0 := eW1
        replace eD0 : u8_0 = t8_0 := eD0
        replace eD1 : u9_0 = t9_0 := eD1
        replace eD2 : u10_0 = t10_0 := eD2
        replace eD3 : u11_0 = t11_0 := eD3
        replace z : u0_0 = 0 := z
        replace sz : u0_1 = 0 := sz
        obtain ⟨uu, w1, w2⟩ := w
        replace w2 : u18_0 = vp_updL t18_0 x3.toNatClampNeg uu := w2
        exact ⟨0, (zsW σ, zsD σ, vp_updL (zsV σ) x3.toNatClampNeg uu, zsN σ, 0, zsB σ, zsP σ, zsA σ), Or.inr ⟨ok, Or.inr (Or.inr (Or.inl ⟨k, o, h1, Or.inr (Or.inl ⟨v, o1, fv, rfl, a1, ⟨uu, w1, rfl⟩⟩)⟩))⟩, ⟨⟨_, _, hU3, hU4, (by rw [eW0, eW1]; exact hw9)⟩, ⟨_, _, _, _, hU8, hU9, hU10, hU11, (by rw [eD0, eD1, eD2, eD3]; exact hd9)⟩, ⟨_, hU17, fun i hi => by rw [w2]; exact x_up hV9 _ _ i hi, fun i hi => by rw [w2]; exact x_upV hN9 (x_reg ok.2.1) _ i hi⟩, ⟨_, _, _, _, by rw [← z]; exact hU0, (hun 117 (by decide)).trans y1, (hun 118 (by decide)).trans y2, by rw [sz]; rfl, fun i hi => absurd hi (Nat.not_lt_zero _), jP9⟩, (mAr_fr hS5 (hun 157 (by decide)) (hun 159 (by decide)) (hun 160 (by decide)) (hun 161 (by decide)) (hun 162 (by decide)))⟩⟩
      · replace eW0 : u3_0 = t3_0 := eW0
        replace eW1 : u4_0 = t4_0 := eW1
        replace eD0 : u8_0 = t8_0 := eD0
        replace eD1 : u9_0 = t9_0 := eD1
        replace eD2 : u10_0 = t10_0 := eD2
        replace eD3 : u11_0 = t11_0 := eD3
        replace z : u0_0 = 2 := z
        replace sz : u0_1 = t0_1 := sz
        replace w : u18_0 = t18_0 := w
        exact ⟨2, σ, Or.inr ⟨ok, Or.inr (Or.inr (Or.inl ⟨k, o, h1, Or.inr (Or.inr ⟨v, o1, fv, rfl, rfl⟩)⟩))⟩, ⟨⟨_, _, hU3, hU4, (by rw [eW0, eW1]; exact hw9)⟩, ⟨_, _, _, _, hU8, hU9, hU10, hU11, (by rw [eD0, eD1, eD2, eD3]; exact hd9)⟩, ⟨_, hU17, fun i hi => by rw [w]; exact hV9 i hi, fun i hi => by rw [w]; exact hN9 i hi⟩, ⟨_, _, _, _, by rw [← z]; exact hU0, (hun 117 (by decide)).trans y1, (hun 118 (by decide)).trans y2, by rw [sz]; exact jL9, jT9, jP9⟩, (mAr_fr hS5 (hun 157 (by decide)) (hun 159 (by decide)) (hun 160 (by decide)) (hun 161 (by decide)) (hun 162 (by decide)))⟩⟩
    · have hv := V_mrd3 (x2 := x2) (x3 := x3) (x4 := x4) (t0_0 := t0_0) (t0_1 := t0_1) (t0_2 := t0_2) (t1_0 := t1_0) (t1_1 := t1_1) (t1_2 := t1_2) (t1_3 := t1_3) (t1_4 := t1_4) (t1_5 := t1_5) (t1_6 := t1_6) (t2_0 := t2_0) (t3_0 := t3_0) (t4_0 := t4_0) (t5_0 := t5_0) (t6_0 := t6_0) (t6_1 := t6_1) (t6_2 := t6_2) (t6_3 := t6_3) (t6_4 := t6_4) (t6_5 := t6_5) (t6_6 := t6_6) (t6_7 := t6_7) (t6_8 := t6_8) (t6_9 := t6_9) (t6_10 := t6_10) (t7_0 := t7_0) (t8_0 := t8_0) (t9_0 := t9_0) (t10_0 := t10_0) (t11_0 := t11_0) (t12_0 := t12_0) (t13_0 := t13_0) (t13_1 := t13_1) (t13_2 := t13_2) (t13_3 := t13_3) (t13_4 := t13_4) (t13_5 := t13_5) (t13_6 := t13_6) (t13_7 := t13_7) (t13_8 := t13_8) (t13_9 := t13_9) (t13_10 := t13_10) (t13_11 := t13_11) (t13_12 := t13_12) (t13_13 := t13_13) (t14_0 := t14_0) (t15_0 := t15_0) (t16_0 := t16_0) (t17_0 := t17_0) (t18_0 := t18_0) ok k jT9 jL9 hk0.2.2.2.2.1
      rw [← hG] at hv
      obtain ⟨o, h1, h2, eW0, eW1, eD0, eD1, eD2, eD3⟩ := hv
      rcases h2 with ⟨o1, z, a1, sz, w⟩ | ⟨v, o1, fv, z, a1, sz, w⟩ | ⟨v, o1, fv, z, sz, w⟩
      · replace eW0 : u3_0 = t3_0 := eW0
        replace eW1 : u4_0 = t4_0 := eW1
        replace eD0 : u8_0 = t8_0 := eD0
        replace eD1 : u9_0 = t9_0 := eD1
        replace eD2 : u10_0 = t10_0 := eD2
        replace eD3 : u11_0 = t11_0 := eD3
        replace z : u0_0 = 0 := z
        replace sz : u0_1 = t0_1 := sz
        replace w : u18_0 = t18_0 := w
        exact ⟨0, σ, Or.inr ⟨ok, Or.inr (Or.inr (Or.inr (⟨k, o, h1, Or.inl ⟨o1, rfl, a1, rfl⟩⟩)))⟩, ⟨⟨_, _, hU3, hU4, (by rw [eW0, eW1]; exact hw9)⟩, ⟨_, _, _, _, hU8, hU9, hU10, hU11, (by rw [eD0, eD1, eD2, eD3]; exact hd9)⟩, ⟨_, hU17, fun i hi => by rw [w]; exact hV9 i hi, fun i hi => by rw [w]; exact hN9 i hi⟩, ⟨_, _, _, _, by rw [← z]; exact hU0, (hun 117 (by decide)).trans y1, (hun 118 (by decide)).trans y2, by rw [sz]; exact jL9, jT9, jP9⟩, (mAr_fr hS5 (hun 157 (by decide)) (hun 159 (by decide)) (hun 160 (by decide)) (hun 161 (by decide)) (hun 162 (by decide)))⟩⟩
      · replace eW0 : u3_0 = t3_0 := eW0
        replace eW1 : u4_0 = t4_0 := eW1
        replace eD0 : u8_0 = t8_0 := eD0
        replace eD1 : u9_0 = t9_0 := eD1
        replace eD2 : u10_0 = t10_0 := eD2
        replace eD3 : u11_0 = t11_0 := eD3
        replace z : u0_0 = 0 := z
        replace sz : u0_1 = 0 := sz
        obtain ⟨uu, w1, w2⟩ := w
        replace w2 : u18_0 = vp_updL t18_0 (10 + x3).toNatClampNeg uu := w2
        exact ⟨0, (zsW σ, zsD σ, zsV σ, vp_updL (zsN σ) x3.toNatClampNeg uu, 0, zsB σ, zsP σ, zsA σ), Or.inr ⟨ok, Or.inr (Or.inr (Or.inr (⟨k, o, h1, Or.inr (Or.inl ⟨v, o1, fv, rfl, a1, ⟨uu, w1, rfl⟩⟩)⟩)))⟩, ⟨⟨_, _, hU3, hU4, (by rw [eW0, eW1]; exact hw9)⟩, ⟨_, _, _, _, hU8, hU9, hU10, hU11, (by rw [eD0, eD1, eD2, eD3]; exact hd9)⟩, ⟨_, hU17, fun i hi => by rw [w2]; exact x_upN0 hV9 ok.2.1 _ i hi, fun i hi => by rw [w2]; exact x_upN1 hN9 ok.2.1 _ i hi⟩, ⟨_, _, _, _, by rw [← z]; exact hU0, (hun 117 (by decide)).trans y1, (hun 118 (by decide)).trans y2, by rw [sz]; rfl, fun i hi => absurd hi (Nat.not_lt_zero _), jP9⟩, (mAr_fr hS5 (hun 157 (by decide)) (hun 159 (by decide)) (hun 160 (by decide)) (hun 161 (by decide)) (hun 162 (by decide)))⟩⟩
      · replace eW0 : u3_0 = t3_0 := eW0
        replace eW1 : u4_0 = t4_0 := eW1
        replace eD0 : u8_0 = t8_0 := eD0
        replace eD1 : u9_0 = t9_0 := eD1
        replace eD2 : u10_0 = t10_0 := eD2
        replace eD3 : u11_0 = t11_0 := eD3
        replace z : u0_0 = 2 := z
        replace sz : u0_1 = t0_1 := sz
        replace w : u18_0 = t18_0 := w
        exact ⟨2, σ, Or.inr ⟨ok, Or.inr (Or.inr (Or.inr (⟨k, o, h1, Or.inr (Or.inr ⟨v, o1, fv, rfl, rfl⟩)⟩)))⟩, ⟨⟨_, _, hU3, hU4, (by rw [eW0, eW1]; exact hw9)⟩, ⟨_, _, _, _, hU8, hU9, hU10, hU11, (by rw [eD0, eD1, eD2, eD3]; exact hd9)⟩, ⟨_, hU17, fun i hi => by rw [w]; exact hV9 i hi, fun i hi => by rw [w]; exact hN9 i hi⟩, ⟨_, _, _, _, by rw [← z]; exact hU0, (hun 117 (by decide)).trans y1, (hun 118 (by decide)).trans y2, by rw [sz]; exact jL9, jT9, jP9⟩, (mAr_fr hS5 (hun 157 (by decide)) (hun 159 (by decide)) (hun 160 (by decide)) (hun 161 (by decide)) (hun 162 (by decide)))⟩⟩
  · have hv := V_mrdN (x2 := x2) (x3 := x3) (x4 := x4) (t0_0 := t0_0) (t0_1 := t0_1) (t0_2 := t0_2) (t1_0 := t1_0) (t1_1 := t1_1) (t1_2 := t1_2) (t1_3 := t1_3) (t1_4 := t1_4) (t1_5 := t1_5) (t1_6 := t1_6) (t2_0 := t2_0) (t3_0 := t3_0) (t4_0 := t4_0) (t5_0 := t5_0) (t6_0 := t6_0) (t6_1 := t6_1) (t6_2 := t6_2) (t6_3 := t6_3) (t6_4 := t6_4) (t6_5 := t6_5) (t6_6 := t6_6) (t6_7 := t6_7) (t6_8 := t6_8) (t6_9 := t6_9) (t6_10 := t6_10) (t7_0 := t7_0) (t8_0 := t8_0) (t9_0 := t9_0) (t10_0 := t10_0) (t11_0 := t11_0) (t12_0 := t12_0) (t13_0 := t13_0) (t13_1 := t13_1) (t13_2 := t13_2) (t13_3 := t13_3) (t13_4 := t13_4) (t13_5 := t13_5) (t13_6 := t13_6) (t13_7 := t13_7) (t13_8 := t13_8) (t13_9 := t13_9) (t13_10 := t13_10) (t13_11 := t13_11) (t13_12 := t13_12) (t13_13 := t13_13) (t14_0 := t14_0) (t15_0 := t15_0) (t16_0 := t16_0) (t17_0 := t17_0) (t18_0 := t18_0) ok
    rw [← hG] at hv
    obtain ⟨a0, z, sz, eW0, eW1, eD0, eD1, eD2, eD3, eF⟩ := hv
    replace eW0 : u3_0 = t3_0 := eW0
    replace eW1 : u4_0 = t4_0 := eW1
    replace eD0 : u8_0 = t8_0 := eD0
    replace eD1 : u9_0 = t9_0 := eD1
    replace eD2 : u10_0 = t10_0 := eD2
    replace eD3 : u11_0 = t11_0 := eD3
    replace eF : u18_0 = t18_0 := eF
    replace z : u0_0 = 1 := z
    replace sz : u0_1 = t0_1 := sz
    exact ⟨1, σ, Or.inl ⟨ok, rfl, rfl⟩, ⟨⟨_, _, hU3, hU4, (by rw [eW0, eW1]; exact hw9)⟩, ⟨_, _, _, _, hU8, hU9, hU10, hU11, (by rw [eD0, eD1, eD2, eD3]; exact hd9)⟩, ⟨_, hU17, fun i hi => by rw [eF]; exact hV9 i hi, fun i hi => by rw [eF]; exact hN9 i hi⟩, ⟨_, _, _, _, by rw [← z]; exact hU0, (hun 117 (by decide)).trans y1, (hun 118 (by decide)).trans y2, by rw [sz]; exact jL9, jT9, jP9⟩, (mAr_fr hS5 (hun 157 (by decide)) (hun 159 (by decide)) (hun 160 (by decide)) (hun 161 (by decide)) (hun 162 (by decide)))⟩⟩
