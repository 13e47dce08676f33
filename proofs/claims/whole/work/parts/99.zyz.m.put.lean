/-! whole's law: put -/
theorem x_up {f F : Nat → Int64} (h : ∀ i, i < 10 → f i = F i) (k : Nat) (x : Int64) : ∀ i, i < 10 → vp_updL f k x i = vp_updL F k x i := by
  intro i hi
  unfold vp_updL
  rw [h i hi]
theorem x_upV {f F : Nat → Int64} (h : ∀ i, i < 10 → f (10 + i) = F i) {k : Nat} (hk : k < 10) (x : Int64) : ∀ i, i < 10 → vp_updL f k x (10 + i) = F i := by
  intro i hi
  unfold vp_updL
  rw [if_neg (by omega)]
  exact h i hi
theorem x_10 {r : Int32} (h : yReg r) : (10 + r).toNatClampNeg = 10 + r.toNatClampNeg := by
  have h1 := h.1
  have h2 := h.2
  show (10 + r).toInt.toNat = 10 + r.toInt.toNat
  have e : (10 + r).toInt = 10 + r.toInt := by
    rw [Int32.toInt_add]
    exact Int.bmod_eq_of_le (by show -2147483648 ≤ 10 + r.toInt; omega) (by show 10 + r.toInt < 2147483648; omega)
  rw [e]
  omega
theorem x_upN0 {f F : Nat → Int64} (h : ∀ i, i < 10 → f i = F i) {r : Int32} (hr : yReg r) (x : Int64) : ∀ i, i < 10 → vp_updL f (10 + r).toNatClampNeg x i = F i := by
  intro i hi
  rw [x_10 hr]
  unfold vp_updL
  rw [if_neg (by omega)]
  exact h i hi
theorem x_upN1 {f F : Nat → Int64} (h : ∀ i, i < 10 → f (10 + i) = F i) {r : Int32} (hr : yReg r) (x : Int64) : ∀ i, i < 10 → vp_updL f (10 + r).toNatClampNeg x (10 + i) = vp_updL F r.toNatClampNeg x i := by
  intro i hi
  rw [x_10 hr]
  unfold vp_updL
  by_cases e : i = r.toNatClampNeg
  · rw [if_pos (by omega), if_pos e]
  · rw [if_neg (by omega), if_neg e, h i hi]
def rPt (x2 x3 : Int32) (x4 : Int64) (σ : zSt) (c : Int32) (σ2 : zSt) : Prop := (¬ yPutOk x2 x3 x4 ∧ c = 1 ∧ σ2 = σ) ∨ (yPutOk x2 x3 x4 ∧ c = 0 ∧ ((x2 = 0 ∧ σ2 = (updW (zsW σ) x3.toNatClampNeg x4.toInt, zsD σ, zsV σ, zsN σ, zsL σ, zsB σ, zsP σ, zsA σ)) ∨ (x2 = 1 ∧ σ2 = (zsW σ, updD (zsD σ) x3.toNatClampNeg (x4.toInt, 0), zsV σ, zsN σ, zsL σ, zsB σ, zsP σ, zsA σ)) ∨ (x2 = 2 ∧ σ2 = (zsW σ, zsD σ, vp_updL (zsV σ) x3.toNatClampNeg x4, zsN σ, zsL σ, zsB σ, zsP σ, zsA σ)) ∨ (x2 = 3 ∧ σ2 = (zsW σ, zsD σ, zsV σ, vp_updL (zsN σ) x3.toNatClampNeg x4, zsL σ, zsB σ, zsP σ, zsA σ))))
theorem rPt_U {x2 x3 : Int32} {x4 : Int64} {σ s t : zSt} {c c2 : Int32} (h : rPt x2 x3 x4 σ c s) (g : rPt x2 x3 x4 σ c2 t) : c = c2 ∧ s = t := by
  rcases h with ⟨h1, h2, h3⟩ | ⟨h1, h2, h3⟩ <;> rcases g with ⟨g1, g2, g3⟩ | ⟨g1, g2, g3⟩
  · exact ⟨h2.trans g2.symm, h3.trans g3.symm⟩
  · exact absurd g1 h1
  · exact absurd h1 g1
  · refine ⟨h2.trans g2.symm, ?_⟩
    have ne : ∀ {p q : Int32}, x2 = p → x2 = q → p ≠ q → False := fun a b c => c (a.symm.trans b)
    rcases h3 with ⟨k, p⟩ | ⟨k, p⟩ | ⟨k, p⟩ | ⟨k, p⟩ <;> rcases g3 with ⟨j, r⟩ | ⟨j, r⟩ | ⟨j, r⟩ | ⟨j, r⟩ <;> first | exact p.trans r.symm | exact (ne k j (by decide)).elim
set_option maxRecDepth 100000 in
set_option maxHeartbeats 4000000 in
theorem CW_put (l : Launch) (D : va_G) (g : Nat → ClassId) (q : Nat → Nat) (ws : va_W) (x2 : Int32) (x3 : Int32) (x4 : Int64) (i3 : Nat) (hi3 : i3 < 10) (e3 : x3.toNatClampNeg < 10 → i3 = x3.toNatClampNeg) (hlt : l.stackTraces = false) (hI : q_I (nsh g q) q ws) (hC : iC g q ws) {σ : zSt} (hS : sC g q ws σ) (hk0 : zOk σ) : ∀ sz, q_Mx l y_NH_put prog_1_method_5_code 5 none 9 2 12 D g [.ref (q 0), .int x2, .int x3, .long x4] ws sz (va_Qv (fun u => iP g q ws u ∧ ∃ σ2, rPt x2 x3 x4 σ 0 σ2 ∧ sC g q u σ2) (q_B D g (va_A ws sz)) (va_A ws sz)) (fun E u => ∃ c : Int32, E = qE c ∧ (c = 1) ∧ iP g q ws u ∧ rPt x2 x3 x4 σ c σ ∧ sC g q u σ) := by
  intro sz
  obtain ⟨t0_0, t0_1, hT0, bT0⟩ := n_o30 hI
  obtain ⟨t1_0, t1_1, hT1, bT1⟩ := q_bigO hI (n_b10 g q)
  obtain ⟨t2_0, hT2, bT2⟩ := n_ai hI (n_s11 g q)
  obtain ⟨t3_0, t3_1, hT3, bT3⟩ := q_bigO hI (n_b20 g q)
  obtain ⟨t4_0, hT4, bT4⟩ := n_ai hI (n_s21 g q)
  obtain ⟨t5_0, hT5⟩ := n_al hI (n_s7 g q)
  obtain ⟨t6_0, hT6⟩ := n_al hI (n_s8 g q)
  obtain ⟨t7_0, t7_1, t8_0, hT7, hT8, vk3, hbk3, hBk3⟩ := hC.1 i3 hi3
  obtain ⟨t9_0, t9_1, t10_0, t10_1, t11_0, hT9, hT10, hT11, vd3, hbd3⟩ := hC.2.1 i3 hi3
  obtain ⟨hS1, hS2, hS3, hS4, hS5, hS6, hS7⟩ := hS
  obtain ⟨sw3, nw3, fw3, aw3, bw3, gw3⟩ := hS1 i3 hi3
  obtain ⟨rfl, rfl⟩ := x_b2 hT7 aw3
  obtain rfl := x_ri hT8 bw3
  obtain ⟨pd3, qd3, sd3, nd3, fd3, ad3, bd3, cd3, gd3⟩ := hS2 i3 hi3
  obtain ⟨rfl, rfl⟩ := x_b2 hT9 ad3
  obtain ⟨rfl, rfl⟩ := x_b2 hT10 bd3
  obtain rfl := x_ri hT11 cd3
  obtain ⟨fV, yV, hV9⟩ := hS3
  obtain rfl := x_rl hT5 yV
  have hS3 : cFr g q ws 7 (zsV σ) := ⟨_, yV, hV9⟩
  obtain ⟨fN, yN, hN9⟩ := hS4
  obtain rfl := x_rl hT6 yN
  have hS4 : cFr g q ws 8 (zsN σ) := ⟨_, yN, hN9⟩
  have hq := T_put (x2 := x2) (x3 := x3) (x4 := x4) (t0_0 := t0_0) (t0_1 := t0_1) (t1_0 := t1_0) (t1_1 := t1_1) (t2_0 := t2_0) (t3_0 := t3_0) (t3_1 := t3_1) (t4_0 := t4_0) (t5_0 := t5_0) (t6_0 := t6_0) (t7_0 := t7_0) (t7_1 := t7_1) (t8_0 := t8_0) (t9_0 := t9_0) (t9_1 := t9_1) (t10_0 := t10_0) (t10_1 := t10_1) (t11_0 := t11_0) ⟨_, hbk3, hBk3⟩ ⟨_, hbd3⟩
  refine q_MxV (X_NH_put l D g q ws x2 x3 x4 (66 + 5 * i3) (n_w g q hi3) (by omega) (fun h => by have z := e3 h; omega) (68 + 5 * i3) (n_d g q hi3) (by omega) (fun h => by have z := e3 h; omega) (by omega) (by omega) (by omega) (by omega) hlt hI t0_0 t0_1 hT0 t1_0 t1_1 hT1 t2_0 hT2 t3_0 t3_1 hT3 t4_0 hT4 t5_0 hT5 t6_0 hT6 t7_0 t7_1 hT7 t8_0 hT8 t9_0 t9_1 hT9 t10_0 t10_1 hT10 t11_0 hT11 ⟨trivial, hq.1⟩ sz) ?_ ?_
  · rintro u ⟨hI2, hun, u1_0, u1_1, u2_0, u3_0, u3_1, u4_0, u5_0, u6_0, u7_0, u7_1, u8_0, u9_0, u9_1, u10_0, u10_1, u11_0, hU0, hU1, hU2, hU3, hU4, hU5, hU6, hU7, hU8, hU9, hU10, hR⟩
    have hF := hR.2.2.2.2.2.2.2.2.2.2.2.2.2.2.2.2.2.2.2.2.2.2.2.2.2.2.2.2.2.2.2.2.2.2.2.2.2.2.2.2.2.2
    have hp := hq.2
    rw [← hF] at hp
    refine ⟨⟨hI2, ⟨fun i hi => ?_, fun i hi => ?_, ?_⟩, fun i hi => hun i (by simp only [List.mem_cons, List.not_mem_nil, or_false, not_or]; omega)⟩, ?_⟩
    · by_cases hk3 : i = i3
      · rw [hk3]; refine ⟨_, _, _, hU6, hU7, ?_⟩; first | exact hp.1
      · exact iW_fr (hC.1 i hi) (hun _ (by simp only [List.mem_cons, List.not_mem_nil, or_false, not_or]; omega)) (hun _ (by simp only [List.mem_cons, List.not_mem_nil, or_false, not_or]; omega))
    · by_cases hd3 : i = i3
      · rw [hd3]; refine ⟨_, _, _, _, _, hU8, hU9, hU10, ?_⟩; first | exact hp.2
      · exact iD_fr (hC.2.1 i hi) (hun _ (by simp only [List.mem_cons, List.not_mem_nil, or_false, not_or]; omega)) (hun _ (by simp only [List.mem_cons, List.not_mem_nil, or_false, not_or]; omega)) (hun _ (by simp only [List.mem_cons, List.not_mem_nil, or_false, not_or]; omega))
    · exact iO_fr hC.2.2 (hun _ (by simp only [List.mem_cons, List.not_mem_nil, or_false, not_or]; omega)) (hun _ (by simp only [List.mem_cons, List.not_mem_nil, or_false, not_or]; omega)) (hun _ (by simp only [List.mem_cons, List.not_mem_nil, or_false, not_or]; omega))
    · have hG := hR.2.2.2.2.2.2.2.2.2.2.2.2.2.2.2.2.2.2.2.2.2.2.2.2.2.2.2.2.2.2.2.2.2.2.2.2.2.2.2.2.2.2
      have hv := V_NH_put (x2 := x2) (x3 := x3) (x4 := x4) (t0_0 := t0_0) (t0_1 := t0_1) (t1_0 := t1_0) (t1_1 := t1_1) (t2_0 := t2_0) (t3_0 := t3_0) (t3_1 := t3_1) (t4_0 := t4_0) (t5_0 := t5_0) (t6_0 := t6_0) (t7_0 := t7_0) (t7_1 := t7_1) (t8_0 := t8_0) (t9_0 := t9_0) (t9_1 := t9_1) (t10_0 := t10_0) (t10_1 := t10_1) (t11_0 := t11_0) gw3 gd3
      rw [← hG] at hv
      rcases hv with ⟨l1, _, w⟩ | ⟨_, z, _⟩
      · have e33 := e3 (x_reg l1.2.1)
        rcases w with ⟨k, w1, w2, w3, w4⟩ | ⟨k, w1, w2, w3, w4⟩ | ⟨k, w1, w2, w3, w4⟩ | ⟨k, w1, w2, w3, w4⟩
        · replace w3 : u5_0 = t5_0 := w3
          replace w4 : u6_0 = t6_0 := w4
          refine ⟨(updW (zsW σ) x3.toNatClampNeg x4.toInt, zsD σ, zsV σ, zsN σ, zsL σ, zsB σ, zsP σ, zsA σ), Or.inr ⟨l1, rfl, Or.inl ⟨k, rfl⟩⟩, ?_⟩
          refine ⟨(fun i hi => ?_), (fun i hi => ?_), ⟨_, hU4, fun i hi => by rw [w3]; exact hV9 i hi⟩, ⟨_, hU5, fun i hi => by rw [w4]; exact hN9 i hi⟩, (cTp_fr hS5 (hun _ (by simp only [List.mem_cons, List.not_mem_nil, or_false, not_or]; omega)) (hun _ (by simp only [List.mem_cons, List.not_mem_nil, or_false, not_or]; omega))), (cPp_fr hS6 (hun _ (by simp only [List.mem_cons, List.not_mem_nil, or_false, not_or]; omega)) (hun _ (by simp only [List.mem_cons, List.not_mem_nil, or_false, not_or]; omega))), (cAr_fr hS7 (fun i _ _ => (hun _ (by simp only [List.mem_cons, List.not_mem_nil, or_false, not_or]; omega))) (fun i _ _ => (hun _ (by simp only [List.mem_cons, List.not_mem_nil, or_false, not_or]; omega))))⟩
          · show cWr g q u (66 + 5 * i) (updW (zsW σ) x3.toNatClampNeg x4.toInt i)
            unfold updW
            by_cases hk3 : i = i3
            · rw [if_pos (by omega), hk3]; exact ⟨_, _, _, hU6, hU7, w1⟩
            · rw [if_neg (by omega)]; exact cWr_fr (hS1 i hi) (hun _ (by simp only [List.mem_cons, List.not_mem_nil, or_false, not_or]; omega)) (hun _ (by simp only [List.mem_cons, List.not_mem_nil, or_false, not_or]; omega))
          · by_cases hk3 : i = i3
            · rw [hk3]; exact ⟨_, _, _, _, _, hU8, hU9, hU10, w2⟩
            · exact cDr_fr (hS2 i hi) (hun _ (by simp only [List.mem_cons, List.not_mem_nil, or_false, not_or]; omega)) (hun _ (by simp only [List.mem_cons, List.not_mem_nil, or_false, not_or]; omega)) (hun _ (by simp only [List.mem_cons, List.not_mem_nil, or_false, not_or]; omega))
        · replace w3 : u5_0 = t5_0 := w3
          replace w4 : u6_0 = t6_0 := w4
          refine ⟨(zsW σ, updD (zsD σ) x3.toNatClampNeg (x4.toInt, 0), zsV σ, zsN σ, zsL σ, zsB σ, zsP σ, zsA σ), Or.inr ⟨l1, rfl, Or.inr (Or.inl ⟨k, rfl⟩)⟩, ?_⟩
          refine ⟨(fun i hi => ?_), (fun i hi => ?_), ⟨_, hU4, fun i hi => by rw [w3]; exact hV9 i hi⟩, ⟨_, hU5, fun i hi => by rw [w4]; exact hN9 i hi⟩, (cTp_fr hS5 (hun _ (by simp only [List.mem_cons, List.not_mem_nil, or_false, not_or]; omega)) (hun _ (by simp only [List.mem_cons, List.not_mem_nil, or_false, not_or]; omega))), (cPp_fr hS6 (hun _ (by simp only [List.mem_cons, List.not_mem_nil, or_false, not_or]; omega)) (hun _ (by simp only [List.mem_cons, List.not_mem_nil, or_false, not_or]; omega))), (cAr_fr hS7 (fun i _ _ => (hun _ (by simp only [List.mem_cons, List.not_mem_nil, or_false, not_or]; omega))) (fun i _ _ => (hun _ (by simp only [List.mem_cons, List.not_mem_nil, or_false, not_or]; omega))))⟩
          · by_cases hk3 : i = i3
            · rw [hk3]; exact ⟨_, _, _, hU6, hU7, w1⟩
            · exact cWr_fr (hS1 i hi) (hun _ (by simp only [List.mem_cons, List.not_mem_nil, or_false, not_or]; omega)) (hun _ (by simp only [List.mem_cons, List.not_mem_nil, or_false, not_or]; omega))
          · show cDr g q u (68 + 5 * i) (updD (zsD σ) x3.toNatClampNeg (x4.toInt, 0) i)
            unfold updD
            by_cases hk3 : i = i3
            · rw [if_pos (by omega), hk3]; exact ⟨_, _, _, _, _, hU8, hU9, hU10, w2⟩
            · rw [if_neg (by omega)]; exact cDr_fr (hS2 i hi) (hun _ (by simp only [List.mem_cons, List.not_mem_nil, or_false, not_or]; omega)) (hun _ (by simp only [List.mem_cons, List.not_mem_nil, or_false, not_or]; omega)) (hun _ (by simp only [List.mem_cons, List.not_mem_nil, or_false, not_or]; omega))
        · replace w3 : u5_0 = vp_updL t5_0 x3.toNatClampNeg x4 := w3
          replace w4 : u6_0 = t6_0 := w4
          refine ⟨(zsW σ, zsD σ, vp_updL (zsV σ) x3.toNatClampNeg x4, zsN σ, zsL σ, zsB σ, zsP σ, zsA σ), Or.inr ⟨l1, rfl, Or.inr (Or.inr (Or.inl ⟨k, rfl⟩))⟩, ?_⟩
          refine ⟨(fun i hi => ?_), (fun i hi => ?_), ⟨_, hU4, fun i hi => by rw [w3]; exact x_up hV9 _ _ i hi⟩, ⟨_, hU5, fun i hi => by rw [w4]; exact hN9 i hi⟩, (cTp_fr hS5 (hun _ (by simp only [List.mem_cons, List.not_mem_nil, or_false, not_or]; omega)) (hun _ (by simp only [List.mem_cons, List.not_mem_nil, or_false, not_or]; omega))), (cPp_fr hS6 (hun _ (by simp only [List.mem_cons, List.not_mem_nil, or_false, not_or]; omega)) (hun _ (by simp only [List.mem_cons, List.not_mem_nil, or_false, not_or]; omega))), (cAr_fr hS7 (fun i _ _ => (hun _ (by simp only [List.mem_cons, List.not_mem_nil, or_false, not_or]; omega))) (fun i _ _ => (hun _ (by simp only [List.mem_cons, List.not_mem_nil, or_false, not_or]; omega))))⟩
          · by_cases hk3 : i = i3
            · rw [hk3]; exact ⟨_, _, _, hU6, hU7, w1⟩
            · exact cWr_fr (hS1 i hi) (hun _ (by simp only [List.mem_cons, List.not_mem_nil, or_false, not_or]; omega)) (hun _ (by simp only [List.mem_cons, List.not_mem_nil, or_false, not_or]; omega))
          · by_cases hk3 : i = i3
            · rw [hk3]; exact ⟨_, _, _, _, _, hU8, hU9, hU10, w2⟩
            · exact cDr_fr (hS2 i hi) (hun _ (by simp only [List.mem_cons, List.not_mem_nil, or_false, not_or]; omega)) (hun _ (by simp only [List.mem_cons, List.not_mem_nil, or_false, not_or]; omega)) (hun _ (by simp only [List.mem_cons, List.not_mem_nil, or_false, not_or]; omega))
        · replace w3 : u5_0 = t5_0 := w3
          replace w4 : u6_0 = vp_updL t6_0 x3.toNatClampNeg x4 := w4
          refine ⟨(zsW σ, zsD σ, zsV σ, vp_updL (zsN σ) x3.toNatClampNeg x4, zsL σ, zsB σ, zsP σ, zsA σ), Or.inr ⟨l1, rfl, Or.inr (Or.inr (Or.inr (⟨k, rfl⟩)))⟩, ?_⟩
          refine ⟨(fun i hi => ?_), (fun i hi => ?_), ⟨_, hU4, fun i hi => by rw [w3]; exact hV9 i hi⟩, ⟨_, hU5, fun i hi => by rw [w4]; exact x_up hN9 _ _ i hi⟩, (cTp_fr hS5 (hun _ (by simp only [List.mem_cons, List.not_mem_nil, or_false, not_or]; omega)) (hun _ (by simp only [List.mem_cons, List.not_mem_nil, or_false, not_or]; omega))), (cPp_fr hS6 (hun _ (by simp only [List.mem_cons, List.not_mem_nil, or_false, not_or]; omega)) (hun _ (by simp only [List.mem_cons, List.not_mem_nil, or_false, not_or]; omega))), (cAr_fr hS7 (fun i _ _ => (hun _ (by simp only [List.mem_cons, List.not_mem_nil, or_false, not_or]; omega))) (fun i _ _ => (hun _ (by simp only [List.mem_cons, List.not_mem_nil, or_false, not_or]; omega))))⟩
          · by_cases hk3 : i = i3
            · rw [hk3]; exact ⟨_, _, _, hU6, hU7, w1⟩
            · exact cWr_fr (hS1 i hi) (hun _ (by simp only [List.mem_cons, List.not_mem_nil, or_false, not_or]; omega)) (hun _ (by simp only [List.mem_cons, List.not_mem_nil, or_false, not_or]; omega))
          · by_cases hk3 : i = i3
            · rw [hk3]; exact ⟨_, _, _, _, _, hU8, hU9, hU10, w2⟩
            · exact cDr_fr (hS2 i hi) (hun _ (by simp only [List.mem_cons, List.not_mem_nil, or_false, not_or]; omega)) (hun _ (by simp only [List.mem_cons, List.not_mem_nil, or_false, not_or]; omega)) (hun _ (by simp only [List.mem_cons, List.not_mem_nil, or_false, not_or]; omega))
      · exact absurd (show (0 : Int32) = 1 from z) (by decide)
  · rintro E u ⟨c, hE, hc, hI2, hun, u1_0, u1_1, u2_0, u3_0, u3_1, u4_0, u5_0, u6_0, u7_0, u7_1, u8_0, u9_0, u9_1, u10_0, u10_1, u11_0, hU0, hU1, hU2, hU3, hU4, hU5, hU6, hU7, hU8, hU9, hU10, hF⟩
    have hp := hq.2
    rw [← hF] at hp
    have hk := K_NH_put (x2 := x2) (x3 := x3) (x4 := x4) (t0_0 := t0_0) (t0_1 := t0_1) (t1_0 := t1_0) (t1_1 := t1_1) (t2_0 := t2_0) (t3_0 := t3_0) (t3_1 := t3_1) (t4_0 := t4_0) (t5_0 := t5_0) (t6_0 := t6_0) (t7_0 := t7_0) (t7_1 := t7_1) (t8_0 := t8_0) (t9_0 := t9_0) (t9_1 := t9_1) (t10_0 := t10_0) (t10_1 := t10_1) (t11_0 := t11_0)
    rw [← hF] at hk
    replace hk : kC1 c := hk
    refine ⟨c, hE, hk.resolve_left hc, ⟨hI2, ⟨fun i hi => ?_, fun i hi => ?_, ?_⟩, fun i hi => hun i (by simp only [List.mem_cons, List.not_mem_nil, or_false, not_or]; omega)⟩, ?_⟩
    · by_cases hk3 : i = i3
      · rw [hk3]; refine ⟨_, _, _, hU6, hU7, ?_⟩; first | exact hp.1
      · exact iW_fr (hC.1 i hi) (hun _ (by simp only [List.mem_cons, List.not_mem_nil, or_false, not_or]; omega)) (hun _ (by simp only [List.mem_cons, List.not_mem_nil, or_false, not_or]; omega))
    · by_cases hd3 : i = i3
      · rw [hd3]; refine ⟨_, _, _, _, _, hU8, hU9, hU10, ?_⟩; first | exact hp.2
      · exact iD_fr (hC.2.1 i hi) (hun _ (by simp only [List.mem_cons, List.not_mem_nil, or_false, not_or]; omega)) (hun _ (by simp only [List.mem_cons, List.not_mem_nil, or_false, not_or]; omega)) (hun _ (by simp only [List.mem_cons, List.not_mem_nil, or_false, not_or]; omega))
    · exact iO_fr hC.2.2 (hun _ (by simp only [List.mem_cons, List.not_mem_nil, or_false, not_or]; omega)) (hun _ (by simp only [List.mem_cons, List.not_mem_nil, or_false, not_or]; omega)) (hun _ (by simp only [List.mem_cons, List.not_mem_nil, or_false, not_or]; omega))
    · have hG := hF
      have hv := V_NH_put (x2 := x2) (x3 := x3) (x4 := x4) (t0_0 := t0_0) (t0_1 := t0_1) (t1_0 := t1_0) (t1_1 := t1_1) (t2_0 := t2_0) (t3_0 := t3_0) (t3_1 := t3_1) (t4_0 := t4_0) (t5_0 := t5_0) (t6_0 := t6_0) (t7_0 := t7_0) (t7_1 := t7_1) (t8_0 := t8_0) (t9_0 := t9_0) (t9_1 := t9_1) (t10_0 := t10_0) (t10_1 := t10_1) (t11_0 := t11_0) gw3 gd3
      rw [← hG] at hv
      rcases hv with ⟨_, z, _⟩ | ⟨l1, z, w1, w2, w3, w4⟩
      · exact absurd z hc
      · replace w3 : u5_0 = t5_0 := w3
        replace w4 : u6_0 = t6_0 := w4
        refine ⟨Or.inl ⟨l1, z, rfl⟩, ?_⟩
        refine ⟨(fun i hi => ?_), (fun i hi => ?_), ⟨_, hU4, fun i hi => by rw [w3]; exact hV9 i hi⟩, ⟨_, hU5, fun i hi => by rw [w4]; exact hN9 i hi⟩, (cTp_fr hS5 (hun _ (by simp only [List.mem_cons, List.not_mem_nil, or_false, not_or]; omega)) (hun _ (by simp only [List.mem_cons, List.not_mem_nil, or_false, not_or]; omega))), (cPp_fr hS6 (hun _ (by simp only [List.mem_cons, List.not_mem_nil, or_false, not_or]; omega)) (hun _ (by simp only [List.mem_cons, List.not_mem_nil, or_false, not_or]; omega))), (cAr_fr hS7 (fun i _ _ => (hun _ (by simp only [List.mem_cons, List.not_mem_nil, or_false, not_or]; omega))) (fun i _ _ => (hun _ (by simp only [List.mem_cons, List.not_mem_nil, or_false, not_or]; omega))))⟩
        · by_cases hk3 : i = i3
          · rw [hk3]; exact ⟨_, _, _, hU6, hU7, w1⟩
          · exact cWr_fr (hS1 i hi) (hun _ (by simp only [List.mem_cons, List.not_mem_nil, or_false, not_or]; omega)) (hun _ (by simp only [List.mem_cons, List.not_mem_nil, or_false, not_or]; omega))
        · by_cases hk3 : i = i3
          · rw [hk3]; exact ⟨_, _, _, _, _, hU8, hU9, hU10, w2⟩
          · exact cDr_fr (hS2 i hi) (hun _ (by simp only [List.mem_cons, List.not_mem_nil, or_false, not_or]; omega)) (hun _ (by simp only [List.mem_cons, List.not_mem_nil, or_false, not_or]; omega)) (hun _ (by simp only [List.mem_cons, List.not_mem_nil, or_false, not_or]; omega))
set_option maxRecDepth 100000 in
set_option maxHeartbeats 4000000 in
theorem DM_put (l : Launch) (D : va_G) (g : Nat → ClassId) (q : Nat → Nat) (ws : va_W) (x2 : Int32) (x3 : Int32) (x4 : Int64) (hI : q_I (msh g q) q ws) (hM : iM g q ws) {th : Int32} {σ : zSt} (hS : sM g q ws th σ) (hk0 : zOk σ) : q_mV l y_NM_put prog_14_method_16_code 5 4 0 0 D g [.ref (q 116), .int x2, .int x3, .long x4] ws (fun u => jP g q ws u ∧ ∃ c σ2, rPt x2 x3 x4 σ c σ2 ∧ sM g q u c σ2) := by
  have hM0 := hM
  obtain ⟨t2_0, t3_0, hT2, hT3, hW⟩ := hM.1
  obtain ⟨t6_0, t7_0, t8_0, t9_0, hT6, hT7, hT8, hT9, hD⟩ := hM.2.1
  obtain ⟨t11_0, hT11, hB⟩ := hM.2.2.2
  obtain ⟨t0_0, t0_1, t0_2, hT0, bT0⟩ := n_o116 hI
  obtain ⟨t1_0, t1_1, t1_2, t1_3, t1_4, t1_5, t1_6, hT1, bT1⟩ := n_o119 hI
  obtain ⟨t4_0, hT4, -⟩ := n_ai hI (n_s123 g q)
  obtain ⟨t5_0, t5_1, t5_2, t5_3, t5_4, t5_5, t5_6, t5_7, t5_8, t5_9, t5_10, hT5, bT5⟩ := n_o134 hI
  obtain ⟨t10_0, hT10, -⟩ := n_ai hI (n_s140 g q)
  obtain ⟨hS1, hS2, hS3, hS4, hS5⟩ := hS
  obtain ⟨s9, p9, r9, r8, y0, y1, y2, jL9, jT9, jP9⟩ := hS4
  obtain ⟨-, rfl, rfl⟩ := x_116 hT0 y0
  obtain ⟨f0, f1, ya, yb, hw9⟩ := hS1
  obtain rfl := x_ri hT2 ya
  obtain rfl := x_ri hT3 yb
  have hS1 : mWr g q ws (zsW σ) := ⟨_, _, ya, yb, hw9⟩
  obtain ⟨g0, g1, g2, g3, yc, yd, ye, yg, hd9⟩ := hS2
  obtain rfl := x_ri hT6 yc
  obtain rfl := x_ri hT7 yd
  obtain rfl := x_ri hT8 ye
  obtain rfl := x_ri hT9 yg
  have hS2 : mDr g q ws (zsD σ) := ⟨_, _, _, _, yc, yd, ye, yg, hd9⟩
  obtain ⟨f9, yf, hV9, hN9⟩ := hS3
  obtain rfl := x_rl hT11 yf
  have hS3 : mFr g q ws (zsV σ) (zsN σ) := ⟨_, yf, hV9, hN9⟩
  have hq := T_NM_put (x2 := x2) (x3 := x3) (x4 := x4) (t0_0 := t0_0) (t0_1 := t0_1) (t0_2 := t0_2) (t1_0 := t1_0) (t1_1 := t1_1) (t1_2 := t1_2) (t1_3 := t1_3) (t1_4 := t1_4) (t1_5 := t1_5) (t1_6 := t1_6) (t2_0 := t2_0) (t3_0 := t3_0) (t4_0 := t4_0) (t5_0 := t5_0) (t5_1 := t5_1) (t5_2 := t5_2) (t5_3 := t5_3) (t5_4 := t5_4) (t5_5 := t5_5) (t5_6 := t5_6) (t5_7 := t5_7) (t5_8 := t5_8) (t5_9 := t5_9) (t5_10 := t5_10) (t6_0 := t6_0) (t7_0 := t7_0) (t8_0 := t8_0) (t9_0 := t9_0) (t10_0 := t10_0) (t11_0 := t11_0) hW hD hB
  refine q_mVw (X_NM_put l D g q ws x2 x3 x4 hI t0_0 t0_1 t0_2 hT0 t1_0 t1_1 t1_2 t1_3 t1_4 t1_5 t1_6 hT1 t2_0 hT2 t3_0 hT3 t4_0 hT4 t5_0 t5_1 t5_2 t5_3 t5_4 t5_5 t5_6 t5_7 t5_8 t5_9 t5_10 hT5 t6_0 hT6 t7_0 hT7 t8_0 hT8 t9_0 hT9 t10_0 hT10 t11_0 hT11 ⟨trivial, hq.1⟩) ?_
  rintro u ⟨hI2, hun, u0_0, u1_0, u1_1, u1_2, u1_3, u1_4, u1_5, u1_6, u2_0, u3_0, u4_0, u5_0, u5_1, u5_2, u5_3, u5_4, u5_5, u5_6, u5_7, u5_8, u5_9, u5_10, u6_0, u7_0, u8_0, u9_0, u10_0, u11_0, hU0, hU1, hU2, hU3, hU4, hU5, hU6, hU7, hU8, hU9, hU10, hU11, hR⟩
  have hp := hq.2
  rw [← hR.2.2.2.2.2.2.2.2.2.2.2.2.2.2.2.2.2.2.2.2.2.2.2.2.2.2.2.2] at hp
  refine ⟨⟨hI2, ⟨⟨_, _, hU2, hU3, hp.1⟩, ⟨_, _, _, _, hU6, hU7, hU8, hU9, hp.2.1⟩, jZ_fr hM0.2.2.1 (hun 160 (by decide)), ⟨_, hU11, hp.2.2⟩⟩, jF_un hun (by decide)⟩, ?_⟩
  have hG := hR.2.2.2.2.2.2.2.2.2.2.2.2.2.2.2.2.2.2.2.2.2.2.2.2.2.2.2.2
  have hv := V_NM_put (x2 := x2) (x3 := x3) (x4 := x4) (t0_0 := t0_0) (t0_1 := t0_1) (t0_2 := t0_2) (t1_0 := t1_0) (t1_1 := t1_1) (t1_2 := t1_2) (t1_3 := t1_3) (t1_4 := t1_4) (t1_5 := t1_5) (t1_6 := t1_6) (t2_0 := t2_0) (t3_0 := t3_0) (t4_0 := t4_0) (t5_0 := t5_0) (t5_1 := t5_1) (t5_2 := t5_2) (t5_3 := t5_3) (t5_4 := t5_4) (t5_5 := t5_5) (t5_6 := t5_6) (t5_7 := t5_7) (t5_8 := t5_8) (t5_9 := t5_9) (t5_10 := t5_10) (t6_0 := t6_0) (t7_0 := t7_0) (t8_0 := t8_0) (t9_0 := t9_0) (t10_0 := t10_0) (t11_0 := t11_0) hw9 hd9
  rw [← hG] at hv
  rcases hv with ⟨l1, z, w⟩ | ⟨l1, z, w1, w2, w3⟩
  · rcases w with ⟨k, w1, w2, w3⟩ | ⟨k, w1, w2, w3⟩ | ⟨k, w1, w2, w3⟩ | ⟨k, w1, w2, w3⟩
    · replace z : u0_0 = 0 := z
      replace w3 : u11_0 = t11_0 := w3
      exact ⟨0, (updW (zsW σ) x3.toNatClampNeg x4.toInt, zsD σ, zsV σ, zsN σ, zsL σ, zsB σ, zsP σ, zsA σ), Or.inr ⟨l1, rfl, Or.inl ⟨k, rfl⟩⟩, ⟨⟨_, _, hU2, hU3, w1⟩, ⟨_, _, _, _, hU6, hU7, hU8, hU9, w2⟩, ⟨_, hU11, fun i hi => by rw [w3]; exact hV9 i hi, fun i hi => by rw [w3]; exact hN9 i hi⟩, ⟨_, _, _, _, by rw [← z]; exact hU0, (hun 117 (by decide)).trans y1, (hun 118 (by decide)).trans y2, jL9, jT9, jP9⟩, (mAr_fr hS5 (hun 157 (by decide)) (hun 159 (by decide)) (hun 160 (by decide)) (hun 161 (by decide)) (hun 162 (by decide)))⟩⟩
    · replace z : u0_0 = 0 := z
      replace w3 : u11_0 = t11_0 := w3
      exact ⟨0, (zsW σ, updD (zsD σ) x3.toNatClampNeg (x4.toInt, 0), zsV σ, zsN σ, zsL σ, zsB σ, zsP σ, zsA σ), Or.inr ⟨l1, rfl, Or.inr (Or.inl ⟨k, rfl⟩)⟩, ⟨⟨_, _, hU2, hU3, w1⟩, ⟨_, _, _, _, hU6, hU7, hU8, hU9, w2⟩, ⟨_, hU11, fun i hi => by rw [w3]; exact hV9 i hi, fun i hi => by rw [w3]; exact hN9 i hi⟩, ⟨_, _, _, _, by rw [← z]; exact hU0, (hun 117 (by decide)).trans y1, (hun 118 (by decide)).trans y2, jL9, jT9, jP9⟩, (mAr_fr hS5 (hun 157 (by decide)) (hun 159 (by decide)) (hun 160 (by decide)) (hun 161 (by decide)) (hun 162 (by decide)))⟩⟩
    · replace z : u0_0 = 0 := z
      replace w3 : u11_0 = vp_updL t11_0 x3.toNatClampNeg x4 := w3
      exact ⟨0, (zsW σ, zsD σ, vp_updL (zsV σ) x3.toNatClampNeg x4, zsN σ, zsL σ, zsB σ, zsP σ, zsA σ), Or.inr ⟨l1, rfl, Or.inr (Or.inr (Or.inl ⟨k, rfl⟩))⟩, ⟨⟨_, _, hU2, hU3, w1⟩, ⟨_, _, _, _, hU6, hU7, hU8, hU9, w2⟩, ⟨_, hU11, fun i hi => by rw [w3]; exact x_up hV9 _ _ i hi, fun i hi => by rw [w3]; exact x_upV hN9 (x_reg l1.2.1) _ i hi⟩, ⟨_, _, _, _, by rw [← z]; exact hU0, (hun 117 (by decide)).trans y1, (hun 118 (by decide)).trans y2, jL9, jT9, jP9⟩, (mAr_fr hS5 (hun 157 (by decide)) (hun 159 (by decide)) (hun 160 (by decide)) (hun 161 (by decide)) (hun 162 (by decide)))⟩⟩
    · replace z : u0_0 = 0 := z
      replace w3 : u11_0 = vp_updL t11_0 (10 + x3).toNatClampNeg x4 := w3
      exact ⟨0, (zsW σ, zsD σ, zsV σ, vp_updL (zsN σ) x3.toNatClampNeg x4, zsL σ, zsB σ, zsP σ, zsA σ), Or.inr ⟨l1, rfl, Or.inr (Or.inr (Or.inr (⟨k, rfl⟩)))⟩, ⟨⟨_, _, hU2, hU3, w1⟩, ⟨_, _, _, _, hU6, hU7, hU8, hU9, w2⟩, ⟨_, hU11, fun i hi => by rw [w3]; exact x_upN0 hV9 l1.2.1 _ i hi, fun i hi => by rw [w3]; exact x_upN1 hN9 l1.2.1 _ i hi⟩, ⟨_, _, _, _, by rw [← z]; exact hU0, (hun 117 (by decide)).trans y1, (hun 118 (by decide)).trans y2, jL9, jT9, jP9⟩, (mAr_fr hS5 (hun 157 (by decide)) (hun 159 (by decide)) (hun 160 (by decide)) (hun 161 (by decide)) (hun 162 (by decide)))⟩⟩
  · replace z : u0_0 = 1 := z
    replace w3 : u11_0 = t11_0 := w3
    exact ⟨1, σ, Or.inl ⟨l1, rfl, rfl⟩, ⟨⟨_, _, hU2, hU3, w1⟩, ⟨_, _, _, _, hU6, hU7, hU8, hU9, w2⟩, ⟨_, hU11, fun i hi => by rw [w3]; exact hV9 i hi, fun i hi => by rw [w3]; exact hN9 i hi⟩, ⟨_, _, _, _, by rw [← z]; exact hU0, (hun 117 (by decide)).trans y1, (hun 118 (by decide)).trans y2, jL9, jT9, jP9⟩, (mAr_fr hS5 (hun 157 (by decide)) (hun 159 (by decide)) (hun 160 (by decide)) (hun 161 (by decide)) (hun 162 (by decide)))⟩⟩
