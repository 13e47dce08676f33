/-! whole's law: argument -/
def zTp (σ : zSt) : List Nat := (List.range (zsL σ)).map (fun i => (zsB σ i).toNat)
theorem zTp_len (σ : zSt) : (zTp σ).length = zsL σ := by
  unfold zTp
  rw [List.length_map, List.length_range]
theorem zTp_get {σ : zSt} {i : Nat} (h : i < zsL σ) : (zTp σ).getD i 0 = (zsB σ i).toNat := by
  rw [List.getD_eq_getElem?_getD]
  unfold zTp
  rw [List.getElem?_map, List.getElem?_range h]
  rfl
theorem zTp_b {σ : zSt} (hk : zOk σ) : ∀ x, x ∈ zTp σ → x < 256 := by
  intro x hx
  unfold zTp at hx
  obtain ⟨i, _, rfl⟩ := List.mem_map.mp hx
  have := hk.2.2.2.2.2.1 i
  omega
theorem zTp_sh {σ : zSt} {s : Int32} {c : Nat → Int64} (hL : s.toInt = (zsL σ : Int)) (hB : zsB σ = ySB c) : yShl 4100 s c (zTp σ) := by
  refine ⟨by rw [zTp_len]; exact hL, fun i hi _ => ?_⟩
  rw [zTp_len] at hi
  rw [zTp_get hi, hB]
  rfl
theorem zTp_rt {σ : zSt} {s : Int32} {r : Nat → Int32} (hk : zOk σ) (hL : s.toInt = (zsL σ : Int)) (hT : yTr r (zsL σ) (zsB σ)) : yRt s r (zTp σ) := by
  refine ⟨by rw [zTp_len]; exact hL, fun i hi => ?_⟩
  rw [zTp_len] at hi
  rw [zTp_get hi, hT i hi]
  have := hk.2.2.2.2.2.1 i
  omega
theorem x_arw {x2 x3 : Int32} {w w' : Int} {q q' : Int × Int} {tp tp2 : List Nat} {A A2 : List yA} {c a : Int32} (h : yArR x2 x3 w q tp A c a tp2 A2) (hw : yReg x3 → w = w') (hq : yReg x3 → q = q') : yArR x2 x3 w' q' tp A c a tp2 A2 := by
  by_cases r : yReg x3
  · rw [← hw r, ← hq r]
    exact h
  · have n0 : yArOk x2 x3 → x2 ≠ 0 ∧ x2 ≠ 1 := by
      intro k
      rcases k with k | k | k | k | k | k
      · exact absurd k.2 r
      · exact ⟨fun e => absurd (k.symm.trans e) (by decide), fun e => absurd (k.symm.trans e) (by decide)⟩
      · exact ⟨fun e => absurd (k.symm.trans e) (by decide), fun e => absurd (k.symm.trans e) (by decide)⟩
      · exact ⟨fun e => absurd (k.1.symm.trans e) (by decide), fun e => absurd (k.1.symm.trans e) (by decide)⟩
      · exact ⟨fun e => absurd (k.symm.trans e) (by decide), fun e => absurd (k.symm.trans e) (by decide)⟩
      · exact ⟨fun e => absurd (k.symm.trans e) (by decide), fun e => absurd (k.symm.trans e) (by decide)⟩
    have f1 : ∀ {w : Int} {q : Int × Int}, yArOk x2 x3 → yArF x2 w q := fun k => ⟨fun e => absurd e (n0 k).1, fun e => absurd e (n0 k).2⟩
    rcases h with h | h | ⟨k, n8, nf, h⟩ | ⟨k, n8, f, h⟩ | ⟨k, n8, f, h⟩ | ⟨k, n8, f, m64, l9, c1, z, t1, a1⟩
    · exact Or.inl h
    · exact Or.inr (Or.inl h)
    · exact absurd (f1 k) nf
    · exact Or.inr (Or.inr (Or.inr (Or.inl ⟨k, n8, f1 k, h⟩)))
    · exact Or.inr (Or.inr (Or.inr (Or.inr (Or.inl ⟨k, n8, f1 k, h⟩))))
    · refine Or.inr (Or.inr (Or.inr (Or.inr (Or.inr ⟨k, n8, f1 k, m64, l9, c1, z, t1, ?_⟩))))
      rw [a1]
      unfold yArA
      rw [if_neg (n0 k).1, if_neg (n0 k).1, if_neg (n0 k).2, if_neg (n0 k).2]
theorem x_artp {x2 x3 : Int32} {w : Int} {q : Int × Int} {tp tp2 : List Nat} {A A2 : List yA} {c a : Int32} (h : yArR x2 x3 w q tp A c a tp2 A2) : tp2 = tp ∨ tp2 = [] := by
  rcases h with ⟨_, _, t1, _⟩ | ⟨_, _, _, _, t1, _⟩ | ⟨_, _, _, _, t1, _⟩ | ⟨_, _, _, _, _, _, t1, _⟩ | ⟨_, _, _, _, _, _, _, t1, _⟩ | ⟨_, _, _, _, _, _, _, t1, _⟩
  · exact Or.inl t1
  · exact Or.inl t1
  · exact Or.inl t1
  · exact Or.inl t1
  · exact Or.inl t1
  · by_cases e : x2 = 7
    · rw [if_pos e] at t1
      exact Or.inr t1
    · rw [if_neg e] at t1
      exact Or.inl t1
theorem yArR_U {x2 x3 : Int32} {w : Int} {q : Int × Int} {tp s t : List Nat} {A B C : List yA} {c a c2 a2 : Int32} (h : yArR x2 x3 w q tp A c a s B) (g : yArR x2 x3 w q tp A c2 a2 t C) : c = c2 ∧ (c = 0 → a = a2) ∧ s = t ∧ B = C := by
  rcases h with ⟨n1, c1, t1, a1⟩ | ⟨k, e8, c1, z, t1, a1⟩ | ⟨k, n8, nf, c1, t1, a1⟩ | ⟨k, n8, f, e7, l64, c1, t1, a1⟩ | ⟨k, n8, f, m64, l9, c1, z, t1, a1⟩ | ⟨k, n8, f, m64, l9, c1, z, t1, a1⟩ <;> rcases g with ⟨n1', c1', t1', a1'⟩ | ⟨k', e8', c1', z', t1', a1'⟩ | ⟨k', n8', nf', c1', t1', a1'⟩ | ⟨k', n8', f', e7', l64', c1', t1', a1'⟩ | ⟨k', n8', f', m64', l9', c1', z', t1', a1'⟩ | ⟨k', n8', f', m64', l9', c1', z', t1', a1'⟩
  · exact ⟨c1.trans c1'.symm, fun w => absurd (c1.symm.trans w) (by decide), t1.trans t1'.symm, a1.trans a1'.symm⟩
  · exact absurd k' n1
  · exact absurd k' n1
  · exact absurd k' n1
  · exact absurd k' n1
  · exact absurd k' n1
  · exact absurd k n1'
  · exact ⟨c1.trans c1'.symm, fun _ => z.trans z'.symm, t1.trans t1'.symm, a1.trans a1'.symm⟩
  · exact absurd e8 n8'
  · exact absurd e8 n8'
  · exact absurd e8 n8'
  · exact absurd e8 n8'
  · exact absurd k n1'
  · exact absurd e8' n8
  · exact ⟨c1.trans c1'.symm, fun w => absurd (c1.symm.trans w) (by decide), t1.trans t1'.symm, a1.trans a1'.symm⟩
  · exact absurd f' nf
  · exact absurd f' nf
  · exact absurd f' nf
  · exact absurd k n1'
  · exact absurd e8' n8
  · exact absurd f nf'
  · exact ⟨c1.trans c1'.symm, fun w => absurd (c1.symm.trans w) (by decide), t1.trans t1'.symm, a1.trans a1'.symm⟩
  · exact absurd (m64' e7) (Nat.not_le.mpr l64)
  · exact absurd (m64' e7) (Nat.not_le.mpr l64)
  · exact absurd k n1'
  · exact absurd e8' n8
  · exact absurd f nf'
  · exact absurd (m64 e7') (Nat.not_le.mpr l64')
  · exact ⟨c1.trans c1'.symm, fun _ => z.trans z'.symm, t1.trans t1'.symm, a1.trans a1'.symm⟩
  · exact absurd l9' (Nat.not_lt.mpr l9)
  · exact absurd k n1'
  · exact absurd e8' n8
  · exact absurd f nf'
  · exact absurd (m64 e7') (Nat.not_le.mpr l64')
  · exact absurd l9 (Nat.not_lt.mpr l9')
  · exact ⟨c1.trans c1'.symm, fun _ => Int32.toInt_inj.mp (z.trans z'.symm), t1.trans t1'.symm, a1.trans a1'.symm⟩
def rAr (x2 x3 : Int32) (σ : zSt) (c a : Int32) (σ2 : zSt) : Prop := ∃ tp2 A2, yArR x2 x3 (zsW σ x3.toNatClampNeg) (zsD σ x3.toNatClampNeg) (zTp σ) (zsA σ) c a tp2 A2 ∧ σ2 = (zsW σ, zsD σ, zsV σ, zsN σ, tp2.length, zsB σ, zsP σ, A2)
theorem rAr_U {x2 x3 : Int32} {σ s t : zSt} {c a c2 a2 : Int32} (h : rAr x2 x3 σ c a s) (g : rAr x2 x3 σ c2 a2 t) : c = c2 ∧ (c = 0 → a = a2) ∧ s = t := by
  obtain ⟨tp, A, h1, h2⟩ := h
  obtain ⟨tp', A', g1, g2⟩ := g
  obtain ⟨e1, e2, e3, e4⟩ := yArR_U h1 g1
  exact ⟨e1, e2, by rw [h2, g2, e3, e4]⟩
set_option maxRecDepth 100000 in
set_option maxHeartbeats 4000000 in
theorem CW_argument (l : Launch) (D : va_G) (g : Nat → ClassId) (q : Nat → Nat) (ws : va_W) (x2 : Int32) (x3 : Int32) (i3 : Nat) (hi3 : i3 < 10) (e3 : x3.toNatClampNeg < 10 → i3 = x3.toNatClampNeg) (hlt : l.stackTraces = false) (hI : q_I (nsh g q) q ws) (hC : iC g q ws) {σ : zSt} (hS : sC g q ws σ) (hk0 : zOk σ) : ∀ sz, q_Mx l y_NH_argument prog_1_method_19_code 3 (some .int) 8 6 36 D g [.ref (q 0), .int x2, .int x3] ws sz (va_Qi (fun r u => iP g q ws u ∧ ∃ σ2, rAr x2 x3 σ 0 r σ2 ∧ sC g q u σ2) (q_B D g (va_A ws sz)) (va_A ws sz)) (fun E u => ∃ c : Int32, E = qE c ∧ (c = 1 ∨ c = 2 ∨ c = 3) ∧ iP g q ws u ∧ ∃ σ2, rAr x2 x3 σ c 0 σ2 ∧ sC g q u σ2) := by
  intro sz
  obtain ⟨t0_0, t0_1, t0_2, t0_3, hT0, bT0⟩ := n_o40 hI
  obtain ⟨t1_0, hT1, bT1⟩ := n_ai hI (n_s41 g q)
  obtain ⟨t2_0, hT2⟩ := n_al hI (n_s42 g q)
  obtain ⟨t3_0, hT3, bT3⟩ := n_ai hI (n_s43 g q)
  obtain ⟨t4_0, hT4, bT4⟩ := n_shO hI (n_h1 g q)
  obtain ⟨t5_0, hT5⟩ := n_al hI (n_s2 g q)
  obtain ⟨t6_0, hT6, bT6⟩ := n_shO hI (n_t g q (j := 0) (by decide))
  obtain ⟨t7_0, hT7⟩ := n_al hI (n_s49 g q)
  obtain ⟨t8_0, hT8, bT8⟩ := n_shO hI (n_t g q (j := 1) (by decide))
  obtain ⟨t9_0, hT9⟩ := n_al hI (n_s51 g q)
  obtain ⟨t10_0, hT10, bT10⟩ := n_shO hI (n_t g q (j := 2) (by decide))
  obtain ⟨t11_0, hT11⟩ := n_al hI (n_s53 g q)
  obtain ⟨t12_0, hT12, bT12⟩ := n_shO hI (n_t g q (j := 3) (by decide))
  obtain ⟨t13_0, hT13⟩ := n_al hI (n_s55 g q)
  obtain ⟨t14_0, hT14, bT14⟩ := n_shO hI (n_t g q (j := 4) (by decide))
  obtain ⟨t15_0, hT15⟩ := n_al hI (n_s57 g q)
  obtain ⟨t16_0, hT16, bT16⟩ := n_shO hI (n_t g q (j := 5) (by decide))
  obtain ⟨t17_0, hT17⟩ := n_al hI (n_s59 g q)
  obtain ⟨t18_0, hT18, bT18⟩ := n_shO hI (n_t g q (j := 6) (by decide))
  obtain ⟨t19_0, hT19⟩ := n_al hI (n_s61 g q)
  obtain ⟨t20_0, hT20, bT20⟩ := n_shO hI (n_t g q (j := 7) (by decide))
  obtain ⟨t21_0, hT21⟩ := n_al hI (n_s63 g q)
  obtain ⟨t22_0, hT22, bT22⟩ := n_shO hI (n_t g q (j := 8) (by decide))
  obtain ⟨t23_0, hT23⟩ := n_al hI (n_s65 g q)
  obtain ⟨t24_0, t24_1, t25_0, hT24, hT25, vk3, hbk3, hBk3⟩ := hC.1 i3 hi3
  obtain ⟨t26_0, t26_1, t27_0, t27_1, t28_0, hT26, hT27, hT28, vd3, hbd3⟩ := hC.2.1 i3 hi3
  obtain ⟨hS1, hS2, hS3, hS4, hS5, hS6, hS7⟩ := hS
  obtain ⟨sw3, nw3, fw3, aw3, bw3, gw3⟩ := hS1 i3 hi3
  obtain ⟨rfl, rfl⟩ := x_b2 hT24 aw3
  obtain rfl := x_ri hT25 bw3
  obtain ⟨pd3, qd3, sd3, nd3, fd3, ad3, bd3, cd3, gd3⟩ := hS2 i3 hi3
  obtain ⟨rfl, rfl⟩ := x_b2 hT26 ad3
  obtain ⟨rfl, rfl⟩ := x_b2 hT27 bd3
  obtain rfl := x_ri hT28 cd3
  obtain ⟨s9, c9, yt1, yt2, hL9, hB9⟩ := hS5
  obtain rfl := x_sh hT4 yt1
  obtain rfl := x_rl hT5 yt2
  have hS5 : cTp g q ws (zsL σ) (zsB σ) := ⟨_, _, yt1, yt2, hL9, hB9⟩
  obtain ⟨n9, a9, b9, c9, kd9, nu9, sc9, s09, f09, s19, f19, s29, f29, s39, f39, s49, f49, s59, f59, s69, f69, s79, f79, s89, f89, z40, z41, z42, z43, z48, z49, z50, z51, z52, z53, z54, z55, z56, z57, z58, z59, z60, z61, z62, z63, z64, z65, hA⟩ := hS7
  obtain rfl := x_pr hT0 z40
  obtain rfl := x_ri hT1 z41
  obtain rfl := x_rl hT2 z42
  obtain rfl := x_ri hT3 z43
  obtain rfl := x_sh hT6 z48
  obtain rfl := x_rl hT7 z49
  obtain rfl := x_sh hT8 z50
  obtain rfl := x_rl hT9 z51
  obtain rfl := x_sh hT10 z52
  obtain rfl := x_rl hT11 z53
  obtain rfl := x_sh hT12 z54
  obtain rfl := x_rl hT13 z55
  obtain rfl := x_sh hT14 z56
  obtain rfl := x_rl hT15 z57
  obtain rfl := x_sh hT16 z58
  obtain rfl := x_rl hT17 z59
  obtain rfl := x_sh hT18 z60
  obtain rfl := x_rl hT19 z61
  obtain rfl := x_sh hT20 z62
  obtain rfl := x_rl hT21 z63
  obtain rfl := x_sh hT22 z64
  obtain rfl := x_rl hT23 z65
  have hq := T_argument (x2 := x2) (x3 := x3) (t0_0 := t0_0) (t0_1 := t0_1) (t0_2 := t0_2) (t0_3 := t0_3) (t1_0 := t1_0) (t2_0 := t2_0) (t3_0 := t3_0) (t4_0 := t4_0) (t5_0 := t5_0) (t6_0 := t6_0) (t7_0 := t7_0) (t8_0 := t8_0) (t9_0 := t9_0) (t10_0 := t10_0) (t11_0 := t11_0) (t12_0 := t12_0) (t13_0 := t13_0) (t14_0 := t14_0) (t15_0 := t15_0) (t16_0 := t16_0) (t17_0 := t17_0) (t18_0 := t18_0) (t19_0 := t19_0) (t20_0 := t20_0) (t21_0 := t21_0) (t22_0 := t22_0) (t23_0 := t23_0) (t24_0 := t24_0) (t24_1 := t24_1) (t25_0 := t25_0) (t26_0 := t26_0) (t26_1 := t26_1) (t27_0 := t27_0) (t27_1 := t27_1) (t28_0 := t28_0) 
  refine q_MxI (X_NH_argument l D g q ws x2 x3 (66 + 5 * i3) (n_w g q hi3) (by omega) (fun h => by have z := e3 h; omega) (68 + 5 * i3) (n_d g q hi3) (by omega) (fun h => by have z := e3 h; omega) (by omega) (by omega) (by omega) (by omega) hlt hI t0_0 t0_1 t0_2 t0_3 hT0 t1_0 hT1 t2_0 hT2 t3_0 hT3 t4_0 hT4 t5_0 hT5 t6_0 hT6 t7_0 hT7 t8_0 hT8 t9_0 hT9 t10_0 hT10 t11_0 hT11 t12_0 hT12 t13_0 hT13 t14_0 hT14 t15_0 hT15 t16_0 hT16 t17_0 hT17 t18_0 hT18 t19_0 hT19 t20_0 hT20 t21_0 hT21 t22_0 hT22 t23_0 hT23 t24_0 t24_1 hT24 t25_0 hT25 t26_0 t26_1 hT26 t27_0 t27_1 hT27 t28_0 hT28 ⟨trivial, hq⟩ sz) ?_ ?_
  · rintro r u ⟨hI2, hun, u0_0, u0_1, u0_2, u0_3, u1_0, u2_0, u3_0, u4_0, u6_0, u7_0, u8_0, u9_0, u10_0, u11_0, u12_0, u13_0, u14_0, u15_0, u16_0, u17_0, u18_0, u19_0, u20_0, u21_0, u22_0, u23_0, hU0, hU1, hU2, hU3, hU4, hU5, hU6, hU7, hU8, hU9, hU10, hU11, hU12, hU13, hU14, hU15, hU16, hU17, hU18, hU19, hU20, hU21, hU22, hR⟩
    refine ⟨⟨hI2, ⟨fun i hi => ?_, fun i hi => ?_, ?_⟩, fun i hi => hun i (by simp only [List.mem_cons, List.not_mem_nil, or_false, not_or]; omega)⟩, ?_⟩
    · exact iW_fr (hC.1 i hi) (hun _ (by simp only [List.mem_cons, List.not_mem_nil, or_false, not_or]; omega)) (hun _ (by simp only [List.mem_cons, List.not_mem_nil, or_false, not_or]; omega))
    · exact iD_fr (hC.2.1 i hi) (hun _ (by simp only [List.mem_cons, List.not_mem_nil, or_false, not_or]; omega)) (hun _ (by simp only [List.mem_cons, List.not_mem_nil, or_false, not_or]; omega)) (hun _ (by simp only [List.mem_cons, List.not_mem_nil, or_false, not_or]; omega))
    · exact iO_fr hC.2.2 (hun _ (by simp only [List.mem_cons, List.not_mem_nil, or_false, not_or]; omega)) (hun _ (by simp only [List.mem_cons, List.not_mem_nil, or_false, not_or]; omega)) (hun _ (by simp only [List.mem_cons, List.not_mem_nil, or_false, not_or]; omega))
    · have hG := hR.2.2.2.2.2.2.2.2.2.2.2.2.2.2.2.2.2.2.2.2.2.2.2.2.2.2.2.2.2.2.2.2.2.2.2.2.2.2
      have fW : ∀ i, i < 10 → cWr g q u (66 + 5 * i) (zsW σ i) := fun i hi => cWr_fr (hS1 i hi) (hun _ (by simp only [List.mem_cons, List.not_mem_nil, or_false, not_or]; omega)) (hun _ (by simp only [List.mem_cons, List.not_mem_nil, or_false, not_or]; omega))
      have fD : ∀ i, i < 10 → cDr g q u (68 + 5 * i) (zsD σ i) := fun i hi => cDr_fr (hS2 i hi) (hun _ (by simp only [List.mem_cons, List.not_mem_nil, or_false, not_or]; omega)) (hun _ (by simp only [List.mem_cons, List.not_mem_nil, or_false, not_or]; omega)) (hun _ (by simp only [List.mem_cons, List.not_mem_nil, or_false, not_or]; omega))
      have fV : cFr g q u 7 (zsV σ) := (cFr_fr hS3 (hun _ (by simp only [List.mem_cons, List.not_mem_nil, or_false, not_or]; omega)))
      have fN : cFr g q u 8 (zsN σ) := (cFr_fr hS4 (hun _ (by simp only [List.mem_cons, List.not_mem_nil, or_false, not_or]; omega)))
      have fP : cPp g q u (zsP σ) := (cPp_fr hS6 (hun _ (by simp only [List.mem_cons, List.not_mem_nil, or_false, not_or]; omega)) (hun _ (by simp only [List.mem_cons, List.not_mem_nil, or_false, not_or]; omega)))
      have hv := V_NH_argument (x2 := x2) (x3 := x3) (t0_0 := t0_0) (t0_1 := t0_1) (t0_2 := t0_2) (t0_3 := t0_3) (t1_0 := t1_0) (t2_0 := t2_0) (t3_0 := t3_0) (t4_0 := t4_0) (t5_0 := t5_0) (t6_0 := t6_0) (t7_0 := t7_0) (t8_0 := t8_0) (t9_0 := t9_0) (t10_0 := t10_0) (t11_0 := t11_0) (t12_0 := t12_0) (t13_0 := t13_0) (t14_0 := t14_0) (t15_0 := t15_0) (t16_0 := t16_0) (t17_0 := t17_0) (t18_0 := t18_0) (t19_0 := t19_0) (t20_0 := t20_0) (t21_0 := t21_0) (t22_0 := t22_0) (t23_0 := t23_0) (t24_0 := t24_0) (t24_1 := t24_1) (t25_0 := t25_0) (t26_0 := t26_0) (t26_1 := t26_1) (t27_0 := t27_0) (t27_1 := t27_1) (t28_0 := t28_0) hA (zTp_sh hL9 hB9) (zTp_b hk0) gw3 gd3 (hk0.1 _ hi3)
      rw [← hG] at hv
      obtain ⟨tp2, A2, h1, w1, w2⟩ := hv
      have h1 := x_arw h1 (fun r => by rw [e3 (x_reg r)]) (fun r => by rw [e3 (x_reg r)])
      refine ⟨(zsW σ, zsD σ, zsV σ, zsN σ, tp2.length, zsB σ, zsP σ, A2), ⟨tp2, A2, h1, rfl⟩, ?_⟩
      refine ⟨fW, fD, fV, fN, ⟨_, _, hU4, ((hun _ (by simp only [List.mem_cons, List.not_mem_nil, or_false, not_or]; omega)).trans hT5), w1.1, hB9⟩, fP, ⟨_, _, _, _, _, _, _, _, _, _, _, _, _, _, _, _, _, _, _, _, _, _, _, _, _, hU0, hU1, hU2, hU3, hU5, hU6, hU7, hU8, hU9, hU10, hU11, hU12, hU13, hU14, hU15, hU16, hU17, hU18, hU19, hU20, hU21, hU22, w2⟩⟩
  · rintro E u ⟨c, hE, hc, hI2, hun, u0_0, u0_1, u0_2, u0_3, u1_0, u2_0, u3_0, u4_0, u6_0, u7_0, u8_0, u9_0, u10_0, u11_0, u12_0, u13_0, u14_0, u15_0, u16_0, u17_0, u18_0, u19_0, u20_0, u21_0, u22_0, u23_0, hU0, hU1, hU2, hU3, hU4, hU5, hU6, hU7, hU8, hU9, hU10, hU11, hU12, hU13, hU14, hU15, hU16, hU17, hU18, hU19, hU20, hU21, hU22, hF⟩
    have hk := K_NH_argument (x2 := x2) (x3 := x3) (t0_0 := t0_0) (t0_1 := t0_1) (t0_2 := t0_2) (t0_3 := t0_3) (t1_0 := t1_0) (t2_0 := t2_0) (t3_0 := t3_0) (t4_0 := t4_0) (t5_0 := t5_0) (t6_0 := t6_0) (t7_0 := t7_0) (t8_0 := t8_0) (t9_0 := t9_0) (t10_0 := t10_0) (t11_0 := t11_0) (t12_0 := t12_0) (t13_0 := t13_0) (t14_0 := t14_0) (t15_0 := t15_0) (t16_0 := t16_0) (t17_0 := t17_0) (t18_0 := t18_0) (t19_0 := t19_0) (t20_0 := t20_0) (t21_0 := t21_0) (t22_0 := t22_0) (t23_0 := t23_0) (t24_0 := t24_0) (t24_1 := t24_1) (t25_0 := t25_0) (t26_0 := t26_0) (t26_1 := t26_1) (t27_0 := t27_0) (t27_1 := t27_1) (t28_0 := t28_0)
    rw [← hF] at hk
    replace hk : kC123 c := hk
    refine ⟨c, hE, hk.resolve_left hc, ⟨hI2, ⟨fun i hi => ?_, fun i hi => ?_, ?_⟩, fun i hi => hun i (by simp only [List.mem_cons, List.not_mem_nil, or_false, not_or]; omega)⟩, ?_⟩
    · exact iW_fr (hC.1 i hi) (hun _ (by simp only [List.mem_cons, List.not_mem_nil, or_false, not_or]; omega)) (hun _ (by simp only [List.mem_cons, List.not_mem_nil, or_false, not_or]; omega))
    · exact iD_fr (hC.2.1 i hi) (hun _ (by simp only [List.mem_cons, List.not_mem_nil, or_false, not_or]; omega)) (hun _ (by simp only [List.mem_cons, List.not_mem_nil, or_false, not_or]; omega)) (hun _ (by simp only [List.mem_cons, List.not_mem_nil, or_false, not_or]; omega))
    · exact iO_fr hC.2.2 (hun _ (by simp only [List.mem_cons, List.not_mem_nil, or_false, not_or]; omega)) (hun _ (by simp only [List.mem_cons, List.not_mem_nil, or_false, not_or]; omega)) (hun _ (by simp only [List.mem_cons, List.not_mem_nil, or_false, not_or]; omega))
    · have hG := hF
      have fW : ∀ i, i < 10 → cWr g q u (66 + 5 * i) (zsW σ i) := fun i hi => cWr_fr (hS1 i hi) (hun _ (by simp only [List.mem_cons, List.not_mem_nil, or_false, not_or]; omega)) (hun _ (by simp only [List.mem_cons, List.not_mem_nil, or_false, not_or]; omega))
      have fD : ∀ i, i < 10 → cDr g q u (68 + 5 * i) (zsD σ i) := fun i hi => cDr_fr (hS2 i hi) (hun _ (by simp only [List.mem_cons, List.not_mem_nil, or_false, not_or]; omega)) (hun _ (by simp only [List.mem_cons, List.not_mem_nil, or_false, not_or]; omega)) (hun _ (by simp only [List.mem_cons, List.not_mem_nil, or_false, not_or]; omega))
      have fV : cFr g q u 7 (zsV σ) := (cFr_fr hS3 (hun _ (by simp only [List.mem_cons, List.not_mem_nil, or_false, not_or]; omega)))
      have fN : cFr g q u 8 (zsN σ) := (cFr_fr hS4 (hun _ (by simp only [List.mem_cons, List.not_mem_nil, or_false, not_or]; omega)))
      have fP : cPp g q u (zsP σ) := (cPp_fr hS6 (hun _ (by simp only [List.mem_cons, List.not_mem_nil, or_false, not_or]; omega)) (hun _ (by simp only [List.mem_cons, List.not_mem_nil, or_false, not_or]; omega)))
      have hv := V_NH_argument (x2 := x2) (x3 := x3) (t0_0 := t0_0) (t0_1 := t0_1) (t0_2 := t0_2) (t0_3 := t0_3) (t1_0 := t1_0) (t2_0 := t2_0) (t3_0 := t3_0) (t4_0 := t4_0) (t5_0 := t5_0) (t6_0 := t6_0) (t7_0 := t7_0) (t8_0 := t8_0) (t9_0 := t9_0) (t10_0 := t10_0) (t11_0 := t11_0) (t12_0 := t12_0) (t13_0 := t13_0) (t14_0 := t14_0) (t15_0 := t15_0) (t16_0 := t16_0) (t17_0 := t17_0) (t18_0 := t18_0) (t19_0 := t19_0) (t20_0 := t20_0) (t21_0 := t21_0) (t22_0 := t22_0) (t23_0 := t23_0) (t24_0 := t24_0) (t24_1 := t24_1) (t25_0 := t25_0) (t26_0 := t26_0) (t26_1 := t26_1) (t27_0 := t27_0) (t27_1 := t27_1) (t28_0 := t28_0) hA (zTp_sh hL9 hB9) (zTp_b hk0) gw3 gd3 (hk0.1 _ hi3)
      rw [← hG] at hv
      obtain ⟨tp2, A2, h1, w1, w2⟩ := hv
      have h1 := x_arw h1 (fun r => by rw [e3 (x_reg r)]) (fun r => by rw [e3 (x_reg r)])
      refine ⟨(zsW σ, zsD σ, zsV σ, zsN σ, tp2.length, zsB σ, zsP σ, A2), ⟨tp2, A2, h1, rfl⟩, ?_⟩
      refine ⟨fW, fD, fV, fN, ⟨_, _, hU4, ((hun _ (by simp only [List.mem_cons, List.not_mem_nil, or_false, not_or]; omega)).trans hT5), w1.1, hB9⟩, fP, ⟨_, _, _, _, _, _, _, _, _, _, _, _, _, _, _, _, _, _, _, _, _, _, _, _, _, hU0, hU1, hU2, hU3, hU5, hU6, hU7, hU8, hU9, hU10, hU11, hU12, hU13, hU14, hU15, hU16, hU17, hU18, hU19, hU20, hU21, hU22, w2⟩⟩
theorem DW_argument (l : Launch) (D : va_G) (g : Nat → ClassId) (q : Nat → Nat) (ws : va_W) (x2 : Int32) (x3 : Int32) (hlt : l.stackTraces = false) (hI : q_I (nsh g q) q ws) (hC : iC g q ws) {σ : zSt} (hS : sC g q ws σ) (hk0 : zOk σ) : ∀ sz, q_Mx l y_NH_argument prog_1_method_19_code 3 (some .int) 8 6 36 D g [.ref (q 0), .int x2, .int x3] ws sz (va_Qi (fun r u => iP g q ws u ∧ ∃ σ2, rAr x2 x3 σ 0 r σ2 ∧ sC g q u σ2) (q_B D g (va_A ws sz)) (va_A ws sz)) (fun E u => ∃ c : Int32, E = qE c ∧ (c = 1 ∨ c = 2 ∨ c = 3) ∧ iP g q ws u ∧ ∃ σ2, rAr x2 x3 σ c 0 σ2 ∧ sC g q u σ2) := by
  obtain ⟨i3, hi3, e3⟩ := iX x3
  exact CW_argument l D g q ws x2 x3 i3 hi3 e3 hlt hI hC hS hk0
set_option maxRecDepth 100000 in
set_option maxHeartbeats 4000000 in
theorem DM_argument (l : Launch) (D : va_G) (g : Nat → ClassId) (q : Nat → Nat) (ws : va_W) (x2 : Int32) (x3 : Int32) (hI : q_I (msh g q) q ws) (hM : iM g q ws) {th : Int32} {σ : zSt} (hS : sM g q ws th σ) (hk0 : zOk σ) : q_mI l y_NM_argument prog_14_method_37_code 5 (.int) 4 0 0 D g [.ref (q 116), .int x2, .int x3] ws (fun r u => jP g q ws u ∧ ∃ c σ2, rAr x2 x3 σ c r σ2 ∧ sM g q u c σ2) := by
  have hM0 := hM
  obtain ⟨t2_0, t3_0, hT2, hT3, hW⟩ := hM.1
  obtain ⟨t5_0, t6_0, t7_0, t8_0, hT5, hT6, hT7, hT8, hD⟩ := hM.2.1
  obtain ⟨t12_0, hT12, hZ⟩ := hM.2.2.1
  obtain ⟨t0_0, t0_1, t0_2, hT0, bT0⟩ := n_o116 hI
  obtain ⟨t1_0, t1_1, t1_2, t1_3, t1_4, t1_5, t1_6, hT1, bT1⟩ := n_o119 hI
  obtain ⟨t4_0, t4_1, t4_2, t4_3, t4_4, t4_5, t4_6, t4_7, t4_8, t4_9, t4_10, hT4, bT4⟩ := n_o134 hI
  obtain ⟨t9_0, t9_1, t9_2, t9_3, t9_4, t9_5, t9_6, t9_7, t9_8, t9_9, t9_10, t9_11, t9_12, t9_13, t9_14, t9_15, t9_16, t9_17, t9_18, t9_19, t9_20, t9_21, hT9, bT9⟩ := n_o157 hI
  obtain ⟨t10_0, hT10, -⟩ := n_ai hI (n_s158 g q)
  obtain ⟨t11_0, hT11, -⟩ := n_ai hI (n_s159 g q)
  obtain ⟨t13_0, hT13⟩ := n_al hI (n_s161 g q)
  obtain ⟨t14_0, hT14, -⟩ := n_ai hI (n_s162 g q)
  obtain ⟨t15_0, hT15, -⟩ := n_ai hI (n_s117 g q)
  obtain ⟨t16_0, hT16⟩ := n_al hI (n_s168 g q)
  obtain ⟨hS1, hS2, hS3, hS4, hS5⟩ := hS
  obtain ⟨s9, p9, r9, r8, y0, y1, y2, jL9, jT9, jP9⟩ := hS4
  obtain ⟨-, rfl, rfl⟩ := x_116 hT0 y0
  obtain rfl := x_ri hT15 y1
  obtain ⟨f0, f1, ya, yb, hw9⟩ := hS1
  obtain rfl := x_ri hT2 ya
  obtain rfl := x_ri hT3 yb
  have hS1 : mWr g q ws (zsW σ) := ⟨_, _, ya, yb, hw9⟩
  obtain ⟨g0, g1, g2, g3, yc, yd, ye, yg, hd9⟩ := hS2
  obtain rfl := x_ri hT5 yc
  obtain rfl := x_ri hT6 yd
  obtain rfl := x_ri hT7 ye
  obtain rfl := x_ri hT8 yg
  have hS2 : mDr g q ws (zsD σ) := ⟨_, _, _, _, yc, yd, ye, yg, hd9⟩
  obtain ⟨v09, v19, v29, v39, v49, v59, v69, v79, v89, v99, v109, v119, v129, v139, v149, v159, v169, v179, v189, v199, v209, v219, kd9, sz9, va9, tx9, z0, z1, z2, z3, z4, hA⟩ := hS5
  obtain rfl := x_157 hT9 z0
  obtain rfl := x_ri hT11 z1
  obtain rfl := x_ri hT12 z2
  obtain rfl := x_rl hT13 z3
  obtain rfl := x_ri hT14 z4
  obtain ⟨W9, hr9, hE9⟩ := hw9
  have hq := T_NM_argument (x2 := x2) (x3 := x3) (t0_0 := t0_0) (t0_1 := t0_1) (t0_2 := t0_2) (t1_0 := t1_0) (t1_1 := t1_1) (t1_2 := t1_2) (t1_3 := t1_3) (t1_4 := t1_4) (t1_5 := t1_5) (t1_6 := t1_6) (t2_0 := t2_0) (t3_0 := t3_0) (t4_0 := t4_0) (t4_1 := t4_1) (t4_2 := t4_2) (t4_3 := t4_3) (t4_4 := t4_4) (t4_5 := t4_5) (t4_6 := t4_6) (t4_7 := t4_7) (t4_8 := t4_8) (t4_9 := t4_9) (t4_10 := t4_10) (t5_0 := t5_0) (t6_0 := t6_0) (t7_0 := t7_0) (t8_0 := t8_0) (t9_0 := t9_0) (t9_1 := t9_1) (t9_2 := t9_2) (t9_3 := t9_3) (t9_4 := t9_4) (t9_5 := t9_5) (t9_6 := t9_6) (t9_7 := t9_7) (t9_8 := t9_8) (t9_9 := t9_9) (t9_10 := t9_10) (t9_11 := t9_11) (t9_12 := t9_12) (t9_13 := t9_13) (t9_14 := t9_14) (t9_15 := t9_15) (t9_16 := t9_16) (t9_17 := t9_17) (t9_18 := t9_18) (t9_19 := t9_19) (t9_20 := t9_20) (t9_21 := t9_21) (t10_0 := t10_0) (t11_0 := t11_0) (t12_0 := t12_0) (t13_0 := t13_0) (t14_0 := t14_0) (t15_0 := t15_0) (t16_0 := t16_0) hW hD hZ (by first | exact bT0 | exact bT0.1 | exact bT0.2 | exact bT0.2.1 | exact bT0.2.2 | exact bT0.2.2.1 | exact bT0.2.2.2) (by first | exact bT9 | exact bT9.1 | exact bT9.2 | exact bT9.2.1 | exact bT9.2.2 | exact bT9.2.2.1 | exact bT9.2.2.2)
  refine q_mIw (X_NM_argument l D g q ws x2 x3 hI t0_0 t0_1 t0_2 hT0 t1_0 t1_1 t1_2 t1_3 t1_4 t1_5 t1_6 hT1 t2_0 hT2 t3_0 hT3 t4_0 t4_1 t4_2 t4_3 t4_4 t4_5 t4_6 t4_7 t4_8 t4_9 t4_10 hT4 t5_0 hT5 t6_0 hT6 t7_0 hT7 t8_0 hT8 t9_0 t9_1 t9_2 t9_3 t9_4 t9_5 t9_6 t9_7 t9_8 t9_9 t9_10 t9_11 t9_12 t9_13 t9_14 t9_15 t9_16 t9_17 t9_18 t9_19 t9_20 t9_21 hT9 t10_0 hT10 t11_0 hT11 t12_0 hT12 t13_0 hT13 t14_0 hT14 t15_0 hT15 t16_0 hT16 ⟨trivial, hq.1⟩) ?_
  rintro r u ⟨hI2, hun, u0_0, u0_1, u1_0, u1_1, u1_2, u1_3, u1_4, u1_5, u1_6, u9_0, u9_1, u9_2, u10_0, u11_0, u12_0, u13_0, u14_0, u16_0, hU0, hU1, hU2, hU3, hU4, hU5, hU6, hU7, hU8, hR⟩
  have hp := hq.2
  rw [← hR.2.2.2.2.2.2.2.2.2.2.2.2.2.2.2.2.2.2.2.2.2.2.2.2.2.2.2.2.2.2.2.2.2.2.2.2.2.2.2] at hp
  refine ⟨⟨hI2, ⟨jW_fr hM0.1 (hun 121 (by decide)) (hun 122 (by decide)), jD_fr hM0.2.1 (hun 136 (by decide)) (hun 137 (by decide)) (hun 138 (by decide)) (hun 139 (by decide)), ⟨_, hU5, hp⟩, jB_fr hM0.2.2.2 (hun 167 (by decide))⟩, jF_un hun (by decide)⟩, ?_⟩
  have hG := hR.2.2.2.2.2.2.2.2.2.2.2.2.2.2.2.2.2.2.2.2.2.2.2.2.2.2.2.2.2.2.2.2.2.2.2.2.2.2.2
  have hv := V_NM_argument (x2 := x2) (x3 := x3) (t0_0 := t0_0) (t0_1 := t0_1) (t0_2 := t0_2) (t1_0 := t1_0) (t1_1 := t1_1) (t1_2 := t1_2) (t1_3 := t1_3) (t1_4 := t1_4) (t1_5 := t1_5) (t1_6 := t1_6) (t2_0 := t2_0) (t3_0 := t3_0) (t4_0 := t4_0) (t4_1 := t4_1) (t4_2 := t4_2) (t4_3 := t4_3) (t4_4 := t4_4) (t4_5 := t4_5) (t4_6 := t4_6) (t4_7 := t4_7) (t4_8 := t4_8) (t4_9 := t4_9) (t4_10 := t4_10) (t5_0 := t5_0) (t6_0 := t6_0) (t7_0 := t7_0) (t8_0 := t8_0) (t9_0 := t9_0) (t9_1 := t9_1) (t9_2 := t9_2) (t9_3 := t9_3) (t9_4 := t9_4) (t9_5 := t9_5) (t9_6 := t9_6) (t9_7 := t9_7) (t9_8 := t9_8) (t9_9 := t9_9) (t9_10 := t9_10) (t9_11 := t9_11) (t9_12 := t9_12) (t9_13 := t9_13) (t9_14 := t9_14) (t9_15 := t9_15) (t9_16 := t9_16) (t9_17 := t9_17) (t9_18 := t9_18) (t9_19 := t9_19) (t9_20 := t9_20) (t9_21 := t9_21) (t10_0 := t10_0) (t11_0 := t11_0) (t12_0 := t12_0) (t13_0 := t13_0) (t14_0 := t14_0) (t15_0 := t15_0) (t16_0 := t16_0) hA (zTp_rt hk0 jL9 jT9) (zTp_b hk0) hr9 hd9
  rw [← hG] at hv
  obtain ⟨tp2, A2, h1, w1, w2⟩ := hv
  have h1 := x_arw h1 (fun r => hE9 _ (x_reg r)) (fun _ => rfl)
  have ht : ∀ i, i < tp2.length → i < zsL σ := fun i hi => by
    rcases x_artp h1 with e | e
    · rw [e, zTp_len] at hi; exact hi
    · rw [e] at hi; exact absurd hi (Nat.not_lt_zero _)
  exact ⟨u0_0, (zsW σ, zsD σ, zsV σ, zsN σ, tp2.length, zsB σ, zsP σ, A2), ⟨tp2, A2, h1, rfl⟩, ⟨(mWr_fr hS1 (hun 121 (by decide)) (hun 122 (by decide))), (mDr_fr hS2 (hun 136 (by decide)) (hun 137 (by decide)) (hun 138 (by decide)) (hun 139 (by decide))), (mFr_fr hS3 (hun 167 (by decide))), ⟨_, _, _, _, hU0, (hun 117 (by decide)).trans y1, (hun 118 (by decide)).trans y2, w1.1, fun i hi => jT9 i (ht i hi), jP9⟩, ⟨_, _, _, _, _, _, _, _, _, _, _, _, _, _, _, _, _, _, _, _, _, _, _, _, _, _, hU2, hU4, hU5, hU6, hU7, w2⟩⟩⟩
