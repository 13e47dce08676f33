/-! whole's law: told -/
theorem x_k4 {x : Int32} (h : 0 ≤ x.toInt ∧ x.toInt ≤ 3) : x = 0 ∨ x = 1 ∨ x = 2 ∨ x = 3 := by
  obtain ⟨h1, h2⟩ := h
  have : x.toInt = 0 ∨ x.toInt = 1 ∨ x.toInt = 2 ∨ x.toInt = 3 := by omega
  rcases this with e | e | e | e
  · exact Or.inl (Int32.toInt_inj.mp e)
  · exact Or.inr (Or.inl (Int32.toInt_inj.mp e))
  · exact Or.inr (Or.inr (Or.inl (Int32.toInt_inj.mp e)))
  · exact Or.inr (Or.inr (Or.inr (Int32.toInt_inj.mp e)))
theorem x_yTd {w : Int32} {q : Int × Int} {c : Nat} {a b : Int} (h : yTd w q c a) (g : yTd w q c b) : a = b := by
  have ne : ∀ {p q : Int32}, w = p → w = q → p ≠ q → False := fun a b c => c (a.symm.trans b)
  have l0 : ∀ {p : Int32}, w = p → 3 ≤ w.toInt → p.toInt < 3 → False := fun e1 e2 e3 => by rw [e1] at e2; omega
  rcases h with ⟨k, p⟩ | ⟨k, p⟩ | ⟨k, p⟩ | ⟨k, p⟩ <;> rcases g with ⟨j, r⟩ | ⟨j, r⟩ | ⟨j, r⟩ | ⟨j, r⟩
  · rcases p with ⟨p1, p2⟩ | ⟨p1, p2⟩ | ⟨p1, p2⟩ <;> rcases r with ⟨r1, r2⟩ | ⟨r1, r2⟩ | ⟨r1, r2⟩ <;> first | exact p2.trans r2.symm | (exfalso; omega)
  all_goals first | exact p.trans r.symm | exact (ne k j (by decide)).elim | exact (l0 k j (by decide)).elim | exact (l0 j k (by decide)).elim
theorem x_yTl0 {x : Int32} {v : Int} {c c2 : Int32} {a b : Int64} (h : yTl0 x v c a) (g : yTl0 x v c2 b) : c = c2 ∧ (c = 0 → a = b) := by
  have e0 : x = 0 → x.toInt = 0 := fun e => by rw [e]; rfl
  rcases h with ⟨k, p⟩ | ⟨k, p, p2⟩ | ⟨k, p, p2⟩ <;> rcases g with ⟨j, r⟩ | ⟨j, r, r2⟩ | ⟨j, r, r2⟩
  · exact ⟨p.trans r.symm, fun w => absurd (p.symm.trans w) (by decide)⟩
  · exact absurd ⟨by rw [e0 j]; decide, by rw [e0 j]; decide⟩ k
  · exact absurd ⟨by omega, j.2⟩ k
  · exact absurd ⟨by rw [e0 k]; decide, by rw [e0 k]; decide⟩ j
  · exact ⟨p.trans r.symm, fun _ => tLg_inj p2 r2⟩
  · have := e0 k
    omega
  · exact absurd ⟨by omega, k.2⟩ j
  · have := e0 j
    omega
  · exact ⟨p.trans r.symm, fun _ => Int64.toInt_inj.mp (p2.trans r2.symm)⟩
theorem x_yTl1 {x : Int32} {q : Int × Int} {c c2 : Int32} {a b : Int64} {k : Nat} (hk : vG q.1 k) (h : yTl1 x q c a) (g : yTl1 x q c2 b) : c = c2 ∧ (c = 0 → a = b) := by
  rcases h k hk with ⟨k, p⟩ | ⟨k, p, p2⟩ <;> rcases g _ hk with ⟨j, r⟩ | ⟨j, r, r2⟩
  · exact ⟨p.trans r.symm, fun w => absurd (p.symm.trans w) (by decide)⟩
  · exact absurd j k
  · exact absurd k j
  · exact ⟨p.trans r.symm, fun _ => Int64.toInt_inj.mp (x_yTd p2 r2)⟩
theorem x_yTf {P T : Nat} {l : Int} {x : Int32} {u : Int64} {c c2 : Int32} {a b : Int64} (h : yTf P T l x u c a) (g : yTf P T l x u c2 b) : c = c2 ∧ (c = 0 → a = b) := by
  have ne : ∀ {p q : Int32}, x = p → x = q → p ≠ q → False := fun a b c => c (a.symm.trans b)
  have i0 : ∀ {p : Int32}, x = p → ¬ (0 ≤ x.toInt ∧ x.toInt ≤ 2) → (0 ≤ p.toInt ∧ p.toInt ≤ 2) → False := fun e1 e2 e3 => by rw [e1] at e2; exact e2 e3
  have d1 : x = 1 ∨ x = 2 → ¬ (0 ≤ x.toInt ∧ x.toInt ≤ 2) → False := fun e1 e2 => e1.elim (fun e => i0 e e2 (by decide)) (fun e => i0 e e2 (by decide))
  have d2 : x = 0 → (x = 1 ∨ x = 2) → False := fun e1 e2 => e2.elim (fun e => ne e1 e (by decide)) (fun e => ne e1 e (by decide))
  rcases h with ⟨k, p⟩ | ⟨k, p, p2⟩ | ⟨k, p2, p⟩ | ⟨k, p2, p, p3⟩ <;> rcases g with ⟨j, r⟩ | ⟨j, r, r2⟩ | ⟨j, r2, r⟩ | ⟨j, r2, r, r3⟩
  · exact ⟨p.trans r.symm, fun w => absurd (p.symm.trans w) (by decide)⟩
  · exact (i0 j k (by decide)).elim
  · exact (d1 j k).elim
  · exact (d1 j k).elim
  · exact (i0 k j (by decide)).elim
  · exact ⟨p.trans r.symm, fun _ => p2.trans r2.symm⟩
  · exact (d2 k j).elim
  · exact (d2 k j).elim
  · exact (d1 k j).elim
  · exact (d2 j k).elim
  · exact ⟨p.trans r.symm, fun w => absurd (p.symm.trans w) (by decide)⟩
  · exact absurd p2 r2
  · exact (d1 k j).elim
  · exact (d2 j k).elim
  · exact absurd r2 p2
  · refine ⟨p.trans r.symm, fun _ => Int64.toInt_inj.mp ?_⟩
    rcases p3 with ⟨q1, q2⟩ | ⟨q1, S, q, q2, q3⟩ <;> rcases r3 with ⟨s1, s2⟩ | ⟨s1, S', q', s2, s3⟩
    · exact q2.trans s2.symm
    · exact absurd q1 s1
    · exact absurd s1 q1
    · obtain ⟨e1, e2⟩ := yFsh_U q2 s2
      rw [q3, s3, e1, e2]
def rTd (x2 x3 x4 : Int32) (σ : zSt) (c : Int32) (a : Int64) : Prop := (¬ ((0 ≤ x2.toInt ∧ x2.toInt ≤ 3) ∧ yReg x3) ∧ c = 1) ∨ (((0 ≤ x2.toInt ∧ x2.toInt ≤ 3) ∧ yReg x3) ∧ ((x2 = 0 ∧ yTl0 x4 (zsW σ x3.toNatClampNeg) c a) ∨ (x2 = 1 ∧ (∃ k, vG (zsD σ x3.toNatClampNeg).1 k) ∧ yTl1 x4 (zsD σ x3.toNatClampNeg) c a) ∨ (x2 = 2 ∧ yTf 52 2047 (-1074) x4 (zsV σ x3.toNatClampNeg) c a) ∨ (x2 = 3 ∧ yTf 23 255 (-149) x4 (zsN σ x3.toNatClampNeg) c a)))
theorem rTd_U {x2 x3 x4 : Int32} {σ : zSt} {c c2 : Int32} {a a2 : Int64} (h : rTd x2 x3 x4 σ c a) (g : rTd x2 x3 x4 σ c2 a2) : c = c2 ∧ (c = 0 → a = a2) := by
  rcases h with ⟨h1, h2⟩ | ⟨h1, h2⟩ <;> rcases g with ⟨g1, g2⟩ | ⟨g1, g2⟩
  · exact ⟨h2.trans g2.symm, fun w => absurd (h2.symm.trans w) (by decide)⟩
  · exact absurd g1 h1
  · exact absurd h1 g1
  · have ne : ∀ {p q : Int32}, x2 = p → x2 = q → p ≠ q → False := fun a b c => c (a.symm.trans b)
    rcases h2 with ⟨k, p⟩ | ⟨k, ⟨n, hn⟩, p⟩ | ⟨k, p⟩ | ⟨k, p⟩ <;> rcases g2 with ⟨j, r⟩ | ⟨j, _, r⟩ | ⟨j, r⟩ | ⟨j, r⟩ <;> first | exact x_yTl0 p r | exact x_yTl1 hn p r | exact x_yTf p r | exact (ne k j (by decide)).elim
set_option maxRecDepth 100000 in
set_option maxHeartbeats 4000000 in
theorem CW_told (l : Launch) (D : va_G) (g : Nat → ClassId) (q : Nat → Nat) (ws : va_W) (x2 : Int32) (x3 : Int32) (x4 : Int32) (i3 : Nat) (hi3 : i3 < 10) (e3 : x3.toNatClampNeg < 10 → i3 = x3.toNatClampNeg) (hlt : l.stackTraces = false) (hI : q_I (nsh g q) q ws) (hC : iC g q ws) {σ : zSt} (hS : sC g q ws σ) (hk0 : zOk σ) : ∀ sz, q_Mx l y_NH_told prog_1_method_6_code 7 (some .long) 9 4 24 D g [.ref (q 0), .int x2, .int x3, .int x4] ws sz (va_Ql (fun r u => iP g q ws u ∧ rTd x2 x3 x4 σ 0 r ∧ sC g q u σ) (q_B D g (va_A ws sz)) (va_A ws sz)) (fun E u => ∃ c : Int32, E = qE c ∧ (c = 1 ∨ c = 2) ∧ iP g q ws u ∧ rTd x2 x3 x4 σ c 0 ∧ sC g q u σ) := by
  intro sz
  obtain ⟨t0_0, t0_1, hT0, bT0⟩ := q_bigO hI (n_b10 g q)
  obtain ⟨t1_0, hT1, bT1⟩ := n_ai hI (n_s11 g q)
  obtain ⟨t2_0, t2_1, hT2, bT2⟩ := n_o36 hI
  obtain ⟨t3_0, hT3, bT3⟩ := n_ai hI (n_s37 g q)
  obtain ⟨t4_0, hT4⟩ := n_al hI (n_s7 g q)
  obtain ⟨t5_0, hT5⟩ := n_al hI (n_s8 g q)
  obtain ⟨t6_0, t6_1, hT6, bT6⟩ := q_bigO hI (n_b22 g q)
  obtain ⟨t7_0, hT7, bT7⟩ := n_ai hI (n_s23 g q)
  obtain ⟨t8_0, t8_1, hT8, bT8⟩ := q_bigO hI (n_b24 g q)
  obtain ⟨t9_0, hT9, bT9⟩ := n_ai hI (n_s25 g q)
  obtain ⟨t10_0, t10_1, hT10, bT10⟩ := q_bigO hI (n_b26 g q)
  obtain ⟨t11_0, hT11, bT11⟩ := n_ai hI (n_s27 g q)
  obtain ⟨t12_0, t12_1, hT12, bT12⟩ := q_bigO hI (n_b28 g q)
  obtain ⟨t13_0, hT13, bT13⟩ := n_ai hI (n_s29 g q)
  obtain ⟨t14_0, t14_1, t14_2, hT14⟩ := n_flO hI (n_f34 g q)
  obtain ⟨t15_0, t15_1, t15_2, hT15⟩ := n_flO hI (n_f35 g q)
  obtain ⟨t16_0, t16_1, t17_0, hT16, hT17, vk3, hbk3, hBk3⟩ := hC.1 i3 hi3
  obtain ⟨t18_0, t18_1, t19_0, t19_1, t20_0, hT18, hT19, hT20, vd3, hbd3⟩ := hC.2.1 i3 hi3
  obtain ⟨hS1, hS2, hS3, hS4, hS5, hS6, hS7⟩ := hS
  obtain ⟨sw3, nw3, fw3, aw3, bw3, gw3⟩ := hS1 i3 hi3
  obtain ⟨rfl, rfl⟩ := x_b2 hT16 aw3
  obtain rfl := x_ri hT17 bw3
  obtain ⟨pd3, qd3, sd3, nd3, fd3, ad3, bd3, cd3, gd3⟩ := hS2 i3 hi3
  obtain ⟨rfl, rfl⟩ := x_b2 hT18 ad3
  obtain ⟨rfl, rfl⟩ := x_b2 hT19 bd3
  obtain rfl := x_ri hT20 cd3
  obtain ⟨fV, yV, hV9⟩ := hS3
  obtain rfl := x_rl hT4 yV
  have hS3 : cFr g q ws 7 (zsV σ) := ⟨_, yV, hV9⟩
  obtain ⟨fN, yN, hN9⟩ := hS4
  obtain rfl := x_rl hT5 yN
  have hS4 : cFr g q ws 8 (zsN σ) := ⟨_, yN, hN9⟩
  have hq := T_told (x2 := x2) (x3 := x3) (x4 := x4) (t0_0 := t0_0) (t0_1 := t0_1) (t1_0 := t1_0) (t2_0 := t2_0) (t2_1 := t2_1) (t3_0 := t3_0) (t4_0 := t4_0) (t5_0 := t5_0) (t6_0 := t6_0) (t6_1 := t6_1) (t7_0 := t7_0) (t8_0 := t8_0) (t8_1 := t8_1) (t9_0 := t9_0) (t10_0 := t10_0) (t10_1 := t10_1) (t11_0 := t11_0) (t12_0 := t12_0) (t12_1 := t12_1) (t13_0 := t13_0) (t14_0 := t14_0) (t14_1 := t14_1) (t14_2 := t14_2) (t15_0 := t15_0) (t15_1 := t15_1) (t15_2 := t15_2) (t16_0 := t16_0) (t16_1 := t16_1) (t17_0 := t17_0) (t18_0 := t18_0) (t18_1 := t18_1) (t19_0 := t19_0) (t19_1 := t19_1) (t20_0 := t20_0) 
  refine q_MxL (X_NH_told l D g q ws x2 x3 x4 (66 + 5 * i3) (n_w g q hi3) (by omega) (fun h => by have z := e3 h; omega) (68 + 5 * i3) (n_d g q hi3) (by omega) (fun h => by have z := e3 h; omega) (by omega) (by omega) (by omega) (by omega) hlt hI t0_0 t0_1 hT0 t1_0 hT1 t2_0 t2_1 hT2 t3_0 hT3 t4_0 hT4 t5_0 hT5 t6_0 t6_1 hT6 t7_0 hT7 t8_0 t8_1 hT8 t9_0 hT9 t10_0 t10_1 hT10 t11_0 hT11 t12_0 t12_1 hT12 t13_0 hT13 t14_0 t14_1 t14_2 hT14 t15_0 t15_1 t15_2 hT15 t16_0 t16_1 hT16 t17_0 hT17 t18_0 t18_1 hT18 t19_0 t19_1 hT19 t20_0 hT20 ⟨trivial, hq⟩ sz) ?_ ?_
  · rintro r u ⟨hI2, hun, u0_0, u0_1, u1_0, u2_0, u2_1, u3_0, u6_0, u6_1, u7_0, u8_0, u8_1, u9_0, u10_0, u10_1, u11_0, u12_0, u12_1, u13_0, u14_0, u14_1, u14_2, u15_0, u15_1, u15_2, hU0, hU1, hU2, hU3, hU4, hU5, hU6, hU7, hU8, hU9, hU10, hU11, hU12, hU13, hR⟩
    refine ⟨⟨hI2, ⟨fun i hi => ?_, fun i hi => ?_, ?_⟩, fun i hi => hun i (by simp only [List.mem_cons, List.not_mem_nil, or_false, not_or]; omega)⟩, ?_⟩
    · exact iW_fr (hC.1 i hi) (hun _ (by simp only [List.mem_cons, List.not_mem_nil, or_false, not_or]; omega)) (hun _ (by simp only [List.mem_cons, List.not_mem_nil, or_false, not_or]; omega))
    · exact iD_fr (hC.2.1 i hi) (hun _ (by simp only [List.mem_cons, List.not_mem_nil, or_false, not_or]; omega)) (hun _ (by simp only [List.mem_cons, List.not_mem_nil, or_false, not_or]; omega)) (hun _ (by simp only [List.mem_cons, List.not_mem_nil, or_false, not_or]; omega))
    · exact iO_fr hC.2.2 (hun _ (by simp only [List.mem_cons, List.not_mem_nil, or_false, not_or]; omega)) (hun _ (by simp only [List.mem_cons, List.not_mem_nil, or_false, not_or]; omega)) (hun _ (by simp only [List.mem_cons, List.not_mem_nil, or_false, not_or]; omega))
    · have hG := hR.2.2.2.2.2.2.2.2.2.2.2.2.2.2.2.2.2.2.2.2.2.2.2.2.2.2.2.2.2.2.2.2.2.2.2.2.2.2.2.2.2.2.2.2.2.2.2.2.2
      by_cases ok : ((0 ≤ x2.toInt ∧ x2.toInt ≤ 3) ∧ yReg x3)
      · have e33 := e3 (x_reg ok.2)
        rcases x_k4 ok.1 with k | k | k | k
        · have hv := V_NH_told0 (x2 := x2) (x3 := x3) (x4 := x4) (t0_0 := t0_0) (t0_1 := t0_1) (t1_0 := t1_0) (t2_0 := t2_0) (t2_1 := t2_1) (t3_0 := t3_0) (t4_0 := t4_0) (t5_0 := t5_0) (t6_0 := t6_0) (t6_1 := t6_1) (t7_0 := t7_0) (t8_0 := t8_0) (t8_1 := t8_1) (t9_0 := t9_0) (t10_0 := t10_0) (t10_1 := t10_1) (t11_0 := t11_0) (t12_0 := t12_0) (t12_1 := t12_1) (t13_0 := t13_0) (t14_0 := t14_0) (t14_1 := t14_1) (t14_2 := t14_2) (t15_0 := t15_0) (t15_1 := t15_1) (t15_2 := t15_2) (t16_0 := t16_0) (t16_1 := t16_1) (t17_0 := t17_0) (t18_0 := t18_0) (t18_1 := t18_1) (t19_0 := t19_0) (t19_1 := t19_1) (t20_0 := t20_0) gw3 (hk0.1 _ hi3) k ok.2
          rw [← hG] at hv
          rw [e33] at hv
          exact ⟨Or.inr ⟨ok, Or.inl ⟨k, hv⟩⟩, ⟨(fun i hi => cWr_fr (hS1 i hi) (hun _ (by simp only [List.mem_cons, List.not_mem_nil, or_false, not_or]; omega)) (hun _ (by simp only [List.mem_cons, List.not_mem_nil, or_false, not_or]; omega))), (fun i hi => cDr_fr (hS2 i hi) (hun _ (by simp only [List.mem_cons, List.not_mem_nil, or_false, not_or]; omega)) (hun _ (by simp only [List.mem_cons, List.not_mem_nil, or_false, not_or]; omega)) (hun _ (by simp only [List.mem_cons, List.not_mem_nil, or_false, not_or]; omega))), (cFr_fr hS3 (hun _ (by simp only [List.mem_cons, List.not_mem_nil, or_false, not_or]; omega))), (cFr_fr hS4 (hun _ (by simp only [List.mem_cons, List.not_mem_nil, or_false, not_or]; omega))), (cTp_fr hS5 (hun _ (by simp only [List.mem_cons, List.not_mem_nil, or_false, not_or]; omega)) (hun _ (by simp only [List.mem_cons, List.not_mem_nil, or_false, not_or]; omega))), (cPp_fr hS6 (hun _ (by simp only [List.mem_cons, List.not_mem_nil, or_false, not_or]; omega)) (hun _ (by simp only [List.mem_cons, List.not_mem_nil, or_false, not_or]; omega))), (cAr_fr hS7 (fun i _ _ => (hun _ (by simp only [List.mem_cons, List.not_mem_nil, or_false, not_or]; omega))) (fun i _ _ => (hun _ (by simp only [List.mem_cons, List.not_mem_nil, or_false, not_or]; omega))))⟩⟩
        · have hv := V_NH_told1 (x2 := x2) (x3 := x3) (x4 := x4) (t0_0 := t0_0) (t0_1 := t0_1) (t1_0 := t1_0) (t2_0 := t2_0) (t2_1 := t2_1) (t3_0 := t3_0) (t4_0 := t4_0) (t5_0 := t5_0) (t6_0 := t6_0) (t6_1 := t6_1) (t7_0 := t7_0) (t8_0 := t8_0) (t8_1 := t8_1) (t9_0 := t9_0) (t10_0 := t10_0) (t10_1 := t10_1) (t11_0 := t11_0) (t12_0 := t12_0) (t12_1 := t12_1) (t13_0 := t13_0) (t14_0 := t14_0) (t14_1 := t14_1) (t14_2 := t14_2) (t15_0 := t15_0) (t15_1 := t15_1) (t15_2 := t15_2) (t16_0 := t16_0) (t16_1 := t16_1) (t17_0 := t17_0) (t18_0 := t18_0) (t18_1 := t18_1) (t19_0 := t19_0) (t19_1 := t19_1) (t20_0 := t20_0) gd3 k ok.2
          rw [← hG] at hv
          rw [e33] at hv
          exact ⟨Or.inr ⟨ok, Or.inr (Or.inl ⟨k, ⟨_, by rw [← e33]; exact gd3.2.1.choose_spec.2.1⟩, hv⟩)⟩, ⟨(fun i hi => cWr_fr (hS1 i hi) (hun _ (by simp only [List.mem_cons, List.not_mem_nil, or_false, not_or]; omega)) (hun _ (by simp only [List.mem_cons, List.not_mem_nil, or_false, not_or]; omega))), (fun i hi => cDr_fr (hS2 i hi) (hun _ (by simp only [List.mem_cons, List.not_mem_nil, or_false, not_or]; omega)) (hun _ (by simp only [List.mem_cons, List.not_mem_nil, or_false, not_or]; omega)) (hun _ (by simp only [List.mem_cons, List.not_mem_nil, or_false, not_or]; omega))), (cFr_fr hS3 (hun _ (by simp only [List.mem_cons, List.not_mem_nil, or_false, not_or]; omega))), (cFr_fr hS4 (hun _ (by simp only [List.mem_cons, List.not_mem_nil, or_false, not_or]; omega))), (cTp_fr hS5 (hun _ (by simp only [List.mem_cons, List.not_mem_nil, or_false, not_or]; omega)) (hun _ (by simp only [List.mem_cons, List.not_mem_nil, or_false, not_or]; omega))), (cPp_fr hS6 (hun _ (by simp only [List.mem_cons, List.not_mem_nil, or_false, not_or]; omega)) (hun _ (by simp only [List.mem_cons, List.not_mem_nil, or_false, not_or]; omega))), (cAr_fr hS7 (fun i _ _ => (hun _ (by simp only [List.mem_cons, List.not_mem_nil, or_false, not_or]; omega))) (fun i _ _ => (hun _ (by simp only [List.mem_cons, List.not_mem_nil, or_false, not_or]; omega))))⟩⟩
        · have hv := V_NH_told2 (x2 := x2) (x3 := x3) (x4 := x4) (t0_0 := t0_0) (t0_1 := t0_1) (t1_0 := t1_0) (t2_0 := t2_0) (t2_1 := t2_1) (t3_0 := t3_0) (t4_0 := t4_0) (t5_0 := t5_0) (t6_0 := t6_0) (t6_1 := t6_1) (t7_0 := t7_0) (t8_0 := t8_0) (t8_1 := t8_1) (t9_0 := t9_0) (t10_0 := t10_0) (t10_1 := t10_1) (t11_0 := t11_0) (t12_0 := t12_0) (t12_1 := t12_1) (t13_0 := t13_0) (t14_0 := t14_0) (t14_1 := t14_1) (t14_2 := t14_2) (t15_0 := t15_0) (t15_1 := t15_1) (t15_2 := t15_2) (t16_0 := t16_0) (t16_1 := t16_1) (t17_0 := t17_0) (t18_0 := t18_0) (t18_1 := t18_1) (t19_0 := t19_0) (t19_1 := t19_1) (t20_0 := t20_0) k ok.2
          rw [← hG] at hv
          rw [hV9 _ (x_reg ok.2)] at hv
          exact ⟨Or.inr ⟨ok, Or.inr (Or.inr (Or.inl ⟨k, hv⟩))⟩, ⟨(fun i hi => cWr_fr (hS1 i hi) (hun _ (by simp only [List.mem_cons, List.not_mem_nil, or_false, not_or]; omega)) (hun _ (by simp only [List.mem_cons, List.not_mem_nil, or_false, not_or]; omega))), (fun i hi => cDr_fr (hS2 i hi) (hun _ (by simp only [List.mem_cons, List.not_mem_nil, or_false, not_or]; omega)) (hun _ (by simp only [List.mem_cons, List.not_mem_nil, or_false, not_or]; omega)) (hun _ (by simp only [List.mem_cons, List.not_mem_nil, or_false, not_or]; omega))), (cFr_fr hS3 (hun _ (by simp only [List.mem_cons, List.not_mem_nil, or_false, not_or]; omega))), (cFr_fr hS4 (hun _ (by simp only [List.mem_cons, List.not_mem_nil, or_false, not_or]; omega))), (cTp_fr hS5 (hun _ (by simp only [List.mem_cons, List.not_mem_nil, or_false, not_or]; omega)) (hun _ (by simp only [List.mem_cons, List.not_mem_nil, or_false, not_or]; omega))), (cPp_fr hS6 (hun _ (by simp only [List.mem_cons, List.not_mem_nil, or_false, not_or]; omega)) (hun _ (by simp only [List.mem_cons, List.not_mem_nil, or_false, not_or]; omega))), (cAr_fr hS7 (fun i _ _ => (hun _ (by simp only [List.mem_cons, List.not_mem_nil, or_false, not_or]; omega))) (fun i _ _ => (hun _ (by simp only [List.mem_cons, List.not_mem_nil, or_false, not_or]; omega))))⟩⟩
        · have hv := V_NH_told3 (x2 := x2) (x3 := x3) (x4 := x4) (t0_0 := t0_0) (t0_1 := t0_1) (t1_0 := t1_0) (t2_0 := t2_0) (t2_1 := t2_1) (t3_0 := t3_0) (t4_0 := t4_0) (t5_0 := t5_0) (t6_0 := t6_0) (t6_1 := t6_1) (t7_0 := t7_0) (t8_0 := t8_0) (t8_1 := t8_1) (t9_0 := t9_0) (t10_0 := t10_0) (t10_1 := t10_1) (t11_0 := t11_0) (t12_0 := t12_0) (t12_1 := t12_1) (t13_0 := t13_0) (t14_0 := t14_0) (t14_1 := t14_1) (t14_2 := t14_2) (t15_0 := t15_0) (t15_1 := t15_1) (t15_2 := t15_2) (t16_0 := t16_0) (t16_1 := t16_1) (t17_0 := t17_0) (t18_0 := t18_0) (t18_1 := t18_1) (t19_0 := t19_0) (t19_1 := t19_1) (t20_0 := t20_0) k ok.2
          rw [← hG] at hv
          rw [hN9 _ (x_reg ok.2)] at hv
          exact ⟨Or.inr ⟨ok, Or.inr (Or.inr (Or.inr ⟨k, hv⟩))⟩, ⟨(fun i hi => cWr_fr (hS1 i hi) (hun _ (by simp only [List.mem_cons, List.not_mem_nil, or_false, not_or]; omega)) (hun _ (by simp only [List.mem_cons, List.not_mem_nil, or_false, not_or]; omega))), (fun i hi => cDr_fr (hS2 i hi) (hun _ (by simp only [List.mem_cons, List.not_mem_nil, or_false, not_or]; omega)) (hun _ (by simp only [List.mem_cons, List.not_mem_nil, or_false, not_or]; omega)) (hun _ (by simp only [List.mem_cons, List.not_mem_nil, or_false, not_or]; omega))), (cFr_fr hS3 (hun _ (by simp only [List.mem_cons, List.not_mem_nil, or_false, not_or]; omega))), (cFr_fr hS4 (hun _ (by simp only [List.mem_cons, List.not_mem_nil, or_false, not_or]; omega))), (cTp_fr hS5 (hun _ (by simp only [List.mem_cons, List.not_mem_nil, or_false, not_or]; omega)) (hun _ (by simp only [List.mem_cons, List.not_mem_nil, or_false, not_or]; omega))), (cPp_fr hS6 (hun _ (by simp only [List.mem_cons, List.not_mem_nil, or_false, not_or]; omega)) (hun _ (by simp only [List.mem_cons, List.not_mem_nil, or_false, not_or]; omega))), (cAr_fr hS7 (fun i _ _ => (hun _ (by simp only [List.mem_cons, List.not_mem_nil, or_false, not_or]; omega))) (fun i _ _ => (hun _ (by simp only [List.mem_cons, List.not_mem_nil, or_false, not_or]; omega))))⟩⟩
      · have hv := V_NH_toldN (x2 := x2) (x3 := x3) (x4 := x4) (t0_0 := t0_0) (t0_1 := t0_1) (t1_0 := t1_0) (t2_0 := t2_0) (t2_1 := t2_1) (t3_0 := t3_0) (t4_0 := t4_0) (t5_0 := t5_0) (t6_0 := t6_0) (t6_1 := t6_1) (t7_0 := t7_0) (t8_0 := t8_0) (t8_1 := t8_1) (t9_0 := t9_0) (t10_0 := t10_0) (t10_1 := t10_1) (t11_0 := t11_0) (t12_0 := t12_0) (t12_1 := t12_1) (t13_0 := t13_0) (t14_0 := t14_0) (t14_1 := t14_1) (t14_2 := t14_2) (t15_0 := t15_0) (t15_1 := t15_1) (t15_2 := t15_2) (t16_0 := t16_0) (t16_1 := t16_1) (t17_0 := t17_0) (t18_0 := t18_0) (t18_1 := t18_1) (t19_0 := t19_0) (t19_1 := t19_1) (t20_0 := t20_0) ok
        rw [← hG] at hv
        exact ⟨Or.inl ⟨ok, hv⟩, ⟨(fun i hi => cWr_fr (hS1 i hi) (hun _ (by simp only [List.mem_cons, List.not_mem_nil, or_false, not_or]; omega)) (hun _ (by simp only [List.mem_cons, List.not_mem_nil, or_false, not_or]; omega))), (fun i hi => cDr_fr (hS2 i hi) (hun _ (by simp only [List.mem_cons, List.not_mem_nil, or_false, not_or]; omega)) (hun _ (by simp only [List.mem_cons, List.not_mem_nil, or_false, not_or]; omega)) (hun _ (by simp only [List.mem_cons, List.not_mem_nil, or_false, not_or]; omega))), (cFr_fr hS3 (hun _ (by simp only [List.mem_cons, List.not_mem_nil, or_false, not_or]; omega))), (cFr_fr hS4 (hun _ (by simp only [List.mem_cons, List.not_mem_nil, or_false, not_or]; omega))), (cTp_fr hS5 (hun _ (by simp only [List.mem_cons, List.not_mem_nil, or_false, not_or]; omega)) (hun _ (by simp only [List.mem_cons, List.not_mem_nil, or_false, not_or]; omega))), (cPp_fr hS6 (hun _ (by simp only [List.mem_cons, List.not_mem_nil, or_false, not_or]; omega)) (hun _ (by simp only [List.mem_cons, List.not_mem_nil, or_false, not_or]; omega))), (cAr_fr hS7 (fun i _ _ => (hun _ (by simp only [List.mem_cons, List.not_mem_nil, or_false, not_or]; omega))) (fun i _ _ => (hun _ (by simp only [List.mem_cons, List.not_mem_nil, or_false, not_or]; omega))))⟩⟩
  · rintro E u ⟨c, hE, hc, hI2, hun, u0_0, u0_1, u1_0, u2_0, u2_1, u3_0, u6_0, u6_1, u7_0, u8_0, u8_1, u9_0, u10_0, u10_1, u11_0, u12_0, u12_1, u13_0, u14_0, u14_1, u14_2, u15_0, u15_1, u15_2, hU0, hU1, hU2, hU3, hU4, hU5, hU6, hU7, hU8, hU9, hU10, hU11, hU12, hU13, hF⟩
    have hk := K_NH_told (x2 := x2) (x3 := x3) (x4 := x4) (t0_0 := t0_0) (t0_1 := t0_1) (t1_0 := t1_0) (t2_0 := t2_0) (t2_1 := t2_1) (t3_0 := t3_0) (t4_0 := t4_0) (t5_0 := t5_0) (t6_0 := t6_0) (t6_1 := t6_1) (t7_0 := t7_0) (t8_0 := t8_0) (t8_1 := t8_1) (t9_0 := t9_0) (t10_0 := t10_0) (t10_1 := t10_1) (t11_0 := t11_0) (t12_0 := t12_0) (t12_1 := t12_1) (t13_0 := t13_0) (t14_0 := t14_0) (t14_1 := t14_1) (t14_2 := t14_2) (t15_0 := t15_0) (t15_1 := t15_1) (t15_2 := t15_2) (t16_0 := t16_0) (t16_1 := t16_1) (t17_0 := t17_0) (t18_0 := t18_0) (t18_1 := t18_1) (t19_0 := t19_0) (t19_1 := t19_1) (t20_0 := t20_0)
    rw [← hF] at hk
    replace hk : kC12 c := hk
    refine ⟨c, hE, hk.resolve_left hc, ⟨hI2, ⟨fun i hi => ?_, fun i hi => ?_, ?_⟩, fun i hi => hun i (by simp only [List.mem_cons, List.not_mem_nil, or_false, not_or]; omega)⟩, ?_⟩
    · exact iW_fr (hC.1 i hi) (hun _ (by simp only [List.mem_cons, List.not_mem_nil, or_false, not_or]; omega)) (hun _ (by simp only [List.mem_cons, List.not_mem_nil, or_false, not_or]; omega))
    · exact iD_fr (hC.2.1 i hi) (hun _ (by simp only [List.mem_cons, List.not_mem_nil, or_false, not_or]; omega)) (hun _ (by simp only [List.mem_cons, List.not_mem_nil, or_false, not_or]; omega)) (hun _ (by simp only [List.mem_cons, List.not_mem_nil, or_false, not_or]; omega))
    · exact iO_fr hC.2.2 (hun _ (by simp only [List.mem_cons, List.not_mem_nil, or_false, not_or]; omega)) (hun _ (by simp only [List.mem_cons, List.not_mem_nil, or_false, not_or]; omega)) (hun _ (by simp only [List.mem_cons, List.not_mem_nil, or_false, not_or]; omega))
    · have hG := hF
      by_cases ok : ((0 ≤ x2.toInt ∧ x2.toInt ≤ 3) ∧ yReg x3)
      · have e33 := e3 (x_reg ok.2)
        rcases x_k4 ok.1 with k | k | k | k
        · have hv := V_NH_told0 (x2 := x2) (x3 := x3) (x4 := x4) (t0_0 := t0_0) (t0_1 := t0_1) (t1_0 := t1_0) (t2_0 := t2_0) (t2_1 := t2_1) (t3_0 := t3_0) (t4_0 := t4_0) (t5_0 := t5_0) (t6_0 := t6_0) (t6_1 := t6_1) (t7_0 := t7_0) (t8_0 := t8_0) (t8_1 := t8_1) (t9_0 := t9_0) (t10_0 := t10_0) (t10_1 := t10_1) (t11_0 := t11_0) (t12_0 := t12_0) (t12_1 := t12_1) (t13_0 := t13_0) (t14_0 := t14_0) (t14_1 := t14_1) (t14_2 := t14_2) (t15_0 := t15_0) (t15_1 := t15_1) (t15_2 := t15_2) (t16_0 := t16_0) (t16_1 := t16_1) (t17_0 := t17_0) (t18_0 := t18_0) (t18_1 := t18_1) (t19_0 := t19_0) (t19_1 := t19_1) (t20_0 := t20_0) gw3 (hk0.1 _ hi3) k ok.2
          rw [← hG] at hv
          rw [e33] at hv
          exact ⟨Or.inr ⟨ok, Or.inl ⟨k, hv⟩⟩, ⟨(fun i hi => cWr_fr (hS1 i hi) (hun _ (by simp only [List.mem_cons, List.not_mem_nil, or_false, not_or]; omega)) (hun _ (by simp only [List.mem_cons, List.not_mem_nil, or_false, not_or]; omega))), (fun i hi => cDr_fr (hS2 i hi) (hun _ (by simp only [List.mem_cons, List.not_mem_nil, or_false, not_or]; omega)) (hun _ (by simp only [List.mem_cons, List.not_mem_nil, or_false, not_or]; omega)) (hun _ (by simp only [List.mem_cons, List.not_mem_nil, or_false, not_or]; omega))), (cFr_fr hS3 (hun _ (by simp only [List.mem_cons, List.not_mem_nil, or_false, not_or]; omega))), (cFr_fr hS4 (hun _ (by simp only [List.mem_cons, List.not_mem_nil, or_false, not_or]; omega))), (cTp_fr hS5 (hun _ (by simp only [List.mem_cons, List.not_mem_nil, or_false, not_or]; omega)) (hun _ (by simp only [List.mem_cons, List.not_mem_nil, or_false, not_or]; omega))), (cPp_fr hS6 (hun _ (by simp only [List.mem_cons, List.not_mem_nil, or_false, not_or]; omega)) (hun _ (by simp only [List.mem_cons, List.not_mem_nil, or_false, not_or]; omega))), (cAr_fr hS7 (fun i _ _ => (hun _ (by simp only [List.mem_cons, List.not_mem_nil, or_false, not_or]; omega))) (fun i _ _ => (hun _ (by simp only [List.mem_cons, List.not_mem_nil, or_false, not_or]; omega))))⟩⟩
        · have hv := V_NH_told1 (x2 := x2) (x3 := x3) (x4 := x4) (t0_0 := t0_0) (t0_1 := t0_1) (t1_0 := t1_0) (t2_0 := t2_0) (t2_1 := t2_1) (t3_0 := t3_0) (t4_0 := t4_0) (t5_0 := t5_0) (t6_0 := t6_0) (t6_1 := t6_1) (t7_0 := t7_0) (t8_0 := t8_0) (t8_1 := t8_1) (t9_0 := t9_0) (t10_0 := t10_0) (t10_1 := t10_1) (t11_0 := t11_0) (t12_0 := t12_0) (t12_1 := t12_1) (t13_0 := t13_0) (t14_0 := t14_0) (t14_1 := t14_1) (t14_2 := t14_2) (t15_0 := t15_0) (t15_1 := t15_1) (t15_2 := t15_2) (t16_0 := t16_0) (t16_1 := t16_1) (t17_0 := t17_0) (t18_0 := t18_0) (t18_1 := t18_1) (t19_0 := t19_0) (t19_1 := t19_1) (t20_0 := t20_0) gd3 k ok.2
          rw [← hG] at hv
          rw [e33] at hv
          exact ⟨Or.inr ⟨ok, Or.inr (Or.inl ⟨k, ⟨_, by rw [← e33]; exact gd3.2.1.choose_spec.2.1⟩, hv⟩)⟩, ⟨(fun i hi => cWr_fr (hS1 i hi) (hun _ (by simp only [List.mem_cons, List.not_mem_nil, or_false, not_or]; omega)) (hun _ (by simp only [List.mem_cons, List.not_mem_nil, or_false, not_or]; omega))), (fun i hi => cDr_fr (hS2 i hi) (hun _ (by simp only [List.mem_cons, List.not_mem_nil, or_false, not_or]; omega)) (hun _ (by simp only [List.mem_cons, List.not_mem_nil, or_false, not_or]; omega)) (hun _ (by simp only [List.mem_cons, List.not_mem_nil, or_false, not_or]; omega))), (cFr_fr hS3 (hun _ (by simp only [List.mem_cons, List.not_mem_nil, or_false, not_or]; omega))), (cFr_fr hS4 (hun _ (by simp only [List.mem_cons, List.not_mem_nil, or_false, not_or]; omega))), (cTp_fr hS5 (hun _ (by simp only [List.mem_cons, List.not_mem_nil, or_false, not_or]; omega)) (hun _ (by simp only [List.mem_cons, List.not_mem_nil, or_false, not_or]; omega))), (cPp_fr hS6 (hun _ (by simp only [List.mem_cons, List.not_mem_nil, or_false, not_or]; omega)) (hun _ (by simp only [List.mem_cons, List.not_mem_nil, or_false, not_or]; omega))), (cAr_fr hS7 (fun i _ _ => (hun _ (by simp only [List.mem_cons, List.not_mem_nil, or_false, not_or]; omega))) (fun i _ _ => (hun _ (by simp only [List.mem_cons, List.not_mem_nil, or_false, not_or]; omega))))⟩⟩
        · have hv := V_NH_told2 (x2 := x2) (x3 := x3) (x4 := x4) (t0_0 := t0_0) (t0_1 := t0_1) (t1_0 := t1_0) (t2_0 := t2_0) (t2_1 := t2_1) (t3_0 := t3_0) (t4_0 := t4_0) (t5_0 := t5_0) (t6_0 := t6_0) (t6_1 := t6_1) (t7_0 := t7_0) (t8_0 := t8_0) (t8_1 := t8_1) (t9_0 := t9_0) (t10_0 := t10_0) (t10_1 := t10_1) (t11_0 := t11_0) (t12_0 := t12_0) (t12_1 := t12_1) (t13_0 := t13_0) (t14_0 := t14_0) (t14_1 := t14_1) (t14_2 := t14_2) (t15_0 := t15_0) (t15_1 := t15_1) (t15_2 := t15_2) (t16_0 := t16_0) (t16_1 := t16_1) (t17_0 := t17_0) (t18_0 := t18_0) (t18_1 := t18_1) (t19_0 := t19_0) (t19_1 := t19_1) (t20_0 := t20_0) k ok.2
          rw [← hG] at hv
          rw [hV9 _ (x_reg ok.2)] at hv
          exact ⟨Or.inr ⟨ok, Or.inr (Or.inr (Or.inl ⟨k, hv⟩))⟩, ⟨(fun i hi => cWr_fr (hS1 i hi) (hun _ (by simp only [List.mem_cons, List.not_mem_nil, or_false, not_or]; omega)) (hun _ (by simp only [List.mem_cons, List.not_mem_nil, or_false, not_or]; omega))), (fun i hi => cDr_fr (hS2 i hi) (hun _ (by simp only [List.mem_cons, List.not_mem_nil, or_false, not_or]; omega)) (hun _ (by simp only [List.mem_cons, List.not_mem_nil, or_false, not_or]; omega)) (hun _ (by simp only [List.mem_cons, List.not_mem_nil, or_false, not_or]; omega))), (cFr_fr hS3 (hun _ (by simp only [List.mem_cons, List.not_mem_nil, or_false, not_or]; omega))), (cFr_fr hS4 (hun _ (by simp only [List.mem_cons, List.not_mem_nil, or_false, not_or]; omega))), (cTp_fr hS5 (hun _ (by simp only [List.mem_cons, List.not_mem_nil, or_false, not_or]; omega)) (hun _ (by simp only [List.mem_cons, List.not_mem_nil, or_false, not_or]; omega))), (cPp_fr hS6 (hun _ (by simp only [List.mem_cons, List.not_mem_nil, or_false, not_or]; omega)) (hun _ (by simp only [List.mem_cons, List.not_mem_nil, or_false, not_or]; omega))), (cAr_fr hS7 (fun i _ _ => (hun _ (by simp only [List.mem_cons, List.not_mem_nil, or_false, not_or]; omega))) (fun i _ _ => (hun _ (by simp only [List.mem_cons, List.not_mem_nil, or_false, not_or]; omega))))⟩⟩
        · have hv := V_NH_told3 (x2 := x2) (x3 := x3) (x4 := x4) (t0_0 := t0_0) (t0_1 := t0_1) (t1_0 := t1_0) (t2_0 := t2_0) (t2_1 := t2_1) (t3_0 := t3_0) (t4_0 := t4_0) (t5_0 := t5_0) (t6_0 := t6_0) (t6_1 := t6_1) (t7_0 := t7_0) (t8_0 := t8_0) (t8_1 := t8_1) (t9_0 := t9_0) (t10_0 := t10_0) (t10_1 := t10_1) (t11_0 := t11_0) (t12_0 := t12_0) (t12_1 := t12_1) (t13_0 := t13_0) (t14_0 := t14_0) (t14_1 := t14_1) (t14_2 := t14_2) (t15_0 := t15_0) (t15_1 := t15_1) (t15_2 := t15_2) (t16_0 := t16_0) (t16_1 := t16_1) (t17_0 := t17_0) (t18_0 := t18_0) (t18_1 := t18_1) (t19_0 := t19_0) (t19_1 := t19_1) (t20_0 := t20_0) k ok.2
          rw [← hG] at hv
          rw [hN9 _ (x_reg ok.2)] at hv
          exact ⟨Or.inr ⟨ok, Or.inr (Or.inr (Or.inr ⟨k, hv⟩))⟩, ⟨(fun i hi => cWr_fr (hS1 i hi) (hun _ (by simp only [List.mem_cons, List.not_mem_nil, or_false, not_or]; omega)) (hun _ (by simp only [List.mem_cons, List.not_mem_nil, or_false, not_or]; omega))), (fun i hi => cDr_fr (hS2 i hi) (hun _ (by simp only [List.mem_cons, List.not_mem_nil, or_false, not_or]; omega)) (hun _ (by simp only [List.mem_cons, List.not_mem_nil, or_false, not_or]; omega)) (hun _ (by simp only [List.mem_cons, List.not_mem_nil, or_false, not_or]; omega))), (cFr_fr hS3 (hun _ (by simp only [List.mem_cons, List.not_mem_nil, or_false, not_or]; omega))), (cFr_fr hS4 (hun _ (by simp only [List.mem_cons, List.not_mem_nil, or_false, not_or]; omega))), (cTp_fr hS5 (hun _ (by simp only [List.mem_cons, List.not_mem_nil, or_false, not_or]; omega)) (hun _ (by simp only [List.mem_cons, List.not_mem_nil, or_false, not_or]; omega))), (cPp_fr hS6 (hun _ (by simp only [List.mem_cons, List.not_mem_nil, or_false, not_or]; omega)) (hun _ (by simp only [List.mem_cons, List.not_mem_nil, or_false, not_or]; omega))), (cAr_fr hS7 (fun i _ _ => (hun _ (by simp only [List.mem_cons, List.not_mem_nil, or_false, not_or]; omega))) (fun i _ _ => (hun _ (by simp only [List.mem_cons, List.not_mem_nil, or_false, not_or]; omega))))⟩⟩
      · have hv := V_NH_toldN (x2 := x2) (x3 := x3) (x4 := x4) (t0_0 := t0_0) (t0_1 := t0_1) (t1_0 := t1_0) (t2_0 := t2_0) (t2_1 := t2_1) (t3_0 := t3_0) (t4_0 := t4_0) (t5_0 := t5_0) (t6_0 := t6_0) (t6_1 := t6_1) (t7_0 := t7_0) (t8_0 := t8_0) (t8_1 := t8_1) (t9_0 := t9_0) (t10_0 := t10_0) (t10_1 := t10_1) (t11_0 := t11_0) (t12_0 := t12_0) (t12_1 := t12_1) (t13_0 := t13_0) (t14_0 := t14_0) (t14_1 := t14_1) (t14_2 := t14_2) (t15_0 := t15_0) (t15_1 := t15_1) (t15_2 := t15_2) (t16_0 := t16_0) (t16_1 := t16_1) (t17_0 := t17_0) (t18_0 := t18_0) (t18_1 := t18_1) (t19_0 := t19_0) (t19_1 := t19_1) (t20_0 := t20_0) ok
        rw [← hG] at hv
        exact ⟨Or.inl ⟨ok, hv⟩, ⟨(fun i hi => cWr_fr (hS1 i hi) (hun _ (by simp only [List.mem_cons, List.not_mem_nil, or_false, not_or]; omega)) (hun _ (by simp only [List.mem_cons, List.not_mem_nil, or_false, not_or]; omega))), (fun i hi => cDr_fr (hS2 i hi) (hun _ (by simp only [List.mem_cons, List.not_mem_nil, or_false, not_or]; omega)) (hun _ (by simp only [List.mem_cons, List.not_mem_nil, or_false, not_or]; omega)) (hun _ (by simp only [List.mem_cons, List.not_mem_nil, or_false, not_or]; omega))), (cFr_fr hS3 (hun _ (by simp only [List.mem_cons, List.not_mem_nil, or_false, not_or]; omega))), (cFr_fr hS4 (hun _ (by simp only [List.mem_cons, List.not_mem_nil, or_false, not_or]; omega))), (cTp_fr hS5 (hun _ (by simp only [List.mem_cons, List.not_mem_nil, or_false, not_or]; omega)) (hun _ (by simp only [List.mem_cons, List.not_mem_nil, or_false, not_or]; omega))), (cPp_fr hS6 (hun _ (by simp only [List.mem_cons, List.not_mem_nil, or_false, not_or]; omega)) (hun _ (by simp only [List.mem_cons, List.not_mem_nil, or_false, not_or]; omega))), (cAr_fr hS7 (fun i _ _ => (hun _ (by simp only [List.mem_cons, List.not_mem_nil, or_false, not_or]; omega))) (fun i _ _ => (hun _ (by simp only [List.mem_cons, List.not_mem_nil, or_false, not_or]; omega))))⟩⟩
set_option maxRecDepth 100000 in
set_option maxHeartbeats 4000000 in
theorem DM_told (l : Launch) (D : va_G) (g : Nat → ClassId) (q : Nat → Nat) (ws : va_W) (x2 : Int32) (x3 : Int32) (x4 : Int32) (hI : q_I (msh g q) q ws) (hM : iM g q ws) {th : Int32} {σ : zSt} (hS : sM g q ws th σ) (hk0 : zOk σ) : q_mL l y_NM_told prog_14_method_17_code 6 6 0 0 D g [.ref (q 116), .int x2, .int x3, .int x4] ws (fun r u => jP g q ws u ∧ ∃ c, rTd x2 x3 x4 σ c r ∧ sM g q u c σ) := by
  have hM0 := hM
  obtain ⟨t2_0, t3_0, hT2, hT3, hW⟩ := hM.1
  obtain ⟨t5_0, t6_0, t7_0, t8_0, hT5, hT6, hT7, hT8, hD⟩ := hM.2.1
  obtain ⟨t16_0, hT16, hB⟩ := hM.2.2.2
  obtain ⟨t0_0, t0_1, t0_2, hT0, bT0⟩ := n_o116 hI
  obtain ⟨t1_0, t1_1, t1_2, t1_3, t1_4, t1_5, t1_6, hT1, bT1⟩ := n_o119 hI
  obtain ⟨t4_0, t4_1, t4_2, t4_3, t4_4, t4_5, t4_6, t4_7, t4_8, t4_9, t4_10, hT4, bT4⟩ := n_o134 hI
  obtain ⟨t9_0, t9_1, t9_2, t9_3, t9_4, t9_5, t9_6, t9_7, t9_8, t9_9, t9_10, hT9, bT9⟩ := n_o145 hI
  obtain ⟨t10_0, hT10, -⟩ := n_ai hI (n_s146 g q)
  obtain ⟨t11_0, hT11, -⟩ := n_ai hI (n_s147 g q)
  obtain ⟨t12_0, hT12, -⟩ := n_ai hI (n_s148 g q)
  obtain ⟨t13_0, hT13, -⟩ := n_ai hI (n_s149 g q)
  obtain ⟨t14_0, hT14, -⟩ := n_ai hI (n_s150 g q)
  obtain ⟨t15_0, hT15, -⟩ := n_ai hI (n_s151 g q)
  obtain ⟨hS1, hS2, hS3, hS4, hS5⟩ := hS
  obtain ⟨s9, p9, r9, r8, y0, y1, y2, jL9, jT9, jP9⟩ := hS4
  obtain ⟨-, rfl, rfl⟩ := x_116 hT0 y0
  obtain ⟨f0, f1, ya, yb, hw9⟩ := hS1
  obtain rfl := x_ri hT2 ya
  obtain rfl := x_ri hT3 yb
  have hS1 : mWr g q ws (zsW σ) := ⟨_, _, ya, yb, hw9⟩
  obtain ⟨g0, g1, g2, g3, yc, yd, ye, yg, hd9⟩ := hS2
  obtain rfl := x_ri hT5 yc
  obtain rfl := x_ri hT6 yd
  obtain rfl := x_ri hT7 ye
  obtain rfl := x_ri hT8 yg
  have hS2 : mDr g q ws (zsD σ) := ⟨_, _, _, _, yc, yd, ye, yg, hd9⟩
  obtain ⟨f9, yf, hV9, hN9⟩ := hS3
  obtain rfl := x_rl hT16 yf
  have hS3 : mFr g q ws (zsV σ) (zsN σ) := ⟨_, yf, hV9, hN9⟩
  have hq := T_NM_told (x2 := x2) (x3 := x3) (x4 := x4) (t0_0 := t0_0) (t0_1 := t0_1) (t0_2 := t0_2) (t1_0 := t1_0) (t1_1 := t1_1) (t1_2 := t1_2) (t1_3 := t1_3) (t1_4 := t1_4) (t1_5 := t1_5) (t1_6 := t1_6) (t2_0 := t2_0) (t3_0 := t3_0) (t4_0 := t4_0) (t4_1 := t4_1) (t4_2 := t4_2) (t4_3 := t4_3) (t4_4 := t4_4) (t4_5 := t4_5) (t4_6 := t4_6) (t4_7 := t4_7) (t4_8 := t4_8) (t4_9 := t4_9) (t4_10 := t4_10) (t5_0 := t5_0) (t6_0 := t6_0) (t7_0 := t7_0) (t8_0 := t8_0) (t9_0 := t9_0) (t9_1 := t9_1) (t9_2 := t9_2) (t9_3 := t9_3) (t9_4 := t9_4) (t9_5 := t9_5) (t9_6 := t9_6) (t9_7 := t9_7) (t9_8 := t9_8) (t9_9 := t9_9) (t9_10 := t9_10) (t10_0 := t10_0) (t11_0 := t11_0) (t12_0 := t12_0) (t13_0 := t13_0) (t14_0 := t14_0) (t15_0 := t15_0) (t16_0 := t16_0) hW hD hB
  refine q_mLw (X_NM_told l D g q ws x2 x3 x4 hI t0_0 t0_1 t0_2 hT0 t1_0 t1_1 t1_2 t1_3 t1_4 t1_5 t1_6 hT1 t2_0 hT2 t3_0 hT3 t4_0 t4_1 t4_2 t4_3 t4_4 t4_5 t4_6 t4_7 t4_8 t4_9 t4_10 hT4 t5_0 hT5 t6_0 hT6 t7_0 hT7 t8_0 hT8 t9_0 t9_1 t9_2 t9_3 t9_4 t9_5 t9_6 t9_7 t9_8 t9_9 t9_10 hT9 t10_0 hT10 t11_0 hT11 t12_0 hT12 t13_0 hT13 t14_0 hT14 t15_0 hT15 t16_0 hT16 ⟨trivial, hq⟩) ?_
  rintro r u ⟨hI2, hun, u0_0, u1_0, u1_1, u1_2, u1_3, u1_4, u1_5, u1_6, u4_0, u4_1, u4_2, u4_3, u4_4, u4_5, u4_6, u4_7, u4_8, u4_9, u4_10, u9_0, u9_1, u9_2, u9_3, u9_4, u9_5, u9_6, u9_7, u9_8, u9_9, u9_10, u10_0, u11_0, u12_0, u13_0, u14_0, u15_0, hU0, hU1, hU2, hU3, hU4, hU5, hU6, hU7, hU8, hU9, hR⟩
  refine ⟨⟨hI2, ⟨jW_fr hM0.1 (hun 121 (by decide)) (hun 122 (by decide)), jD_fr hM0.2.1 (hun 136 (by decide)) (hun 137 (by decide)) (hun 138 (by decide)) (hun 139 (by decide)), jZ_fr hM0.2.2.1 (hun 160 (by decide)), jB_fr hM0.2.2.2 (hun 167 (by decide))⟩, jF_un hun (by decide)⟩, ?_⟩
  have hG := hR.2.2.2.2.2.2.2.2.2.2.2.2.2.2.2.2.2.2.2.2.2.2.2.2.2.2.2.2.2.2.2.2.2.2.2.2.2.2
  by_cases ok : ((0 ≤ x2.toInt ∧ x2.toInt ≤ 3) ∧ yReg x3)
  · rcases x_k4 ok.1 with k | k | k | k
    · have hv := V_NM_told0 (x2 := x2) (x3 := x3) (x4 := x4) (t0_0 := t0_0) (t0_1 := t0_1) (t0_2 := t0_2) (t1_0 := t1_0) (t1_1 := t1_1) (t1_2 := t1_2) (t1_3 := t1_3) (t1_4 := t1_4) (t1_5 := t1_5) (t1_6 := t1_6) (t2_0 := t2_0) (t3_0 := t3_0) (t4_0 := t4_0) (t4_1 := t4_1) (t4_2 := t4_2) (t4_3 := t4_3) (t4_4 := t4_4) (t4_5 := t4_5) (t4_6 := t4_6) (t4_7 := t4_7) (t4_8 := t4_8) (t4_9 := t4_9) (t4_10 := t4_10) (t5_0 := t5_0) (t6_0 := t6_0) (t7_0 := t7_0) (t8_0 := t8_0) (t9_0 := t9_0) (t9_1 := t9_1) (t9_2 := t9_2) (t9_3 := t9_3) (t9_4 := t9_4) (t9_5 := t9_5) (t9_6 := t9_6) (t9_7 := t9_7) (t9_8 := t9_8) (t9_9 := t9_9) (t9_10 := t9_10) (t10_0 := t10_0) (t11_0 := t11_0) (t12_0 := t12_0) (t13_0 := t13_0) (t14_0 := t14_0) (t15_0 := t15_0) (t16_0 := t16_0) hw9 k ok.2
      rw [← hG] at hv
      exact ⟨u0_0, Or.inr ⟨ok, Or.inl ⟨k, hv⟩⟩, ⟨(mWr_fr hS1 (hun 121 (by decide)) (hun 122 (by decide))), (mDr_fr hS2 (hun 136 (by decide)) (hun 137 (by decide)) (hun 138 (by decide)) (hun 139 (by decide))), (mFr_fr hS3 (hun 167 (by decide))), ⟨_, _, _, _, hU0, (hun 117 (by decide)).trans y1, (hun 118 (by decide)).trans y2, jL9, jT9, jP9⟩, (mAr_fr hS5 (hun 157 (by decide)) (hun 159 (by decide)) (hun 160 (by decide)) (hun 161 (by decide)) (hun 162 (by decide)))⟩⟩
    · have hv := V_NM_told1 (x2 := x2) (x3 := x3) (x4 := x4) (t0_0 := t0_0) (t0_1 := t0_1) (t0_2 := t0_2) (t1_0 := t1_0) (t1_1 := t1_1) (t1_2 := t1_2) (t1_3 := t1_3) (t1_4 := t1_4) (t1_5 := t1_5) (t1_6 := t1_6) (t2_0 := t2_0) (t3_0 := t3_0) (t4_0 := t4_0) (t4_1 := t4_1) (t4_2 := t4_2) (t4_3 := t4_3) (t4_4 := t4_4) (t4_5 := t4_5) (t4_6 := t4_6) (t4_7 := t4_7) (t4_8 := t4_8) (t4_9 := t4_9) (t4_10 := t4_10) (t5_0 := t5_0) (t6_0 := t6_0) (t7_0 := t7_0) (t8_0 := t8_0) (t9_0 := t9_0) (t9_1 := t9_1) (t9_2 := t9_2) (t9_3 := t9_3) (t9_4 := t9_4) (t9_5 := t9_5) (t9_6 := t9_6) (t9_7 := t9_7) (t9_8 := t9_8) (t9_9 := t9_9) (t9_10 := t9_10) (t10_0 := t10_0) (t11_0 := t11_0) (t12_0 := t12_0) (t13_0 := t13_0) (t14_0 := t14_0) (t15_0 := t15_0) (t16_0 := t16_0) hd9 k ok.2
      rw [← hG] at hv
      exact ⟨u0_0, Or.inr ⟨ok, Or.inr (Or.inl ⟨k, ⟨_, (hd9.2 _ (x_reg ok.2)).2.2.1⟩, hv⟩)⟩, ⟨(mWr_fr hS1 (hun 121 (by decide)) (hun 122 (by decide))), (mDr_fr hS2 (hun 136 (by decide)) (hun 137 (by decide)) (hun 138 (by decide)) (hun 139 (by decide))), (mFr_fr hS3 (hun 167 (by decide))), ⟨_, _, _, _, hU0, (hun 117 (by decide)).trans y1, (hun 118 (by decide)).trans y2, jL9, jT9, jP9⟩, (mAr_fr hS5 (hun 157 (by decide)) (hun 159 (by decide)) (hun 160 (by decide)) (hun 161 (by decide)) (hun 162 (by decide)))⟩⟩
    · have hv := V_NM_told2 (x2 := x2) (x3 := x3) (x4 := x4) (t0_0 := t0_0) (t0_1 := t0_1) (t0_2 := t0_2) (t1_0 := t1_0) (t1_1 := t1_1) (t1_2 := t1_2) (t1_3 := t1_3) (t1_4 := t1_4) (t1_5 := t1_5) (t1_6 := t1_6) (t2_0 := t2_0) (t3_0 := t3_0) (t4_0 := t4_0) (t4_1 := t4_1) (t4_2 := t4_2) (t4_3 := t4_3) (t4_4 := t4_4) (t4_5 := t4_5) (t4_6 := t4_6) (t4_7 := t4_7) (t4_8 := t4_8) (t4_9 := t4_9) (t4_10 := t4_10) (t5_0 := t5_0) (t6_0 := t6_0) (t7_0 := t7_0) (t8_0 := t8_0) (t9_0 := t9_0) (t9_1 := t9_1) (t9_2 := t9_2) (t9_3 := t9_3) (t9_4 := t9_4) (t9_5 := t9_5) (t9_6 := t9_6) (t9_7 := t9_7) (t9_8 := t9_8) (t9_9 := t9_9) (t9_10 := t9_10) (t10_0 := t10_0) (t11_0 := t11_0) (t12_0 := t12_0) (t13_0 := t13_0) (t14_0 := t14_0) (t15_0 := t15_0) (t16_0 := t16_0) k ok.2 (by rw [hV9 _ (x_reg ok.2)]; exact hk0.2.2.1 _ (x_reg ok.2))
      rw [← hG] at hv
      rw [hV9 _ (x_reg ok.2)] at hv
      exact ⟨u0_0, Or.inr ⟨ok, Or.inr (Or.inr (Or.inl ⟨k, hv⟩))⟩, ⟨(mWr_fr hS1 (hun 121 (by decide)) (hun 122 (by decide))), (mDr_fr hS2 (hun 136 (by decide)) (hun 137 (by decide)) (hun 138 (by decide)) (hun 139 (by decide))), (mFr_fr hS3 (hun 167 (by decide))), ⟨_, _, _, _, hU0, (hun 117 (by decide)).trans y1, (hun 118 (by decide)).trans y2, jL9, jT9, jP9⟩, (mAr_fr hS5 (hun 157 (by decide)) (hun 159 (by decide)) (hun 160 (by decide)) (hun 161 (by decide)) (hun 162 (by decide)))⟩⟩
    · have hv := V_NM_told3 (x2 := x2) (x3 := x3) (x4 := x4) (t0_0 := t0_0) (t0_1 := t0_1) (t0_2 := t0_2) (t1_0 := t1_0) (t1_1 := t1_1) (t1_2 := t1_2) (t1_3 := t1_3) (t1_4 := t1_4) (t1_5 := t1_5) (t1_6 := t1_6) (t2_0 := t2_0) (t3_0 := t3_0) (t4_0 := t4_0) (t4_1 := t4_1) (t4_2 := t4_2) (t4_3 := t4_3) (t4_4 := t4_4) (t4_5 := t4_5) (t4_6 := t4_6) (t4_7 := t4_7) (t4_8 := t4_8) (t4_9 := t4_9) (t4_10 := t4_10) (t5_0 := t5_0) (t6_0 := t6_0) (t7_0 := t7_0) (t8_0 := t8_0) (t9_0 := t9_0) (t9_1 := t9_1) (t9_2 := t9_2) (t9_3 := t9_3) (t9_4 := t9_4) (t9_5 := t9_5) (t9_6 := t9_6) (t9_7 := t9_7) (t9_8 := t9_8) (t9_9 := t9_9) (t9_10 := t9_10) (t10_0 := t10_0) (t11_0 := t11_0) (t12_0 := t12_0) (t13_0 := t13_0) (t14_0 := t14_0) (t15_0 := t15_0) (t16_0 := t16_0) k ok.2 (by rw [x_10 ok.2, hN9 _ (x_reg ok.2)]; exact hk0.2.2.2.1 _ (x_reg ok.2))
      rw [← hG] at hv
      rw [x_10 ok.2, hN9 _ (x_reg ok.2)] at hv
      exact ⟨u0_0, Or.inr ⟨ok, Or.inr (Or.inr (Or.inr ⟨k, hv⟩))⟩, ⟨(mWr_fr hS1 (hun 121 (by decide)) (hun 122 (by decide))), (mDr_fr hS2 (hun 136 (by decide)) (hun 137 (by decide)) (hun 138 (by decide)) (hun 139 (by decide))), (mFr_fr hS3 (hun 167 (by decide))), ⟨_, _, _, _, hU0, (hun 117 (by decide)).trans y1, (hun 118 (by decide)).trans y2, jL9, jT9, jP9⟩, (mAr_fr hS5 (hun 157 (by decide)) (hun 159 (by decide)) (hun 160 (by decide)) (hun 161 (by decide)) (hun 162 (by decide)))⟩⟩
  · have hv := V_NM_toldN (x2 := x2) (x3 := x3) (x4 := x4) (t0_0 := t0_0) (t0_1 := t0_1) (t0_2 := t0_2) (t1_0 := t1_0) (t1_1 := t1_1) (t1_2 := t1_2) (t1_3 := t1_3) (t1_4 := t1_4) (t1_5 := t1_5) (t1_6 := t1_6) (t2_0 := t2_0) (t3_0 := t3_0) (t4_0 := t4_0) (t4_1 := t4_1) (t4_2 := t4_2) (t4_3 := t4_3) (t4_4 := t4_4) (t4_5 := t4_5) (t4_6 := t4_6) (t4_7 := t4_7) (t4_8 := t4_8) (t4_9 := t4_9) (t4_10 := t4_10) (t5_0 := t5_0) (t6_0 := t6_0) (t7_0 := t7_0) (t8_0 := t8_0) (t9_0 := t9_0) (t9_1 := t9_1) (t9_2 := t9_2) (t9_3 := t9_3) (t9_4 := t9_4) (t9_5 := t9_5) (t9_6 := t9_6) (t9_7 := t9_7) (t9_8 := t9_8) (t9_9 := t9_9) (t9_10 := t9_10) (t10_0 := t10_0) (t11_0 := t11_0) (t12_0 := t12_0) (t13_0 := t13_0) (t14_0 := t14_0) (t15_0 := t15_0) (t16_0 := t16_0) ok
    rw [← hG] at hv
    exact ⟨u0_0, Or.inl ⟨ok, hv⟩, ⟨(mWr_fr hS1 (hun 121 (by decide)) (hun 122 (by decide))), (mDr_fr hS2 (hun 136 (by decide)) (hun 137 (by decide)) (hun 138 (by decide)) (hun 139 (by decide))), (mFr_fr hS3 (hun 167 (by decide))), ⟨_, _, _, _, hU0, (hun 117 (by decide)).trans y1, (hun 118 (by decide)).trans y2, jL9, jT9, jP9⟩, (mAr_fr hS5 (hun 157 (by decide)) (hun 159 (by decide)) (hun 160 (by decide)) (hun 161 (by decide)) (hun 162 (by decide)))⟩⟩
