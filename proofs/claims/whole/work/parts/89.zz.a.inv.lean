/-! the class's invariant: every register's content has its form, decimalWork.one is 1 -/
def iW (g : Nat → ClassId) (q : Nat → Nat) (u : va_W) (k : Nat) : Prop := ∃ (s n : Int32) (f : Nat → Int32), u[k]? = (some (q k, .inr (2, [.ref (q (k + 1)), .int s, .int n])) : Option (Nat × va_E)) ∧ u[k + 1]? = (some (q (k + 1), .inl (g 0, (68 : Int32).toNatClampNeg, .inl f)) : Option (Nat × va_E)) ∧ rW s n f
def iD (g : Nat → ClassId) (q : Nat → Nat) (u : va_W) (k : Nat) : Prop := ∃ (sc fc s n : Int32) (f : Nat → Int32), u[k]? = (some (q k, .inr (3, [.ref (q (k + 1)), .int sc, .int fc])) : Option (Nat × va_E)) ∧ u[k + 1]? = (some (q (k + 1), .inr (2, [.ref (q (k + 2)), .int s, .int n])) : Option (Nat × va_E)) ∧ u[k + 2]? = (some (q (k + 2), .inl (g 0, (108 : Int32).toNatClampNeg, .inl f)) : Option (Nat × va_E)) ∧ rD s n f sc fc
def iO (g : Nat → ClassId) (q : Nat → Nat) (u : va_W) : Prop := ∃ (sc fc s n : Int32) (f : Nat → Int32), u[31]? = (some (q 31, .inr (3, [.ref (q 32), .int sc, .int fc])) : Option (Nat × va_E)) ∧ u[32]? = (some (q 32, .inr (2, [.ref (q 33), .int s, .int n])) : Option (Nat × va_E)) ∧ u[33]? = (some (q 33, .inl (g 0, (3 : Int32).toNatClampNeg, .inl f)) : Option (Nat × va_E)) ∧ dO 3 s n f sc fc 1 ∧ sc = 0
def iC (g : Nat → ClassId) (q : Nat → Nat) (u : va_W) : Prop := (∀ i, i < 10 → iW g q u (66 + 5 * i)) ∧ (∀ i, i < 10 → iD g q u (68 + 5 * i)) ∧ iO g q u
def iP (g : Nat → ClassId) (q : Nat → Nat) (ws u : va_W) : Prop := q_I (nsh g q) q u ∧ iC g q u ∧ q_ge 116 ws u
theorem iW_fr {g : Nat → ClassId} {q : Nat → Nat} {ws u : va_W} {k : Nat} (h : iW g q ws k) (h0 : u[k]? = ws[k]?) (h1 : u[k + 1]? = ws[k + 1]?) : iW g q u k := by
  obtain ⟨s, n, f, a, b, c⟩ := h
  exact ⟨s, n, f, h0.trans a, h1.trans b, c⟩
theorem iD_fr {g : Nat → ClassId} {q : Nat → Nat} {ws u : va_W} {k : Nat} (h : iD g q ws k) (h0 : u[k]? = ws[k]?) (h1 : u[k + 1]? = ws[k + 1]?) (h2 : u[k + 2]? = ws[k + 2]?) : iD g q u k := by
  obtain ⟨sc, fc, s, n, f, a, b, c, d⟩ := h
  exact ⟨sc, fc, s, n, f, h0.trans a, h1.trans b, h2.trans c, d⟩
theorem iO_fr {g : Nat → ClassId} {q : Nat → Nat} {ws u : va_W} (h : iO g q ws) (h0 : u[31]? = ws[31]?) (h1 : u[32]? = ws[32]?) (h2 : u[33]? = ws[33]?) : iO g q u := by
  obtain ⟨sc, fc, s, n, f, a, b, c, d⟩ := h
  exact ⟨sc, fc, s, n, f, h0.trans a, h1.trans b, h2.trans c, d⟩
theorem iX (x : Int32) : ∃ i : Nat, i < 10 ∧ (x.toNatClampNeg < 10 → i = x.toNatClampNeg) := by
  by_cases h : x.toNatClampNeg < 10
  · exact ⟨_, h, fun _ => rfl⟩
  · exact ⟨0, by decide, fun h' => absurd h' h⟩
theorem q_MxV {l : Launch} {y : MethodName} {b : ByteArray} {n : Nat} {r : Option FieldType} {d mc ms : Nat} {D : va_G} {g : Nat → ClassId} {av : List Value} {ws : va_W} {sz : Nat} {P P' : va_W → Prop} {px px' : String → va_W → Prop} (h : q_Mx l y b n r d mc ms D g av ws sz (va_Qv P (q_B D g (va_A ws sz)) (va_A ws sz)) px) (hQ : ∀ u, P u → P' u) (hp : ∀ E u, px E u → px' E u) : q_Mx l y b n r d mc ms D g av ws sz (va_Qv P' (q_B D g (va_A ws sz)) (va_A ws sz)) px' := by
  refine MetFree.mono h (fun _ _ h => h) (fun _ _ _ _ _ h => h) ?_
  intro a s o t _ z
  rcases z with ⟨⟨⟨u, e1, e2, e3⟩, e4⟩, e5⟩ | ⟨k, E, ce, u, L, f1, f2, f3⟩
  · exact Or.inl ⟨⟨⟨u, e1, hQ u e2, e3⟩, e4⟩, e5⟩
  · exact Or.inr ⟨k, E, ce, u, L, f1, hp E u f2, f3⟩
theorem q_MxI {l : Launch} {y : MethodName} {b : ByteArray} {n : Nat} {r : Option FieldType} {d mc ms : Nat} {D : va_G} {g : Nat → ClassId} {av : List Value} {ws : va_W} {sz : Nat} {P P' : Int32 → va_W → Prop} {px px' : String → va_W → Prop} (h : q_Mx l y b n r d mc ms D g av ws sz (va_Qi P (q_B D g (va_A ws sz)) (va_A ws sz)) px) (hQ : ∀ x u, P x u → P' x u) (hp : ∀ E u, px E u → px' E u) : q_Mx l y b n r d mc ms D g av ws sz (va_Qi P' (q_B D g (va_A ws sz)) (va_A ws sz)) px' := by
  refine MetFree.mono h (fun _ _ h => h) (fun _ _ _ _ _ h => h) ?_
  intro a s o t _ z
  rcases z with ⟨⟨⟨x, u, e1, e2, e3⟩, e4⟩, e5⟩ | ⟨k, E, ce, u, L, f1, f2, f3⟩
  · exact Or.inl ⟨⟨⟨x, u, e1, hQ x u e2, e3⟩, e4⟩, e5⟩
  · exact Or.inr ⟨k, E, ce, u, L, f1, hp E u f2, f3⟩
theorem q_MxL {l : Launch} {y : MethodName} {b : ByteArray} {n : Nat} {r : Option FieldType} {d mc ms : Nat} {D : va_G} {g : Nat → ClassId} {av : List Value} {ws : va_W} {sz : Nat} {P P' : Int64 → va_W → Prop} {px px' : String → va_W → Prop} (h : q_Mx l y b n r d mc ms D g av ws sz (va_Ql P (q_B D g (va_A ws sz)) (va_A ws sz)) px) (hQ : ∀ x u, P x u → P' x u) (hp : ∀ E u, px E u → px' E u) : q_Mx l y b n r d mc ms D g av ws sz (va_Ql P' (q_B D g (va_A ws sz)) (va_A ws sz)) px' := by
  refine MetFree.mono h (fun _ _ h => h) (fun _ _ _ _ _ h => h) ?_
  intro a s o t _ z
  rcases z with ⟨⟨⟨x, u, e1, e2, e3⟩, e4⟩, e5⟩ | ⟨k, E, ce, u, L, f1, f2, f3⟩
  · exact Or.inl ⟨⟨⟨x, u, e1, hQ x u e2, e3⟩, e4⟩, e5⟩
  · exact Or.inr ⟨k, E, ce, u, L, f1, hp E u f2, f3⟩
set_option maxRecDepth 100000 in
theorem CV_compare (l : Launch) (D : va_G) (g : Nat → ClassId) (q : Nat → Nat) (ws : va_W) (x2 : Int32) (x3 : Int32) (x4 : Int32) (i3 : Nat) (hi3 : i3 < 10) (i4 : Nat) (hi4 : i4 < 10) (e3 : x3.toNatClampNeg < 10 → i3 = x3.toNatClampNeg) (e4 : x4.toNatClampNeg < 10 → i4 = x4.toNatClampNeg) (hlt : l.stackTraces = false) (hI : q_I (nsh g q) q ws) (hC : iC g q ws) : ∀ sz, q_Mx l y_NH_compare prog_1_method_7_code 9 (some .int) 9 3 18 D g [.ref (q 0), .int x2, .int x3, .int x4] ws sz (va_Qi (fun _ u => iP g q ws u) (q_B D g (va_A ws sz)) (va_A ws sz)) (fun E u => (∃ c : Int32, E = qE c ∧ (c = 1 ∨ c = 2)) ∧ iP g q ws u) := by
  intro sz
  obtain ⟨t0_0, t0_1, hT0, bT0⟩ := q_bigO hI (n_b22 g q)
  obtain ⟨t1_0, hT1, bT1⟩ := n_ai hI (n_s23 g q)
  obtain ⟨t2_0, t2_1, hT2, bT2⟩ := q_bigO hI (n_b24 g q)
  obtain ⟨t3_0, hT3, bT3⟩ := n_ai hI (n_s25 g q)
  obtain ⟨t4_0, hT4⟩ := n_al hI (n_s7 g q)
  obtain ⟨t5_0, hT5⟩ := n_al hI (n_s8 g q)
  obtain ⟨t6_0, t6_1, t7_0, hT6, hT7, vk3, hbk3, hBk3⟩ := hC.1 i3 hi3
  obtain ⟨t8_0, t8_1, t9_0, t9_1, t10_0, hT8, hT9, hT10, vd3, hbd3⟩ := hC.2.1 i3 hi3
  obtain ⟨t11_0, t11_1, t12_0, hT11, hT12, vk4, hbk4, hBk4⟩ := hC.1 i4 hi4
  obtain ⟨t13_0, t13_1, t14_0, t14_1, t15_0, hT13, hT14, hT15, vd4, hbd4⟩ := hC.2.1 i4 hi4
  have hq := T_compare (x2 := x2) (x3 := x3) (x4 := x4) (t0_0 := t0_0) (t0_1 := t0_1) (t1_0 := t1_0) (t2_0 := t2_0) (t2_1 := t2_1) (t3_0 := t3_0) (t4_0 := t4_0) (t5_0 := t5_0) (t6_0 := t6_0) (t6_1 := t6_1) (t7_0 := t7_0) (t8_0 := t8_0) (t8_1 := t8_1) (t9_0 := t9_0) (t9_1 := t9_1) (t10_0 := t10_0) (t11_0 := t11_0) (t11_1 := t11_1) (t12_0 := t12_0) (t13_0 := t13_0) (t13_1 := t13_1) (t14_0 := t14_0) (t14_1 := t14_1) (t15_0 := t15_0) 
  refine q_MxI (X_NH_compare l D g q ws x2 x3 x4 (66 + 5 * i3) (n_w g q hi3) (by omega) (fun h => by have z := e3 h; omega) (68 + 5 * i3) (n_d g q hi3) (by omega) (fun h => by have z := e3 h; omega) (66 + 5 * i4) (n_w g q hi4) (by omega) (fun h => by have z := e4 h; omega) (68 + 5 * i4) (n_d g q hi4) (by omega) (fun h => by have z := e4 h; omega) hlt hI t0_0 t0_1 hT0 t1_0 hT1 t2_0 t2_1 hT2 t3_0 hT3 t4_0 hT4 t5_0 hT5 t6_0 t6_1 hT6 t7_0 hT7 t8_0 t8_1 hT8 t9_0 t9_1 hT9 t10_0 hT10 t11_0 t11_1 hT11 t12_0 hT12 t13_0 t13_1 hT13 t14_0 t14_1 hT14 t15_0 hT15 ⟨trivial, hq⟩ sz) ?_ ?_
  · rintro r u ⟨hI2, hun, u0_0, u0_1, u1_0, u2_0, u2_1, u3_0, hU0, hU1, hU2, hU3, hR⟩
    refine ⟨hI2, ⟨fun i hi => ?_, fun i hi => ?_, ?_⟩, fun i hi => hun i (by simp only [List.mem_cons, List.not_mem_nil, or_false, not_or]; omega)⟩
    · exact iW_fr (hC.1 i hi) (hun _ (by simp only [List.mem_cons, List.not_mem_nil, or_false, not_or]; omega)) (hun _ (by simp only [List.mem_cons, List.not_mem_nil, or_false, not_or]; omega))
    · exact iD_fr (hC.2.1 i hi) (hun _ (by simp only [List.mem_cons, List.not_mem_nil, or_false, not_or]; omega)) (hun _ (by simp only [List.mem_cons, List.not_mem_nil, or_false, not_or]; omega)) (hun _ (by simp only [List.mem_cons, List.not_mem_nil, or_false, not_or]; omega))
    · exact iO_fr hC.2.2 (hun _ (by simp only [List.mem_cons, List.not_mem_nil, or_false, not_or]; omega)) (hun _ (by simp only [List.mem_cons, List.not_mem_nil, or_false, not_or]; omega)) (hun _ (by simp only [List.mem_cons, List.not_mem_nil, or_false, not_or]; omega))
  · rintro E u ⟨c, hE, hc, hI2, hun, u0_0, u0_1, u1_0, u2_0, u2_1, u3_0, hU0, hU1, hU2, hU3, hF⟩
    have hk := K_NH_compare (x2 := x2) (x3 := x3) (x4 := x4) (t0_0 := t0_0) (t0_1 := t0_1) (t1_0 := t1_0) (t2_0 := t2_0) (t2_1 := t2_1) (t3_0 := t3_0) (t4_0 := t4_0) (t5_0 := t5_0) (t6_0 := t6_0) (t6_1 := t6_1) (t7_0 := t7_0) (t8_0 := t8_0) (t8_1 := t8_1) (t9_0 := t9_0) (t9_1 := t9_1) (t10_0 := t10_0) (t11_0 := t11_0) (t11_1 := t11_1) (t12_0 := t12_0) (t13_0 := t13_0) (t13_1 := t13_1) (t14_0 := t14_0) (t14_1 := t14_1) (t15_0 := t15_0)
    rw [← hF] at hk
    replace hk : kC12 c := hk
    refine ⟨⟨c, hE, hk.resolve_left hc⟩, hI2, ⟨fun i hi => ?_, fun i hi => ?_, ?_⟩, fun i hi => hun i (by simp only [List.mem_cons, List.not_mem_nil, or_false, not_or]; omega)⟩
    · exact iW_fr (hC.1 i hi) (hun _ (by simp only [List.mem_cons, List.not_mem_nil, or_false, not_or]; omega)) (hun _ (by simp only [List.mem_cons, List.not_mem_nil, or_false, not_or]; omega))
    · exact iD_fr (hC.2.1 i hi) (hun _ (by simp only [List.mem_cons, List.not_mem_nil, or_false, not_or]; omega)) (hun _ (by simp only [List.mem_cons, List.not_mem_nil, or_false, not_or]; omega)) (hun _ (by simp only [List.mem_cons, List.not_mem_nil, or_false, not_or]; omega))
    · exact iO_fr hC.2.2 (hun _ (by simp only [List.mem_cons, List.not_mem_nil, or_false, not_or]; omega)) (hun _ (by simp only [List.mem_cons, List.not_mem_nil, or_false, not_or]; omega)) (hun _ (by simp only [List.mem_cons, List.not_mem_nil, or_false, not_or]; omega))
set_option maxRecDepth 100000 in
theorem CV_put (l : Launch) (D : va_G) (g : Nat → ClassId) (q : Nat → Nat) (ws : va_W) (x2 : Int32) (x3 : Int32) (x4 : Int64) (i3 : Nat) (hi3 : i3 < 10) (e3 : x3.toNatClampNeg < 10 → i3 = x3.toNatClampNeg) (hlt : l.stackTraces = false) (hI : q_I (nsh g q) q ws) (hC : iC g q ws) : ∀ sz, q_Mx l y_NH_put prog_1_method_5_code 5 none 9 2 12 D g [.ref (q 0), .int x2, .int x3, .long x4] ws sz (va_Qv (fun u => iP g q ws u ∧ kPut x2 x3 x4 = 0) (q_B D g (va_A ws sz)) (va_A ws sz)) (fun E u => (∃ c : Int32, E = qE c ∧ (c = 1)) ∧ iP g q ws u ∧ kPut x2 x3 x4 = 1) := by
  intro sz
  obtain ⟨t0_0, t0_1, hT0, bT0⟩ := n_o30 hI
  obtain ⟨t1_0, t1_1, hT1, bT1⟩ := q_bigO hI (n_b10 g q)
  obtain ⟨t2_0, hT2, bT2⟩ := n_ai hI (n_s11 g q)
  obtain ⟨t3_0, t3_1, hT3, bT3⟩ := q_bigO hI (n_b20 g q)
  obtain ⟨t4_0, hT4, bT4⟩ := n_ai hI (n_s21 g q)
  obtain ⟨t5_0, hT5⟩ := n_al hI (n_s7 g q)
  obtain ⟨t6_0, hT6⟩ := n_al hI (n_s8 g q)
  obtain ⟨t7_0, t7_1, t8_0, hT7, hT8, vk3, hbk3, hBk3⟩ := hC.1 i3 hi3
  obtain ⟨t9_0, t9_1, t10_0, t10_1, t11_0, hT9, hT10, hT11, vd3, hbd3⟩ := hC.2.1 i3 hi3
  have hq := T_put (x2 := x2) (x3 := x3) (x4 := x4) (t0_0 := t0_0) (t0_1 := t0_1) (t1_0 := t1_0) (t1_1 := t1_1) (t2_0 := t2_0) (t3_0 := t3_0) (t3_1 := t3_1) (t4_0 := t4_0) (t5_0 := t5_0) (t6_0 := t6_0) (t7_0 := t7_0) (t7_1 := t7_1) (t8_0 := t8_0) (t9_0 := t9_0) (t9_1 := t9_1) (t10_0 := t10_0) (t10_1 := t10_1) (t11_0 := t11_0) ⟨_, hbk3, hBk3⟩ ⟨_, hbd3⟩
  refine q_MxV (X_NH_put l D g q ws x2 x3 x4 (66 + 5 * i3) (n_w g q hi3) (by omega) (fun h => by have z := e3 h; omega) (68 + 5 * i3) (n_d g q hi3) (by omega) (fun h => by have z := e3 h; omega) (by omega) (by omega) (by omega) (by omega) hlt hI t0_0 t0_1 hT0 t1_0 t1_1 hT1 t2_0 hT2 t3_0 t3_1 hT3 t4_0 hT4 t5_0 hT5 t6_0 hT6 t7_0 t7_1 hT7 t8_0 hT8 t9_0 t9_1 hT9 t10_0 t10_1 hT10 t11_0 hT11 ⟨trivial, hq.1⟩ sz) ?_ ?_
  · rintro u ⟨hI2, hun, u1_0, u1_1, u2_0, u3_0, u3_1, u4_0, u5_0, u6_0, u7_0, u7_1, u8_0, u9_0, u9_1, u10_0, u10_1, u11_0, hU0, hU1, hU2, hU3, hU4, hU5, hU6, hU7, hU8, hU9, hU10, hR⟩
    have hF := hR.2.2.2.2.2.2.2.2.2.2.2.2.2.2.2.2.2.2.2.2.2.2.2.2.2.2.2.2.2.2.2.2.2.2.2.2.2.2.2.2.2.2
    have hp := hq.2
    rw [← hF] at hp
    have hz := K_put (x2 := x2) (x3 := x3) (x4 := x4) (t0_0 := t0_0) (t0_1 := t0_1) (t1_0 := t1_0) (t1_1 := t1_1) (t2_0 := t2_0) (t3_0 := t3_0) (t3_1 := t3_1) (t4_0 := t4_0) (t5_0 := t5_0) (t6_0 := t6_0) (t7_0 := t7_0) (t7_1 := t7_1) (t8_0 := t8_0) (t9_0 := t9_0) (t9_1 := t9_1) (t10_0 := t10_0) (t10_1 := t10_1) (t11_0 := t11_0)
    rw [← hF] at hz
    replace hz : (0 : Int32) = kPut x2 x3 x4 := hz
    refine ⟨⟨hI2, ⟨fun i hi => ?_, fun i hi => ?_, ?_⟩, fun i hi => hun i (by simp only [List.mem_cons, List.not_mem_nil, or_false, not_or]; omega)⟩, hz.symm⟩
    · by_cases hk3 : i = i3
      · rw [hk3]; refine ⟨_, _, _, hU6, hU7, ?_⟩; first | exact hp.1
      · exact iW_fr (hC.1 i hi) (hun _ (by simp only [List.mem_cons, List.not_mem_nil, or_false, not_or]; omega)) (hun _ (by simp only [List.mem_cons, List.not_mem_nil, or_false, not_or]; omega))
    · by_cases hd3 : i = i3
      · rw [hd3]; refine ⟨_, _, _, _, _, hU8, hU9, hU10, ?_⟩; first | exact hp.2
      · exact iD_fr (hC.2.1 i hi) (hun _ (by simp only [List.mem_cons, List.not_mem_nil, or_false, not_or]; omega)) (hun _ (by simp only [List.mem_cons, List.not_mem_nil, or_false, not_or]; omega)) (hun _ (by simp only [List.mem_cons, List.not_mem_nil, or_false, not_or]; omega))
    · exact iO_fr hC.2.2 (hun _ (by simp only [List.mem_cons, List.not_mem_nil, or_false, not_or]; omega)) (hun _ (by simp only [List.mem_cons, List.not_mem_nil, or_false, not_or]; omega)) (hun _ (by simp only [List.mem_cons, List.not_mem_nil, or_false, not_or]; omega))
  · rintro E u ⟨c, hE, hc, hI2, hun, u1_0, u1_1, u2_0, u3_0, u3_1, u4_0, u5_0, u6_0, u7_0, u7_1, u8_0, u9_0, u9_1, u10_0, u10_1, u11_0, hU0, hU1, hU2, hU3, hU4, hU5, hU6, hU7, hU8, hU9, hU10, hF⟩
    have hp := hq.2
    rw [← hF] at hp
    have hk := K_NH_put (x2 := x2) (x3 := x3) (x4 := x4) (t0_0 := t0_0) (t0_1 := t0_1) (t1_0 := t1_0) (t1_1 := t1_1) (t2_0 := t2_0) (t3_0 := t3_0) (t3_1 := t3_1) (t4_0 := t4_0) (t5_0 := t5_0) (t6_0 := t6_0) (t7_0 := t7_0) (t7_1 := t7_1) (t8_0 := t8_0) (t9_0 := t9_0) (t9_1 := t9_1) (t10_0 := t10_0) (t10_1 := t10_1) (t11_0 := t11_0)
    rw [← hF] at hk
    replace hk : kC1 c := hk
    have hz := K_put (x2 := x2) (x3 := x3) (x4 := x4) (t0_0 := t0_0) (t0_1 := t0_1) (t1_0 := t1_0) (t1_1 := t1_1) (t2_0 := t2_0) (t3_0 := t3_0) (t3_1 := t3_1) (t4_0 := t4_0) (t5_0 := t5_0) (t6_0 := t6_0) (t7_0 := t7_0) (t7_1 := t7_1) (t8_0 := t8_0) (t9_0 := t9_0) (t9_1 := t9_1) (t10_0 := t10_0) (t10_1 := t10_1) (t11_0 := t11_0)
    rw [← hF] at hz
    replace hz : c = kPut x2 x3 x4 := hz
    refine ⟨⟨c, hE, hk.resolve_left hc⟩, ⟨hI2, ⟨fun i hi => ?_, fun i hi => ?_, ?_⟩, fun i hi => hun i (by simp only [List.mem_cons, List.not_mem_nil, or_false, not_or]; omega)⟩, hz.symm.trans (hk.resolve_left hc)⟩
    · by_cases hk3 : i = i3
      · rw [hk3]; refine ⟨_, _, _, hU6, hU7, ?_⟩; first | exact hp.1
      · exact iW_fr (hC.1 i hi) (hun _ (by simp only [List.mem_cons, List.not_mem_nil, or_false, not_or]; omega)) (hun _ (by simp only [List.mem_cons, List.not_mem_nil, or_false, not_or]; omega))
    · by_cases hd3 : i = i3
      · rw [hd3]; refine ⟨_, _, _, _, _, hU8, hU9, hU10, ?_⟩; first | exact hp.2
      · exact iD_fr (hC.2.1 i hi) (hun _ (by simp only [List.mem_cons, List.not_mem_nil, or_false, not_or]; omega)) (hun _ (by simp only [List.mem_cons, List.not_mem_nil, or_false, not_or]; omega)) (hun _ (by simp only [List.mem_cons, List.not_mem_nil, or_false, not_or]; omega))
    · exact iO_fr hC.2.2 (hun _ (by simp only [List.mem_cons, List.not_mem_nil, or_false, not_or]; omega)) (hun _ (by simp only [List.mem_cons, List.not_mem_nil, or_false, not_or]; omega)) (hun _ (by simp only [List.mem_cons, List.not_mem_nil, or_false, not_or]; omega))
