theorem q_mIw {l : Launch} {y : MethodName} {b : ByteArray} {n : Nat} {r : FieldType} {d mc ms : Nat} {D : va_G} {g : Nat → ClassId} {av : List Value} {ws : va_W} {P P' : Int32 → va_W → Prop} (h : q_mI l y b n r d mc ms D g av ws P) (hQ : ∀ x u, P x u → P' x u) : q_mI l y b n r d mc ms D g av ws P' := by
  intro sz
  refine MetFree.mono (h sz) (fun _ _ h => h) (fun _ _ _ _ _ h => h) ?_
  rintro a s o t _ ⟨⟨⟨x, u, e1, e2, e3⟩, e4⟩, e5⟩
  exact ⟨⟨⟨x, u, e1, hQ x u e2, e3⟩, e4⟩, e5⟩
theorem q_mLw {l : Launch} {y : MethodName} {b : ByteArray} {n : Nat} {d mc ms : Nat} {D : va_G} {g : Nat → ClassId} {av : List Value} {ws : va_W} {P P' : Int64 → va_W → Prop} (h : q_mL l y b n d mc ms D g av ws P) (hQ : ∀ x u, P x u → P' x u) : q_mL l y b n d mc ms D g av ws P' := by
  intro sz
  refine MetFree.mono (h sz) (fun _ _ h => h) (fun _ _ _ _ _ h => h) ?_
  rintro a s o t _ ⟨⟨⟨x, u, e1, e2, e3⟩, e4⟩, e5⟩
  exact ⟨⟨⟨x, u, e1, hQ x u e2, e3⟩, e4⟩, e5⟩
theorem C_wipe (l : Launch) (D : va_G) (g : Nat → ClassId) (q : Nat → Nat) (ws : va_W) (hI : q_I (nsh g q) q ws) (hC : iC g q ws) : q_mI l y_NH_wipe prog_1_method_3_code 2 (.int) 2 0 0 D g [.ref (q 0)] ws (fun _ u => iP g q ws u) := by
  obtain ⟨t0_0, hT0, bT0⟩ := n_shO hI (n_h1 g q)
  obtain ⟨t1_0, hT1⟩ := n_al hI (n_s2 g q)
  refine q_mIw (X_NH_wipe l D g q ws hI t0_0 hT0 t1_0 hT1) ?_
  rintro r u ⟨hI2, hun, u0, hU, hR⟩
  refine ⟨hI2, ⟨fun i hi => ?_, fun i hi => ?_, ?_⟩, fun i hi => hun i (by simp only [List.mem_cons, List.not_mem_nil, or_false]; omega)⟩
  · exact iW_fr (hC.1 i hi) (hun _ (by simp only [List.mem_cons, List.not_mem_nil, or_false]; omega)) (hun _ (by simp only [List.mem_cons, List.not_mem_nil, or_false]; omega))
  · exact iD_fr (hC.2.1 i hi) (hun _ (by simp only [List.mem_cons, List.not_mem_nil, or_false]; omega)) (hun _ (by simp only [List.mem_cons, List.not_mem_nil, or_false]; omega)) (hun _ (by simp only [List.mem_cons, List.not_mem_nil, or_false]; omega))
  · exact iO_fr hC.2.2 (hun _ (by simp only [List.mem_cons, List.not_mem_nil, or_false]; omega)) (hun _ (by simp only [List.mem_cons, List.not_mem_nil, or_false]; omega)) (hun _ (by simp only [List.mem_cons, List.not_mem_nil, or_false]; omega))
theorem C_paperAt (l : Launch) (D : va_G) (g : Nat → ClassId) (q : Nat → Nat) (ws : va_W) (x2 : Int32) (hI : q_I (nsh g q) q ws) (hC : iC g q ws) : q_mL l y_NH_paperAt prog_1_method_21_code 5 2 0 0 D g [.ref (q 0), .int x2] ws (fun _ u => iP g q ws u) := by
  obtain ⟨t0_0, hT0, bT0⟩ := n_shO hI (n_h3 g q)
  obtain ⟨t1_0, hT1⟩ := n_al hI (n_s4 g q)
  refine q_mLw (X_NH_paperAt l D g q ws x2 hI t0_0 hT0 t1_0 hT1) ?_
  rintro r u ⟨e1, e2⟩
  subst e1
  exact ⟨hI, hC, fun _ _ => rfl⟩
theorem C_feed (l : Launch) (D : va_G) (g : Nat → ClassId) (q : Nat → Nat) (ws : va_W) (x2 : Int32) (x3 : Int64) (hlt : l.stackTraces = false) (hI : q_I (nsh g q) q ws) (hC : iC g q ws) : ∀ sz, q_Mx l y_NH_feed prog_1_method_2_code 5 (some .int) 8 1 6 D g [.ref (q 0), .int x2, .long x3] ws sz (va_Qi (fun _ u => iP g q ws u) (q_B D g (va_A ws sz)) (va_A ws sz)) (fun E u => (∃ c : Int32, E = qE c ∧ (c = 1)) ∧ iP g q ws u) := by
  exact CV_feed l D g q ws x2 x3 hlt hI hC
theorem C_read (l : Launch) (D : va_G) (g : Nat → ClassId) (q : Nat → Nat) (ws : va_W) (x2 : Int32) (x3 : Int32) (x4 : Int32) (hlt : l.stackTraces = false) (hI : q_I (nsh g q) q ws) (hC : iC g q ws) : ∀ sz, q_Mx l y_NH_read prog_1_method_4_code 5 (some .boolean) 9 4 24 D g [.ref (q 0), .int x2, .int x3, .int x4] ws sz (va_Qi (fun _ u => iP g q ws u) (q_B D g (va_A ws sz)) (va_A ws sz)) (fun E u => (∃ c : Int32, E = qE c ∧ (c = 1 ∨ c = 2)) ∧ iP g q ws u) := by
  obtain ⟨i3, hi3, e3⟩ := iX x3
  exact CV_read l D g q ws x2 x3 x4 i3 hi3 e3 hlt hI hC
theorem C_put (l : Launch) (D : va_G) (g : Nat → ClassId) (q : Nat → Nat) (ws : va_W) (x2 : Int32) (x3 : Int32) (x4 : Int64) (hlt : l.stackTraces = false) (hI : q_I (nsh g q) q ws) (hC : iC g q ws) : ∀ sz, q_Mx l y_NH_put prog_1_method_5_code 5 none 9 2 12 D g [.ref (q 0), .int x2, .int x3, .long x4] ws sz (va_Qv (fun u => iP g q ws u ∧ kPut x2 x3 x4 = 0) (q_B D g (va_A ws sz)) (va_A ws sz)) (fun E u => (∃ c : Int32, E = qE c ∧ (c = 1)) ∧ iP g q ws u ∧ kPut x2 x3 x4 = 1) := by
  obtain ⟨i3, hi3, e3⟩ := iX x3
  exact CV_put l D g q ws x2 x3 x4 i3 hi3 e3 hlt hI hC
theorem C_told (l : Launch) (D : va_G) (g : Nat → ClassId) (q : Nat → Nat) (ws : va_W) (x2 : Int32) (x3 : Int32) (x4 : Int32) (hlt : l.stackTraces = false) (hI : q_I (nsh g q) q ws) (hC : iC g q ws) : ∀ sz, q_Mx l y_NH_told prog_1_method_6_code 7 (some .long) 9 4 24 D g [.ref (q 0), .int x2, .int x3, .int x4] ws sz (va_Ql (fun _ u => iP g q ws u) (q_B D g (va_A ws sz)) (va_A ws sz)) (fun E u => (∃ c : Int32, E = qE c ∧ (c = 1 ∨ c = 2)) ∧ iP g q ws u) := by
  obtain ⟨i3, hi3, e3⟩ := iX x3
  exact CV_told l D g q ws x2 x3 x4 i3 hi3 e3 hlt hI hC
theorem C_compare (l : Launch) (D : va_G) (g : Nat → ClassId) (q : Nat → Nat) (ws : va_W) (x2 : Int32) (x3 : Int32) (x4 : Int32) (hlt : l.stackTraces = false) (hI : q_I (nsh g q) q ws) (hC : iC g q ws) : ∀ sz, q_Mx l y_NH_compare prog_1_method_7_code 9 (some .int) 9 3 18 D g [.ref (q 0), .int x2, .int x3, .int x4] ws sz (va_Qi (fun _ u => iP g q ws u) (q_B D g (va_A ws sz)) (va_A ws sz)) (fun E u => (∃ c : Int32, E = qE c ∧ (c = 1 ∨ c = 2)) ∧ iP g q ws u) := by
  obtain ⟨i3, hi3, e3⟩ := iX x3
  obtain ⟨i4, hi4, e4⟩ := iX x4
  exact CV_compare l D g q ws x2 x3 x4 i3 hi3 i4 hi4 e3 e4 hlt hI hC
theorem C_whole (l : Launch) (D : va_G) (g : Nat → ClassId) (q : Nat → Nat) (ws : va_W) (x2 : Int32) (x3 : Int32) (x4 : Int32) (x5 : Int32) (hlt : l.stackTraces = false) (hI : q_I (nsh g q) q ws) (hC : iC g q ws) : ∀ sz, q_Mx l y_NH_whole prog_1_method_8_code 7 none 9 4 24 D g [.ref (q 0), .int x2, .int x3, .int x4, .int x5] ws sz (va_Qv (fun u => iP g q ws u) (q_B D g (va_A ws sz)) (va_A ws sz)) (fun E u => (∃ c : Int32, E = qE c ∧ (c = 1 ∨ c = 2)) ∧ iP g q ws u) := by
  obtain ⟨i3, hi3, e3⟩ := iX x3
  obtain ⟨i4, hi4, e4⟩ := iX x4
  obtain ⟨i5, hi5, e5⟩ := iX x5
  by_cases c34 : i3 = i4
  · by_cases c45 : i4 = i5
    · exact CV_whole_abt l D g q ws x2 x3 x4 x5 i3 hi3 e3 (fun h => by have z := e4 h; omega) (fun h => by have z := e5 h; omega) hlt hI hC
    · exact CV_whole_ab l D g q ws x2 x3 x4 x5 i3 hi3 i5 hi5 e3 (fun h => by have z := e4 h; omega) e5 (by omega) hlt hI hC
  · by_cases c45 : i4 = i5
    · exact CV_whole_bt l D g q ws x2 x3 x4 x5 i3 hi3 i4 hi4 e3 e4 (fun h => by have z := e5 h; omega) (by omega) hlt hI hC
    · exact CV_whole l D g q ws x2 x3 x4 x5 i3 hi3 i4 hi4 i5 hi5 e3 e4 e5 (by omega) (by omega) hlt hI hC
theorem C_wholeBy (l : Launch) (D : va_G) (g : Nat → ClassId) (q : Nat → Nat) (ws : va_W) (x2 : Int32) (x3 : Int32) (x4 : Int32) (x5 : Int32) (hlt : l.stackTraces = false) (hI : q_I (nsh g q) q ws) (hC : iC g q ws) : ∀ sz, q_Mx l y_NH_wholeBy prog_1_method_9_code 6 none 9 5 30 D g [.ref (q 0), .int x2, .int x3, .int x4, .int x5] ws sz (va_Qv (fun u => iP g q ws u) (q_B D g (va_A ws sz)) (va_A ws sz)) (fun E u => (∃ c : Int32, E = qE c ∧ (c = 1 ∨ c = 2)) ∧ iP g q ws u) := by
  obtain ⟨i3, hi3, e3⟩ := iX x3
  obtain ⟨i5, hi5, e5⟩ := iX x5
  exact CV_wholeBy l D g q ws x2 x3 x4 x5 i3 hi3 i5 hi5 e3 e5 hlt hI hC
theorem C_powerModulo (l : Launch) (D : va_G) (g : Nat → ClassId) (q : Nat → Nat) (ws : va_W) (x2 : Int32) (x3 : Int32) (x4 : Int32) (x5 : Int32) (hlt : l.stackTraces = false) (hI : q_I (nsh g q) q ws) (hC : iC g q ws) : ∀ sz, q_Mx l y_NH_powerModulo prog_1_method_10_code 5 none 9 4 24 D g [.ref (q 0), .int x2, .int x3, .int x4, .int x5] ws sz (va_Qv (fun u => iP g q ws u) (q_B D g (va_A ws sz)) (va_A ws sz)) (fun E u => (∃ c : Int32, E = qE c ∧ (c = 1 ∨ c = 2)) ∧ iP g q ws u) := by
  obtain ⟨i2, hi2, e2⟩ := iX x2
  obtain ⟨i3, hi3, e3⟩ := iX x3
  obtain ⟨i4, hi4, e4⟩ := iX x4
  obtain ⟨i5, hi5, e5⟩ := iX x5
  by_cases c24 : i2 = i4
  · by_cases c34 : i3 = i4
    · by_cases c54 : i5 = i4
      · exact CV_powerModulo_aet l D g q ws x2 x3 x4 x5 i2 hi2 e2 (fun h => by have z := e3 h; omega) (fun h => by have z := e4 h; omega) (fun h => by have z := e5 h; omega) hlt hI hC
      · exact CV_powerModulo_ae l D g q ws x2 x3 x4 x5 i2 hi2 i5 hi5 e2 (fun h => by have z := e3 h; omega) (fun h => by have z := e4 h; omega) e5 (by omega) hlt hI hC
    · by_cases c54 : i5 = i4
      · exact CV_powerModulo_at l D g q ws x2 x3 x4 x5 i2 hi2 i3 hi3 e2 e3 (fun h => by have z := e4 h; omega) (fun h => by have z := e5 h; omega) (by omega) hlt hI hC
      · exact CV_powerModulo_a l D g q ws x2 x3 x4 x5 i2 hi2 i3 hi3 i5 hi5 e2 e3 (fun h => by have z := e4 h; omega) e5 (by omega) (by omega) hlt hI hC
  · by_cases c34 : i3 = i4
    · by_cases c54 : i5 = i4
      · exact CV_powerModulo_et l D g q ws x2 x3 x4 x5 i2 hi2 i3 hi3 e2 e3 (fun h => by have z := e4 h; omega) (fun h => by have z := e5 h; omega) (by omega) hlt hI hC
      · exact CV_powerModulo_e l D g q ws x2 x3 x4 x5 i2 hi2 i3 hi3 i5 hi5 e2 e3 (fun h => by have z := e4 h; omega) e5 (by omega) (by omega) hlt hI hC
    · by_cases c54 : i5 = i4
      · exact CV_powerModulo_t l D g q ws x2 x3 x4 x5 i2 hi2 i3 hi3 i4 hi4 e2 e3 e4 (fun h => by have z := e5 h; omega) (by omega) (by omega) hlt hI hC
      · exact CV_powerModulo l D g q ws x2 x3 x4 x5 i2 hi2 i3 hi3 i4 hi4 i5 hi5 e2 e3 e4 e5 (by omega) (by omega) (by omega) hlt hI hC
theorem C_decimal (l : Launch) (D : va_G) (g : Nat → ClassId) (q : Nat → Nat) (ws : va_W) (x2 : Int32) (x3 : Int32) (x4 : Int32) (x5 : Int32) (hlt : l.stackTraces = false) (hI : q_I (nsh g q) q ws) (hC : iC g q ws) : ∀ sz, q_Mx l y_NH_decimal prog_1_method_11_code 7 none 9 3 18 D g [.ref (q 0), .int x2, .int x3, .int x4, .int x5] ws sz (va_Qv (fun u => iP g q ws u) (q_B D g (va_A ws sz)) (va_A ws sz)) (fun E u => (∃ c : Int32, E = qE c ∧ (c = 1 ∨ c = 2)) ∧ iP g q ws u) := by
  obtain ⟨i3, hi3, e3⟩ := iX x3
  obtain ⟨i4, hi4, e4⟩ := iX x4
  obtain ⟨i5, hi5, e5⟩ := iX x5
  by_cases c34 : i3 = i4
  · by_cases c45 : i4 = i5
    · exact CV_decimal_abt l D g q ws x2 x3 x4 x5 i3 hi3 e3 (fun h => by have z := e4 h; omega) (fun h => by have z := e5 h; omega) hlt hI hC
    · exact CV_decimal_ab l D g q ws x2 x3 x4 x5 i3 hi3 i5 hi5 e3 (fun h => by have z := e4 h; omega) e5 (by omega) hlt hI hC
  · by_cases c45 : i4 = i5
    · exact CV_decimal_bt l D g q ws x2 x3 x4 x5 i3 hi3 i4 hi4 e3 e4 (fun h => by have z := e5 h; omega) (by omega) hlt hI hC
    · exact CV_decimal l D g q ws x2 x3 x4 x5 i3 hi3 i4 hi4 i5 hi5 e3 e4 e5 (by omega) (by omega) hlt hI hC
theorem C_decimalBy (l : Launch) (D : va_G) (g : Nat → ClassId) (q : Nat → Nat) (ws : va_W) (x2 : Int32) (x3 : Int32) (x4 : Int32) (x5 : Int32) (hlt : l.stackTraces = false) (hI : q_I (nsh g q) q ws) (hC : iC g q ws) : ∀ sz, q_Mx l y_NH_decimalBy prog_1_method_12_code 5 none 9 4 24 D g [.ref (q 0), .int x2, .int x3, .int x4, .int x5] ws sz (va_Qv (fun u => iP g q ws u) (q_B D g (va_A ws sz)) (va_A ws sz)) (fun E u => (∃ c : Int32, E = qE c ∧ (c = 1 ∨ c = 2)) ∧ iP g q ws u) := by
  obtain ⟨i3, hi3, e3⟩ := iX x3
  obtain ⟨i5, hi5, e5⟩ := iX x5
  exact CV_decimalBy l D g q ws x2 x3 x4 x5 i3 hi3 i5 hi5 e3 e5 hlt hI hC
theorem C_divide (l : Launch) (D : va_G) (g : Nat → ClassId) (q : Nat → Nat) (ws : va_W) (x2 : Int32) (x3 : Int32) (x4 : Int32) (x5 : Int32) (x6 : Int32) (hlt : l.stackTraces = false) (hI : q_I (nsh g q) q ws) (hC : iC g q ws) : ∀ sz, q_Mx l y_NH_divide prog_1_method_13_code 6 none 9 4 24 D g [.ref (q 0), .int x2, .int x3, .int x4, .int x5, .int x6] ws sz (va_Qv (fun u => iP g q ws u) (q_B D g (va_A ws sz)) (va_A ws sz)) (fun E u => (∃ c : Int32, E = qE c ∧ (c = 1 ∨ c = 2)) ∧ iP g q ws u) := by
  obtain ⟨i2, hi2, e2⟩ := iX x2
  obtain ⟨i3, hi3, e3⟩ := iX x3
  obtain ⟨i4, hi4, e4⟩ := iX x4
  by_cases c23 : i2 = i3
  · by_cases c34 : i3 = i4
    · exact CV_divide_abt l D g q ws x2 x3 x4 x5 x6 i2 hi2 e2 (fun h => by have z := e3 h; omega) (fun h => by have z := e4 h; omega) hlt hI hC
    · exact CV_divide_ab l D g q ws x2 x3 x4 x5 x6 i2 hi2 i4 hi4 e2 (fun h => by have z := e3 h; omega) e4 (by omega) hlt hI hC
  · by_cases c34 : i3 = i4
    · exact CV_divide_bt l D g q ws x2 x3 x4 x5 x6 i2 hi2 i3 hi3 e2 e3 (fun h => by have z := e4 h; omega) (by omega) hlt hI hC
    · exact CV_divide l D g q ws x2 x3 x4 x5 x6 i2 hi2 i3 hi3 i4 hi4 e2 e3 e4 (by omega) (by omega) hlt hI hC
theorem C_quotient (l : Launch) (D : va_G) (g : Nat → ClassId) (q : Nat → Nat) (ws : va_W) (x2 : Int32) (x3 : Int32) (x4 : Int32) (x5 : Int32) (x6 : Int32) (hlt : l.stackTraces = false) (hI : q_I (nsh g q) q ws) (hC : iC g q ws) : ∀ sz, q_Mx l y_NH_quotient prog_1_method_14_code 6 none 9 5 30 D g [.ref (q 0), .int x2, .int x3, .int x4, .int x5, .int x6] ws sz (va_Qv (fun u => iP g q ws u) (q_B D g (va_A ws sz)) (va_A ws sz)) (fun E u => (∃ c : Int32, E = qE c ∧ (c = 1 ∨ c = 2)) ∧ iP g q ws u) := by
  obtain ⟨i2, hi2, e2⟩ := iX x2
  obtain ⟨i3, hi3, e3⟩ := iX x3
  obtain ⟨i4, hi4, e4⟩ := iX x4
  by_cases c23 : i2 = i3
  · by_cases c34 : i3 = i4
    · exact CV_quotient_abt l D g q ws x2 x3 x4 x5 x6 i2 hi2 e2 (fun h => by have z := e3 h; omega) (fun h => by have z := e4 h; omega) hlt hI hC
    · exact CV_quotient_ab l D g q ws x2 x3 x4 x5 x6 i2 hi2 i4 hi4 e2 (fun h => by have z := e3 h; omega) e4 (by omega) hlt hI hC
  · by_cases c34 : i3 = i4
    · exact CV_quotient_bt l D g q ws x2 x3 x4 x5 x6 i2 hi2 i3 hi3 e2 e3 (fun h => by have z := e4 h; omega) (by omega) hlt hI hC
    · exact CV_quotient l D g q ws x2 x3 x4 x5 x6 i2 hi2 i3 hi3 i4 hi4 e2 e3 e4 (by omega) (by omega) hlt hI hC
theorem C_shape (l : Launch) (D : va_G) (g : Nat → ClassId) (q : Nat → Nat) (ws : va_W) (x2 : Int32) (x3 : Int32) (x4 : Int32) (x5 : Int32) (x6 : Int32) (hlt : l.stackTraces = false) (hI : q_I (nsh g q) q ws) (hC : iC g q ws) : ∀ sz, q_Mx l y_NH_shape prog_1_method_15_code 7 none 9 5 30 D g [.ref (q 0), .int x2, .int x3, .int x4, .int x5, .int x6] ws sz (va_Qv (fun u => iP g q ws u) (q_B D g (va_A ws sz)) (va_A ws sz)) (fun E u => (∃ c : Int32, E = qE c ∧ (c = 1 ∨ c = 2)) ∧ iP g q ws u) := by
  obtain ⟨i3, hi3, e3⟩ := iX x3
  obtain ⟨i4, hi4, e4⟩ := iX x4
  exact CV_shape l D g q ws x2 x3 x4 x5 x6 i3 hi3 i4 hi4 e3 e4 hlt hI hC
theorem C_convert (l : Launch) (D : va_G) (g : Nat → ClassId) (q : Nat → Nat) (ws : va_W) (x2 : Int32) (x3 : Int32) (x4 : Int32) (x5 : Int32) (hlt : l.stackTraces = false) (hI : q_I (nsh g q) q ws) (hC : iC g q ws) : ∀ sz, q_Mx l y_NH_convert prog_1_method_16_code 5 none 9 4 24 D g [.ref (q 0), .int x2, .int x3, .int x4, .int x5] ws sz (va_Qv (fun u => iP g q ws u) (q_B D g (va_A ws sz)) (va_A ws sz)) (fun E u => (∃ c : Int32, E = qE c ∧ (c = 1 ∨ c = 2)) ∧ iP g q ws u) := by
  obtain ⟨i3, hi3, e3⟩ := iX x3
  obtain ⟨i5, hi5, e5⟩ := iX x5
  exact CV_convert l D g q ws x2 x3 x4 x5 i3 hi3 i5 hi5 e3 e5 hlt hI hC
theorem C_print (l : Launch) (D : va_G) (g : Nat → ClassId) (q : Nat → Nat) (ws : va_W) (x2 : Int32) (x3 : Int32) (x4 : Int32) (hlt : l.stackTraces = false) (hI : q_I (nsh g q) q ws) (hC : iC g q ws) : ∀ sz, q_Mx l y_NH_print prog_1_method_17_code 4 (some .int) 9 2 12 D g [.ref (q 0), .int x2, .int x3, .int x4] ws sz (va_Qi (fun _ u => iP g q ws u) (q_B D g (va_A ws sz)) (va_A ws sz)) (fun E u => (∃ c : Int32, E = qE c ∧ (c = 1)) ∧ iP g q ws u) := by
  obtain ⟨i3, hi3, e3⟩ := iX x3
  exact CV_print l D g q ws x2 x3 x4 i3 hi3 e3 hlt hI hC
theorem C_figures (l : Launch) (D : va_G) (g : Nat → ClassId) (q : Nat → Nat) (ws : va_W) (x2 : Int32) (x3 : Int32) (x4 : Int32) (x5 : Int32) (x6 : Int32) (hzx4 : 0 ≤ x4.toInt ∧ x4.toInt ≤ 1) (hlt : l.stackTraces = false) (hI : q_I (nsh g q) q ws) (hC : iC g q ws) : ∀ sz, q_Mx l y_NH_figures prog_1_method_18_code 9 (some .int) 8 3 18 D g [.ref (q 0), .int x2, .int x3, .int x4, .int x5, .int x6] ws sz (va_Qi (fun _ u => iP g q ws u) (q_B D g (va_A ws sz)) (va_A ws sz)) (fun E u => (∃ c : Int32, E = qE c ∧ (c = 1 ∨ c = 2)) ∧ iP g q ws u) := by
  exact CV_figures l D g q ws x2 x3 x4 x5 x6 hzx4 hlt hI hC
theorem C_format (l : Launch) (D : va_G) (g : Nat → ClassId) (q : Nat → Nat) (ws : va_W)  (hlt : l.stackTraces = false) (hI : q_I (nsh g q) q ws) (hC : iC g q ws) : ∀ sz, q_Mx l y_NH_format prog_1_method_20_code 2 (some .int) 10 1 6 D g [.ref (q 0)] ws sz (va_Qi (fun _ u => iP g q ws u) (q_B D g (va_A ws sz)) (va_A ws sz)) (fun E u => (∃ c : Int32, E = qE c ∧ (c = 3)) ∧ iP g q ws u) := by
  exact CV_format l D g q ws  hlt hI hC
