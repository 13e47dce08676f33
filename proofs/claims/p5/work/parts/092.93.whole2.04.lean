theorem d_19_26_0 : decode prog_19_method_26_code 0 = .ok (.aload_n 0, 1) := by decide +kernel
theorem d_19_26_1 : decode prog_19_method_26_code 1 = .ok (.iload_n 1, 1) := by decide +kernel
theorem d_19_26_2 : decode prog_19_method_26_code 2 = .ok (.aload_n 2, 1) := by decide +kernel
theorem d_19_26_3 : decode prog_19_method_26_code 3 = .ok (.invokevirtual 107, 3) := by decide +kernel
theorem d_19_26_6 : decode prog_19_method_26_code 6 = .ok (.aload_n 0, 1) := by decide +kernel
theorem d_19_26_7 : decode prog_19_method_26_code 7 = .ok (.aload_n 2, 1) := by decide +kernel
theorem d_19_26_8 : decode prog_19_method_26_code 8 = .ok (.aload_n 0, 1) := by decide +kernel
theorem d_19_26_9 : decode prog_19_method_26_code 9 = .ok (.getfield 47, 3) := by decide +kernel
theorem d_19_26_12 : decode prog_19_method_26_code 12 = .ok (.invokevirtual 122, 3) := by decide +kernel
theorem d_19_26_15 : decode prog_19_method_26_code 15 = .ok (.aload_n 0, 1) := by decide +kernel
theorem d_19_26_16 : decode prog_19_method_26_code 16 = .ok (.getfield 29, 3) := by decide +kernel
theorem d_19_26_19 : decode prog_19_method_26_code 19 = .ok (.aload_n 2, 1) := by decide +kernel
theorem d_19_26_20 : decode prog_19_method_26_code 20 = .ok (.invokestatic 67, 3) := by decide +kernel
theorem d_19_26_23 : decode prog_19_method_26_code 23 = .ok (.aload_n 0, 1) := by decide +kernel
theorem d_19_26_24 : decode prog_19_method_26_code 24 = .ok (.getfield 16, 3) := by decide +kernel
theorem d_19_26_27 : decode prog_19_method_26_code 27 = .ok (.iload_n 1, 1) := by decide +kernel
theorem d_19_26_28 : decode prog_19_method_26_code 28 = .ok (.baload, 1) := by decide +kernel
theorem d_19_26_29 : decode prog_19_method_26_code 29 = .ok (.ifCond .eq 43, 3) := by decide +kernel
theorem d_19_26_72 : decode prog_19_method_26_code 72 = .ok (.return_, 1) := by decide +kernel
theorem d_19_26_32 : decode prog_19_method_26_code 32 = .ok (.aload_n 2, 1) := by decide +kernel
theorem d_19_26_33 : decode prog_19_method_26_code 33 = .ok (.invokestatic 59, 3) := by decide +kernel
theorem d_19_26_36 : decode prog_19_method_26_code 36 = .ok (.ifCond .le 36, 3) := by decide +kernel
theorem d_19_26_39 : decode prog_19_method_26_code 39 = .ok (.aload_n 0, 1) := by decide +kernel
theorem d_19_26_40 : decode prog_19_method_26_code 40 = .ok (.getfield 47, 3) := by decide +kernel
theorem d_19_26_43 : decode prog_19_method_26_code 43 = .ok (.aload_n 0, 1) := by decide +kernel
theorem d_19_26_44 : decode prog_19_method_26_code 44 = .ok (.getfield 20, 3) := by decide +kernel
theorem d_19_26_47 : decode prog_19_method_26_code 47 = .ok (.invokestatic 67, 3) := by decide +kernel
theorem d_19_26_50 : decode prog_19_method_26_code 50 = .ok (.aload_n 0, 1) := by decide +kernel
theorem d_19_26_51 : decode prog_19_method_26_code 51 = .ok (.getfield 20, 3) := by decide +kernel
theorem d_19_26_54 : decode prog_19_method_26_code 54 = .ok (.aload_n 2, 1) := by decide +kernel
theorem d_19_26_55 : decode prog_19_method_26_code 55 = .ok (.aload_n 2, 1) := by decide +kernel
theorem d_19_26_56 : decode prog_19_method_26_code 56 = .ok (.invokestatic 59, 3) := by decide +kernel
theorem d_19_26_59 : decode prog_19_method_26_code 59 = .ok (.lconst 1, 1) := by decide +kernel
theorem d_19_26_60 : decode prog_19_method_26_code 60 = .ok (.iconst 1, 1) := by decide +kernel
theorem d_19_26_61 : decode prog_19_method_26_code 61 = .ok (.invokestatic 75, 3) := by decide +kernel
theorem d_19_26_64 : decode prog_19_method_26_code 64 = .ok (.aload_n 0, 1) := by decide +kernel
theorem d_19_26_65 : decode prog_19_method_26_code 65 = .ok (.getfield 20, 3) := by decide +kernel
theorem d_19_26_68 : decode prog_19_method_26_code 68 = .ok (.aload_n 2, 1) := by decide +kernel
theorem d_19_26_69 : decode prog_19_method_26_code 69 = .ok (.invokestatic 67, 3) := by decide +kernel
def y_WR_reduce : MethodName := ⟨"NumberHouseModel$WholeRows", "reduce", "(I[I)V"⟩
def F_WR_reduce_c12 (x2 : Int32) (N3 : Int32) (t0_0 : Int32) (t0_1 : Int32) (t0_2 : Int32) (t0_3 : Int32) (t0_4 : Int32) (t0_5 : Int32) (t0_6 : Int32) (t1_0 : (Nat → Int32)) (t2_0 : (Nat → Int32)) (t3_0 : (Nat → Int32)) (t4_0 : (Nat → Int32)) (t5_0 : (Nat → Int32)) (t6_0 : (Nat → Int32)) (t7_0 : (Nat → Int32)) (f39 : (Nat → Int32)) (p53 : ((Nat → Int32) × (Nat → Int32))) : (Nat → Int32) × (Nat → Int32) × (Nat → Int32) × (Nat → Int32) := if (t2_0 x2.toNatClampNeg : Int32) = (0 : Int32) then ((t3_0, (p53.1 : (Nat → Int32)), (p53.2 : (Nat → Int32)), ((F_WR_copy (264 : Int32) N3 (p53.1 : (Nat → Int32)) f39) : (Nat → Int32)))) else (if ((F_WR_size N3 ((F_WR_copy (264 : Int32) N3 (p53.1 : (Nat → Int32)) f39) : (Nat → Int32))) : Int32) ≤ (0 : Int32) then ((t3_0, (p53.1 : (Nat → Int32)), (p53.2 : (Nat → Int32)), ((F_WR_copy (264 : Int32) N3 (p53.1 : (Nat → Int32)) f39) : (Nat → Int32)))) else ((((F_WR_join (264 : Int32) N3 ((F_WR_size N3 ((F_WR_copy (264 : Int32) N3 (p53.1 : (Nat → Int32)) f39) : (Nat → Int32))) : Int32) (1 : Int64) (1 : Int32) ((F_WR_copy (264 : Int32) (264 : Int32) t6_0 t3_0) : (Nat → Int32)) ((F_WR_copy (264 : Int32) N3 (p53.1 : (Nat → Int32)) f39) : (Nat → Int32))) : (Nat → Int32)), (p53.1 : (Nat → Int32)), (p53.2 : (Nat → Int32)), ((F_WR_copy (264 : Int32) N3 ((F_WR_join (264 : Int32) N3 ((F_WR_size N3 ((F_WR_copy (264 : Int32) N3 (p53.1 : (Nat → Int32)) f39) : (Nat → Int32))) : Int32) (1 : Int64) (1 : Int32) ((F_WR_copy (264 : Int32) (264 : Int32) t6_0 t3_0) : (Nat → Int32)) ((F_WR_copy (264 : Int32) N3 (p53.1 : (Nat → Int32)) f39) : (Nat → Int32))) : (Nat → Int32)) ((F_WR_copy (264 : Int32) N3 (p53.1 : (Nat → Int32)) f39) : (Nat → Int32))) : (Nat → Int32)))))
def F_WR_reduce (x2 : Int32) (N3 : Int32) (t0_0 : Int32) (t0_1 : Int32) (t0_2 : Int32) (t0_3 : Int32) (t0_4 : Int32) (t0_5 : Int32) (t0_6 : Int32) (t1_0 : (Nat → Int32)) (t2_0 : (Nat → Int32)) (t3_0 : (Nat → Int32)) (t4_0 : (Nat → Int32)) (t5_0 : (Nat → Int32)) (t6_0 : (Nat → Int32)) (t7_0 : (Nat → Int32)) : (Nat → Int32) × (Nat → Int32) × (Nat → Int32) × (Nat → Int32) := F_WR_reduce_c12 x2 N3 t0_0 t0_1 t0_2 t0_3 t0_4 t0_5 t0_6 t1_0 t2_0 t3_0 t4_0 t5_0 t6_0 t7_0 ((F_WR_take x2 N3 t0_0 t0_1 t0_2 t0_3 t0_4 t0_5 t0_6 t1_0 t7_0) : (Nat → Int32)) ((F_WR_divideRows N3 (264 : Int32) t0_0 t0_1 t0_2 t0_3 t0_4 t0_5 t0_6 t4_0 t5_0 ((F_WR_take x2 N3 t0_0 t0_1 t0_2 t0_3 t0_4 t0_5 t0_6 t1_0 t7_0) : (Nat → Int32)) t6_0) : ((Nat → Int32) × (Nat → Int32)))
def S_WR_reduce_c12 (x2 : Int32) (N3 : Int32) (t0_0 : Int32) (t0_1 : Int32) (t0_2 : Int32) (t0_3 : Int32) (t0_4 : Int32) (t0_5 : Int32) (t0_6 : Int32) (t1_0 : (Nat → Int32)) (t2_0 : (Nat → Int32)) (t3_0 : (Nat → Int32)) (t4_0 : (Nat → Int32)) (t5_0 : (Nat → Int32)) (t6_0 : (Nat → Int32)) (t7_0 : (Nat → Int32)) (f39 : (Nat → Int32)) (p53 : ((Nat → Int32) × (Nat → Int32))) : Prop := (0 ≤ x2.toInt) ∧ ((x2.toInt ≤ 10) ∧ (if (t2_0 x2.toNatClampNeg : Int32) = (0 : Int32) then (True) else (if ((F_WR_size N3 ((F_WR_copy (264 : Int32) N3 (p53.1 : (Nat → Int32)) f39) : (Nat → Int32))) : Int32) ≤ (0 : Int32) then (True) else ((True ∧ S_WR_join (264 : Int32) N3 ((F_WR_size N3 ((F_WR_copy (264 : Int32) N3 (p53.1 : (Nat → Int32)) f39) : (Nat → Int32))) : Int32) (1 : Int64) (1 : Int32) ((F_WR_copy (264 : Int32) (264 : Int32) t6_0 t3_0) : (Nat → Int32)) ((F_WR_copy (264 : Int32) N3 (p53.1 : (Nat → Int32)) f39) : (Nat → Int32))) ∧ (True)))))
def S_WR_reduce (x2 : Int32) (N3 : Int32) (t0_0 : Int32) (t0_1 : Int32) (t0_2 : Int32) (t0_3 : Int32) (t0_4 : Int32) (t0_5 : Int32) (t0_6 : Int32) (t1_0 : (Nat → Int32)) (t2_0 : (Nat → Int32)) (t3_0 : (Nat → Int32)) (t4_0 : (Nat → Int32)) (t5_0 : (Nat → Int32)) (t6_0 : (Nat → Int32)) (t7_0 : (Nat → Int32)) : Prop := (True ∧ S_WR_take x2 N3 t0_0 t0_1 t0_2 t0_3 t0_4 t0_5 t0_6 t1_0 t7_0) ∧ ((True ∧ S_WR_divideRows N3 (264 : Int32) t0_0 t0_1 t0_2 t0_3 t0_4 t0_5 t0_6 t4_0 t5_0 ((F_WR_take x2 N3 t0_0 t0_1 t0_2 t0_3 t0_4 t0_5 t0_6 t1_0 t7_0) : (Nat → Int32)) t6_0) ∧ (S_WR_reduce_c12 x2 N3 t0_0 t0_1 t0_2 t0_3 t0_4 t0_5 t0_6 t1_0 t2_0 t3_0 t4_0 t5_0 t6_0 t7_0 ((F_WR_take x2 N3 t0_0 t0_1 t0_2 t0_3 t0_4 t0_5 t0_6 t1_0 t7_0) : (Nat → Int32)) ((F_WR_divideRows N3 (264 : Int32) t0_0 t0_1 t0_2 t0_3 t0_4 t0_5 t0_6 t4_0 t5_0 ((F_WR_take x2 N3 t0_0 t0_1 t0_2 t0_3 t0_4 t0_5 t0_6 t1_0 t7_0) : (Nat → Int32)) t6_0) : ((Nat → Int32) × (Nat → Int32)))))
set_option maxRecDepth 100000 in
set_option maxHeartbeats 4000000 in
theorem X_WR_reduce (l : Launch) (D : va_G) (g : Nat → ClassId) (q : Nat → Nat) (ws : va_W) (k3 : Nat) (N3 : Int32) (hB3 : q_isRow (msh g q) g k3 N3) (x2 : Int32) (ne_k3_121 : k3 ≠ 121) (ne_k3_122 : k3 ≠ 122) (ne_k3_123 : k3 ≠ 123) (ne_k3_126 : k3 ≠ 126) (ne_k3_127 : k3 ≠ 127) (ne_k3_132 : k3 ≠ 132) (hI : q_I (msh g q) q ws) (t0_0 : Int32) (t0_1 : Int32) (t0_2 : Int32) (t0_3 : Int32) (t0_4 : Int32) (t0_5 : Int32) (t0_6 : Int32) (hT0 : ws[119]? = (some (q 119, .inr (13, [.int t0_0, .int t0_1, .ref (q 120), .int t0_2, .ref (q 121), .ref (q 122), .ref (q 123), .int t0_3, .ref (q 124), .ref (q 125), .ref (q 126), .ref (q 127), .ref (q 128), .ref (q 129), .ref (q 130), .ref (q 131), .int t0_4, .int t0_5, .ref (q 132), .ref (q 133), .int t0_6])) : Option (Nat × va_E))) (t1_0 : (Nat → Int32)) (hT1 : ws[121]? = (some (q 121, .inl (g 0, (1408 : Int32).toNatClampNeg, .inl t1_0)) : Option (Nat × va_E))) (t2_0 : (Nat → Int32)) (hT2 : ws[122]? = (some (q 122, .inl (g 3, 11, .inl t2_0)) : Option (Nat × va_E))) (t3_0 : (Nat → Int32)) (hT3 : ws[123]? = (some (q 123, .inl (g 0, (264 : Int32).toNatClampNeg, .inl t3_0)) : Option (Nat × va_E))) (t4_0 : (Nat → Int32)) (hT4 : ws[126]? = (some (q 126, .inl (g 0, (264 : Int32).toNatClampNeg, .inl t4_0)) : Option (Nat × va_E))) (t5_0 : (Nat → Int32)) (hT5 : ws[127]? = (some (q 127, .inl (g 0, (264 : Int32).toNatClampNeg, .inl t5_0)) : Option (Nat × va_E))) (t6_0 : (Nat → Int32)) (hT6 : ws[132]? = (some (q 132, .inl (g 0, (264 : Int32).toNatClampNeg, .inl t6_0)) : Option (Nat × va_E))) (t7_0 : (Nat → Int32)) (hT7 : ws[k3]? = (some (q k3, .inl (g 0, N3.toNatClampNeg, .inl t7_0)) : Option (Nat × va_E))) (hS : True ∧ S_WR_reduce x2 N3 t0_0 t0_1 t0_2 t0_3 t0_4 t0_5 t0_6 t1_0 t2_0 t3_0 t4_0 t5_0 t6_0 t7_0) : q_mV l y_WR_reduce prog_19_method_26_code 3 3 0 0 D g [.ref (q 119), .int x2, .ref (q k3)] ws (fun u => q_I (msh g q) q u ∧ q_un ws u [123, 126, 127, k3] ∧ ∃ (u3_0 : (Nat → Int32)) (u4_0 : (Nat → Int32)) (u5_0 : (Nat → Int32)) (u7_0 : (Nat → Int32)), u[123]? = (some (q 123, .inl (g 0, (264 : Int32).toNatClampNeg, .inl u3_0)) : Option (Nat × va_E)) ∧ u[126]? = (some (q 126, .inl (g 0, (264 : Int32).toNatClampNeg, .inl u4_0)) : Option (Nat × va_E)) ∧ u[127]? = (some (q 127, .inl (g 0, (264 : Int32).toNatClampNeg, .inl u5_0)) : Option (Nat × va_E)) ∧ u[k3]? = (some (q k3, .inl (g 0, N3.toNatClampNeg, .inl u7_0)) : Option (Nat × va_E)) ∧ (u3_0, u4_0, u5_0, u7_0) = (F_WR_reduce x2 N3 t0_0 t0_1 t0_2 t0_3 t0_4 t0_5 t0_6 t1_0 t2_0 t3_0 t4_0 t5_0 t6_0 t7_0)) := by
  intro sz
  refine q_into (by decide) (Nat.le_of_ble_eq_true rfl) ?_
  intro p e s m below meth c ls hsz C0 V hl
  have hx := C0.1
  have hb := C0.2.1
  have hZ9 := (n_w119 hI hT0).2.2.2
  obtain ⟨-, btt0_6⟩ := hZ9
  clear btt0_6
  have hF : q_un ws ws [123, 126, 127, k3] := q_u0
  have hl : lv_has ls 3 [(0, .ref (q 119)), (1, .int x2), (2, .ref (q k3))] := hl
  refine lv_aload_n hx hb d_19_26_0 rfl (lv_at hl 0 rfl) ?_
  refine lv_iload_n hx hb d_19_26_1 rfl (lv_at hl 1 rfl) ?_
  refine lv_aload_n hx hb d_19_26_2 rfl (lv_at hl 2 rfl) ?_
  have ne35 := q_df hT7 hT0
  have ob36 : True ∧ S_WR_take x2 N3 t0_0 t0_1 t0_2 t0_3 t0_4 t0_5 t0_6 t1_0 t7_0 := (by have h := hS; rw [S_WR_reduce.eq_1] at h; with_reducible exact h.2.1)
  refine q_gov V (q_runV (As := [.int x2, .ref (q k3)]) (rest := []) (d := 1) (mc := 0) (ms := 0) (ci := 13) C0 V rfl LV_WR_107 (X_WR_take l D g q ws k3 N3 hB3 x2 (by have z := ne_k3_121; omega) hI t0_0 t0_1 t0_2 t0_3 t0_4 t0_5 t0_6 hT0 t1_0 hT1 t7_0 hT7 ob36 _) rfl rfl hT0 rfl hl.1 rfl (Nat.le_of_ble_eq_true rfl) ⟨by decide, by decide⟩ ⟨Nat.le_of_ble_eq_true rfl, Nat.le_of_ble_eq_true rfl⟩ d_19_26_3) (fun u37 H locs hp38 V => ?_)
  obtain ⟨hI, hu42, f39, hA40, hE41⟩ := hp38
  replace hA40 : u37[k3]? = (some (q k3, .inl (g 0, N3.toNatClampNeg, .inl f39)) : Option (Nat × va_E)) := hA40
  have e43 : f39 = (F_WR_take x2 N3 t0_0 t0_1 t0_2 t0_3 t0_4 t0_5 t0_6 t1_0 t7_0) := hE41
  replace hT0 := (hu42 _ (q_nc (Ne.symm ne35) List.not_mem_nil)).trans hT0
  replace hT2 := (hu42 _ (by simp only [List.mem_cons, List.not_mem_nil, or_false, not_or]; omega)).trans hT2
  replace hT3 := (hu42 _ (by simp only [List.mem_cons, List.not_mem_nil, or_false, not_or]; omega)).trans hT3
  replace hT4 := (hu42 _ (by simp only [List.mem_cons, List.not_mem_nil, or_false, not_or]; omega)).trans hT4
  replace hT5 := (hu42 _ (by simp only [List.mem_cons, List.not_mem_nil, or_false, not_or]; omega)).trans hT5
  replace hT6 := (hu42 _ (by simp only [List.mem_cons, List.not_mem_nil, or_false, not_or]; omega)).trans hT6
  replace hF := q_uc hF hu42 (by simp)
  refine lv_aload_n hx hb d_19_26_6 rfl (lv_at hl 0 rfl) ?_
  refine lv_aload_n hx hb d_19_26_7 rfl (lv_at hl 2 rfl) ?_
  refine lv_aload_n hx hb d_19_26_8 rfl (lv_at hl 0 rfl) ?_
  refine q_get (ci := 13) (j := 18) (v := .ref (q 132)) C0 V i_WR rfl rfl hT0 (by decide) w_1942 rfl d_19_26_9 ?_
  have ob44 : True ∧ S_WR_divideRows N3 (264 : Int32) t0_0 t0_1 t0_2 t0_3 t0_4 t0_5 t0_6 t4_0 t5_0 f39 t6_0 := (by rw [e43]; have h := hS; rw [S_WR_reduce.eq_1] at h; replace h := q_s2 h; with_reducible exact h.2.1)
  refine q_gov V (q_runV (As := [.ref (q k3), .ref (q 132)]) (rest := []) (d := 2) (mc := 0) (ms := 0) (ci := 13) C0 V rfl LV_WR_122 (X_WR_divideRows l D g q u37 k3 N3 hB3 132 264 (n_r132 g q)  (by have z := ne_k3_126; omega) (by have z := ne_k3_127; omega) (by decide) (by decide) (by have z := ne_k3_132; omega) hI t0_0 t0_1 t0_2 t0_3 t0_4 t0_5 t0_6 hT0 t4_0 hT4 t5_0 hT5 f39 hA40 t6_0 hT6 ob44 _) rfl rfl hT0 rfl hl.1 rfl (Nat.le_of_ble_eq_true rfl) ⟨by decide, by decide⟩ ⟨Nat.le_of_ble_eq_true rfl, Nat.le_of_ble_eq_true rfl⟩ d_19_26_12) (fun u45 H locs hp46 V => ?_)
  obtain ⟨hI, hZ9⟩ := hp46
  obtain ⟨hu52, hZ9⟩ := hZ9
  obtain ⟨f47, hZ9⟩ := hZ9
  obtain ⟨f49, hZ9⟩ := hZ9
  obtain ⟨hA48, hZ9⟩ := hZ9
  obtain ⟨hA50, hE51⟩ := hZ9
  replace hA48 : u45[126]? = (some (q 126, .inl (g 0, (264 : Int32).toNatClampNeg, .inl f47)) : Option (Nat × va_E)) := hA48
  replace hA50 : u45[127]? = (some (q 127, .inl (g 0, (264 : Int32).toNatClampNeg, .inl f49)) : Option (Nat × va_E)) := hA50
  obtain ⟨p53, e54⟩ : ∃ z, z = (F_WR_divideRows N3 (264 : Int32) t0_0 t0_1 t0_2 t0_3 t0_4 t0_5 t0_6 t4_0 t5_0 f39 t6_0) := ⟨_, rfl⟩
  have e55 : f47 = p53.1 := congrArg (fun z => z.1) (hE51.trans e54.symm)
  have e56 : f49 = p53.2 := congrArg (fun z => z.2) (hE51.trans e54.symm)
  replace hT0 := (hu52 _ (by decide)).trans hT0
  replace hT2 := (hu52 _ (by decide)).trans hT2
  replace hT3 := (hu52 _ (by decide)).trans hT3
  replace hT6 := (hu52 _ (by decide)).trans hT6
  replace hA40 := (hu52 _ (by simp only [List.mem_cons, List.not_mem_nil, or_false, not_or]; omega)).trans hA40
  replace hF := q_uc hF hu52 (by simp)
  have hR57 := (show F_WR_reduce_c12 x2 N3 t0_0 t0_1 t0_2 t0_3 t0_4 t0_5 t0_6 t1_0 t2_0 t3_0 t4_0 t5_0 t6_0 t7_0 f39 p53 = (F_WR_reduce x2 N3 t0_0 t0_1 t0_2 t0_3 t0_4 t0_5 t0_6 t1_0 t2_0 t3_0 t4_0 t5_0 t6_0 t7_0) from (by rw [e54, e43, F_WR_reduce.eq_1]))
  have hS58 := (show True ∧ S_WR_reduce_c12 x2 N3 t0_0 t0_1 t0_2 t0_3 t0_4 t0_5 t0_6 t1_0 t2_0 t3_0 t4_0 t5_0 t6_0 t7_0 f39 p53 from (by rw [e54, e43]; have h := hS; rw [S_WR_reduce.eq_1] at h; replace h := q_s2 h; replace h := q_s2 h; with_reducible exact h))
  refine lv_aload_n hx hb d_19_26_15 rfl (lv_at hl 0 rfl) ?_
  refine q_get (ci := 13) (j := 10) (v := .ref (q 126)) C0 V i_WR rfl rfl hT0 (by decide) w_1934 rfl d_19_26_16 ?_
  refine lv_aload_n hx hb d_19_26_19 rfl (lv_at hl 2 rfl) ?_
  have ne62 := q_df hA40 hT0
  refine q_gov V (q_runS (As := [.ref (q 126), .ref (q k3)]) (rest := []) (d := 1) (mc := 0) (ms := 0) C0 V rfl LS_WR_67 (X_WR_copy l D g q u45 126 264 (n_r126 g q) k3 N3 hB3  (by have z := ne_k3_126; omega) hI f47 hA48 f39 hA40  _) rfl hl.1 rfl (Nat.le_of_ble_eq_true rfl) ⟨by decide, by decide⟩ ⟨Nat.le_of_ble_eq_true rfl, Nat.le_of_ble_eq_true rfl⟩ d_19_26_20) (fun u63 H locs hp64 V => ?_)
  obtain ⟨hI, hu68, f65, hA66, hE67⟩ := hp64
  replace hA66 : u63[k3]? = (some (q k3, .inl (g 0, N3.toNatClampNeg, .inl f65)) : Option (Nat × va_E)) := hA66
  have e69 : f65 = (F_WR_copy (264 : Int32) N3 f47 f39) := hE67
  replace hT0 := (hu68 _ (q_nc (Ne.symm ne62) List.not_mem_nil)).trans hT0
  replace hT2 := (hu68 _ (by simp only [List.mem_cons, List.not_mem_nil, or_false, not_or]; omega)).trans hT2
  replace hT3 := (hu68 _ (by simp only [List.mem_cons, List.not_mem_nil, or_false, not_or]; omega)).trans hT3
  replace hA48 := (hu68 _ (by simp only [List.mem_cons, List.not_mem_nil, or_false, not_or]; omega)).trans hA48
  replace hA50 := (hu68 _ (by simp only [List.mem_cons, List.not_mem_nil, or_false, not_or]; omega)).trans hA50
  replace hT6 := (hu68 _ (by simp only [List.mem_cons, List.not_mem_nil, or_false, not_or]; omega)).trans hT6
  replace hF := q_uc hF hu68 (by simp)
  refine lv_aload_n hx hb d_19_26_23 rfl (lv_at hl 0 rfl) ?_
  refine q_get (ci := 13) (j := 5) (v := .ref (q 122)) C0 V i_WR rfl rfl hT0 (by decide) w_1929 rfl d_19_26_24 ?_
  refine lv_iload_n hx hb d_19_26_27 rfl (lv_at hl 1 rfl) ?_
  have ob70 : q_F (0 ≤ x2.toInt) := (by have h := hS58; rw [S_WR_reduce_c12.eq_1] at h; exact h.2.1)
  have ob71 : q_F (x2.toInt ≤ 10) := (by have h := hS58; rw [S_WR_reduce_c12.eq_1] at h; replace h := q_s2 h; exact h.2.1)
  refine q_zald C0 V hT2 (q_ix (x := x2.toInt) rfl (by first | with_reducible exact q_fe ob70 | (have t1 : 0 ≤ x2.toInt := ob70; omega)) (by have t1 : 0 ≤ x2.toInt := ob70; have t2 : x2.toInt ≤ 10 := ob71; omega)) d_19_26_28 ?_
  obtain ⟨a72, e73⟩ := q_nm (t2_0 x2.toNatClampNeg : Int32)
  refine q_ti (v := a72) e73 ?_
  refine lv_if_eq (tgt := 72) hx hb d_19_26_29 (by decide) (fun c74 => ?_) (fun c74 => ?_)
  ·
    exact q_retv C0 V (⟨hI, hF, t3_0, f47, f49, f65, hT3, hA48, hA50, hA66, (show (t3_0, f47, f49, f65) = (F_WR_reduce x2 N3 t0_0 t0_1 t0_2 t0_3 t0_4 t0_5 t0_6 t1_0 t2_0 t3_0 t4_0 t5_0 t6_0 t7_0) from Eq.trans (by have c74x := c74; rw [← e73] at c74x; rw [e69, e56, e55, F_WR_reduce_c12.eq_1, if_pos c74x]) hR57)⟩) d_19_26_72
  ·
    refine lv_aload_n hx hb d_19_26_32 rfl (lv_at hl 2 rfl) ?_
    refine q_goi V (q_runS (As := [.ref (q k3)]) (rest := []) (d := 1) (mc := 0) (ms := 0) C0 V rfl LS_WR_59 (X_WR_size l D g q u63 k3 N3 hB3  hI f65 hA66  _) rfl hl.1 rfl (Nat.le_of_ble_eq_true rfl) ⟨by decide, by decide⟩ ⟨Nat.le_of_ble_eq_true rfl, Nat.le_of_ble_eq_true rfl⟩ d_19_26_33) (fun a79 u77 H locs hp78 V => ?_)
    obtain ⟨rfl, b80, b81, hE82⟩ := hp78
    have e83 : a79 = (F_WR_size N3 f65) := hE82
    clear b80
    clear b81
    refine lv_if_le (tgt := 72) hx hb d_19_26_36 (by decide) (fun c84 => ?_) (fun c84 => ?_)
    ·
      exact q_retv C0 V (⟨hI, hF, t3_0, f47, f49, f65, hT3, hA48, hA50, hA66, (show (t3_0, f47, f49, f65) = (F_WR_reduce x2 N3 t0_0 t0_1 t0_2 t0_3 t0_4 t0_5 t0_6 t1_0 t2_0 t3_0 t4_0 t5_0 t6_0 t7_0) from Eq.trans (by have c74x := c74; rw [← e73] at c74x; have c84x := c84; rw [e83, e69, e55] at c84x; rw [e69, e56, e55, F_WR_reduce_c12.eq_1, if_neg c74x, if_pos c84x]) hR57)⟩) d_19_26_72
    ·
      refine lv_aload_n hx hb d_19_26_39 rfl (lv_at hl 0 rfl) ?_
      refine q_get (ci := 13) (j := 18) (v := .ref (q 132)) C0 V i_WR rfl rfl hT0 (by decide) w_1942 rfl d_19_26_40 ?_
      refine lv_aload_n hx hb d_19_26_43 rfl (lv_at hl 0 rfl) ?_
      refine q_get (ci := 13) (j := 6) (v := .ref (q 123)) C0 V i_WR rfl rfl hT0 (by decide) w_1930 rfl d_19_26_44 ?_
      refine q_gov V (q_runS (As := [.ref (q 132), .ref (q 123)]) (rest := []) (d := 1) (mc := 0) (ms := 0) C0 V rfl LS_WR_67 (X_WR_copy l D g q u63 132 264 (n_r132 g q) 123 264 (n_r123 g q)  (by decide) hI t6_0 hT6 t3_0 hT3  _) rfl hl.1 rfl (Nat.le_of_ble_eq_true rfl) ⟨by decide, by decide⟩ ⟨Nat.le_of_ble_eq_true rfl, Nat.le_of_ble_eq_true rfl⟩ d_19_26_47) (fun u87 H locs hp88 V => ?_)
      obtain ⟨hI, hu92, f89, hA90, hE91⟩ := hp88
      replace hA90 : u87[123]? = (some (q 123, .inl (g 0, (264 : Int32).toNatClampNeg, .inl f89)) : Option (Nat × va_E)) := hA90
      have e93 : f89 = (F_WR_copy (264 : Int32) (264 : Int32) t6_0 t3_0) := hE91
      replace hT0 := (hu92 _ (by decide)).trans hT0
      replace hA48 := (hu92 _ (by decide)).trans hA48
      replace hA50 := (hu92 _ (by decide)).trans hA50
      replace hA66 := (hu92 _ (by simp only [List.mem_cons, List.not_mem_nil, or_false, not_or]; omega)).trans hA66
      replace hF := q_uc hF hu92 (by simp)
      refine lv_aload_n hx hb d_19_26_50 rfl (lv_at hl 0 rfl) ?_
      refine q_get (ci := 13) (j := 6) (v := .ref (q 123)) C0 V i_WR rfl rfl hT0 (by decide) w_1930 rfl d_19_26_51 ?_
      refine lv_aload_n hx hb d_19_26_54 rfl (lv_at hl 2 rfl) ?_
      refine lv_aload_n hx hb d_19_26_55 rfl (lv_at hl 2 rfl) ?_
      refine q_goi V (q_runS (As := [.ref (q k3)]) (rest := [.ref (q k3), .ref (q 123)]) (d := 1) (mc := 0) (ms := 0) C0 V rfl LS_WR_59 (X_WR_size l D g q u87 k3 N3 hB3  hI f65 hA66  _) rfl hl.1 rfl (Nat.le_of_ble_eq_true rfl) ⟨by decide, by decide⟩ ⟨Nat.le_of_ble_eq_true rfl, Nat.le_of_ble_eq_true rfl⟩ d_19_26_56) (fun a96 u94 H locs hp95 V => ?_)
      obtain ⟨rfl, b97, b98, hE99⟩ := hp95
      have e100 : a96 = (F_WR_size N3 f65) := hE99
      clear b97
      clear b98
      refine lv_lconst (v := 1) hx hb d_19_26_59 (by decide) ?_
      refine lv_iconst (v := 1) hx hb d_19_26_60 (by decide) ?_
      have ob101 : True ∧ S_WR_join (264 : Int32) N3 a96 (1 : Int64) (1 : Int32) f89 f65 := (by rw [e100, e93, e69, e55]; have h := hS58; rw [S_WR_reduce_c12.eq_1] at h; replace h := q_s2 h; replace h := q_s2 h; have c74x := c74; rw [← e73] at c74x; rw [if_neg c74x] at h; have c84x := c84; rw [e83, e69, e55] at c84x; rw [if_neg c84x] at h; with_reducible exact h.2.1)
      refine q_gov V (q_runS (As := [.ref (q 123), .ref (q k3), .int a96, .long 1, .int 1]) (rest := []) (d := 1) (mc := 0) (ms := 0) C0 V rfl LS_WR_75 (X_WR_join l D g q u87 123 264 (n_r123 g q) k3 N3 hB3 a96 1 1 (by have z := ne_k3_123; omega) hI f89 hA90 f65 hA66 ⟨(by have y0 : (264 : Int32).toInt = 264 := rfl; have y1 : (1 : Int64).toInt = 1 := rfl; have y2 : (1 : Int32).toInt = 1 := rfl; omega), (by have y0 : (264 : Int32).toInt = 264 := rfl; have y1 : (1 : Int64).toInt = 1 := rfl; have y2 : (1 : Int32).toInt = 1 := rfl; omega)⟩ ob101 _) rfl hl.1 rfl (Nat.le_of_ble_eq_true rfl) ⟨by decide, by decide⟩ ⟨Nat.le_of_ble_eq_true rfl, Nat.le_of_ble_eq_true rfl⟩ d_19_26_61) (fun u102 H locs hp103 V => ?_)
      obtain ⟨hI, hu107, f104, hA105, hE106⟩ := hp103
      replace hA105 : u102[123]? = (some (q 123, .inl (g 0, (264 : Int32).toNatClampNeg, .inl f104)) : Option (Nat × va_E)) := hA105
      have e108 : f104 = (F_WR_join (264 : Int32) N3 a96 (1 : Int64) (1 : Int32) f89 f65) := hE106
      replace hT0 := (hu107 _ (by decide)).trans hT0
      replace hA48 := (hu107 _ (by decide)).trans hA48
      replace hA50 := (hu107 _ (by decide)).trans hA50
      replace hA66 := (hu107 _ (by simp only [List.mem_cons, List.not_mem_nil, or_false, not_or]; omega)).trans hA66
      replace hF := q_uc hF hu107 (by simp)
      refine lv_aload_n hx hb d_19_26_64 rfl (lv_at hl 0 rfl) ?_
      refine q_get (ci := 13) (j := 6) (v := .ref (q 123)) C0 V i_WR rfl rfl hT0 (by decide) w_1930 rfl d_19_26_65 ?_
      refine lv_aload_n hx hb d_19_26_68 rfl (lv_at hl 2 rfl) ?_
      have ne109 := q_df hA66 hT0
      refine q_gov V (q_runS (As := [.ref (q 123), .ref (q k3)]) (rest := []) (d := 1) (mc := 0) (ms := 0) C0 V rfl LS_WR_67 (X_WR_copy l D g q u102 123 264 (n_r123 g q) k3 N3 hB3  (by have z := ne_k3_123; omega) hI f104 hA105 f65 hA66  _) rfl hl.1 rfl (Nat.le_of_ble_eq_true rfl) ⟨by decide, by decide⟩ ⟨Nat.le_of_ble_eq_true rfl, Nat.le_of_ble_eq_true rfl⟩ d_19_26_69) (fun u110 H locs hp111 V => ?_)
      obtain ⟨hI, hu115, f112, hA113, hE114⟩ := hp111
      replace hA113 : u110[k3]? = (some (q k3, .inl (g 0, N3.toNatClampNeg, .inl f112)) : Option (Nat × va_E)) := hA113
      have e116 : f112 = (F_WR_copy (264 : Int32) N3 f104 f65) := hE114
      replace hA105 := (hu115 _ (by simp only [List.mem_cons, List.not_mem_nil, or_false, not_or]; omega)).trans hA105
      replace hA48 := (hu115 _ (by simp only [List.mem_cons, List.not_mem_nil, or_false, not_or]; omega)).trans hA48
      replace hA50 := (hu115 _ (by simp only [List.mem_cons, List.not_mem_nil, or_false, not_or]; omega)).trans hA50
      replace hF := q_uc hF hu115 (by simp)
      exact q_retv C0 V (⟨hI, hF, f104, f47, f49, f112, hA105, hA48, hA50, hA113, (show (f104, f47, f49, f112) = (F_WR_reduce x2 N3 t0_0 t0_1 t0_2 t0_3 t0_4 t0_5 t0_6 t1_0 t2_0 t3_0 t4_0 t5_0 t6_0 t7_0) from Eq.trans (by have c74x := c74; rw [← e73] at c74x; have c84x := c84; rw [e83, e69, e55] at c84x; rw [e116, e108, e100, e93, e69, e56, e55, F_WR_reduce_c12.eq_1, if_neg c74x, if_neg c84x]) hR57)⟩) d_19_26_72
theorem d_19_27_0 : decode prog_19_method_27_code 0 = .ok (.aload_n 0, 1) := by decide +kernel
theorem d_19_27_1 : decode prog_19_method_27_code 1 = .ok (.iload_n 1, 1) := by decide +kernel
theorem d_19_27_2 : decode prog_19_method_27_code 2 = .ok (.invokestatic 91, 3) := by decide +kernel
theorem d_19_27_39 : decode prog_19_method_27_code 39 = .ok (.putfield 53, 3) := by decide +kernel
theorem d_19_27_42 : decode prog_19_method_27_code 42 = .ok (.aload_n 0, 1) := by decide +kernel
theorem d_19_27_43 : decode prog_19_method_27_code 43 = .ok (.getfield 53, 3) := by decide +kernel
theorem d_19_27_46 : decode prog_19_method_27_code 46 = .ok (.ifCond .le 4, 3) := by decide +kernel
theorem d_19_27_50 : decode prog_19_method_27_code 50 = .ok (.aload_n 0, 1) := by decide +kernel
theorem d_19_27_51 : decode prog_19_method_27_code 51 = .ok (.iload_n 2, 1) := by decide +kernel
theorem d_19_27_52 : decode prog_19_method_27_code 52 = .ok (.aload_n 0, 1) := by decide +kernel
theorem d_19_27_53 : decode prog_19_method_27_code 53 = .ok (.getfield 47, 3) := by decide +kernel
theorem d_19_27_56 : decode prog_19_method_27_code 56 = .ok (.invokevirtual 107, 3) := by decide +kernel
theorem d_19_27_59 : decode prog_19_method_27_code 59 = .ok (.aload_n 0, 1) := by decide +kernel
theorem d_19_27_60 : decode prog_19_method_27_code 60 = .ok (.iload_n 1, 1) := by decide +kernel
theorem d_19_27_61 : decode prog_19_method_27_code 61 = .ok (.aload_n 0, 1) := by decide +kernel
theorem d_19_27_62 : decode prog_19_method_27_code 62 = .ok (.getfield 35, 3) := by decide +kernel
theorem d_19_27_65 : decode prog_19_method_27_code 65 = .ok (.invokevirtual 128, 3) := by decide +kernel
set_option maxRecDepth 100000 in
theorem w_2723 : (Cond.code ({ cls := "NumberHouseModel$WholeRows", name := "reduce", desc := "(I[I)V" } : MethodName) prog_19_method_26_code (3 : Nat) (none : Option ClassFile.FieldType)) ∈ q_tbl := q_of12 83 rfl (by decide +kernel)
set_option maxRecDepth 100000 in
theorem w_2720 : (Cond.methodLink "NumberHouseModel$WholeRows" (128 : Nat) ({ cls := "NumberHouseModel$WholeRows", name := "reduce", desc := "(I[I)V" } : MethodName)) ∈ q_tbl := q_of12 80 rfl (by decide +kernel)
set_option maxRecDepth 100000 in
theorem w_2722 : (Cond.instanceMethod ({ cls := "NumberHouseModel$WholeRows", name := "reduce", desc := "(I[I)V" } : MethodName)) ∈ q_tbl := q_of12 82 rfl (by decide +kernel)
theorem ws_106 : Cond.selects "NumberHouseModel$WholeRows" (⟨"NumberHouseModel$WholeRows", "reduce", "(I[I)V"⟩ : MethodName) (⟨"NumberHouseModel$WholeRows", "reduce", "(I[I)V"⟩ : MethodName) ∈ q_tbl := q_ofs 106 (by decide +kernel) (by decide +kernel)
theorem LV_WR_128 : q_LV "NumberHouseModel$WholeRows" 128 y_WR_reduce prog_19_method_26_code 3 none 2 := ⟨w_2723, w_15, w_2720, w_2722, ws_106, ⟨by decide, by decide, by decide +kernel⟩⟩
theorem d_19_27_68 : decode prog_19_method_27_code 68 = .ok (.aload_n 0, 1) := by decide +kernel
theorem d_19_27_69 : decode prog_19_method_27_code 69 = .ok (.getfield 35, 3) := by decide +kernel
theorem d_19_27_72 : decode prog_19_method_27_code 72 = .ok (.aload_n 0, 1) := by decide +kernel
theorem d_19_27_73 : decode prog_19_method_27_code 73 = .ok (.getfield 20, 3) := by decide +kernel
theorem d_19_27_76 : decode prog_19_method_27_code 76 = .ok (.invokestatic 67, 3) := by decide +kernel
theorem d_19_27_79 : decode prog_19_method_27_code 79 = .ok (.aload_n 0, 1) := by decide +kernel
theorem d_19_27_80 : decode prog_19_method_27_code 80 = .ok (.iconst 0, 1) := by decide +kernel
theorem d_19_27_81 : decode prog_19_method_27_code 81 = .ok (.putfield 82, 3) := by decide +kernel
theorem d_19_27_84 : decode prog_19_method_27_code 84 = .ok (.aload_n 0, 1) := by decide +kernel
theorem d_19_27_85 : decode prog_19_method_27_code 85 = .ok (.iload_n 3, 1) := by decide +kernel
theorem d_19_27_86 : decode prog_19_method_27_code 86 = .ok (.invokevirtual 103, 3) := by decide +kernel
theorem d_19_27_89 : decode prog_19_method_27_code 89 = .ok (.return_, 1) := by decide +kernel
theorem d_19_27_49 : decode prog_19_method_27_code 49 = .ok (.return_, 1) := by decide +kernel
theorem d_19_27_22 : decode prog_19_method_27_code 22 = .ok (.iconst 1, 1) := by decide +kernel
theorem d_19_27_23 : decode prog_19_method_27_code 23 = .ok (.goto 16, 3) := by decide +kernel
theorem d_19_27_5 : decode prog_19_method_27_code 5 = .ok (.ifCond .ne 17, 3) := by decide +kernel
theorem d_19_27_8 : decode prog_19_method_27_code 8 = .ok (.iload_n 2, 1) := by decide +kernel
theorem d_19_27_9 : decode prog_19_method_27_code 9 = .ok (.invokestatic 91, 3) := by decide +kernel
theorem d_19_27_12 : decode prog_19_method_27_code 12 = .ok (.ifCond .ne 10, 3) := by decide +kernel
theorem d_19_27_15 : decode prog_19_method_27_code 15 = .ok (.iload_n 3, 1) := by decide +kernel
theorem d_19_27_16 : decode prog_19_method_27_code 16 = .ok (.invokestatic 91, 3) := by decide +kernel
theorem d_19_27_19 : decode prog_19_method_27_code 19 = .ok (.ifCond .eq 7, 3) := by decide +kernel
theorem d_19_27_26 : decode prog_19_method_27_code 26 = .ok (.aload_n 0, 1) := by decide +kernel
theorem d_19_27_27 : decode prog_19_method_27_code 27 = .ok (.iload_n 2, 1) := by decide +kernel
theorem d_19_27_28 : decode prog_19_method_27_code 28 = .ok (.invokevirtual 125, 3) := by decide +kernel
set_option maxRecDepth 100000 in
theorem w_2719 : (Cond.code ({ cls := "NumberHouseModel$WholeRows", name := "isAbove0", desc := "(I)Z" } : MethodName) prog_19_method_25_code (2 : Nat) (some .boolean)) ∈ q_tbl := q_of12 79 rfl (by decide +kernel)
set_option maxRecDepth 100000 in
theorem w_2716 : (Cond.methodLink "NumberHouseModel$WholeRows" (125 : Nat) ({ cls := "NumberHouseModel$WholeRows", name := "isAbove0", desc := "(I)Z" } : MethodName)) ∈ q_tbl := q_of12 76 rfl (by decide +kernel)
set_option maxRecDepth 100000 in
theorem w_2718 : (Cond.instanceMethod ({ cls := "NumberHouseModel$WholeRows", name := "isAbove0", desc := "(I)Z" } : MethodName)) ∈ q_tbl := q_of12 78 rfl (by decide +kernel)
theorem ws_105 : Cond.selects "NumberHouseModel$WholeRows" (⟨"NumberHouseModel$WholeRows", "isAbove0", "(I)Z"⟩ : MethodName) (⟨"NumberHouseModel$WholeRows", "isAbove0", "(I)Z"⟩ : MethodName) ∈ q_tbl := q_ofs 105 (by decide +kernel) (by decide +kernel)
theorem LV_WR_125 : q_LV "NumberHouseModel$WholeRows" 125 y_WR_isAbove0 prog_19_method_25_code 2 (some .boolean) 1 := ⟨w_2719, w_15, w_2716, w_2718, ws_105, ⟨by decide, by decide, by decide +kernel⟩⟩
theorem d_19_27_31 : decode prog_19_method_27_code 31 = .ok (.ifCond .ne 7, 3) := by decide +kernel
theorem d_19_27_38 : decode prog_19_method_27_code 38 = .ok (.iconst 0, 1) := by decide +kernel
theorem d_19_27_34 : decode prog_19_method_27_code 34 = .ok (.iconst 2, 1) := by decide +kernel
theorem d_19_27_35 : decode prog_19_method_27_code 35 = .ok (.goto 4, 3) := by decide +kernel
def y_WR_modulo : MethodName := ⟨"NumberHouseModel$WholeRows", "modulo", "(III)V"⟩
def F_WR_modulo_c86 (x2 : Int32) (x3 : Int32) (x4 : Int32) (t0_0 : Int32) (t0_1 : Int32) (t0_2 : Int32) (t0_3 : Int32) (t0_4 : Int32) (t0_5 : Int32) (t0_6 : Int32) (t1_0 : (Nat → Int32)) (t2_0 : (Nat → Int32)) (t3_0 : (Nat → Int32)) (t4_0 : (Nat → Int32)) (t5_0 : (Nat → Int32)) (t6_0 : (Nat → Int32)) (t7_0 : (Nat → Int32)) (lx42 : Int32) (f66 : (Nat → Int32)) (p84 : ((Nat → Int32) × (Nat → Int32) × (Nat → Int32) × (Nat → Int32))) (f97 : (Nat → Int32)) (f76 : (Nat → Int32)) (f78 : (Nat → Int32)) (f80 : (Nat → Int32)) (p133 : (Int32 × Int32 × Int32 × Int32 × Int32 × Int32 × Int32 × (Nat → Int32) × (Nat → Int32))) : Int32 × Int32 × Int32 × Int32 × Int32 × Int32 × Int32 × (Nat → Int32) × (Nat → Int32) × (Nat → Int32) × (Nat → Int32) × (Nat → Int32) × (Nat → Int32) × (Nat → Int32) := ((p133.1 : Int32), (p133.2.1 : Int32), (p133.2.2.1 : Int32), (p133.2.2.2.1 : Int32), (p133.2.2.2.2.1 : Int32), (p133.2.2.2.2.2.1 : Int32), (p133.2.2.2.2.2.2.1 : Int32), (p133.2.2.2.2.2.2.2.1 : (Nat → Int32)), (p133.2.2.2.2.2.2.2.2 : (Nat → Int32)), f97, f76, f78, f80, f66)
def F_WR_modulo_c65 (x2 : Int32) (x3 : Int32) (x4 : Int32) (t0_0 : Int32) (t0_1 : Int32) (t0_2 : Int32) (t0_3 : Int32) (t0_4 : Int32) (t0_5 : Int32) (t0_6 : Int32) (t1_0 : (Nat → Int32)) (t2_0 : (Nat → Int32)) (t3_0 : (Nat → Int32)) (t4_0 : (Nat → Int32)) (t5_0 : (Nat → Int32)) (t6_0 : (Nat → Int32)) (t7_0 : (Nat → Int32)) (lx42 : Int32) (f66 : (Nat → Int32)) (p84 : ((Nat → Int32) × (Nat → Int32) × (Nat → Int32) × (Nat → Int32))) : Int32 × Int32 × Int32 × Int32 × Int32 × Int32 × Int32 × (Nat → Int32) × (Nat → Int32) × (Nat → Int32) × (Nat → Int32) × (Nat → Int32) × (Nat → Int32) × (Nat → Int32) := F_WR_modulo_c86 x2 x3 x4 t0_0 t0_1 t0_2 t0_3 t0_4 t0_5 t0_6 t1_0 t2_0 t3_0 t4_0 t5_0 t6_0 t7_0 lx42 f66 p84 ((F_WR_copy (264 : Int32) (264 : Int32) (p84.2.2.2 : (Nat → Int32)) (p84.1 : (Nat → Int32))) : (Nat → Int32)) (p84.2.1 : (Nat → Int32)) (p84.2.2.1 : (Nat → Int32)) (p84.2.2.2 : (Nat → Int32)) ((F_WR_store x4 lx42 t0_1 t0_2 (0 : Int32) t0_4 t0_5 t0_6 t1_0 t2_0 ((F_WR_copy (264 : Int32) (264 : Int32) (p84.2.2.2 : (Nat → Int32)) (p84.1 : (Nat → Int32))) : (Nat → Int32))) : (Int32 × Int32 × Int32 × Int32 × Int32 × Int32 × Int32 × (Nat → Int32) × (Nat → Int32)))
def F_WR_modulo_J39 (x2 : Int32) (x3 : Int32) (x4 : Int32) (t0_0 : Int32) (t0_1 : Int32) (t0_2 : Int32) (t0_3 : Int32) (t0_4 : Int32) (t0_5 : Int32) (t0_6 : Int32) (t1_0 : (Nat → Int32)) (t2_0 : (Nat → Int32)) (t3_0 : (Nat → Int32)) (t4_0 : (Nat → Int32)) (t5_0 : (Nat → Int32)) (t6_0 : (Nat → Int32)) (t7_0 : (Nat → Int32)) (lx42 : Int32) : Int32 × Int32 × Int32 × Int32 × Int32 × Int32 × Int32 × (Nat → Int32) × (Nat → Int32) × (Nat → Int32) × (Nat → Int32) × (Nat → Int32) × (Nat → Int32) × (Nat → Int32) := if lx42 ≤ (0 : Int32) then (F_WR_modulo_c65 x2 x3 x4 t0_0 t0_1 t0_2 t0_3 t0_4 t0_5 t0_6 t1_0 t2_0 t3_0 t4_0 t5_0 t6_0 t7_0 lx42 ((F_WR_take x3 (264 : Int32) lx42 t0_1 t0_2 t0_3 t0_4 t0_5 t0_6 t1_0 t7_0) : (Nat → Int32)) ((F_WR_reduce x2 (264 : Int32) lx42 t0_1 t0_2 t0_3 t0_4 t0_5 t0_6 t1_0 t2_0 t3_0 t4_0 t5_0 ((F_WR_take x3 (264 : Int32) lx42 t0_1 t0_2 t0_3 t0_4 t0_5 t0_6 t1_0 t7_0) : (Nat → Int32)) t6_0) : ((Nat → Int32) × (Nat → Int32) × (Nat → Int32) × (Nat → Int32)))) else ((lx42, t0_1, t0_2, t0_3, t0_4, t0_5, t0_6, t1_0, t2_0, t3_0, t4_0, t5_0, t6_0, t7_0))
def F_WR_modulo_J22 (x2 : Int32) (x3 : Int32) (x4 : Int32) (t0_0 : Int32) (t0_1 : Int32) (t0_2 : Int32) (t0_3 : Int32) (t0_4 : Int32) (t0_5 : Int32) (t0_6 : Int32) (t1_0 : (Nat → Int32)) (t2_0 : (Nat → Int32)) (t3_0 : (Nat → Int32)) (t4_0 : (Nat → Int32)) (t5_0 : (Nat → Int32)) (t6_0 : (Nat → Int32)) (t7_0 : (Nat → Int32)) : Int32 × Int32 × Int32 × Int32 × Int32 × Int32 × Int32 × (Nat → Int32) × (Nat → Int32) × (Nat → Int32) × (Nat → Int32) × (Nat → Int32) × (Nat → Int32) × (Nat → Int32) := F_WR_modulo_J39 x2 x3 x4 t0_0 t0_1 t0_2 t0_3 t0_4 t0_5 t0_6 t1_0 t2_0 t3_0 t4_0 t5_0 t6_0 t7_0 1
def F_WR_modulo (x2 : Int32) (x3 : Int32) (x4 : Int32) (t0_0 : Int32) (t0_1 : Int32) (t0_2 : Int32) (t0_3 : Int32) (t0_4 : Int32) (t0_5 : Int32) (t0_6 : Int32) (t1_0 : (Nat → Int32)) (t2_0 : (Nat → Int32)) (t3_0 : (Nat → Int32)) (t4_0 : (Nat → Int32)) (t5_0 : (Nat → Int32)) (t6_0 : (Nat → Int32)) (t7_0 : (Nat → Int32)) : Int32 × Int32 × Int32 × Int32 × Int32 × Int32 × Int32 × (Nat → Int32) × (Nat → Int32) × (Nat → Int32) × (Nat → Int32) × (Nat → Int32) × (Nat → Int32) × (Nat → Int32) := if ((F_WR_no x2) : Int32) = (0 : Int32) then (if ((F_WR_no x3) : Int32) = (0 : Int32) then (if ((F_WR_no x4) : Int32) = (0 : Int32) then (if ((F_WR_isAbove0 x3 t0_0 t0_1 t0_2 t0_3 t0_4 t0_5 t0_6 t1_0 t2_0) : Int32) = (0 : Int32) then (F_WR_modulo_J39 x2 x3 x4 t0_0 t0_1 t0_2 t0_3 t0_4 t0_5 t0_6 t1_0 t2_0 t3_0 t4_0 t5_0 t6_0 t7_0 2) else (F_WR_modulo_J39 x2 x3 x4 t0_0 t0_1 t0_2 t0_3 t0_4 t0_5 t0_6 t1_0 t2_0 t3_0 t4_0 t5_0 t6_0 t7_0 0)) else (F_WR_modulo_J22 x2 x3 x4 t0_0 t0_1 t0_2 t0_3 t0_4 t0_5 t0_6 t1_0 t2_0 t3_0 t4_0 t5_0 t6_0 t7_0)) else (F_WR_modulo_J22 x2 x3 x4 t0_0 t0_1 t0_2 t0_3 t0_4 t0_5 t0_6 t1_0 t2_0 t3_0 t4_0 t5_0 t6_0 t7_0)) else (F_WR_modulo_J22 x2 x3 x4 t0_0 t0_1 t0_2 t0_3 t0_4 t0_5 t0_6 t1_0 t2_0 t3_0 t4_0 t5_0 t6_0 t7_0)
def S_WR_modulo_c86 (x2 : Int32) (x3 : Int32) (x4 : Int32) (t0_0 : Int32) (t0_1 : Int32) (t0_2 : Int32) (t0_3 : Int32) (t0_4 : Int32) (t0_5 : Int32) (t0_6 : Int32) (t1_0 : (Nat → Int32)) (t2_0 : (Nat → Int32)) (t3_0 : (Nat → Int32)) (t4_0 : (Nat → Int32)) (t5_0 : (Nat → Int32)) (t6_0 : (Nat → Int32)) (t7_0 : (Nat → Int32)) (lx42 : Int32) (f66 : (Nat → Int32)) (p84 : ((Nat → Int32) × (Nat → Int32) × (Nat → Int32) × (Nat → Int32))) (f97 : (Nat → Int32)) (f76 : (Nat → Int32)) (f78 : (Nat → Int32)) (f80 : (Nat → Int32)) (p133 : (Int32 × Int32 × Int32 × Int32 × Int32 × Int32 × Int32 × (Nat → Int32) × (Nat → Int32))) : Prop := True
def S_WR_modulo_c65 (x2 : Int32) (x3 : Int32) (x4 : Int32) (t0_0 : Int32) (t0_1 : Int32) (t0_2 : Int32) (t0_3 : Int32) (t0_4 : Int32) (t0_5 : Int32) (t0_6 : Int32) (t1_0 : (Nat → Int32)) (t2_0 : (Nat → Int32)) (t3_0 : (Nat → Int32)) (t4_0 : (Nat → Int32)) (t5_0 : (Nat → Int32)) (t6_0 : (Nat → Int32)) (t7_0 : (Nat → Int32)) (lx42 : Int32) (f66 : (Nat → Int32)) (p84 : ((Nat → Int32) × (Nat → Int32) × (Nat → Int32) × (Nat → Int32))) : Prop := (True ∧ S_WR_store x4 lx42 t0_1 t0_2 (0 : Int32) t0_4 t0_5 t0_6 t1_0 t2_0 ((F_WR_copy (264 : Int32) (264 : Int32) (p84.2.2.2 : (Nat → Int32)) (p84.1 : (Nat → Int32))) : (Nat → Int32))) ∧ (S_WR_modulo_c86 x2 x3 x4 t0_0 t0_1 t0_2 t0_3 t0_4 t0_5 t0_6 t1_0 t2_0 t3_0 t4_0 t5_0 t6_0 t7_0 lx42 f66 p84 ((F_WR_copy (264 : Int32) (264 : Int32) (p84.2.2.2 : (Nat → Int32)) (p84.1 : (Nat → Int32))) : (Nat → Int32)) (p84.2.1 : (Nat → Int32)) (p84.2.2.1 : (Nat → Int32)) (p84.2.2.2 : (Nat → Int32)) ((F_WR_store x4 lx42 t0_1 t0_2 (0 : Int32) t0_4 t0_5 t0_6 t1_0 t2_0 ((F_WR_copy (264 : Int32) (264 : Int32) (p84.2.2.2 : (Nat → Int32)) (p84.1 : (Nat → Int32))) : (Nat → Int32))) : (Int32 × Int32 × Int32 × Int32 × Int32 × Int32 × Int32 × (Nat → Int32) × (Nat → Int32))))
def S_WR_modulo_J39 (x2 : Int32) (x3 : Int32) (x4 : Int32) (t0_0 : Int32) (t0_1 : Int32) (t0_2 : Int32) (t0_3 : Int32) (t0_4 : Int32) (t0_5 : Int32) (t0_6 : Int32) (t1_0 : (Nat → Int32)) (t2_0 : (Nat → Int32)) (t3_0 : (Nat → Int32)) (t4_0 : (Nat → Int32)) (t5_0 : (Nat → Int32)) (t6_0 : (Nat → Int32)) (t7_0 : (Nat → Int32)) (lx42 : Int32) : Prop := if lx42 ≤ (0 : Int32) then ((True ∧ S_WR_take x3 (264 : Int32) lx42 t0_1 t0_2 t0_3 t0_4 t0_5 t0_6 t1_0 t7_0) ∧ ((True ∧ S_WR_reduce x2 (264 : Int32) lx42 t0_1 t0_2 t0_3 t0_4 t0_5 t0_6 t1_0 t2_0 t3_0 t4_0 t5_0 ((F_WR_take x3 (264 : Int32) lx42 t0_1 t0_2 t0_3 t0_4 t0_5 t0_6 t1_0 t7_0) : (Nat → Int32)) t6_0) ∧ (S_WR_modulo_c65 x2 x3 x4 t0_0 t0_1 t0_2 t0_3 t0_4 t0_5 t0_6 t1_0 t2_0 t3_0 t4_0 t5_0 t6_0 t7_0 lx42 ((F_WR_take x3 (264 : Int32) lx42 t0_1 t0_2 t0_3 t0_4 t0_5 t0_6 t1_0 t7_0) : (Nat → Int32)) ((F_WR_reduce x2 (264 : Int32) lx42 t0_1 t0_2 t0_3 t0_4 t0_5 t0_6 t1_0 t2_0 t3_0 t4_0 t5_0 ((F_WR_take x3 (264 : Int32) lx42 t0_1 t0_2 t0_3 t0_4 t0_5 t0_6 t1_0 t7_0) : (Nat → Int32)) t6_0) : ((Nat → Int32) × (Nat → Int32) × (Nat → Int32) × (Nat → Int32)))))) else (True)
def S_WR_modulo_J22 (x2 : Int32) (x3 : Int32) (x4 : Int32) (t0_0 : Int32) (t0_1 : Int32) (t0_2 : Int32) (t0_3 : Int32) (t0_4 : Int32) (t0_5 : Int32) (t0_6 : Int32) (t1_0 : (Nat → Int32)) (t2_0 : (Nat → Int32)) (t3_0 : (Nat → Int32)) (t4_0 : (Nat → Int32)) (t5_0 : (Nat → Int32)) (t6_0 : (Nat → Int32)) (t7_0 : (Nat → Int32)) : Prop := S_WR_modulo_J39 x2 x3 x4 t0_0 t0_1 t0_2 t0_3 t0_4 t0_5 t0_6 t1_0 t2_0 t3_0 t4_0 t5_0 t6_0 t7_0 1
def S_WR_modulo (x2 : Int32) (x3 : Int32) (x4 : Int32) (t0_0 : Int32) (t0_1 : Int32) (t0_2 : Int32) (t0_3 : Int32) (t0_4 : Int32) (t0_5 : Int32) (t0_6 : Int32) (t1_0 : (Nat → Int32)) (t2_0 : (Nat → Int32)) (t3_0 : (Nat → Int32)) (t4_0 : (Nat → Int32)) (t5_0 : (Nat → Int32)) (t6_0 : (Nat → Int32)) (t7_0 : (Nat → Int32)) : Prop := if ((F_WR_no x2) : Int32) = (0 : Int32) then (if ((F_WR_no x3) : Int32) = (0 : Int32) then (if ((F_WR_no x4) : Int32) = (0 : Int32) then ((True ∧ S_WR_isAbove0 x3 t0_0 t0_1 t0_2 t0_3 t0_4 t0_5 t0_6 t1_0 t2_0) ∧ (if ((F_WR_isAbove0 x3 t0_0 t0_1 t0_2 t0_3 t0_4 t0_5 t0_6 t1_0 t2_0) : Int32) = (0 : Int32) then (S_WR_modulo_J39 x2 x3 x4 t0_0 t0_1 t0_2 t0_3 t0_4 t0_5 t0_6 t1_0 t2_0 t3_0 t4_0 t5_0 t6_0 t7_0 2) else (S_WR_modulo_J39 x2 x3 x4 t0_0 t0_1 t0_2 t0_3 t0_4 t0_5 t0_6 t1_0 t2_0 t3_0 t4_0 t5_0 t6_0 t7_0 0))) else (S_WR_modulo_J22 x2 x3 x4 t0_0 t0_1 t0_2 t0_3 t0_4 t0_5 t0_6 t1_0 t2_0 t3_0 t4_0 t5_0 t6_0 t7_0)) else (S_WR_modulo_J22 x2 x3 x4 t0_0 t0_1 t0_2 t0_3 t0_4 t0_5 t0_6 t1_0 t2_0 t3_0 t4_0 t5_0 t6_0 t7_0)) else (S_WR_modulo_J22 x2 x3 x4 t0_0 t0_1 t0_2 t0_3 t0_4 t0_5 t0_6 t1_0 t2_0 t3_0 t4_0 t5_0 t6_0 t7_0)
set_option maxRecDepth 100000 in
set_option maxHeartbeats 4000000 in
theorem X_WR_modulo (l : Launch) (D : va_G) (g : Nat → ClassId) (q : Nat → Nat) (ws : va_W) (x2 : Int32) (x3 : Int32) (x4 : Int32) (hI : q_I (msh g q) q ws) (t0_0 : Int32) (t0_1 : Int32) (t0_2 : Int32) (t0_3 : Int32) (t0_4 : Int32) (t0_5 : Int32) (t0_6 : Int32) (hT0 : ws[119]? = (some (q 119, .inr (13, [.int t0_0, .int t0_1, .ref (q 120), .int t0_2, .ref (q 121), .ref (q 122), .ref (q 123), .int t0_3, .ref (q 124), .ref (q 125), .ref (q 126), .ref (q 127), .ref (q 128), .ref (q 129), .ref (q 130), .ref (q 131), .int t0_4, .int t0_5, .ref (q 132), .ref (q 133), .int t0_6])) : Option (Nat × va_E))) (t1_0 : (Nat → Int32)) (hT1 : ws[121]? = (some (q 121, .inl (g 0, (1408 : Int32).toNatClampNeg, .inl t1_0)) : Option (Nat × va_E))) (t2_0 : (Nat → Int32)) (hT2 : ws[122]? = (some (q 122, .inl (g 3, 11, .inl t2_0)) : Option (Nat × va_E))) (t3_0 : (Nat → Int32)) (hT3 : ws[123]? = (some (q 123, .inl (g 0, (264 : Int32).toNatClampNeg, .inl t3_0)) : Option (Nat × va_E))) (t4_0 : (Nat → Int32)) (hT4 : ws[126]? = (some (q 126, .inl (g 0, (264 : Int32).toNatClampNeg, .inl t4_0)) : Option (Nat × va_E))) (t5_0 : (Nat → Int32)) (hT5 : ws[127]? = (some (q 127, .inl (g 0, (264 : Int32).toNatClampNeg, .inl t5_0)) : Option (Nat × va_E))) (t6_0 : (Nat → Int32)) (hT6 : ws[128]? = (some (q 128, .inl (g 0, (264 : Int32).toNatClampNeg, .inl t6_0)) : Option (Nat × va_E))) (t7_0 : (Nat → Int32)) (hT7 : ws[132]? = (some (q 132, .inl (g 0, (264 : Int32).toNatClampNeg, .inl t7_0)) : Option (Nat × va_E))) (hS : True ∧ S_WR_modulo x2 x3 x4 t0_0 t0_1 t0_2 t0_3 t0_4 t0_5 t0_6 t1_0 t2_0 t3_0 t4_0 t5_0 t6_0 t7_0) : q_mV l y_WR_modulo prog_19_method_27_code 4 4 0 0 D g [.ref (q 119), .int x2, .int x3, .int x4] ws (fun u => q_I (msh g q) q u ∧ q_un ws u [119, 121, 122, 123, 126, 127, 128, 132] ∧ ∃ (u0_0 : Int32) (u0_1 : Int32) (u0_2 : Int32) (u0_3 : Int32) (u0_4 : Int32) (u0_5 : Int32) (u0_6 : Int32) (u1_0 : (Nat → Int32)) (u2_0 : (Nat → Int32)) (u3_0 : (Nat → Int32)) (u4_0 : (Nat → Int32)) (u5_0 : (Nat → Int32)) (u6_0 : (Nat → Int32)) (u7_0 : (Nat → Int32)), u[119]? = (some (q 119, .inr (13, [.int u0_0, .int u0_1, .ref (q 120), .int u0_2, .ref (q 121), .ref (q 122), .ref (q 123), .int u0_3, .ref (q 124), .ref (q 125), .ref (q 126), .ref (q 127), .ref (q 128), .ref (q 129), .ref (q 130), .ref (q 131), .int u0_4, .int u0_5, .ref (q 132), .ref (q 133), .int u0_6])) : Option (Nat × va_E)) ∧ u[121]? = (some (q 121, .inl (g 0, (1408 : Int32).toNatClampNeg, .inl u1_0)) : Option (Nat × va_E)) ∧ u[122]? = (some (q 122, .inl (g 3, 11, .inl u2_0)) : Option (Nat × va_E)) ∧ u[123]? = (some (q 123, .inl (g 0, (264 : Int32).toNatClampNeg, .inl u3_0)) : Option (Nat × va_E)) ∧ u[126]? = (some (q 126, .inl (g 0, (264 : Int32).toNatClampNeg, .inl u4_0)) : Option (Nat × va_E)) ∧ u[127]? = (some (q 127, .inl (g 0, (264 : Int32).toNatClampNeg, .inl u5_0)) : Option (Nat × va_E)) ∧ u[128]? = (some (q 128, .inl (g 0, (264 : Int32).toNatClampNeg, .inl u6_0)) : Option (Nat × va_E)) ∧ u[132]? = (some (q 132, .inl (g 0, (264 : Int32).toNatClampNeg, .inl u7_0)) : Option (Nat × va_E)) ∧ (0 ≤ u0_3.toInt) ∧ (t0_1.toInt ≤ u0_1.toInt) ∧ (u0_1.toInt ≤ t0_1.toInt) ∧ (t0_2.toInt ≤ u0_2.toInt) ∧ (u0_2.toInt ≤ t0_2.toInt) ∧ (u0_3.toInt ≤ t0_3.toInt) ∧ (t0_4.toInt ≤ u0_4.toInt) ∧ (u0_4.toInt ≤ t0_4.toInt) ∧ (t0_5.toInt ≤ u0_5.toInt) ∧ (u0_5.toInt ≤ t0_5.toInt) ∧ (t0_6.toInt ≤ u0_6.toInt) ∧ (u0_6.toInt ≤ t0_6.toInt) ∧ (u0_0, u0_1, u0_2, u0_3, u0_4, u0_5, u0_6, u1_0, u2_0, u3_0, u4_0, u5_0, u6_0, u7_0) = (F_WR_modulo x2 x3 x4 t0_0 t0_1 t0_2 t0_3 t0_4 t0_5 t0_6 t1_0 t2_0 t3_0 t4_0 t5_0 t6_0 t7_0)) := by
  intro sz
  refine q_into (by decide) (Nat.le_of_ble_eq_true rfl) ?_
  intro p e s m below meth c ls hsz C0 V hl
  have hx := C0.1
  have hb := C0.2.1
  obtain ⟨btt0_2, hZ9⟩ := n_w119 hI hT0
  obtain ⟨btt0_3, hZ9⟩ := hZ9
  obtain ⟨btt0_4, hZ9⟩ := hZ9
  obtain ⟨btt0_5, btt0_6⟩ := hZ9
  replace btt0_2 : q_F (0 ≤ t0_2.toInt ∧ t0_2.toInt ≤ 4100) := btt0_2
  replace btt0_3 : q_F (0 ≤ t0_3.toInt ∧ t0_3.toInt ≤ 1) := btt0_3
  replace btt0_4 : q_F (0 ≤ t0_4.toInt ∧ t0_4.toInt ≤ 1) := btt0_4
  replace btt0_5 : q_F (0 ≤ t0_5.toInt ∧ t0_5.toInt ≤ 1) := btt0_5
  replace btt0_6 : q_F (0 ≤ t0_6.toInt ∧ t0_6.toInt ≤ 2100) := btt0_6
  have hF : q_un ws ws [119, 121, 122, 123, 126, 127, 128, 132] := q_u0
  have hl : lv_has ls 4 [(0, .ref (q 119)), (1, .int x2), (2, .int x3), (3, .int x4)] := hl
  refine lv_aload_n hx hb d_19_27_0 rfl (lv_at hl 0 rfl) ?_
  refine lv_iload_n hx hb d_19_27_1 rfl (lv_at hl 1 rfl) ?_
  refine q_goi V (q_runS (As := [.int x2]) (rest := [.ref (q 119)]) (d := 1) (mc := 0) (ms := 0) C0 V rfl LS_WR_91 (X_WR_no l D g q ws  x2 hI   _) rfl hl.1 rfl (Nat.le_of_ble_eq_true rfl) ⟨by decide, by decide⟩ ⟨Nat.le_of_ble_eq_true rfl, Nat.le_of_ble_eq_true rfl⟩ d_19_27_2) (fun a37 u35 H locs hp36 V => ?_)
  obtain ⟨rfl, b38, b39, hE40⟩ := hp36
  have e41 : a37 = (F_WR_no x2) := hE40
  clear b38
  clear b39
  refine q_join (X := Int32) (fun z H locs ls _ => q_F (0 ≤ z.toInt) ∧ q_F (z.toInt ≤ 2) ∧ q_Wd D g (va_A ws sz) s ws H locs ∧ lv_has ls 4 [(0, .ref (q 119)), (1, .int x2), (2, .int x3), (3, .int x4)] ∧ F_WR_modulo_J39 x2 x3 x4 t0_0 t0_1 t0_2 t0_3 t0_4 t0_5 t0_6 t1_0 t2_0 t3_0 t4_0 t5_0 t6_0 t7_0 z = (F_WR_modulo x2 x3 x4 t0_0 t0_1 t0_2 t0_3 t0_4 t0_5 t0_6 t1_0 t2_0 t3_0 t4_0 t5_0 t6_0 t7_0) ∧ True ∧ S_WR_modulo_J39 x2 x3 x4 t0_0 t0_1 t0_2 t0_3 t0_4 t0_5 t0_6 t1_0 t2_0 t3_0 t4_0 t5_0 t6_0 t7_0 z) (fun z => [.int z, .ref (q 119)]) 39 0 0 ?_ ?_
  ·
    rintro lx42 H locs ls _ hZ9
    replace hZ9 := hZ9.2.2
    obtain ⟨V, hZ9⟩ := hZ9
    obtain ⟨hl, hZ9⟩ := hZ9
    obtain ⟨hR54, hS55⟩ := hZ9
    replace hl : lv_has ls 4 [(0, .ref (q 119)), (1, .int x2), (2, .int x3), (3, .int x4)] := hl
    refine q_put (ci := 13) (j := 0) (v := .int lx42) (ty := .int) C0 V i_WR o_WR n_WR rfl rfl hT0 (by decide) w_1921 rfl rfl rfl rfl (Nat.le_of_ble_eq_true rfl) d_19_27_39 (fun H locs w59 hu60 hT0 V => ?_)
    replace hT0 : w59[119]? = (some (q 119, .inr (13, [.int lx42, .int t0_1, .ref (q 120), .int t0_2, .ref (q 121), .ref (q 122), .ref (q 123), .int t0_3, .ref (q 124), .ref (q 125), .ref (q 126), .ref (q 127), .ref (q 128), .ref (q 129), .ref (q 130), .ref (q 131), .int t0_4, .int t0_5, .ref (q 132), .ref (q 133), .int t0_6])) : Option (Nat × va_E)) := hT0
    replace hI := n_p119 hI hu60 hT0 (by first | with_reducible exact q_fe btt0_2 | exact ⟨(by have t1 : 0 ≤ t0_2.toInt ∧ t0_2.toInt ≤ 4100 := btt0_2; omega), (by have t1 : 0 ≤ t0_2.toInt ∧ t0_2.toInt ≤ 4100 := btt0_2; omega)⟩) (by first | with_reducible exact q_fe btt0_3 | exact ⟨(by have t1 : 0 ≤ t0_3.toInt ∧ t0_3.toInt ≤ 1 := btt0_3; omega), (by have t1 : 0 ≤ t0_3.toInt ∧ t0_3.toInt ≤ 1 := btt0_3; omega)⟩) (by first | with_reducible exact q_fe btt0_4 | exact ⟨(by have t1 : 0 ≤ t0_4.toInt ∧ t0_4.toInt ≤ 1 := btt0_4; omega), (by have t1 : 0 ≤ t0_4.toInt ∧ t0_4.toInt ≤ 1 := btt0_4; omega)⟩) (by first | with_reducible exact q_fe btt0_5 | exact ⟨(by have t1 : 0 ≤ t0_5.toInt ∧ t0_5.toInt ≤ 1 := btt0_5; omega), (by have t1 : 0 ≤ t0_5.toInt ∧ t0_5.toInt ≤ 1 := btt0_5; omega)⟩) (by first | with_reducible exact q_fe btt0_6 | exact ⟨(by have t1 : 0 ≤ t0_6.toInt ∧ t0_6.toInt ≤ 2100 := btt0_6; omega), (by have t1 : 0 ≤ t0_6.toInt ∧ t0_6.toInt ≤ 2100 := btt0_6; omega)⟩)
    replace hT1 := (hu60 _ (by decide)).trans hT1
    replace hT2 := (hu60 _ (by decide)).trans hT2
    replace hT3 := (hu60 _ (by decide)).trans hT3
    replace hT4 := (hu60 _ (by decide)).trans hT4
    replace hT5 := (hu60 _ (by decide)).trans hT5
    replace hT6 := (hu60 _ (by decide)).trans hT6
    replace hT7 := (hu60 _ (by decide)).trans hT7
    replace hF := q_us hF hu60 (by simp)
    refine lv_aload_n hx hb d_19_27_42 rfl (lv_at hl 0 rfl) ?_
    refine q_get (ci := 13) (j := 0) (v := .int lx42) C0 V i_WR rfl rfl hT0 (by decide) w_1921 rfl d_19_27_43 ?_
    refine lv_if_le (tgt := 50) hx hb d_19_27_46 (by decide) (fun c61 => ?_) (fun c61 => ?_)
    ·
      refine lv_aload_n hx hb d_19_27_50 rfl (lv_at hl 0 rfl) ?_
      refine lv_iload_n hx hb d_19_27_51 rfl (lv_at hl 2 rfl) ?_
      refine lv_aload_n hx hb d_19_27_52 rfl (lv_at hl 0 rfl) ?_
      refine q_get (ci := 13) (j := 18) (v := .ref (q 132)) C0 V i_WR rfl rfl hT0 (by decide) w_1942 rfl d_19_27_53 ?_
      have ob63 : True ∧ S_WR_take x3 (264 : Int32) lx42 t0_1 t0_2 t0_3 t0_4 t0_5 t0_6 t1_0 t7_0 := (by have h := hS55; rw [S_WR_modulo_J39.eq_1] at h; rw [if_pos c61] at h; with_reducible exact h.2.1)
      refine q_gov V (q_runV (As := [.int x3, .ref (q 132)]) (rest := []) (d := 1) (mc := 0) (ms := 0) (ci := 13) C0 V rfl LV_WR_107 (X_WR_take l D g q w59 132 264 (n_r132 g q) x3 (by decide) hI lx42 t0_1 t0_2 t0_3 t0_4 t0_5 t0_6 hT0 t1_0 hT1 t7_0 hT7 ob63 _) rfl rfl hT0 rfl hl.1 rfl (Nat.le_of_ble_eq_true rfl) ⟨by decide, by decide⟩ ⟨Nat.le_of_ble_eq_true rfl, Nat.le_of_ble_eq_true rfl⟩ d_19_27_56) (fun u64 H locs hp65 V => ?_)
      obtain ⟨hI, hu69, f66, hA67, hE68⟩ := hp65
      replace hA67 : u64[132]? = (some (q 132, .inl (g 0, (264 : Int32).toNatClampNeg, .inl f66)) : Option (Nat × va_E)) := hA67
      have e70 : f66 = (F_WR_take x3 (264 : Int32) lx42 t0_1 t0_2 t0_3 t0_4 t0_5 t0_6 t1_0 t7_0) := hE68
      replace hT0 := (hu69 _ (by decide)).trans hT0
      replace hT1 := (hu69 _ (by decide)).trans hT1
      replace hT2 := (hu69 _ (by decide)).trans hT2
      replace hT3 := (hu69 _ (by decide)).trans hT3
      replace hT4 := (hu69 _ (by decide)).trans hT4
      replace hT5 := (hu69 _ (by decide)).trans hT5
      replace hT6 := (hu69 _ (by decide)).trans hT6
      replace hF := q_uc hF hu69 (by simp)
      refine lv_aload_n hx hb d_19_27_59 rfl (lv_at hl 0 rfl) ?_
      refine lv_iload_n hx hb d_19_27_60 rfl (lv_at hl 1 rfl) ?_
      refine lv_aload_n hx hb d_19_27_61 rfl (lv_at hl 0 rfl) ?_
      refine q_get (ci := 13) (j := 12) (v := .ref (q 128)) C0 V i_WR rfl rfl hT0 (by decide) w_1936 rfl d_19_27_62 ?_
      have ob71 : True ∧ S_WR_reduce x2 (264 : Int32) lx42 t0_1 t0_2 t0_3 t0_4 t0_5 t0_6 t1_0 t2_0 t3_0 t4_0 t5_0 f66 t6_0 := (by rw [e70]; have h := hS55; rw [S_WR_modulo_J39.eq_1] at h; rw [if_pos c61] at h; replace h := q_s2 h; with_reducible exact h.2.1)
      refine q_gov V (q_runV (As := [.int x2, .ref (q 128)]) (rest := []) (d := 3) (mc := 0) (ms := 0) (ci := 13) C0 V rfl LV_WR_128 (X_WR_reduce l D g q u64 128 264 (n_r128 g q) x2 (by decide) (by decide) (by decide) (by decide) (by decide) (by decide) hI lx42 t0_1 t0_2 t0_3 t0_4 t0_5 t0_6 hT0 t1_0 hT1 t2_0 hT2 t3_0 hT3 t4_0 hT4 t5_0 hT5 f66 hA67 t6_0 hT6 ob71 _) rfl rfl hT0 rfl hl.1 rfl (Nat.le_of_ble_eq_true rfl) ⟨by decide, by decide⟩ ⟨Nat.le_of_ble_eq_true rfl, Nat.le_of_ble_eq_true rfl⟩ d_19_27_65) (fun u72 H locs hp73 V => ?_)
      obtain ⟨hI, hZ9⟩ := hp73
      obtain ⟨hu83, hZ9⟩ := hZ9
      obtain ⟨f74, hZ9⟩ := hZ9
      obtain ⟨f76, hZ9⟩ := hZ9
      obtain ⟨f78, hZ9⟩ := hZ9
      obtain ⟨f80, hZ9⟩ := hZ9
      obtain ⟨hA75, hZ9⟩ := hZ9
      obtain ⟨hA77, hZ9⟩ := hZ9
      obtain ⟨hA79, hZ9⟩ := hZ9
      obtain ⟨hA81, hE82⟩ := hZ9
      replace hA75 : u72[123]? = (some (q 123, .inl (g 0, (264 : Int32).toNatClampNeg, .inl f74)) : Option (Nat × va_E)) := hA75
      replace hA77 : u72[126]? = (some (q 126, .inl (g 0, (264 : Int32).toNatClampNeg, .inl f76)) : Option (Nat × va_E)) := hA77
      replace hA79 : u72[127]? = (some (q 127, .inl (g 0, (264 : Int32).toNatClampNeg, .inl f78)) : Option (Nat × va_E)) := hA79
      replace hA81 : u72[128]? = (some (q 128, .inl (g 0, (264 : Int32).toNatClampNeg, .inl f80)) : Option (Nat × va_E)) := hA81
      obtain ⟨p84, e85⟩ : ∃ z, z = (F_WR_reduce x2 (264 : Int32) lx42 t0_1 t0_2 t0_3 t0_4 t0_5 t0_6 t1_0 t2_0 t3_0 t4_0 t5_0 f66 t6_0) := ⟨_, rfl⟩
      have e86 : f74 = p84.1 := congrArg (fun z => z.1) (hE82.trans e85.symm)
      have e87 : f76 = p84.2.1 := congrArg (fun z => z.2.1) (hE82.trans e85.symm)
      have e88 : f78 = p84.2.2.1 := congrArg (fun z => z.2.2.1) (hE82.trans e85.symm)
      have e89 : f80 = p84.2.2.2 := congrArg (fun z => z.2.2.2) (hE82.trans e85.symm)
      replace hT0 := (hu83 _ (by decide)).trans hT0
      replace hT1 := (hu83 _ (by decide)).trans hT1
      replace hT2 := (hu83 _ (by decide)).trans hT2
      replace hA67 := (hu83 _ (by decide)).trans hA67
      replace hF := q_uc hF hu83 (by simp)
      have hR90 := (show F_WR_modulo_c65 x2 x3 x4 t0_0 t0_1 t0_2 t0_3 t0_4 t0_5 t0_6 t1_0 t2_0 t3_0 t4_0 t5_0 t6_0 t7_0 lx42 f66 p84 = (F_WR_modulo x2 x3 x4 t0_0 t0_1 t0_2 t0_3 t0_4 t0_5 t0_6 t1_0 t2_0 t3_0 t4_0 t5_0 t6_0 t7_0) from Eq.trans (by rw [e85, e70, F_WR_modulo_J39.eq_1, if_pos c61]) hR54)
      have hS91 := (show True ∧ S_WR_modulo_c65 x2 x3 x4 t0_0 t0_1 t0_2 t0_3 t0_4 t0_5 t0_6 t1_0 t2_0 t3_0 t4_0 t5_0 t6_0 t7_0 lx42 f66 p84 from (by rw [e85, e70]; have h := hS55; rw [S_WR_modulo_J39.eq_1] at h; rw [if_pos c61] at h; replace h := q_s2 h; replace h := q_s2 h; with_reducible exact h))
      refine lv_aload_n hx hb d_19_27_68 rfl (lv_at hl 0 rfl) ?_
      refine q_get (ci := 13) (j := 12) (v := .ref (q 128)) C0 V i_WR rfl rfl hT0 (by decide) w_1936 rfl d_19_27_69 ?_
      refine lv_aload_n hx hb d_19_27_72 rfl (lv_at hl 0 rfl) ?_
      refine q_get (ci := 13) (j := 6) (v := .ref (q 123)) C0 V i_WR rfl rfl hT0 (by decide) w_1930 rfl d_19_27_73 ?_
      refine q_gov V (q_runS (As := [.ref (q 128), .ref (q 123)]) (rest := []) (d := 1) (mc := 0) (ms := 0) C0 V rfl LS_WR_67 (X_WR_copy l D g q u72 128 264 (n_r128 g q) 123 264 (n_r123 g q)  (by decide) hI f80 hA81 f74 hA75  _) rfl hl.1 rfl (Nat.le_of_ble_eq_true rfl) ⟨by decide, by decide⟩ ⟨Nat.le_of_ble_eq_true rfl, Nat.le_of_ble_eq_true rfl⟩ d_19_27_76) (fun u95 H locs hp96 V => ?_)
      obtain ⟨hI, hu100, f97, hA98, hE99⟩ := hp96
      replace hA98 : u95[123]? = (some (q 123, .inl (g 0, (264 : Int32).toNatClampNeg, .inl f97)) : Option (Nat × va_E)) := hA98
      have e101 : f97 = (F_WR_copy (264 : Int32) (264 : Int32) f80 f74) := hE99
      replace hT0 := (hu100 _ (by decide)).trans hT0
      replace hT1 := (hu100 _ (by decide)).trans hT1
      replace hT2 := (hu100 _ (by decide)).trans hT2
      replace hA77 := (hu100 _ (by decide)).trans hA77
      replace hA79 := (hu100 _ (by decide)).trans hA79
      replace hA81 := (hu100 _ (by decide)).trans hA81
      replace hA67 := (hu100 _ (by decide)).trans hA67
      replace hF := q_uc hF hu100 (by simp)
      refine lv_aload_n hx hb d_19_27_79 rfl (lv_at hl 0 rfl) ?_
      refine lv_iconst (v := 0) hx hb d_19_27_80 (by decide) ?_
      refine q_put (ci := 13) (j := 7) (v := .int 0) (ty := .boolean) C0 V i_WR o_WR n_WR rfl rfl hT0 (by decide) w_1931 rfl rfl rfl rfl (Nat.le_of_ble_eq_true rfl) d_19_27_81 (fun H locs w102 hu103 hT0 V => ?_)
      replace hT0 : w102[119]? = (some (q 119, .inr (13, [.int lx42, .int t0_1, .ref (q 120), .int t0_2, .ref (q 121), .ref (q 122), .ref (q 123), .int 0, .ref (q 124), .ref (q 125), .ref (q 126), .ref (q 127), .ref (q 128), .ref (q 129), .ref (q 130), .ref (q 131), .int t0_4, .int t0_5, .ref (q 132), .ref (q 133), .int t0_6])) : Option (Nat × va_E)) := hT0
      replace hI := n_p119 hI hu103 hT0 (by first | with_reducible exact q_fe btt0_2 | exact ⟨(by have t1 : 0 ≤ t0_2.toInt ∧ t0_2.toInt ≤ 4100 := btt0_2; omega), (by have t1 : 0 ≤ t0_2.toInt ∧ t0_2.toInt ≤ 4100 := btt0_2; omega)⟩) ⟨(by have z9 : (0 : Int32).toInt = 0 := rfl; omega), (by have z9 : (0 : Int32).toInt = 0 := rfl; omega)⟩ (by first | with_reducible exact q_fe btt0_4 | exact ⟨(by have t1 : 0 ≤ t0_4.toInt ∧ t0_4.toInt ≤ 1 := btt0_4; omega), (by have t1 : 0 ≤ t0_4.toInt ∧ t0_4.toInt ≤ 1 := btt0_4; omega)⟩) (by first | with_reducible exact q_fe btt0_5 | exact ⟨(by have t1 : 0 ≤ t0_5.toInt ∧ t0_5.toInt ≤ 1 := btt0_5; omega), (by have t1 : 0 ≤ t0_5.toInt ∧ t0_5.toInt ≤ 1 := btt0_5; omega)⟩) (by first | with_reducible exact q_fe btt0_6 | exact ⟨(by have t1 : 0 ≤ t0_6.toInt ∧ t0_6.toInt ≤ 2100 := btt0_6; omega), (by have t1 : 0 ≤ t0_6.toInt ∧ t0_6.toInt ≤ 2100 := btt0_6; omega)⟩)
      replace hT1 := (hu103 _ (by decide)).trans hT1
      replace hT2 := (hu103 _ (by decide)).trans hT2
      replace hA98 := (hu103 _ (by decide)).trans hA98
      replace hA77 := (hu103 _ (by decide)).trans hA77
      replace hA79 := (hu103 _ (by decide)).trans hA79
      replace hA81 := (hu103 _ (by decide)).trans hA81
      replace hA67 := (hu103 _ (by decide)).trans hA67
      replace hF := q_us hF hu103 (by simp)
      refine lv_aload_n hx hb d_19_27_84 rfl (lv_at hl 0 rfl) ?_
      refine lv_iload_n hx hb d_19_27_85 rfl (lv_at hl 3 rfl) ?_
      have ob104 : True ∧ S_WR_store x4 lx42 t0_1 t0_2 (0 : Int32) t0_4 t0_5 t0_6 t1_0 t2_0 f97 := (by rw [e101, e89, e86]; have h := hS91; rw [S_WR_modulo_c65.eq_1] at h; with_reducible exact h.2.1)
      refine q_gov V (q_runV (As := [.int x4]) (rest := []) (d := 2) (mc := 0) (ms := 0) (ci := 13) C0 V rfl LV_WR_103 (X_WR_store l D g q w102  x4 hI lx42 t0_1 t0_2 0 t0_4 t0_5 t0_6 hT0 t1_0 hT1 t2_0 hT2 f97 hA98 ob104 _) rfl rfl hT0 rfl hl.1 rfl (Nat.le_of_ble_eq_true rfl) ⟨by decide, by decide⟩ ⟨Nat.le_of_ble_eq_true rfl, Nat.le_of_ble_eq_true rfl⟩ d_19_27_86) (fun u105 H locs hp106 V => ?_)
      obtain ⟨hI, hZ9⟩ := hp106
      obtain ⟨hu132, hZ9⟩ := hZ9
      obtain ⟨y108, hZ9⟩ := hZ9
      obtain ⟨y109, hZ9⟩ := hZ9
      obtain ⟨y110, hZ9⟩ := hZ9
      obtain ⟨y111, hZ9⟩ := hZ9
      obtain ⟨y112, hZ9⟩ := hZ9
      obtain ⟨y113, hZ9⟩ := hZ9
      obtain ⟨y114, hZ9⟩ := hZ9
      obtain ⟨f115, hZ9⟩ := hZ9
      obtain ⟨f117, hZ9⟩ := hZ9
      obtain ⟨hO107, hZ9⟩ := hZ9
      obtain ⟨hA116, hZ9⟩ := hZ9
      obtain ⟨hA118, hZ9⟩ := hZ9
      obtain ⟨b119, hZ9⟩ := hZ9
      obtain ⟨b120, hZ9⟩ := hZ9
      obtain ⟨b121, hZ9⟩ := hZ9
      obtain ⟨b122, hZ9⟩ := hZ9
      obtain ⟨b123, hZ9⟩ := hZ9
      obtain ⟨b124, hZ9⟩ := hZ9
      obtain ⟨b125, hZ9⟩ := hZ9
      obtain ⟨b126, hZ9⟩ := hZ9
      obtain ⟨b127, hZ9⟩ := hZ9
      obtain ⟨b128, hZ9⟩ := hZ9
      obtain ⟨b129, hZ9⟩ := hZ9
      obtain ⟨b130, hE131⟩ := hZ9
      replace hO107 : u105[119]? = (some (q 119, .inr (13, [.int y108, .int y109, .ref (q 120), .int y110, .ref (q 121), .ref (q 122), .ref (q 123), .int y111, .ref (q 124), .ref (q 125), .ref (q 126), .ref (q 127), .ref (q 128), .ref (q 129), .ref (q 130), .ref (q 131), .int y112, .int y113, .ref (q 132), .ref (q 133), .int y114])) : Option (Nat × va_E)) := hO107
      replace hA116 : u105[121]? = (some (q 121, .inl (g 0, (1408 : Int32).toNatClampNeg, .inl f115)) : Option (Nat × va_E)) := hA116
      replace hA118 : u105[122]? = (some (q 122, .inl (g 3, 11, .inl f117)) : Option (Nat × va_E)) := hA118
      obtain ⟨p133, e134⟩ : ∃ z, z = (F_WR_store x4 lx42 t0_1 t0_2 (0 : Int32) t0_4 t0_5 t0_6 t1_0 t2_0 f97) := ⟨_, rfl⟩
      have e135 : y108 = p133.1 := congrArg (fun z => z.1) (hE131.trans e134.symm)
      have e136 : y109 = p133.2.1 := congrArg (fun z => z.2.1) (hE131.trans e134.symm)
      have e137 : y110 = p133.2.2.1 := congrArg (fun z => z.2.2.1) (hE131.trans e134.symm)
      have e138 : y111 = p133.2.2.2.1 := congrArg (fun z => z.2.2.2.1) (hE131.trans e134.symm)
      have e139 : y112 = p133.2.2.2.2.1 := congrArg (fun z => z.2.2.2.2.1) (hE131.trans e134.symm)
      have e140 : y113 = p133.2.2.2.2.2.1 := congrArg (fun z => z.2.2.2.2.2.1) (hE131.trans e134.symm)
      have e141 : y114 = p133.2.2.2.2.2.2.1 := congrArg (fun z => z.2.2.2.2.2.2.1) (hE131.trans e134.symm)
      have e142 : f115 = p133.2.2.2.2.2.2.2.1 := congrArg (fun z => z.2.2.2.2.2.2.2.1) (hE131.trans e134.symm)
      have e143 : f117 = p133.2.2.2.2.2.2.2.2 := congrArg (fun z => z.2.2.2.2.2.2.2.2) (hE131.trans e134.symm)
      replace b119 : q_F (t0_1.toInt ≤ y109.toInt) := b119
      replace b120 : q_F (y109.toInt ≤ t0_1.toInt) := b120
      replace b121 : q_F (t0_2.toInt ≤ y110.toInt) := b121
      replace b122 : q_F (y110.toInt ≤ t0_2.toInt) := b122
      replace b123 : q_F (0 ≤ y111.toInt) := b123
      replace b124 : q_F (y111.toInt ≤ 0) := b124
      replace b125 : q_F (t0_4.toInt ≤ y112.toInt) := b125
      replace b126 : q_F (y112.toInt ≤ t0_4.toInt) := b126
      replace b127 : q_F (t0_5.toInt ≤ y113.toInt) := b127
      replace b128 : q_F (y113.toInt ≤ t0_5.toInt) := b128
      replace b129 : q_F (t0_6.toInt ≤ y114.toInt) := b129
      replace b130 : q_F (y114.toInt ≤ t0_6.toInt) := b130
      replace hA98 := (hu132 _ (by decide)).trans hA98
      replace hA77 := (hu132 _ (by decide)).trans hA77
      replace hA79 := (hu132 _ (by decide)).trans hA79
      replace hA81 := (hu132 _ (by decide)).trans hA81
      replace hA67 := (hu132 _ (by decide)).trans hA67
      replace hF := q_uc hF hu132 (by simp)
      have hR144 := (show F_WR_modulo_c86 x2 x3 x4 t0_0 t0_1 t0_2 t0_3 t0_4 t0_5 t0_6 t1_0 t2_0 t3_0 t4_0 t5_0 t6_0 t7_0 lx42 f66 p84 f97 f76 f78 f80 p133 = (F_WR_modulo x2 x3 x4 t0_0 t0_1 t0_2 t0_3 t0_4 t0_5 t0_6 t1_0 t2_0 t3_0 t4_0 t5_0 t6_0 t7_0) from Eq.trans (by rw [e134, e101, e89, e88, e87, e86, F_WR_modulo_c65.eq_1]) hR90)
      have hS145 := (show True ∧ S_WR_modulo_c86 x2 x3 x4 t0_0 t0_1 t0_2 t0_3 t0_4 t0_5 t0_6 t1_0 t2_0 t3_0 t4_0 t5_0 t6_0 t7_0 lx42 f66 p84 f97 f76 f78 f80 p133 from (by rw [e134, e101, e89, e88, e87, e86]; have h := hS91; rw [S_WR_modulo_c65.eq_1] at h; replace h := q_s2 h; with_reducible exact h))
      exact q_retv C0 V (⟨hI, hF, y108, y109, y110, y111, y112, y113, y114, f115, f117, f97, f76, f78, f80, f66, hO107, hA116, hA118, hA98, hA77, hA79, hA81, hA67, (show 0 ≤ y111.toInt from (by first | with_reducible exact q_fe b123 | (have t1 : 0 ≤ y111.toInt := b123; omega))), (show t0_1.toInt ≤ y109.toInt from (by first | with_reducible exact q_fe b119 | (have t1 : t0_1.toInt ≤ y109.toInt := b119; omega))), (show y109.toInt ≤ t0_1.toInt from (by first | with_reducible exact q_fe b120 | (have t1 : y109.toInt ≤ t0_1.toInt := b120; omega))), (show t0_2.toInt ≤ y110.toInt from (by first | with_reducible exact q_fe b121 | (have t1 : t0_2.toInt ≤ y110.toInt := b121; omega))), (show y110.toInt ≤ t0_2.toInt from (by first | with_reducible exact q_fe b122 | (have t1 : y110.toInt ≤ t0_2.toInt := b122; omega))), (show y111.toInt ≤ t0_3.toInt from (by have t1 : 0 ≤ t0_3.toInt ∧ t0_3.toInt ≤ 1 := btt0_3; have t2 : y111.toInt ≤ 0 := b124; omega)), (show t0_4.toInt ≤ y112.toInt from (by first | with_reducible exact q_fe b125 | (have t1 : t0_4.toInt ≤ y112.toInt := b125; omega))), (show y112.toInt ≤ t0_4.toInt from (by first | with_reducible exact q_fe b126 | (have t1 : y112.toInt ≤ t0_4.toInt := b126; omega))), (show t0_5.toInt ≤ y113.toInt from (by first | with_reducible exact q_fe b127 | (have t1 : t0_5.toInt ≤ y113.toInt := b127; omega))), (show y113.toInt ≤ t0_5.toInt from (by first | with_reducible exact q_fe b128 | (have t1 : y113.toInt ≤ t0_5.toInt := b128; omega))), (show t0_6.toInt ≤ y114.toInt from (by first | with_reducible exact q_fe b129 | (have t1 : t0_6.toInt ≤ y114.toInt := b129; omega))), (show y114.toInt ≤ t0_6.toInt from (by first | with_reducible exact q_fe b130 | (have t1 : y114.toInt ≤ t0_6.toInt := b130; omega))), (show (y108, y109, y110, y111, y112, y113, y114, f115, f117, f97, f76, f78, f80, f66) = (F_WR_modulo x2 x3 x4 t0_0 t0_1 t0_2 t0_3 t0_4 t0_5 t0_6 t1_0 t2_0 t3_0 t4_0 t5_0 t6_0 t7_0) from Eq.trans (by rw [e143, e142, e141, e140, e139, e138, e137, e136, e135, F_WR_modulo_c86.eq_1]) hR144)⟩) d_19_27_89
    ·
      exact q_retv C0 V (⟨hI, hF, lx42, t0_1, t0_2, t0_3, t0_4, t0_5, t0_6, t1_0, t2_0, t3_0, t4_0, t5_0, t6_0, t7_0, hT0, hT1, hT2, hT3, hT4, hT5, hT6, hT7, (show 0 ≤ t0_3.toInt from (by first | with_reducible exact (q_fe btt0_3).2 | with_reducible exact (q_fe btt0_3).1 | (have t1 : 0 ≤ t0_3.toInt ∧ t0_3.toInt ≤ 1 := btt0_3; omega))), (show t0_1.toInt ≤ t0_1.toInt from (by omega)), (show t0_1.toInt ≤ t0_1.toInt from (by omega)), (show t0_2.toInt ≤ t0_2.toInt from (by omega)), (show t0_2.toInt ≤ t0_2.toInt from (by omega)), (show t0_3.toInt ≤ t0_3.toInt from (by omega)), (show t0_4.toInt ≤ t0_4.toInt from (by omega)), (show t0_4.toInt ≤ t0_4.toInt from (by omega)), (show t0_5.toInt ≤ t0_5.toInt from (by omega)), (show t0_5.toInt ≤ t0_5.toInt from (by omega)), (show t0_6.toInt ≤ t0_6.toInt from (by omega)), (show t0_6.toInt ≤ t0_6.toInt from (by omega)), (show (lx42, t0_1, t0_2, t0_3, t0_4, t0_5, t0_6, t1_0, t2_0, t3_0, t4_0, t5_0, t6_0, t7_0) = (F_WR_modulo x2 x3 x4 t0_0 t0_1 t0_2 t0_3 t0_4 t0_5 t0_6 t1_0 t2_0 t3_0 t4_0 t5_0 t6_0 t7_0) from Eq.trans (by rw [F_WR_modulo_J39.eq_1, if_neg c61]) hR54)⟩) d_19_27_49
  ·
    intro J51
    refine q_join (X := Unit) (fun z H locs ls _ => q_Wd D g (va_A ws sz) s ws H locs ∧ lv_has ls 4 [(0, .ref (q 119)), (1, .int x2), (2, .int x3), (3, .int x4)] ∧ F_WR_modulo_J22 x2 x3 x4 t0_0 t0_1 t0_2 t0_3 t0_4 t0_5 t0_6 t1_0 t2_0 t3_0 t4_0 t5_0 t6_0 t7_0 = (F_WR_modulo x2 x3 x4 t0_0 t0_1 t0_2 t0_3 t0_4 t0_5 t0_6 t1_0 t2_0 t3_0 t4_0 t5_0 t6_0 t7_0) ∧ True ∧ S_WR_modulo_J22 x2 x3 x4 t0_0 t0_1 t0_2 t0_3 t0_4 t0_5 t0_6 t1_0 t2_0 t3_0 t4_0 t5_0 t6_0 t7_0) (fun z => [.ref (q 119)]) 22 0 0 ?_ ?_
    ·
      rintro _ H locs ls _ ⟨V, hl, hR159, hS160⟩
      replace hl : lv_has ls 4 [(0, .ref (q 119)), (1, .int x2), (2, .int x3), (3, .int x4)] := hl
      refine lv_iconst (v := 1) hx hb d_19_27_22 (by decide) ?_
      refine lv_goto (tgt := 39) hx hb d_19_27_23 (by decide) ?_
      exact J51 ((1 : Int32)) _ _ _ ws ⟨(show q_F (0 ≤ 1) from (show 0 ≤ 1 from by omega)), (show q_F (1 ≤ 2) from (show 1 ≤ 2 from by omega)), V, q_lw hl (q_lw1 0 rfl (q_lw1 1 rfl (q_lw1 2 rfl (q_lw1 3 rfl q_lw0)))), (show F_WR_modulo_J39 x2 x3 x4 t0_0 t0_1 t0_2 t0_3 t0_4 t0_5 t0_6 t1_0 t2_0 t3_0 t4_0 t5_0 t6_0 t7_0 1 = (F_WR_modulo x2 x3 x4 t0_0 t0_1 t0_2 t0_3 t0_4 t0_5 t0_6 t1_0 t2_0 t3_0 t4_0 t5_0 t6_0 t7_0) from Eq.trans (by rw [F_WR_modulo_J22.eq_1]) hR159), (show True ∧ S_WR_modulo_J39 x2 x3 x4 t0_0 t0_1 t0_2 t0_3 t0_4 t0_5 t0_6 t1_0 t2_0 t3_0 t4_0 t5_0 t6_0 t7_0 1 from (by have h := hS160; rw [S_WR_modulo_J22.eq_1] at h; with_reducible exact h))⟩
    ·
      intro J158
      refine lv_if_ne (tgt := 22) hx hb d_19_27_5 (by decide) (fun c164 => ?_) (fun c164 => ?_)
      ·
        exact J158 (()) _ _ _ ws ⟨V, q_lw hl (q_lw1 0 rfl (q_lw1 1 rfl (q_lw1 2 rfl (q_lw1 3 rfl q_lw0)))), (show F_WR_modulo_J22 x2 x3 x4 t0_0 t0_1 t0_2 t0_3 t0_4 t0_5 t0_6 t1_0 t2_0 t3_0 t4_0 t5_0 t6_0 t7_0 = (F_WR_modulo x2 x3 x4 t0_0 t0_1 t0_2 t0_3 t0_4 t0_5 t0_6 t1_0 t2_0 t3_0 t4_0 t5_0 t6_0 t7_0) from (by have c164x := c164; rw [e41] at c164x; rw [F_WR_modulo.eq_1, if_neg c164x])), (show True ∧ S_WR_modulo_J22 x2 x3 x4 t0_0 t0_1 t0_2 t0_3 t0_4 t0_5 t0_6 t1_0 t2_0 t3_0 t4_0 t5_0 t6_0 t7_0 from (by have h := hS; rw [S_WR_modulo.eq_1] at h; have c164x := c164; rw [e41] at c164x; rw [if_neg c164x] at h; with_reducible exact h))⟩
      ·
        refine lv_iload_n hx hb d_19_27_8 rfl (lv_at hl 2 rfl) ?_
        refine q_goi V (q_runS (As := [.int x3]) (rest := [.ref (q 119)]) (d := 1) (mc := 0) (ms := 0) C0 V rfl LS_WR_91 (X_WR_no l D g q ws  x3 hI   _) rfl hl.1 rfl (Nat.le_of_ble_eq_true rfl) ⟨by decide, by decide⟩ ⟨Nat.le_of_ble_eq_true rfl, Nat.le_of_ble_eq_true rfl⟩ d_19_27_9) (fun a169 u167 H locs hp168 V => ?_)
        obtain ⟨rfl, b170, b171, hE172⟩ := hp168
        have e173 : a169 = (F_WR_no x3) := hE172
        clear b170
        clear b171
        refine lv_if_ne (tgt := 22) hx hb d_19_27_12 (by decide) (fun c174 => ?_) (fun c174 => ?_)
        ·
          exact J158 (()) _ _ _ ws ⟨V, q_lw hl (q_lw1 0 rfl (q_lw1 1 rfl (q_lw1 2 rfl (q_lw1 3 rfl q_lw0)))), (show F_WR_modulo_J22 x2 x3 x4 t0_0 t0_1 t0_2 t0_3 t0_4 t0_5 t0_6 t1_0 t2_0 t3_0 t4_0 t5_0 t6_0 t7_0 = (F_WR_modulo x2 x3 x4 t0_0 t0_1 t0_2 t0_3 t0_4 t0_5 t0_6 t1_0 t2_0 t3_0 t4_0 t5_0 t6_0 t7_0) from (by have c164x := c164; rw [e41] at c164x; have c174x := c174; rw [e173] at c174x; rw [F_WR_modulo.eq_1, if_pos c164x, if_neg c174x])), (show True ∧ S_WR_modulo_J22 x2 x3 x4 t0_0 t0_1 t0_2 t0_3 t0_4 t0_5 t0_6 t1_0 t2_0 t3_0 t4_0 t5_0 t6_0 t7_0 from (by have h := hS; rw [S_WR_modulo.eq_1] at h; have c164x := c164; rw [e41] at c164x; rw [if_pos c164x] at h; have c174x := c174; rw [e173] at c174x; rw [if_neg c174x] at h; with_reducible exact h))⟩
        ·
          refine lv_iload_n hx hb d_19_27_15 rfl (lv_at hl 3 rfl) ?_
          refine q_goi V (q_runS (As := [.int x4]) (rest := [.ref (q 119)]) (d := 1) (mc := 0) (ms := 0) C0 V rfl LS_WR_91 (X_WR_no l D g q ws  x4 hI   _) rfl hl.1 rfl (Nat.le_of_ble_eq_true rfl) ⟨by decide, by decide⟩ ⟨Nat.le_of_ble_eq_true rfl, Nat.le_of_ble_eq_true rfl⟩ d_19_27_16) (fun a179 u177 H locs hp178 V => ?_)
          obtain ⟨rfl, b180, b181, hE182⟩ := hp178
          have e183 : a179 = (F_WR_no x4) := hE182
          clear b180
          clear b181
          refine lv_if_eq (tgt := 26) hx hb d_19_27_19 (by decide) (fun c184 => ?_) (fun c184 => ?_)
          ·
            refine lv_aload_n hx hb d_19_27_26 rfl (lv_at hl 0 rfl) ?_
            refine lv_iload_n hx hb d_19_27_27 rfl (lv_at hl 2 rfl) ?_
            have ob186 : True ∧ S_WR_isAbove0 x3 t0_0 t0_1 t0_2 t0_3 t0_4 t0_5 t0_6 t1_0 t2_0 := (by have h := hS; rw [S_WR_modulo.eq_1] at h; have c164x := c164; rw [e41] at c164x; rw [if_pos c164x] at h; have c174x := c174; rw [e173] at c174x; rw [if_pos c174x] at h; have c184x := c184; rw [e183] at c184x; rw [if_pos c184x] at h; with_reducible exact h.2.1)
            refine q_goi V (q_runV (As := [.int x3]) (rest := [.ref (q 119)]) (d := 2) (mc := 0) (ms := 0) (ci := 13) C0 V rfl LV_WR_125 (X_WR_isAbove0 l D g q ws  x3 hI t0_0 t0_1 t0_2 t0_3 t0_4 t0_5 t0_6 hT0 t1_0 hT1 t2_0 hT2 ob186 _) rfl rfl hT0 rfl hl.1 rfl (Nat.le_of_ble_eq_true rfl) ⟨by decide, by decide⟩ ⟨Nat.le_of_ble_eq_true rfl, Nat.le_of_ble_eq_true rfl⟩ d_19_27_28) (fun a189 u187 H locs hp188 V => ?_)
            obtain ⟨rfl, hZ9⟩ := hp188
            replace hZ9 := hZ9.2.2.2
            obtain ⟨-, hE194⟩ := hZ9
            have e195 : a189 = (F_WR_isAbove0 x3 t0_0 t0_1 t0_2 t0_3 t0_4 t0_5 t0_6 t1_0 t2_0) := hE194
            refine lv_if_ne (tgt := 38) hx hb d_19_27_31 (by decide) (fun c196 => ?_) (fun c196 => ?_)
            ·
              refine lv_iconst (v := 0) hx hb d_19_27_38 (by decide) ?_
              exact J51 ((0 : Int32)) _ _ _ ws ⟨(show q_F (0 ≤ 0) from (show 0 ≤ 0 from by omega)), (show q_F (0 ≤ 2) from (show 0 ≤ 2 from by omega)), V, q_lw hl (q_lw1 0 rfl (q_lw1 1 rfl (q_lw1 2 rfl (q_lw1 3 rfl q_lw0)))), (show F_WR_modulo_J39 x2 x3 x4 t0_0 t0_1 t0_2 t0_3 t0_4 t0_5 t0_6 t1_0 t2_0 t3_0 t4_0 t5_0 t6_0 t7_0 0 = (F_WR_modulo x2 x3 x4 t0_0 t0_1 t0_2 t0_3 t0_4 t0_5 t0_6 t1_0 t2_0 t3_0 t4_0 t5_0 t6_0 t7_0) from (by have c164x := c164; rw [e41] at c164x; have c174x := c174; rw [e173] at c174x; have c184x := c184; rw [e183] at c184x; have c196x := c196; rw [e195] at c196x; rw [F_WR_modulo.eq_1, if_pos c164x, if_pos c174x, if_pos c184x, if_neg c196x])), (show True ∧ S_WR_modulo_J39 x2 x3 x4 t0_0 t0_1 t0_2 t0_3 t0_4 t0_5 t0_6 t1_0 t2_0 t3_0 t4_0 t5_0 t6_0 t7_0 0 from (by have h := hS; rw [S_WR_modulo.eq_1] at h; have c164x := c164; rw [e41] at c164x; rw [if_pos c164x] at h; have c174x := c174; rw [e173] at c174x; rw [if_pos c174x] at h; have c184x := c184; rw [e183] at c184x; rw [if_pos c184x] at h; replace h := q_s2 h; have c196x := c196; rw [e195] at c196x; rw [if_neg c196x] at h; with_reducible exact h))⟩
            ·
              refine lv_iconst (v := 2) hx hb d_19_27_34 (by decide) ?_
              refine lv_goto (tgt := 39) hx hb d_19_27_35 (by decide) ?_
              exact J51 ((2 : Int32)) _ _ _ ws ⟨(show q_F (0 ≤ 2) from (show 0 ≤ 2 from by omega)), (show q_F (2 ≤ 2) from (show 2 ≤ 2 from by omega)), V, q_lw hl (q_lw1 0 rfl (q_lw1 1 rfl (q_lw1 2 rfl (q_lw1 3 rfl q_lw0)))), (show F_WR_modulo_J39 x2 x3 x4 t0_0 t0_1 t0_2 t0_3 t0_4 t0_5 t0_6 t1_0 t2_0 t3_0 t4_0 t5_0 t6_0 t7_0 2 = (F_WR_modulo x2 x3 x4 t0_0 t0_1 t0_2 t0_3 t0_4 t0_5 t0_6 t1_0 t2_0 t3_0 t4_0 t5_0 t6_0 t7_0) from (by have c164x := c164; rw [e41] at c164x; have c174x := c174; rw [e173] at c174x; have c184x := c184; rw [e183] at c184x; have c196x := c196; rw [e195] at c196x; rw [F_WR_modulo.eq_1, if_pos c164x, if_pos c174x, if_pos c184x, if_pos c196x])), (show True ∧ S_WR_modulo_J39 x2 x3 x4 t0_0 t0_1 t0_2 t0_3 t0_4 t0_5 t0_6 t1_0 t2_0 t3_0 t4_0 t5_0 t6_0 t7_0 2 from (by have h := hS; rw [S_WR_modulo.eq_1] at h; have c164x := c164; rw [e41] at c164x; rw [if_pos c164x] at h; have c174x := c174; rw [e173] at c174x; rw [if_pos c174x] at h; have c184x := c184; rw [e183] at c184x; rw [if_pos c184x] at h; replace h := q_s2 h; have c196x := c196; rw [e195] at c196x; rw [if_pos c196x] at h; with_reducible exact h))⟩
          ·
            exact J158 (()) _ _ _ ws ⟨V, q_lw hl (q_lw1 0 rfl (q_lw1 1 rfl (q_lw1 2 rfl (q_lw1 3 rfl q_lw0)))), (show F_WR_modulo_J22 x2 x3 x4 t0_0 t0_1 t0_2 t0_3 t0_4 t0_5 t0_6 t1_0 t2_0 t3_0 t4_0 t5_0 t6_0 t7_0 = (F_WR_modulo x2 x3 x4 t0_0 t0_1 t0_2 t0_3 t0_4 t0_5 t0_6 t1_0 t2_0 t3_0 t4_0 t5_0 t6_0 t7_0) from (by have c164x := c164; rw [e41] at c164x; have c174x := c174; rw [e173] at c174x; have c184x := c184; rw [e183] at c184x; rw [F_WR_modulo.eq_1, if_pos c164x, if_pos c174x, if_neg c184x])), (show True ∧ S_WR_modulo_J22 x2 x3 x4 t0_0 t0_1 t0_2 t0_3 t0_4 t0_5 t0_6 t1_0 t2_0 t3_0 t4_0 t5_0 t6_0 t7_0 from (by have h := hS; rw [S_WR_modulo.eq_1] at h; have c164x := c164; rw [e41] at c164x; rw [if_pos c164x] at h; have c174x := c174; rw [e173] at c174x; rw [if_pos c174x] at h; have c184x := c184; rw [e183] at c184x; rw [if_neg c184x] at h; with_reducible exact h))⟩
theorem d_19_32_0 : decode prog_19_method_32_code 0 = .ok (.aload_n 0, 1) := by decide +kernel
theorem d_19_32_1 : decode prog_19_method_32_code 1 = .ok (.iload_n 1, 1) := by decide +kernel
theorem d_19_32_2 : decode prog_19_method_32_code 2 = .ok (.invokestatic 91, 3) := by decide +kernel
theorem d_19_32_27 : decode prog_19_method_32_code 27 = .ok (.putfield 53, 3) := by decide +kernel
theorem d_19_32_30 : decode prog_19_method_32_code 30 = .ok (.aload_n 0, 1) := by decide +kernel
theorem d_19_32_31 : decode prog_19_method_32_code 31 = .ok (.getfield 53, 3) := by decide +kernel
theorem d_19_32_34 : decode prog_19_method_32_code 34 = .ok (.ifCond .le 4, 3) := by decide +kernel
theorem d_19_32_38 : decode prog_19_method_32_code 38 = .ok (.aload_n 0, 1) := by decide +kernel
theorem d_19_32_39 : decode prog_19_method_32_code 39 = .ok (.iload_n 1, 1) := by decide +kernel
theorem d_19_32_40 : decode prog_19_method_32_code 40 = .ok (.aload_n 0, 1) := by decide +kernel
theorem d_19_32_41 : decode prog_19_method_32_code 41 = .ok (.getfield 35, 3) := by decide +kernel
theorem d_19_32_44 : decode prog_19_method_32_code 44 = .ok (.invokevirtual 107, 3) := by decide +kernel
theorem d_19_32_47 : decode prog_19_method_32_code 47 = .ok (.aload_n 0, 1) := by decide +kernel
theorem d_19_32_48 : decode prog_19_method_32_code 48 = .ok (.iload_n 2, 1) := by decide +kernel
theorem d_19_32_49 : decode prog_19_method_32_code 49 = .ok (.aload_n 0, 1) := by decide +kernel
theorem d_19_32_50 : decode prog_19_method_32_code 50 = .ok (.getfield 38, 3) := by decide +kernel
theorem d_19_32_53 : decode prog_19_method_32_code 53 = .ok (.invokevirtual 107, 3) := by decide +kernel
theorem d_19_32_56 : decode prog_19_method_32_code 56 = .ok (.aload_n 0, 1) := by decide +kernel
theorem d_19_32_57 : decode prog_19_method_32_code 57 = .ok (.getfield 38, 3) := by decide +kernel
theorem d_19_32_60 : decode prog_19_method_32_code 60 = .ok (.invokestatic 59, 3) := by decide +kernel
theorem d_19_32_63 : decode prog_19_method_32_code 63 = .ok (.ifCond .le 40, 3) := by decide +kernel
theorem d_19_32_103 : decode prog_19_method_32_code 103 = .ok (.aload_n 0, 1) := by decide +kernel
theorem d_19_32_104 : decode prog_19_method_32_code 104 = .ok (.getfield 35, 3) := by decide +kernel
theorem d_19_32_107 : decode prog_19_method_32_code 107 = .ok (.aload_n 0, 1) := by decide +kernel
theorem d_19_32_108 : decode prog_19_method_32_code 108 = .ok (.getfield 20, 3) := by decide +kernel
theorem d_19_32_111 : decode prog_19_method_32_code 111 = .ok (.invokestatic 67, 3) := by decide +kernel
theorem d_19_32_114 : decode prog_19_method_32_code 114 = .ok (.aload_n 0, 1) := by decide +kernel
theorem d_19_32_115 : decode prog_19_method_32_code 115 = .ok (.iconst 0, 1) := by decide +kernel
theorem d_19_32_116 : decode prog_19_method_32_code 116 = .ok (.putfield 82, 3) := by decide +kernel
theorem d_19_32_119 : decode prog_19_method_32_code 119 = .ok (.aload_n 0, 1) := by decide +kernel
theorem d_19_32_120 : decode prog_19_method_32_code 120 = .ok (.iload_n 3, 1) := by decide +kernel
theorem d_19_32_121 : decode prog_19_method_32_code 121 = .ok (.invokevirtual 103, 3) := by decide +kernel
theorem d_19_32_124 : decode prog_19_method_32_code 124 = .ok (.return_, 1) := by decide +kernel
theorem d_19_32_66 : decode prog_19_method_32_code 66 = .ok (.aload_n 0, 1) := by decide +kernel
theorem d_19_32_67 : decode prog_19_method_32_code 67 = .ok (.aload_n 0, 1) := by decide +kernel
theorem d_19_32_68 : decode prog_19_method_32_code 68 = .ok (.getfield 35, 3) := by decide +kernel
theorem d_19_32_71 : decode prog_19_method_32_code 71 = .ok (.aload_n 0, 1) := by decide +kernel
theorem d_19_32_72 : decode prog_19_method_32_code 72 = .ok (.getfield 38, 3) := by decide +kernel
theorem d_19_32_75 : decode prog_19_method_32_code 75 = .ok (.invokevirtual 122, 3) := by decide +kernel
theorem d_19_32_78 : decode prog_19_method_32_code 78 = .ok (.aload_n 0, 1) := by decide +kernel
theorem d_19_32_79 : decode prog_19_method_32_code 79 = .ok (.getfield 38, 3) := by decide +kernel
theorem d_19_32_82 : decode prog_19_method_32_code 82 = .ok (.aload_n 0, 1) := by decide +kernel
theorem d_19_32_83 : decode prog_19_method_32_code 83 = .ok (.getfield 35, 3) := by decide +kernel
theorem d_19_32_86 : decode prog_19_method_32_code 86 = .ok (.invokestatic 67, 3) := by decide +kernel
theorem d_19_32_89 : decode prog_19_method_32_code 89 = .ok (.aload_n 0, 1) := by decide +kernel
theorem d_19_32_90 : decode prog_19_method_32_code 90 = .ok (.getfield 29, 3) := by decide +kernel
theorem d_19_32_93 : decode prog_19_method_32_code 93 = .ok (.aload_n 0, 1) := by decide +kernel
theorem d_19_32_94 : decode prog_19_method_32_code 94 = .ok (.getfield 38, 3) := by decide +kernel
theorem d_19_32_97 : decode prog_19_method_32_code 97 = .ok (.invokestatic 67, 3) := by decide +kernel
theorem d_19_32_100 : decode prog_19_method_32_code 100 = .ok (.goto (-44), 3) := by decide +kernel
theorem d_19_32_37 : decode prog_19_method_32_code 37 = .ok (.return_, 1) := by decide +kernel
theorem d_19_32_22 : decode prog_19_method_32_code 22 = .ok (.iconst 1, 1) := by decide +kernel
theorem d_19_32_23 : decode prog_19_method_32_code 23 = .ok (.goto 4, 3) := by decide +kernel
theorem d_19_32_5 : decode prog_19_method_32_code 5 = .ok (.ifCond .ne 17, 3) := by decide +kernel
theorem d_19_32_8 : decode prog_19_method_32_code 8 = .ok (.iload_n 2, 1) := by decide +kernel
theorem d_19_32_9 : decode prog_19_method_32_code 9 = .ok (.invokestatic 91, 3) := by decide +kernel
theorem d_19_32_12 : decode prog_19_method_32_code 12 = .ok (.ifCond .ne 10, 3) := by decide +kernel
theorem d_19_32_15 : decode prog_19_method_32_code 15 = .ok (.iload_n 3, 1) := by decide +kernel
theorem d_19_32_16 : decode prog_19_method_32_code 16 = .ok (.invokestatic 91, 3) := by decide +kernel
theorem d_19_32_19 : decode prog_19_method_32_code 19 = .ok (.ifCond .eq 7, 3) := by decide +kernel
theorem d_19_32_26 : decode prog_19_method_32_code 26 = .ok (.iconst 0, 1) := by decide +kernel
def y_WR_common : MethodName := ⟨"NumberHouseModel$WholeRows", "common", "(III)V"⟩
def F_WR_common_c121 (K_F_WR_common_L56 : (Nat → Int32) → (Nat → Int32) → (Nat → Int32) → (Nat → Int32) → (Int32 × Int32 × Int32 × Int32 × Int32 × Int32 × Int32 × (Nat → Int32) × (Nat → Int32) × (Nat → Int32) × (Nat → Int32) × (Nat → Int32) × (Nat → Int32) × (Nat → Int32))) (x2 : Int32) (x3 : Int32) (x4 : Int32) (t0_0 : Int32) (t0_1 : Int32) (t0_2 : Int32) (t0_3 : Int32) (t0_4 : Int32) (t0_5 : Int32) (t0_6 : Int32) (t1_0 : (Nat → Int32)) (t2_0 : (Nat → Int32)) (t3_0 : (Nat → Int32)) (t4_0 : (Nat → Int32)) (t5_0 : (Nat → Int32)) (t6_0 : (Nat → Int32)) (t7_0 : (Nat → Int32)) (lx42 : Int32) (lx79 : (Nat → Int32)) (lx80 : (Nat → Int32)) (lx81 : (Nat → Int32)) (lx82 : (Nat → Int32)) (f109 : (Nat → Int32)) (p145 : (Int32 × Int32 × Int32 × Int32 × Int32 × Int32 × Int32 × (Nat → Int32) × (Nat → Int32))) : Int32 × Int32 × Int32 × Int32 × Int32 × Int32 × Int32 × (Nat → Int32) × (Nat → Int32) × (Nat → Int32) × (Nat → Int32) × (Nat → Int32) × (Nat → Int32) × (Nat → Int32) := ((p145.1 : Int32), (p145.2.1 : Int32), (p145.2.2.1 : Int32), (p145.2.2.2.1 : Int32), (p145.2.2.2.2.1 : Int32), (p145.2.2.2.2.2.1 : Int32), (p145.2.2.2.2.2.2.1 : Int32), (p145.2.2.2.2.2.2.2.1 : (Nat → Int32)), (p145.2.2.2.2.2.2.2.2 : (Nat → Int32)), f109, lx79, lx80, lx81, lx82)
def F_WR_common_c75 (K_F_WR_common_L56 : (Nat → Int32) → (Nat → Int32) → (Nat → Int32) → (Nat → Int32) → (Int32 × Int32 × Int32 × Int32 × Int32 × Int32 × Int32 × (Nat → Int32) × (Nat → Int32) × (Nat → Int32) × (Nat → Int32) × (Nat → Int32) × (Nat → Int32) × (Nat → Int32))) (x2 : Int32) (x3 : Int32) (x4 : Int32) (t0_0 : Int32) (t0_1 : Int32) (t0_2 : Int32) (t0_3 : Int32) (t0_4 : Int32) (t0_5 : Int32) (t0_6 : Int32) (t1_0 : (Nat → Int32)) (t2_0 : (Nat → Int32)) (t3_0 : (Nat → Int32)) (t4_0 : (Nat → Int32)) (t5_0 : (Nat → Int32)) (t6_0 : (Nat → Int32)) (t7_0 : (Nat → Int32)) (lx42 : Int32) (lx79 : (Nat → Int32)) (lx80 : (Nat → Int32)) (lx81 : (Nat → Int32)) (lx82 : (Nat → Int32)) (p171 : ((Nat → Int32) × (Nat → Int32))) : Int32 × Int32 × Int32 × Int32 × Int32 × Int32 × Int32 × (Nat → Int32) × (Nat → Int32) × (Nat → Int32) × (Nat → Int32) × (Nat → Int32) × (Nat → Int32) × (Nat → Int32) := K_F_WR_common_L56 (p171.1 : (Nat → Int32)) (p171.2 : (Nat → Int32)) ((F_WR_copy (264 : Int32) (264 : Int32) lx82 lx81) : (Nat → Int32)) ((F_WR_copy (264 : Int32) (264 : Int32) (p171.1 : (Nat → Int32)) lx82) : (Nat → Int32))
def F_WR_common_L56 (x2 : Int32) (x3 : Int32) (x4 : Int32) (t0_0 : Int32) (t0_1 : Int32) (t0_2 : Int32) (t0_3 : Int32) (t0_4 : Int32) (t0_5 : Int32) (t0_6 : Int32) (t1_0 : (Nat → Int32)) (t2_0 : (Nat → Int32)) (t3_0 : (Nat → Int32)) (t4_0 : (Nat → Int32)) (t5_0 : (Nat → Int32)) (t6_0 : (Nat → Int32)) (t7_0 : (Nat → Int32)) (lx42 : Int32) : Nat → (Nat → Int32) → (Nat → Int32) → (Nat → Int32) → (Nat → Int32) → (Int32 × Int32 × Int32 × Int32 × Int32 × Int32 × Int32 × (Nat → Int32) × (Nat → Int32) × (Nat → Int32) × (Nat → Int32) × (Nat → Int32) × (Nat → Int32) × (Nat → Int32))
  | 0, _, _, _, _ => default
  | fm + 1, lx79, lx80, lx81, lx82 => if ((F_WR_size (264 : Int32) lx82) : Int32) ≤ (0 : Int32) then (F_WR_common_c121 (F_WR_common_L56 x2 x3 x4 t0_0 t0_1 t0_2 t0_3 t0_4 t0_5 t0_6 t1_0 t2_0 t3_0 t4_0 t5_0 t6_0 t7_0 lx42 fm) x2 x3 x4 t0_0 t0_1 t0_2 t0_3 t0_4 t0_5 t0_6 t1_0 t2_0 t3_0 t4_0 t5_0 t6_0 t7_0 lx42 lx79 lx80 lx81 lx82 ((F_WR_copy (264 : Int32) (264 : Int32) lx81 t3_0) : (Nat → Int32)) ((F_WR_store x4 lx42 t0_1 t0_2 (0 : Int32) t0_4 t0_5 t0_6 t1_0 t2_0 ((F_WR_copy (264 : Int32) (264 : Int32) lx81 t3_0) : (Nat → Int32))) : (Int32 × Int32 × Int32 × Int32 × Int32 × Int32 × Int32 × (Nat → Int32) × (Nat → Int32)))) else (F_WR_common_c75 (F_WR_common_L56 x2 x3 x4 t0_0 t0_1 t0_2 t0_3 t0_4 t0_5 t0_6 t1_0 t2_0 t3_0 t4_0 t5_0 t6_0 t7_0 lx42 fm) x2 x3 x4 t0_0 t0_1 t0_2 t0_3 t0_4 t0_5 t0_6 t1_0 t2_0 t3_0 t4_0 t5_0 t6_0 t7_0 lx42 lx79 lx80 lx81 lx82 ((F_WR_divideRows (264 : Int32) (264 : Int32) lx42 t0_1 t0_2 t0_3 t0_4 t0_5 t0_6 lx79 lx80 lx81 lx82) : ((Nat → Int32) × (Nat → Int32))))
def F_WR_common_J27 (x2 : Int32) (x3 : Int32) (x4 : Int32) (t0_0 : Int32) (t0_1 : Int32) (t0_2 : Int32) (t0_3 : Int32) (t0_4 : Int32) (t0_5 : Int32) (t0_6 : Int32) (t1_0 : (Nat → Int32)) (t2_0 : (Nat → Int32)) (t3_0 : (Nat → Int32)) (t4_0 : (Nat → Int32)) (t5_0 : (Nat → Int32)) (t6_0 : (Nat → Int32)) (t7_0 : (Nat → Int32)) (lx42 : Int32) : Int32 × Int32 × Int32 × Int32 × Int32 × Int32 × Int32 × (Nat → Int32) × (Nat → Int32) × (Nat → Int32) × (Nat → Int32) × (Nat → Int32) × (Nat → Int32) × (Nat → Int32) := if lx42 ≤ (0 : Int32) then (F_WR_common_L56 x2 x3 x4 t0_0 t0_1 t0_2 t0_3 t0_4 t0_5 t0_6 t1_0 t2_0 t3_0 t4_0 t5_0 t6_0 t7_0 lx42 1000000 t4_0 t5_0 ((F_WR_take x2 (264 : Int32) lx42 t0_1 t0_2 t0_3 t0_4 t0_5 t0_6 t1_0 t6_0) : (Nat → Int32)) ((F_WR_take x3 (264 : Int32) lx42 t0_1 t0_2 t0_3 t0_4 t0_5 t0_6 t1_0 t7_0) : (Nat → Int32))) else ((lx42, t0_1, t0_2, t0_3, t0_4, t0_5, t0_6, t1_0, t2_0, t3_0, t4_0, t5_0, t6_0, t7_0))
def F_WR_common_J22 (x2 : Int32) (x3 : Int32) (x4 : Int32) (t0_0 : Int32) (t0_1 : Int32) (t0_2 : Int32) (t0_3 : Int32) (t0_4 : Int32) (t0_5 : Int32) (t0_6 : Int32) (t1_0 : (Nat → Int32)) (t2_0 : (Nat → Int32)) (t3_0 : (Nat → Int32)) (t4_0 : (Nat → Int32)) (t5_0 : (Nat → Int32)) (t6_0 : (Nat → Int32)) (t7_0 : (Nat → Int32)) : Int32 × Int32 × Int32 × Int32 × Int32 × Int32 × Int32 × (Nat → Int32) × (Nat → Int32) × (Nat → Int32) × (Nat → Int32) × (Nat → Int32) × (Nat → Int32) × (Nat → Int32) := F_WR_common_J27 x2 x3 x4 t0_0 t0_1 t0_2 t0_3 t0_4 t0_5 t0_6 t1_0 t2_0 t3_0 t4_0 t5_0 t6_0 t7_0 1
def F_WR_common (x2 : Int32) (x3 : Int32) (x4 : Int32) (t0_0 : Int32) (t0_1 : Int32) (t0_2 : Int32) (t0_3 : Int32) (t0_4 : Int32) (t0_5 : Int32) (t0_6 : Int32) (t1_0 : (Nat → Int32)) (t2_0 : (Nat → Int32)) (t3_0 : (Nat → Int32)) (t4_0 : (Nat → Int32)) (t5_0 : (Nat → Int32)) (t6_0 : (Nat → Int32)) (t7_0 : (Nat → Int32)) : Int32 × Int32 × Int32 × Int32 × Int32 × Int32 × Int32 × (Nat → Int32) × (Nat → Int32) × (Nat → Int32) × (Nat → Int32) × (Nat → Int32) × (Nat → Int32) × (Nat → Int32) := if ((F_WR_no x2) : Int32) = (0 : Int32) then (if ((F_WR_no x3) : Int32) = (0 : Int32) then (if ((F_WR_no x4) : Int32) = (0 : Int32) then (F_WR_common_J27 x2 x3 x4 t0_0 t0_1 t0_2 t0_3 t0_4 t0_5 t0_6 t1_0 t2_0 t3_0 t4_0 t5_0 t6_0 t7_0 0) else (F_WR_common_J22 x2 x3 x4 t0_0 t0_1 t0_2 t0_3 t0_4 t0_5 t0_6 t1_0 t2_0 t3_0 t4_0 t5_0 t6_0 t7_0)) else (F_WR_common_J22 x2 x3 x4 t0_0 t0_1 t0_2 t0_3 t0_4 t0_5 t0_6 t1_0 t2_0 t3_0 t4_0 t5_0 t6_0 t7_0)) else (F_WR_common_J22 x2 x3 x4 t0_0 t0_1 t0_2 t0_3 t0_4 t0_5 t0_6 t1_0 t2_0 t3_0 t4_0 t5_0 t6_0 t7_0)
def S_WR_common_c121 (K_S_WR_common_L56 : (Nat → Int32) → (Nat → Int32) → (Nat → Int32) → (Nat → Int32) → Prop) (x2 : Int32) (x3 : Int32) (x4 : Int32) (t0_0 : Int32) (t0_1 : Int32) (t0_2 : Int32) (t0_3 : Int32) (t0_4 : Int32) (t0_5 : Int32) (t0_6 : Int32) (t1_0 : (Nat → Int32)) (t2_0 : (Nat → Int32)) (t3_0 : (Nat → Int32)) (t4_0 : (Nat → Int32)) (t5_0 : (Nat → Int32)) (t6_0 : (Nat → Int32)) (t7_0 : (Nat → Int32)) (lx42 : Int32) (lx79 : (Nat → Int32)) (lx80 : (Nat → Int32)) (lx81 : (Nat → Int32)) (lx82 : (Nat → Int32)) (f109 : (Nat → Int32)) (p145 : (Int32 × Int32 × Int32 × Int32 × Int32 × Int32 × Int32 × (Nat → Int32) × (Nat → Int32))) : Prop := True
def S_WR_common_c75 (K_S_WR_common_L56 : (Nat → Int32) → (Nat → Int32) → (Nat → Int32) → (Nat → Int32) → Prop) (x2 : Int32) (x3 : Int32) (x4 : Int32) (t0_0 : Int32) (t0_1 : Int32) (t0_2 : Int32) (t0_3 : Int32) (t0_4 : Int32) (t0_5 : Int32) (t0_6 : Int32) (t1_0 : (Nat → Int32)) (t2_0 : (Nat → Int32)) (t3_0 : (Nat → Int32)) (t4_0 : (Nat → Int32)) (t5_0 : (Nat → Int32)) (t6_0 : (Nat → Int32)) (t7_0 : (Nat → Int32)) (lx42 : Int32) (lx79 : (Nat → Int32)) (lx80 : (Nat → Int32)) (lx81 : (Nat → Int32)) (lx82 : (Nat → Int32)) (p171 : ((Nat → Int32) × (Nat → Int32))) : Prop := K_S_WR_common_L56 (p171.1 : (Nat → Int32)) (p171.2 : (Nat → Int32)) ((F_WR_copy (264 : Int32) (264 : Int32) lx82 lx81) : (Nat → Int32)) ((F_WR_copy (264 : Int32) (264 : Int32) (p171.1 : (Nat → Int32)) lx82) : (Nat → Int32))
def S_WR_common_L56 (x2 : Int32) (x3 : Int32) (x4 : Int32) (t0_0 : Int32) (t0_1 : Int32) (t0_2 : Int32) (t0_3 : Int32) (t0_4 : Int32) (t0_5 : Int32) (t0_6 : Int32) (t1_0 : (Nat → Int32)) (t2_0 : (Nat → Int32)) (t3_0 : (Nat → Int32)) (t4_0 : (Nat → Int32)) (t5_0 : (Nat → Int32)) (t6_0 : (Nat → Int32)) (t7_0 : (Nat → Int32)) (lx42 : Int32) : Nat → (Nat → Int32) → (Nat → Int32) → (Nat → Int32) → (Nat → Int32) → Prop
  | 0, _, _, _, _ => False
  | fm + 1, lx79, lx80, lx81, lx82 => if ((F_WR_size (264 : Int32) lx82) : Int32) ≤ (0 : Int32) then ((True ∧ S_WR_store x4 lx42 t0_1 t0_2 (0 : Int32) t0_4 t0_5 t0_6 t1_0 t2_0 ((F_WR_copy (264 : Int32) (264 : Int32) lx81 t3_0) : (Nat → Int32))) ∧ (S_WR_common_c121 (S_WR_common_L56 x2 x3 x4 t0_0 t0_1 t0_2 t0_3 t0_4 t0_5 t0_6 t1_0 t2_0 t3_0 t4_0 t5_0 t6_0 t7_0 lx42 fm) x2 x3 x4 t0_0 t0_1 t0_2 t0_3 t0_4 t0_5 t0_6 t1_0 t2_0 t3_0 t4_0 t5_0 t6_0 t7_0 lx42 lx79 lx80 lx81 lx82 ((F_WR_copy (264 : Int32) (264 : Int32) lx81 t3_0) : (Nat → Int32)) ((F_WR_store x4 lx42 t0_1 t0_2 (0 : Int32) t0_4 t0_5 t0_6 t1_0 t2_0 ((F_WR_copy (264 : Int32) (264 : Int32) lx81 t3_0) : (Nat → Int32))) : (Int32 × Int32 × Int32 × Int32 × Int32 × Int32 × Int32 × (Nat → Int32) × (Nat → Int32))))) else ((True ∧ S_WR_divideRows (264 : Int32) (264 : Int32) lx42 t0_1 t0_2 t0_3 t0_4 t0_5 t0_6 lx79 lx80 lx81 lx82) ∧ (S_WR_common_c75 (S_WR_common_L56 x2 x3 x4 t0_0 t0_1 t0_2 t0_3 t0_4 t0_5 t0_6 t1_0 t2_0 t3_0 t4_0 t5_0 t6_0 t7_0 lx42 fm) x2 x3 x4 t0_0 t0_1 t0_2 t0_3 t0_4 t0_5 t0_6 t1_0 t2_0 t3_0 t4_0 t5_0 t6_0 t7_0 lx42 lx79 lx80 lx81 lx82 ((F_WR_divideRows (264 : Int32) (264 : Int32) lx42 t0_1 t0_2 t0_3 t0_4 t0_5 t0_6 lx79 lx80 lx81 lx82) : ((Nat → Int32) × (Nat → Int32)))))
def S_WR_common_J27 (x2 : Int32) (x3 : Int32) (x4 : Int32) (t0_0 : Int32) (t0_1 : Int32) (t0_2 : Int32) (t0_3 : Int32) (t0_4 : Int32) (t0_5 : Int32) (t0_6 : Int32) (t1_0 : (Nat → Int32)) (t2_0 : (Nat → Int32)) (t3_0 : (Nat → Int32)) (t4_0 : (Nat → Int32)) (t5_0 : (Nat → Int32)) (t6_0 : (Nat → Int32)) (t7_0 : (Nat → Int32)) (lx42 : Int32) : Prop := if lx42 ≤ (0 : Int32) then ((True ∧ S_WR_take x2 (264 : Int32) lx42 t0_1 t0_2 t0_3 t0_4 t0_5 t0_6 t1_0 t6_0) ∧ ((True ∧ S_WR_take x3 (264 : Int32) lx42 t0_1 t0_2 t0_3 t0_4 t0_5 t0_6 t1_0 t7_0) ∧ (S_WR_common_L56 x2 x3 x4 t0_0 t0_1 t0_2 t0_3 t0_4 t0_5 t0_6 t1_0 t2_0 t3_0 t4_0 t5_0 t6_0 t7_0 lx42 1000000 t4_0 t5_0 ((F_WR_take x2 (264 : Int32) lx42 t0_1 t0_2 t0_3 t0_4 t0_5 t0_6 t1_0 t6_0) : (Nat → Int32)) ((F_WR_take x3 (264 : Int32) lx42 t0_1 t0_2 t0_3 t0_4 t0_5 t0_6 t1_0 t7_0) : (Nat → Int32))))) else (True)
def S_WR_common_J22 (x2 : Int32) (x3 : Int32) (x4 : Int32) (t0_0 : Int32) (t0_1 : Int32) (t0_2 : Int32) (t0_3 : Int32) (t0_4 : Int32) (t0_5 : Int32) (t0_6 : Int32) (t1_0 : (Nat → Int32)) (t2_0 : (Nat → Int32)) (t3_0 : (Nat → Int32)) (t4_0 : (Nat → Int32)) (t5_0 : (Nat → Int32)) (t6_0 : (Nat → Int32)) (t7_0 : (Nat → Int32)) : Prop := S_WR_common_J27 x2 x3 x4 t0_0 t0_1 t0_2 t0_3 t0_4 t0_5 t0_6 t1_0 t2_0 t3_0 t4_0 t5_0 t6_0 t7_0 1
def S_WR_common (x2 : Int32) (x3 : Int32) (x4 : Int32) (t0_0 : Int32) (t0_1 : Int32) (t0_2 : Int32) (t0_3 : Int32) (t0_4 : Int32) (t0_5 : Int32) (t0_6 : Int32) (t1_0 : (Nat → Int32)) (t2_0 : (Nat → Int32)) (t3_0 : (Nat → Int32)) (t4_0 : (Nat → Int32)) (t5_0 : (Nat → Int32)) (t6_0 : (Nat → Int32)) (t7_0 : (Nat → Int32)) : Prop := if ((F_WR_no x2) : Int32) = (0 : Int32) then (if ((F_WR_no x3) : Int32) = (0 : Int32) then (if ((F_WR_no x4) : Int32) = (0 : Int32) then (S_WR_common_J27 x2 x3 x4 t0_0 t0_1 t0_2 t0_3 t0_4 t0_5 t0_6 t1_0 t2_0 t3_0 t4_0 t5_0 t6_0 t7_0 0) else (S_WR_common_J22 x2 x3 x4 t0_0 t0_1 t0_2 t0_3 t0_4 t0_5 t0_6 t1_0 t2_0 t3_0 t4_0 t5_0 t6_0 t7_0)) else (S_WR_common_J22 x2 x3 x4 t0_0 t0_1 t0_2 t0_3 t0_4 t0_5 t0_6 t1_0 t2_0 t3_0 t4_0 t5_0 t6_0 t7_0)) else (S_WR_common_J22 x2 x3 x4 t0_0 t0_1 t0_2 t0_3 t0_4 t0_5 t0_6 t1_0 t2_0 t3_0 t4_0 t5_0 t6_0 t7_0)
set_option maxRecDepth 100000 in
set_option maxHeartbeats 4000000 in
theorem X_WR_common (l : Launch) (D : va_G) (g : Nat → ClassId) (q : Nat → Nat) (ws : va_W) (x2 : Int32) (x3 : Int32) (x4 : Int32) (hI : q_I (msh g q) q ws) (t0_0 : Int32) (t0_1 : Int32) (t0_2 : Int32) (t0_3 : Int32) (t0_4 : Int32) (t0_5 : Int32) (t0_6 : Int32) (hT0 : ws[119]? = (some (q 119, .inr (13, [.int t0_0, .int t0_1, .ref (q 120), .int t0_2, .ref (q 121), .ref (q 122), .ref (q 123), .int t0_3, .ref (q 124), .ref (q 125), .ref (q 126), .ref (q 127), .ref (q 128), .ref (q 129), .ref (q 130), .ref (q 131), .int t0_4, .int t0_5, .ref (q 132), .ref (q 133), .int t0_6])) : Option (Nat × va_E))) (t1_0 : (Nat → Int32)) (hT1 : ws[121]? = (some (q 121, .inl (g 0, (1408 : Int32).toNatClampNeg, .inl t1_0)) : Option (Nat × va_E))) (t2_0 : (Nat → Int32)) (hT2 : ws[122]? = (some (q 122, .inl (g 3, 11, .inl t2_0)) : Option (Nat × va_E))) (t3_0 : (Nat → Int32)) (hT3 : ws[123]? = (some (q 123, .inl (g 0, (264 : Int32).toNatClampNeg, .inl t3_0)) : Option (Nat × va_E))) (t4_0 : (Nat → Int32)) (hT4 : ws[126]? = (some (q 126, .inl (g 0, (264 : Int32).toNatClampNeg, .inl t4_0)) : Option (Nat × va_E))) (t5_0 : (Nat → Int32)) (hT5 : ws[127]? = (some (q 127, .inl (g 0, (264 : Int32).toNatClampNeg, .inl t5_0)) : Option (Nat × va_E))) (t6_0 : (Nat → Int32)) (hT6 : ws[128]? = (some (q 128, .inl (g 0, (264 : Int32).toNatClampNeg, .inl t6_0)) : Option (Nat × va_E))) (t7_0 : (Nat → Int32)) (hT7 : ws[129]? = (some (q 129, .inl (g 0, (264 : Int32).toNatClampNeg, .inl t7_0)) : Option (Nat × va_E))) (hS : True ∧ S_WR_common x2 x3 x4 t0_0 t0_1 t0_2 t0_3 t0_4 t0_5 t0_6 t1_0 t2_0 t3_0 t4_0 t5_0 t6_0 t7_0) : q_mV l y_WR_common prog_19_method_32_code 4 3 0 0 D g [.ref (q 119), .int x2, .int x3, .int x4] ws (fun u => q_I (msh g q) q u ∧ q_un ws u [119, 121, 122, 123, 126, 127, 128, 129] ∧ ∃ (u0_0 : Int32) (u0_1 : Int32) (u0_2 : Int32) (u0_3 : Int32) (u0_4 : Int32) (u0_5 : Int32) (u0_6 : Int32) (u1_0 : (Nat → Int32)) (u2_0 : (Nat → Int32)) (u3_0 : (Nat → Int32)) (u4_0 : (Nat → Int32)) (u5_0 : (Nat → Int32)) (u6_0 : (Nat → Int32)) (u7_0 : (Nat → Int32)), u[119]? = (some (q 119, .inr (13, [.int u0_0, .int u0_1, .ref (q 120), .int u0_2, .ref (q 121), .ref (q 122), .ref (q 123), .int u0_3, .ref (q 124), .ref (q 125), .ref (q 126), .ref (q 127), .ref (q 128), .ref (q 129), .ref (q 130), .ref (q 131), .int u0_4, .int u0_5, .ref (q 132), .ref (q 133), .int u0_6])) : Option (Nat × va_E)) ∧ u[121]? = (some (q 121, .inl (g 0, (1408 : Int32).toNatClampNeg, .inl u1_0)) : Option (Nat × va_E)) ∧ u[122]? = (some (q 122, .inl (g 3, 11, .inl u2_0)) : Option (Nat × va_E)) ∧ u[123]? = (some (q 123, .inl (g 0, (264 : Int32).toNatClampNeg, .inl u3_0)) : Option (Nat × va_E)) ∧ u[126]? = (some (q 126, .inl (g 0, (264 : Int32).toNatClampNeg, .inl u4_0)) : Option (Nat × va_E)) ∧ u[127]? = (some (q 127, .inl (g 0, (264 : Int32).toNatClampNeg, .inl u5_0)) : Option (Nat × va_E)) ∧ u[128]? = (some (q 128, .inl (g 0, (264 : Int32).toNatClampNeg, .inl u6_0)) : Option (Nat × va_E)) ∧ u[129]? = (some (q 129, .inl (g 0, (264 : Int32).toNatClampNeg, .inl u7_0)) : Option (Nat × va_E)) ∧ (0 ≤ u0_3.toInt) ∧ (t0_1.toInt ≤ u0_1.toInt) ∧ (u0_1.toInt ≤ t0_1.toInt) ∧ (t0_2.toInt ≤ u0_2.toInt) ∧ (u0_2.toInt ≤ t0_2.toInt) ∧ (u0_3.toInt ≤ t0_3.toInt) ∧ (t0_4.toInt ≤ u0_4.toInt) ∧ (u0_4.toInt ≤ t0_4.toInt) ∧ (t0_5.toInt ≤ u0_5.toInt) ∧ (u0_5.toInt ≤ t0_5.toInt) ∧ (t0_6.toInt ≤ u0_6.toInt) ∧ (u0_6.toInt ≤ t0_6.toInt) ∧ (u0_0, u0_1, u0_2, u0_3, u0_4, u0_5, u0_6, u1_0, u2_0, u3_0, u4_0, u5_0, u6_0, u7_0) = (F_WR_common x2 x3 x4 t0_0 t0_1 t0_2 t0_3 t0_4 t0_5 t0_6 t1_0 t2_0 t3_0 t4_0 t5_0 t6_0 t7_0)) := by
  intro sz
  refine q_into (by decide) (Nat.le_of_ble_eq_true rfl) ?_
  intro p e s m below meth c ls hsz C0 V hl
  have hx := C0.1
  have hb := C0.2.1
  obtain ⟨btt0_2, hZ9⟩ := n_w119 hI hT0
  obtain ⟨btt0_3, hZ9⟩ := hZ9
  obtain ⟨btt0_4, hZ9⟩ := hZ9
  obtain ⟨btt0_5, btt0_6⟩ := hZ9
  replace btt0_2 : q_F (0 ≤ t0_2.toInt ∧ t0_2.toInt ≤ 4100) := btt0_2
  replace btt0_3 : q_F (0 ≤ t0_3.toInt ∧ t0_3.toInt ≤ 1) := btt0_3
  replace btt0_4 : q_F (0 ≤ t0_4.toInt ∧ t0_4.toInt ≤ 1) := btt0_4
  replace btt0_5 : q_F (0 ≤ t0_5.toInt ∧ t0_5.toInt ≤ 1) := btt0_5
  replace btt0_6 : q_F (0 ≤ t0_6.toInt ∧ t0_6.toInt ≤ 2100) := btt0_6
  have hF : q_un ws ws [119, 121, 122, 123, 126, 127, 128, 129] := q_u0
  have hl : lv_has ls 4 [(0, .ref (q 119)), (1, .int x2), (2, .int x3), (3, .int x4)] := hl
  refine lv_aload_n hx hb d_19_32_0 rfl (lv_at hl 0 rfl) ?_
  refine lv_iload_n hx hb d_19_32_1 rfl (lv_at hl 1 rfl) ?_
  refine q_goi V (q_runS (As := [.int x2]) (rest := [.ref (q 119)]) (d := 1) (mc := 0) (ms := 0) C0 V rfl LS_WR_91 (X_WR_no l D g q ws  x2 hI   _) rfl hl.1 rfl (Nat.le_of_ble_eq_true rfl) ⟨by decide, by decide⟩ ⟨Nat.le_of_ble_eq_true rfl, Nat.le_of_ble_eq_true rfl⟩ d_19_32_2) (fun a37 u35 H locs hp36 V => ?_)
  obtain ⟨rfl, b38, b39, hE40⟩ := hp36
  have e41 : a37 = (F_WR_no x2) := hE40
  clear b38
  clear b39
  refine q_join (X := Int32) (fun z H locs ls _ => q_F (0 ≤ z.toInt) ∧ q_F (z.toInt ≤ 1) ∧ q_Wd D g (va_A ws sz) s ws H locs ∧ lv_has ls 4 [(0, .ref (q 119)), (1, .int x2), (2, .int x3), (3, .int x4)] ∧ F_WR_common_J27 x2 x3 x4 t0_0 t0_1 t0_2 t0_3 t0_4 t0_5 t0_6 t1_0 t2_0 t3_0 t4_0 t5_0 t6_0 t7_0 z = (F_WR_common x2 x3 x4 t0_0 t0_1 t0_2 t0_3 t0_4 t0_5 t0_6 t1_0 t2_0 t3_0 t4_0 t5_0 t6_0 t7_0) ∧ True ∧ S_WR_common_J27 x2 x3 x4 t0_0 t0_1 t0_2 t0_3 t0_4 t0_5 t0_6 t1_0 t2_0 t3_0 t4_0 t5_0 t6_0 t7_0 z) (fun z => [.int z, .ref (q 119)]) 27 0 0 ?_ ?_
  ·
    rintro lx42 H locs ls _ hZ9
    replace hZ9 := hZ9.2.2
    obtain ⟨V, hZ9⟩ := hZ9
    obtain ⟨hl, hZ9⟩ := hZ9
    obtain ⟨hR54, hS55⟩ := hZ9
    replace hl : lv_has ls 4 [(0, .ref (q 119)), (1, .int x2), (2, .int x3), (3, .int x4)] := hl
    refine q_put (ci := 13) (j := 0) (v := .int lx42) (ty := .int) C0 V i_WR o_WR n_WR rfl rfl hT0 (by decide) w_1921 rfl rfl rfl rfl (Nat.le_of_ble_eq_true rfl) d_19_32_27 (fun H locs w59 hu60 hT0 V => ?_)
    replace hT0 : w59[119]? = (some (q 119, .inr (13, [.int lx42, .int t0_1, .ref (q 120), .int t0_2, .ref (q 121), .ref (q 122), .ref (q 123), .int t0_3, .ref (q 124), .ref (q 125), .ref (q 126), .ref (q 127), .ref (q 128), .ref (q 129), .ref (q 130), .ref (q 131), .int t0_4, .int t0_5, .ref (q 132), .ref (q 133), .int t0_6])) : Option (Nat × va_E)) := hT0
    replace hI := n_p119 hI hu60 hT0 (by first | with_reducible exact q_fe btt0_2 | exact ⟨(by have t1 : 0 ≤ t0_2.toInt ∧ t0_2.toInt ≤ 4100 := btt0_2; omega), (by have t1 : 0 ≤ t0_2.toInt ∧ t0_2.toInt ≤ 4100 := btt0_2; omega)⟩) (by first | with_reducible exact q_fe btt0_3 | exact ⟨(by have t1 : 0 ≤ t0_3.toInt ∧ t0_3.toInt ≤ 1 := btt0_3; omega), (by have t1 : 0 ≤ t0_3.toInt ∧ t0_3.toInt ≤ 1 := btt0_3; omega)⟩) (by first | with_reducible exact q_fe btt0_4 | exact ⟨(by have t1 : 0 ≤ t0_4.toInt ∧ t0_4.toInt ≤ 1 := btt0_4; omega), (by have t1 : 0 ≤ t0_4.toInt ∧ t0_4.toInt ≤ 1 := btt0_4; omega)⟩) (by first | with_reducible exact q_fe btt0_5 | exact ⟨(by have t1 : 0 ≤ t0_5.toInt ∧ t0_5.toInt ≤ 1 := btt0_5; omega), (by have t1 : 0 ≤ t0_5.toInt ∧ t0_5.toInt ≤ 1 := btt0_5; omega)⟩) (by first | with_reducible exact q_fe btt0_6 | exact ⟨(by have t1 : 0 ≤ t0_6.toInt ∧ t0_6.toInt ≤ 2100 := btt0_6; omega), (by have t1 : 0 ≤ t0_6.toInt ∧ t0_6.toInt ≤ 2100 := btt0_6; omega)⟩)
    replace hT1 := (hu60 _ (by decide)).trans hT1
    replace hT2 := (hu60 _ (by decide)).trans hT2
    replace hT3 := (hu60 _ (by decide)).trans hT3
    replace hT4 := (hu60 _ (by decide)).trans hT4
    replace hT5 := (hu60 _ (by decide)).trans hT5
    replace hT6 := (hu60 _ (by decide)).trans hT6
    replace hT7 := (hu60 _ (by decide)).trans hT7
    replace hF := q_us hF hu60 (by simp)
    refine lv_aload_n hx hb d_19_32_30 rfl (lv_at hl 0 rfl) ?_
    refine q_get (ci := 13) (j := 0) (v := .int lx42) C0 V i_WR rfl rfl hT0 (by decide) w_1921 rfl d_19_32_31 ?_
    refine lv_if_le (tgt := 38) hx hb d_19_32_34 (by decide) (fun c61 => ?_) (fun c61 => ?_)
    ·
      refine lv_aload_n hx hb d_19_32_38 rfl (lv_at hl 0 rfl) ?_
      refine lv_iload_n hx hb d_19_32_39 rfl (lv_at hl 1 rfl) ?_
      refine lv_aload_n hx hb d_19_32_40 rfl (lv_at hl 0 rfl) ?_
      refine q_get (ci := 13) (j := 12) (v := .ref (q 128)) C0 V i_WR rfl rfl hT0 (by decide) w_1936 rfl d_19_32_41 ?_
      have ob63 : True ∧ S_WR_take x2 (264 : Int32) lx42 t0_1 t0_2 t0_3 t0_4 t0_5 t0_6 t1_0 t6_0 := (by have h := hS55; rw [S_WR_common_J27.eq_1] at h; rw [if_pos c61] at h; with_reducible exact h.2.1)
      refine q_gov V (q_runV (As := [.int x2, .ref (q 128)]) (rest := []) (d := 1) (mc := 0) (ms := 0) (ci := 13) C0 V rfl LV_WR_107 (X_WR_take l D g q w59 128 264 (n_r128 g q) x2 (by decide) hI lx42 t0_1 t0_2 t0_3 t0_4 t0_5 t0_6 hT0 t1_0 hT1 t6_0 hT6 ob63 _) rfl rfl hT0 rfl hl.1 rfl (Nat.le_of_ble_eq_true rfl) ⟨by decide, by decide⟩ ⟨Nat.le_of_ble_eq_true rfl, Nat.le_of_ble_eq_true rfl⟩ d_19_32_44) (fun u64 H locs hp65 V => ?_)
      obtain ⟨hI, hu69, f66, hA67, hE68⟩ := hp65
      replace hA67 : u64[128]? = (some (q 128, .inl (g 0, (264 : Int32).toNatClampNeg, .inl f66)) : Option (Nat × va_E)) := hA67
      have e70 : f66 = (F_WR_take x2 (264 : Int32) lx42 t0_1 t0_2 t0_3 t0_4 t0_5 t0_6 t1_0 t6_0) := hE68
      replace hT0 := (hu69 _ (by decide)).trans hT0
      replace hT1 := (hu69 _ (by decide)).trans hT1
      replace hT2 := (hu69 _ (by decide)).trans hT2
      replace hT3 := (hu69 _ (by decide)).trans hT3
      replace hT4 := (hu69 _ (by decide)).trans hT4
      replace hT5 := (hu69 _ (by decide)).trans hT5
      replace hT7 := (hu69 _ (by decide)).trans hT7
      replace hF := q_uc hF hu69 (by simp)
      refine lv_aload_n hx hb d_19_32_47 rfl (lv_at hl 0 rfl) ?_
      refine lv_iload_n hx hb d_19_32_48 rfl (lv_at hl 2 rfl) ?_
      refine lv_aload_n hx hb d_19_32_49 rfl (lv_at hl 0 rfl) ?_
      refine q_get (ci := 13) (j := 13) (v := .ref (q 129)) C0 V i_WR rfl rfl hT0 (by decide) w_1937 rfl d_19_32_50 ?_
      have ob71 : True ∧ S_WR_take x3 (264 : Int32) lx42 t0_1 t0_2 t0_3 t0_4 t0_5 t0_6 t1_0 t7_0 := (by have h := hS55; rw [S_WR_common_J27.eq_1] at h; rw [if_pos c61] at h; replace h := q_s2 h; with_reducible exact h.2.1)
      refine q_gov V (q_runV (As := [.int x3, .ref (q 129)]) (rest := []) (d := 1) (mc := 0) (ms := 0) (ci := 13) C0 V rfl LV_WR_107 (X_WR_take l D g q u64 129 264 (n_r129 g q) x3 (by decide) hI lx42 t0_1 t0_2 t0_3 t0_4 t0_5 t0_6 hT0 t1_0 hT1 t7_0 hT7 ob71 _) rfl rfl hT0 rfl hl.1 rfl (Nat.le_of_ble_eq_true rfl) ⟨by decide, by decide⟩ ⟨Nat.le_of_ble_eq_true rfl, Nat.le_of_ble_eq_true rfl⟩ d_19_32_53) (fun u72 H locs hp73 V => ?_)
      obtain ⟨hI, hu77, f74, hA75, hE76⟩ := hp73
      replace hA75 : u72[129]? = (some (q 129, .inl (g 0, (264 : Int32).toNatClampNeg, .inl f74)) : Option (Nat × va_E)) := hA75
      have e78 : f74 = (F_WR_take x3 (264 : Int32) lx42 t0_1 t0_2 t0_3 t0_4 t0_5 t0_6 t1_0 t7_0) := hE76
      replace hT0 := (hu77 _ (by decide)).trans hT0
      replace hT1 := (hu77 _ (by decide)).trans hT1
      replace hT2 := (hu77 _ (by decide)).trans hT2
      replace hT3 := (hu77 _ (by decide)).trans hT3
      replace hT4 := (hu77 _ (by decide)).trans hT4
      replace hT5 := (hu77 _ (by decide)).trans hT5
      replace hA67 := (hu77 _ (by decide)).trans hA67
      replace hF := q_uc hF hu77 (by simp)
      refine q_loop (X := Nat × (Nat → Int32) × (Nat → Int32) × (Nat → Int32) × (Nat → Int32)) (fun z H locs ls w84 => q_Wd D g (va_A ws sz) s w84 H locs ∧ lv_has ls 4 [(0, .ref (q 119)), (3, .int x4)] ∧ q_I (msh g q) q w84 ∧ q_un ws w84 [119, 121, 122, 123, 126, 127, 128, 129] ∧ w84[119]? = (some (q 119, .inr (13, [.int lx42, .int t0_1, .ref (q 120), .int t0_2, .ref (q 121), .ref (q 122), .ref (q 123), .int t0_3, .ref (q 124), .ref (q 125), .ref (q 126), .ref (q 127), .ref (q 128), .ref (q 129), .ref (q 130), .ref (q 131), .int t0_4, .int t0_5, .ref (q 132), .ref (q 133), .int t0_6])) : Option (Nat × va_E)) ∧ w84[121]? = (some (q 121, .inl (g 0, (1408 : Int32).toNatClampNeg, .inl t1_0)) : Option (Nat × va_E)) ∧ w84[122]? = (some (q 122, .inl (g 3, 11, .inl t2_0)) : Option (Nat × va_E)) ∧ w84[123]? = (some (q 123, .inl (g 0, (264 : Int32).toNatClampNeg, .inl t3_0)) : Option (Nat × va_E)) ∧ w84[126]? = (some (q 126, .inl (g 0, (264 : Int32).toNatClampNeg, .inl z.2.1)) : Option (Nat × va_E)) ∧ w84[127]? = (some (q 127, .inl (g 0, (264 : Int32).toNatClampNeg, .inl z.2.2.1)) : Option (Nat × va_E)) ∧ w84[128]? = (some (q 128, .inl (g 0, (264 : Int32).toNatClampNeg, .inl z.2.2.2.1)) : Option (Nat × va_E)) ∧ w84[129]? = (some (q 129, .inl (g 0, (264 : Int32).toNatClampNeg, .inl z.2.2.2.2)) : Option (Nat × va_E)) ∧ F_WR_common_L56 x2 x3 x4 t0_0 t0_1 t0_2 t0_3 t0_4 t0_5 t0_6 t1_0 t2_0 t3_0 t4_0 t5_0 t6_0 t7_0 lx42 z.1 z.2.1 z.2.2.1 z.2.2.2.1 z.2.2.2.2 = (F_WR_common x2 x3 x4 t0_0 t0_1 t0_2 t0_3 t0_4 t0_5 t0_6 t1_0 t2_0 t3_0 t4_0 t5_0 t6_0 t7_0) ∧ True ∧ S_WR_common_L56 x2 x3 x4 t0_0 t0_1 t0_2 t0_3 t0_4 t0_5 t0_6 t1_0 t2_0 t3_0 t4_0 t5_0 t6_0 t7_0 lx42 z.1 z.2.1 z.2.2.1 z.2.2.2.1 z.2.2.2.2) (fun z => z.1) ?_ ((1000000 : Nat), (t4_0 : (Nat → Int32)), (t5_0 : (Nat → Int32)), (f66 : (Nat → Int32)), (f74 : (Nat → Int32))) _ _ _ u72 ⟨V, q_lw hl (q_lw1 0 rfl (q_lw1 3 rfl q_lw0)), hI, hF, hT0, hT1, hT2, hT3, hT4, hT5, hA67, hA75, (show F_WR_common_L56 x2 x3 x4 t0_0 t0_1 t0_2 t0_3 t0_4 t0_5 t0_6 t1_0 t2_0 t3_0 t4_0 t5_0 t6_0 t7_0 lx42 1000000 t4_0 t5_0 f66 f74 = (F_WR_common x2 x3 x4 t0_0 t0_1 t0_2 t0_3 t0_4 t0_5 t0_6 t1_0 t2_0 t3_0 t4_0 t5_0 t6_0 t7_0) from Eq.trans (by rw [e78, e70, F_WR_common_J27.eq_1, if_pos c61]) hR54), (show True ∧ S_WR_common_L56 x2 x3 x4 t0_0 t0_1 t0_2 t0_3 t0_4 t0_5 t0_6 t1_0 t2_0 t3_0 t4_0 t5_0 t6_0 t7_0 lx42 1000000 t4_0 t5_0 f66 f74 from (by rw [e78, e70]; have h := hS55; rw [S_WR_common_J27.eq_1] at h; rw [if_pos c61] at h; replace h := q_s2 h; replace h := q_s2 h; with_reducible exact h))⟩
      rintro ⟨fu95, lx79, lx80, lx81, lx82⟩ H locs ls w84 ⟨V, hl, hI, hF, hO85, hO86, hO87, hO88, hO89, hO90, hO91, hO92, hR93, hS94⟩ ih83
      obtain ⟨fm97, rfl⟩ : ∃ m, fu95 = m + 1 := Nat.exists_eq_succ_of_ne_zero (fun e => by subst e; rw [S_WR_common_L56.eq_1] at hS94; exact hS94.2)
      replace hl : lv_has ls 4 [(0, .ref (q 119)), (3, .int x4)] := hl
      replace hO85 : w84[119]? = (some (q 119, .inr (13, [.int lx42, .int t0_1, .ref (q 120), .int t0_2, .ref (q 121), .ref (q 122), .ref (q 123), .int t0_3, .ref (q 124), .ref (q 125), .ref (q 126), .ref (q 127), .ref (q 128), .ref (q 129), .ref (q 130), .ref (q 131), .int t0_4, .int t0_5, .ref (q 132), .ref (q 133), .int t0_6])) : Option (Nat × va_E)) := hO85
      replace hO86 : w84[121]? = (some (q 121, .inl (g 0, (1408 : Int32).toNatClampNeg, .inl t1_0)) : Option (Nat × va_E)) := hO86
      replace hO87 : w84[122]? = (some (q 122, .inl (g 3, 11, .inl t2_0)) : Option (Nat × va_E)) := hO87
      replace hO88 : w84[123]? = (some (q 123, .inl (g 0, (264 : Int32).toNatClampNeg, .inl t3_0)) : Option (Nat × va_E)) := hO88
      replace hO89 : w84[126]? = (some (q 126, .inl (g 0, (264 : Int32).toNatClampNeg, .inl lx79)) : Option (Nat × va_E)) := hO89
      replace hO90 : w84[127]? = (some (q 127, .inl (g 0, (264 : Int32).toNatClampNeg, .inl lx80)) : Option (Nat × va_E)) := hO90
      replace hO91 : w84[128]? = (some (q 128, .inl (g 0, (264 : Int32).toNatClampNeg, .inl lx81)) : Option (Nat × va_E)) := hO91
      replace hO92 : w84[129]? = (some (q 129, .inl (g 0, (264 : Int32).toNatClampNeg, .inl lx82)) : Option (Nat × va_E)) := hO92
      refine lv_aload_n hx hb d_19_32_56 rfl (lv_at hl 0 rfl) ?_
      refine q_get (ci := 13) (j := 13) (v := .ref (q 129)) C0 V i_WR rfl rfl hO85 (by decide) w_1937 rfl d_19_32_57 ?_
      refine q_goi V (q_runS (As := [.ref (q 129)]) (rest := []) (d := 1) (mc := 0) (ms := 0) C0 V rfl LS_WR_59 (X_WR_size l D g q w84 129 264 (n_r129 g q)  hI lx82 hO92  _) rfl hl.1 rfl (Nat.le_of_ble_eq_true rfl) ⟨by decide, by decide⟩ ⟨Nat.le_of_ble_eq_true rfl, Nat.le_of_ble_eq_true rfl⟩ d_19_32_60) (fun a100 u98 H locs hp99 V => ?_)
      obtain ⟨rfl, b101, b102, hE103⟩ := hp99
      have e104 : a100 = (F_WR_size (264 : Int32) lx82) := hE103
      clear b101
      clear b102
      refine lv_if_le (tgt := 103) hx hb d_19_32_63 (by decide) (fun c105 => ?_) (fun c105 => ?_)
      ·
        refine lv_aload_n hx hb d_19_32_103 rfl (lv_at hl 0 rfl) ?_
        refine q_get (ci := 13) (j := 12) (v := .ref (q 128)) C0 V i_WR rfl rfl hO85 (by decide) w_1936 rfl d_19_32_104 ?_
        refine lv_aload_n hx hb d_19_32_107 rfl (lv_at hl 0 rfl) ?_
        refine q_get (ci := 13) (j := 6) (v := .ref (q 123)) C0 V i_WR rfl rfl hO85 (by decide) w_1930 rfl d_19_32_108 ?_
        refine q_gov V (q_runS (As := [.ref (q 128), .ref (q 123)]) (rest := []) (d := 1) (mc := 0) (ms := 0) C0 V rfl LS_WR_67 (X_WR_copy l D g q w84 128 264 (n_r128 g q) 123 264 (n_r123 g q)  (by decide) hI lx81 hO91 t3_0 hO88  _) rfl hl.1 rfl (Nat.le_of_ble_eq_true rfl) ⟨by decide, by decide⟩ ⟨Nat.le_of_ble_eq_true rfl, Nat.le_of_ble_eq_true rfl⟩ d_19_32_111) (fun u107 H locs hp108 V => ?_)
        obtain ⟨hI, hu112, f109, hA110, hE111⟩ := hp108
        replace hA110 : u107[123]? = (some (q 123, .inl (g 0, (264 : Int32).toNatClampNeg, .inl f109)) : Option (Nat × va_E)) := hA110
        have e113 : f109 = (F_WR_copy (264 : Int32) (264 : Int32) lx81 t3_0) := hE111
        replace hO85 := (hu112 _ (by decide)).trans hO85
        replace hO86 := (hu112 _ (by decide)).trans hO86
        replace hO87 := (hu112 _ (by decide)).trans hO87
        replace hO89 := (hu112 _ (by decide)).trans hO89
        replace hO90 := (hu112 _ (by decide)).trans hO90
        replace hO91 := (hu112 _ (by decide)).trans hO91
        replace hO92 := (hu112 _ (by decide)).trans hO92
        replace hF := q_uc hF hu112 (by simp)
        refine lv_aload_n hx hb d_19_32_114 rfl (lv_at hl 0 rfl) ?_
        refine lv_iconst (v := 0) hx hb d_19_32_115 (by decide) ?_
        refine q_put (ci := 13) (j := 7) (v := .int 0) (ty := .boolean) C0 V i_WR o_WR n_WR rfl rfl hO85 (by decide) w_1931 rfl rfl rfl rfl (Nat.le_of_ble_eq_true rfl) d_19_32_116 (fun H locs w114 hu115 hO85 V => ?_)
        replace hO85 : w114[119]? = (some (q 119, .inr (13, [.int lx42, .int t0_1, .ref (q 120), .int t0_2, .ref (q 121), .ref (q 122), .ref (q 123), .int 0, .ref (q 124), .ref (q 125), .ref (q 126), .ref (q 127), .ref (q 128), .ref (q 129), .ref (q 130), .ref (q 131), .int t0_4, .int t0_5, .ref (q 132), .ref (q 133), .int t0_6])) : Option (Nat × va_E)) := hO85
        replace hI := n_p119 hI hu115 hO85 (by first | with_reducible exact q_fe btt0_2 | exact ⟨(by have t1 : 0 ≤ t0_2.toInt ∧ t0_2.toInt ≤ 4100 := btt0_2; omega), (by have t1 : 0 ≤ t0_2.toInt ∧ t0_2.toInt ≤ 4100 := btt0_2; omega)⟩) ⟨(by have z9 : (0 : Int32).toInt = 0 := rfl; omega), (by have z9 : (0 : Int32).toInt = 0 := rfl; omega)⟩ (by first | with_reducible exact q_fe btt0_4 | exact ⟨(by have t1 : 0 ≤ t0_4.toInt ∧ t0_4.toInt ≤ 1 := btt0_4; omega), (by have t1 : 0 ≤ t0_4.toInt ∧ t0_4.toInt ≤ 1 := btt0_4; omega)⟩) (by first | with_reducible exact q_fe btt0_5 | exact ⟨(by have t1 : 0 ≤ t0_5.toInt ∧ t0_5.toInt ≤ 1 := btt0_5; omega), (by have t1 : 0 ≤ t0_5.toInt ∧ t0_5.toInt ≤ 1 := btt0_5; omega)⟩) (by first | with_reducible exact q_fe btt0_6 | exact ⟨(by have t1 : 0 ≤ t0_6.toInt ∧ t0_6.toInt ≤ 2100 := btt0_6; omega), (by have t1 : 0 ≤ t0_6.toInt ∧ t0_6.toInt ≤ 2100 := btt0_6; omega)⟩)
        replace hO86 := (hu115 _ (by decide)).trans hO86
        replace hO87 := (hu115 _ (by decide)).trans hO87
        replace hA110 := (hu115 _ (by decide)).trans hA110
        replace hO89 := (hu115 _ (by decide)).trans hO89
        replace hO90 := (hu115 _ (by decide)).trans hO90
        replace hO91 := (hu115 _ (by decide)).trans hO91
        replace hO92 := (hu115 _ (by decide)).trans hO92
        replace hF := q_us hF hu115 (by simp)
        refine lv_aload_n hx hb d_19_32_119 rfl (lv_at hl 0 rfl) ?_
        refine lv_iload_n hx hb d_19_32_120 rfl (lv_at hl 1 rfl) ?_
        have ob116 : True ∧ S_WR_store x4 lx42 t0_1 t0_2 (0 : Int32) t0_4 t0_5 t0_6 t1_0 t2_0 f109 := (by rw [e113]; have h := hS94; rw [S_WR_common_L56.eq_2] at h; have c105x := c105; rw [e104] at c105x; rw [if_pos c105x] at h; with_reducible exact h.2.1)
        refine q_gov V (q_runV (As := [.int x4]) (rest := []) (d := 2) (mc := 0) (ms := 0) (ci := 13) C0 V rfl LV_WR_103 (X_WR_store l D g q w114  x4 hI lx42 t0_1 t0_2 0 t0_4 t0_5 t0_6 hO85 t1_0 hO86 t2_0 hO87 f109 hA110 ob116 _) rfl rfl hO85 rfl hl.1 rfl (Nat.le_of_ble_eq_true rfl) ⟨by decide, by decide⟩ ⟨Nat.le_of_ble_eq_true rfl, Nat.le_of_ble_eq_true rfl⟩ d_19_32_121) (fun u117 H locs hp118 V => ?_)
        obtain ⟨hI, hZ9⟩ := hp118
        obtain ⟨hu144, hZ9⟩ := hZ9
        obtain ⟨y120, hZ9⟩ := hZ9
        obtain ⟨y121, hZ9⟩ := hZ9
        obtain ⟨y122, hZ9⟩ := hZ9
        obtain ⟨y123, hZ9⟩ := hZ9
        obtain ⟨y124, hZ9⟩ := hZ9
        obtain ⟨y125, hZ9⟩ := hZ9
        obtain ⟨y126, hZ9⟩ := hZ9
        obtain ⟨f127, hZ9⟩ := hZ9
        obtain ⟨f129, hZ9⟩ := hZ9
        obtain ⟨hO119, hZ9⟩ := hZ9
        obtain ⟨hA128, hZ9⟩ := hZ9
        obtain ⟨hA130, hZ9⟩ := hZ9
        obtain ⟨b131, hZ9⟩ := hZ9
        obtain ⟨b132, hZ9⟩ := hZ9
        obtain ⟨b133, hZ9⟩ := hZ9
        obtain ⟨b134, hZ9⟩ := hZ9
        obtain ⟨b135, hZ9⟩ := hZ9
        obtain ⟨b136, hZ9⟩ := hZ9
        obtain ⟨b137, hZ9⟩ := hZ9
        obtain ⟨b138, hZ9⟩ := hZ9
        obtain ⟨b139, hZ9⟩ := hZ9
        obtain ⟨b140, hZ9⟩ := hZ9
        obtain ⟨b141, hZ9⟩ := hZ9
        obtain ⟨b142, hE143⟩ := hZ9
        replace hO119 : u117[119]? = (some (q 119, .inr (13, [.int y120, .int y121, .ref (q 120), .int y122, .ref (q 121), .ref (q 122), .ref (q 123), .int y123, .ref (q 124), .ref (q 125), .ref (q 126), .ref (q 127), .ref (q 128), .ref (q 129), .ref (q 130), .ref (q 131), .int y124, .int y125, .ref (q 132), .ref (q 133), .int y126])) : Option (Nat × va_E)) := hO119
        replace hA128 : u117[121]? = (some (q 121, .inl (g 0, (1408 : Int32).toNatClampNeg, .inl f127)) : Option (Nat × va_E)) := hA128
        replace hA130 : u117[122]? = (some (q 122, .inl (g 3, 11, .inl f129)) : Option (Nat × va_E)) := hA130
        obtain ⟨p145, e146⟩ : ∃ z, z = (F_WR_store x4 lx42 t0_1 t0_2 (0 : Int32) t0_4 t0_5 t0_6 t1_0 t2_0 f109) := ⟨_, rfl⟩
        have e147 : y120 = p145.1 := congrArg (fun z => z.1) (hE143.trans e146.symm)
        have e148 : y121 = p145.2.1 := congrArg (fun z => z.2.1) (hE143.trans e146.symm)
        have e149 : y122 = p145.2.2.1 := congrArg (fun z => z.2.2.1) (hE143.trans e146.symm)
        have e150 : y123 = p145.2.2.2.1 := congrArg (fun z => z.2.2.2.1) (hE143.trans e146.symm)
        have e151 : y124 = p145.2.2.2.2.1 := congrArg (fun z => z.2.2.2.2.1) (hE143.trans e146.symm)
        have e152 : y125 = p145.2.2.2.2.2.1 := congrArg (fun z => z.2.2.2.2.2.1) (hE143.trans e146.symm)
        have e153 : y126 = p145.2.2.2.2.2.2.1 := congrArg (fun z => z.2.2.2.2.2.2.1) (hE143.trans e146.symm)
        have e154 : f127 = p145.2.2.2.2.2.2.2.1 := congrArg (fun z => z.2.2.2.2.2.2.2.1) (hE143.trans e146.symm)
        have e155 : f129 = p145.2.2.2.2.2.2.2.2 := congrArg (fun z => z.2.2.2.2.2.2.2.2) (hE143.trans e146.symm)
        replace b131 : q_F (t0_1.toInt ≤ y121.toInt) := b131
        replace b132 : q_F (y121.toInt ≤ t0_1.toInt) := b132
        replace b133 : q_F (t0_2.toInt ≤ y122.toInt) := b133
        replace b134 : q_F (y122.toInt ≤ t0_2.toInt) := b134
        replace b135 : q_F (0 ≤ y123.toInt) := b135
        replace b136 : q_F (y123.toInt ≤ 0) := b136
        replace b137 : q_F (t0_4.toInt ≤ y124.toInt) := b137
        replace b138 : q_F (y124.toInt ≤ t0_4.toInt) := b138
        replace b139 : q_F (t0_5.toInt ≤ y125.toInt) := b139
        replace b140 : q_F (y125.toInt ≤ t0_5.toInt) := b140
        replace b141 : q_F (t0_6.toInt ≤ y126.toInt) := b141
        replace b142 : q_F (y126.toInt ≤ t0_6.toInt) := b142
        replace hA110 := (hu144 _ (by decide)).trans hA110
        replace hO89 := (hu144 _ (by decide)).trans hO89
        replace hO90 := (hu144 _ (by decide)).trans hO90
        replace hO91 := (hu144 _ (by decide)).trans hO91
        replace hO92 := (hu144 _ (by decide)).trans hO92
        replace hF := q_uc hF hu144 (by simp)
        have hR156 := (show F_WR_common_c121 (F_WR_common_L56 x2 x3 x4 t0_0 t0_1 t0_2 t0_3 t0_4 t0_5 t0_6 t1_0 t2_0 t3_0 t4_0 t5_0 t6_0 t7_0 lx42 fm97) x2 x3 x4 t0_0 t0_1 t0_2 t0_3 t0_4 t0_5 t0_6 t1_0 t2_0 t3_0 t4_0 t5_0 t6_0 t7_0 lx42 lx79 lx80 lx81 lx82 f109 p145 = (F_WR_common x2 x3 x4 t0_0 t0_1 t0_2 t0_3 t0_4 t0_5 t0_6 t1_0 t2_0 t3_0 t4_0 t5_0 t6_0 t7_0) from Eq.trans (by have c105x := c105; rw [e104] at c105x; rw [e146, e113, F_WR_common_L56.eq_2, if_pos c105x]) hR93)
        have hS157 := (show True ∧ S_WR_common_c121 (S_WR_common_L56 x2 x3 x4 t0_0 t0_1 t0_2 t0_3 t0_4 t0_5 t0_6 t1_0 t2_0 t3_0 t4_0 t5_0 t6_0 t7_0 lx42 fm97) x2 x3 x4 t0_0 t0_1 t0_2 t0_3 t0_4 t0_5 t0_6 t1_0 t2_0 t3_0 t4_0 t5_0 t6_0 t7_0 lx42 lx79 lx80 lx81 lx82 f109 p145 from (by rw [e146, e113]; have h := hS94; rw [S_WR_common_L56.eq_2] at h; have c105x := c105; rw [e104] at c105x; rw [if_pos c105x] at h; replace h := q_s2 h; with_reducible exact h))
        exact q_retv C0 V (⟨hI, hF, y120, y121, y122, y123, y124, y125, y126, f127, f129, f109, lx79, lx80, lx81, lx82, hO119, hA128, hA130, hA110, hO89, hO90, hO91, hO92, (show 0 ≤ y123.toInt from (by first | with_reducible exact q_fe b135 | (have t1 : 0 ≤ y123.toInt := b135; omega))), (show t0_1.toInt ≤ y121.toInt from (by first | with_reducible exact q_fe b131 | (have t1 : t0_1.toInt ≤ y121.toInt := b131; omega))), (show y121.toInt ≤ t0_1.toInt from (by first | with_reducible exact q_fe b132 | (have t1 : y121.toInt ≤ t0_1.toInt := b132; omega))), (show t0_2.toInt ≤ y122.toInt from (by first | with_reducible exact q_fe b133 | (have t1 : t0_2.toInt ≤ y122.toInt := b133; omega))), (show y122.toInt ≤ t0_2.toInt from (by first | with_reducible exact q_fe b134 | (have t1 : y122.toInt ≤ t0_2.toInt := b134; omega))), (show y123.toInt ≤ t0_3.toInt from (by have t1 : 0 ≤ t0_3.toInt ∧ t0_3.toInt ≤ 1 := btt0_3; have t2 : y123.toInt ≤ 0 := b136; omega)), (show t0_4.toInt ≤ y124.toInt from (by first | with_reducible exact q_fe b137 | (have t1 : t0_4.toInt ≤ y124.toInt := b137; omega))), (show y124.toInt ≤ t0_4.toInt from (by first | with_reducible exact q_fe b138 | (have t1 : y124.toInt ≤ t0_4.toInt := b138; omega))), (show t0_5.toInt ≤ y125.toInt from (by first | with_reducible exact q_fe b139 | (have t1 : t0_5.toInt ≤ y125.toInt := b139; omega))), (show y125.toInt ≤ t0_5.toInt from (by first | with_reducible exact q_fe b140 | (have t1 : y125.toInt ≤ t0_5.toInt := b140; omega))), (show t0_6.toInt ≤ y126.toInt from (by first | with_reducible exact q_fe b141 | (have t1 : t0_6.toInt ≤ y126.toInt := b141; omega))), (show y126.toInt ≤ t0_6.toInt from (by first | with_reducible exact q_fe b142 | (have t1 : y126.toInt ≤ t0_6.toInt := b142; omega))), (show (y120, y121, y122, y123, y124, y125, y126, f127, f129, f109, lx79, lx80, lx81, lx82) = (F_WR_common x2 x3 x4 t0_0 t0_1 t0_2 t0_3 t0_4 t0_5 t0_6 t1_0 t2_0 t3_0 t4_0 t5_0 t6_0 t7_0) from Eq.trans (by rw [e155, e154, e153, e152, e151, e150, e149, e148, e147, F_WR_common_c121.eq_1]) hR156)⟩) d_19_32_124
      ·
        refine lv_aload_n hx hb d_19_32_66 rfl (lv_at hl 0 rfl) ?_
        refine lv_aload_n hx hb d_19_32_67 rfl (lv_at hl 0 rfl) ?_
        refine q_get (ci := 13) (j := 12) (v := .ref (q 128)) C0 V i_WR rfl rfl hO85 (by decide) w_1936 rfl d_19_32_68 ?_
        refine lv_aload_n hx hb d_19_32_71 rfl (lv_at hl 0 rfl) ?_
        refine q_get (ci := 13) (j := 13) (v := .ref (q 129)) C0 V i_WR rfl rfl hO85 (by decide) w_1937 rfl d_19_32_72 ?_
        have ob162 : True ∧ S_WR_divideRows (264 : Int32) (264 : Int32) lx42 t0_1 t0_2 t0_3 t0_4 t0_5 t0_6 lx79 lx80 lx81 lx82 := (by have h := hS94; rw [S_WR_common_L56.eq_2] at h; have c105x := c105; rw [e104] at c105x; rw [if_neg c105x] at h; with_reducible exact h.2.1)
        refine q_gov V (q_runV (As := [.ref (q 128), .ref (q 129)]) (rest := []) (d := 2) (mc := 0) (ms := 0) (ci := 13) C0 V rfl LV_WR_122 (X_WR_divideRows l D g q w84 128 264 (n_r128 g q) 129 264 (n_r129 g q)  (by decide) (by decide) (by decide) (by decide) (by decide) hI lx42 t0_1 t0_2 t0_3 t0_4 t0_5 t0_6 hO85 lx79 hO89 lx80 hO90 lx81 hO91 lx82 hO92 ob162 _) rfl rfl hO85 rfl hl.1 rfl (Nat.le_of_ble_eq_true rfl) ⟨by decide, by decide⟩ ⟨Nat.le_of_ble_eq_true rfl, Nat.le_of_ble_eq_true rfl⟩ d_19_32_75) (fun u163 H locs hp164 V => ?_)
        obtain ⟨hI, hZ9⟩ := hp164
        obtain ⟨hu170, hZ9⟩ := hZ9
        obtain ⟨f165, hZ9⟩ := hZ9
        obtain ⟨f167, hZ9⟩ := hZ9
        obtain ⟨hA166, hZ9⟩ := hZ9
        obtain ⟨hA168, hE169⟩ := hZ9
        replace hA166 : u163[126]? = (some (q 126, .inl (g 0, (264 : Int32).toNatClampNeg, .inl f165)) : Option (Nat × va_E)) := hA166
        replace hA168 : u163[127]? = (some (q 127, .inl (g 0, (264 : Int32).toNatClampNeg, .inl f167)) : Option (Nat × va_E)) := hA168
        obtain ⟨p171, e172⟩ : ∃ z, z = (F_WR_divideRows (264 : Int32) (264 : Int32) lx42 t0_1 t0_2 t0_3 t0_4 t0_5 t0_6 lx79 lx80 lx81 lx82) := ⟨_, rfl⟩
        have e173 : f165 = p171.1 := congrArg (fun z => z.1) (hE169.trans e172.symm)
        have e174 : f167 = p171.2 := congrArg (fun z => z.2) (hE169.trans e172.symm)
        replace hO85 := (hu170 _ (by decide)).trans hO85
        replace hO86 := (hu170 _ (by decide)).trans hO86
        replace hO87 := (hu170 _ (by decide)).trans hO87
        replace hO88 := (hu170 _ (by decide)).trans hO88
        replace hO91 := (hu170 _ (by decide)).trans hO91
        replace hO92 := (hu170 _ (by decide)).trans hO92
        replace hF := q_uc hF hu170 (by simp)
        have hR175 := (show F_WR_common_c75 (F_WR_common_L56 x2 x3 x4 t0_0 t0_1 t0_2 t0_3 t0_4 t0_5 t0_6 t1_0 t2_0 t3_0 t4_0 t5_0 t6_0 t7_0 lx42 fm97) x2 x3 x4 t0_0 t0_1 t0_2 t0_3 t0_4 t0_5 t0_6 t1_0 t2_0 t3_0 t4_0 t5_0 t6_0 t7_0 lx42 lx79 lx80 lx81 lx82 p171 = (F_WR_common x2 x3 x4 t0_0 t0_1 t0_2 t0_3 t0_4 t0_5 t0_6 t1_0 t2_0 t3_0 t4_0 t5_0 t6_0 t7_0) from Eq.trans (by have c105x := c105; rw [e104] at c105x; rw [e172, F_WR_common_L56.eq_2, if_neg c105x]) hR93)
        have hS176 := (show True ∧ S_WR_common_c75 (S_WR_common_L56 x2 x3 x4 t0_0 t0_1 t0_2 t0_3 t0_4 t0_5 t0_6 t1_0 t2_0 t3_0 t4_0 t5_0 t6_0 t7_0 lx42 fm97) x2 x3 x4 t0_0 t0_1 t0_2 t0_3 t0_4 t0_5 t0_6 t1_0 t2_0 t3_0 t4_0 t5_0 t6_0 t7_0 lx42 lx79 lx80 lx81 lx82 p171 from (by rw [e172]; have h := hS94; rw [S_WR_common_L56.eq_2] at h; have c105x := c105; rw [e104] at c105x; rw [if_neg c105x] at h; replace h := q_s2 h; with_reducible exact h))
        refine lv_aload_n hx hb d_19_32_78 rfl (lv_at hl 0 rfl) ?_
        refine q_get (ci := 13) (j := 13) (v := .ref (q 129)) C0 V i_WR rfl rfl hO85 (by decide) w_1937 rfl d_19_32_79 ?_
        refine lv_aload_n hx hb d_19_32_82 rfl (lv_at hl 0 rfl) ?_
        refine q_get (ci := 13) (j := 12) (v := .ref (q 128)) C0 V i_WR rfl rfl hO85 (by decide) w_1936 rfl d_19_32_83 ?_
        refine q_gov V (q_runS (As := [.ref (q 129), .ref (q 128)]) (rest := []) (d := 1) (mc := 0) (ms := 0) C0 V rfl LS_WR_67 (X_WR_copy l D g q u163 129 264 (n_r129 g q) 128 264 (n_r128 g q)  (by decide) hI lx82 hO92 lx81 hO91  _) rfl hl.1 rfl (Nat.le_of_ble_eq_true rfl) ⟨by decide, by decide⟩ ⟨Nat.le_of_ble_eq_true rfl, Nat.le_of_ble_eq_true rfl⟩ d_19_32_86) (fun u180 H locs hp181 V => ?_)
        obtain ⟨hI, hu185, f182, hA183, hE184⟩ := hp181
        replace hA183 : u180[128]? = (some (q 128, .inl (g 0, (264 : Int32).toNatClampNeg, .inl f182)) : Option (Nat × va_E)) := hA183
        have e186 : f182 = (F_WR_copy (264 : Int32) (264 : Int32) lx82 lx81) := hE184
        replace hO85 := (hu185 _ (by decide)).trans hO85
        replace hO86 := (hu185 _ (by decide)).trans hO86
        replace hO87 := (hu185 _ (by decide)).trans hO87
        replace hO88 := (hu185 _ (by decide)).trans hO88
        replace hA166 := (hu185 _ (by decide)).trans hA166
        replace hA168 := (hu185 _ (by decide)).trans hA168
        replace hO92 := (hu185 _ (by decide)).trans hO92
        replace hF := q_uc hF hu185 (by simp)
        refine lv_aload_n hx hb d_19_32_89 rfl (lv_at hl 0 rfl) ?_
        refine q_get (ci := 13) (j := 10) (v := .ref (q 126)) C0 V i_WR rfl rfl hO85 (by decide) w_1934 rfl d_19_32_90 ?_
        refine lv_aload_n hx hb d_19_32_93 rfl (lv_at hl 0 rfl) ?_
        refine q_get (ci := 13) (j := 13) (v := .ref (q 129)) C0 V i_WR rfl rfl hO85 (by decide) w_1937 rfl d_19_32_94 ?_
        refine q_gov V (q_runS (As := [.ref (q 126), .ref (q 129)]) (rest := []) (d := 1) (mc := 0) (ms := 0) C0 V rfl LS_WR_67 (X_WR_copy l D g q u180 126 264 (n_r126 g q) 129 264 (n_r129 g q)  (by decide) hI f165 hA166 lx82 hO92  _) rfl hl.1 rfl (Nat.le_of_ble_eq_true rfl) ⟨by decide, by decide⟩ ⟨Nat.le_of_ble_eq_true rfl, Nat.le_of_ble_eq_true rfl⟩ d_19_32_97) (fun u187 H locs hp188 V => ?_)
        obtain ⟨hI, hu192, f189, hA190, hE191⟩ := hp188
        replace hA190 : u187[129]? = (some (q 129, .inl (g 0, (264 : Int32).toNatClampNeg, .inl f189)) : Option (Nat × va_E)) := hA190
        have e193 : f189 = (F_WR_copy (264 : Int32) (264 : Int32) f165 lx82) := hE191
        replace hO85 := (hu192 _ (by decide)).trans hO85
        replace hO86 := (hu192 _ (by decide)).trans hO86
        replace hO87 := (hu192 _ (by decide)).trans hO87
        replace hO88 := (hu192 _ (by decide)).trans hO88
        replace hA166 := (hu192 _ (by decide)).trans hA166
        replace hA168 := (hu192 _ (by decide)).trans hA168
        replace hA183 := (hu192 _ (by decide)).trans hA183
        replace hF := q_uc hF hu192 (by simp)
        refine lv_goto (tgt := 56) hx hb d_19_32_100 (by decide) ?_
        exact ih83 ((fm97 : Nat), (f165 : (Nat → Int32)), (f167 : (Nat → Int32)), (f182 : (Nat → Int32)), (f189 : (Nat → Int32))) _ _ _ _ (Nat.lt_succ_self _) ⟨V, q_lw hl (q_lw1 0 rfl (q_lw1 1 rfl q_lw0)), hI, hF, hO85, hO86, hO87, hO88, hA166, hA168, hA183, hA190, (show F_WR_common_L56 x2 x3 x4 t0_0 t0_1 t0_2 t0_3 t0_4 t0_5 t0_6 t1_0 t2_0 t3_0 t4_0 t5_0 t6_0 t7_0 lx42 fm97 f165 f167 f182 f189 = (F_WR_common x2 x3 x4 t0_0 t0_1 t0_2 t0_3 t0_4 t0_5 t0_6 t1_0 t2_0 t3_0 t4_0 t5_0 t6_0 t7_0) from Eq.trans (by rw [e193, e186, e174, e173, F_WR_common_c75.eq_1]) hR175), (show True ∧ S_WR_common_L56 x2 x3 x4 t0_0 t0_1 t0_2 t0_3 t0_4 t0_5 t0_6 t1_0 t2_0 t3_0 t4_0 t5_0 t6_0 t7_0 lx42 fm97 f165 f167 f182 f189 from (by rw [e193, e186, e174, e173]; have h := hS176; rw [S_WR_common_c75.eq_1] at h; with_reducible exact h))⟩
    ·
      exact q_retv C0 V (⟨hI, hF, lx42, t0_1, t0_2, t0_3, t0_4, t0_5, t0_6, t1_0, t2_0, t3_0, t4_0, t5_0, t6_0, t7_0, hT0, hT1, hT2, hT3, hT4, hT5, hT6, hT7, (show 0 ≤ t0_3.toInt from (by first | with_reducible exact (q_fe btt0_3).2 | with_reducible exact (q_fe btt0_3).1 | (have t1 : 0 ≤ t0_3.toInt ∧ t0_3.toInt ≤ 1 := btt0_3; omega))), (show t0_1.toInt ≤ t0_1.toInt from (by omega)), (show t0_1.toInt ≤ t0_1.toInt from (by omega)), (show t0_2.toInt ≤ t0_2.toInt from (by omega)), (show t0_2.toInt ≤ t0_2.toInt from (by omega)), (show t0_3.toInt ≤ t0_3.toInt from (by omega)), (show t0_4.toInt ≤ t0_4.toInt from (by omega)), (show t0_4.toInt ≤ t0_4.toInt from (by omega)), (show t0_5.toInt ≤ t0_5.toInt from (by omega)), (show t0_5.toInt ≤ t0_5.toInt from (by omega)), (show t0_6.toInt ≤ t0_6.toInt from (by omega)), (show t0_6.toInt ≤ t0_6.toInt from (by omega)), (show (lx42, t0_1, t0_2, t0_3, t0_4, t0_5, t0_6, t1_0, t2_0, t3_0, t4_0, t5_0, t6_0, t7_0) = (F_WR_common x2 x3 x4 t0_0 t0_1 t0_2 t0_3 t0_4 t0_5 t0_6 t1_0 t2_0 t3_0 t4_0 t5_0 t6_0 t7_0) from Eq.trans (by rw [F_WR_common_J27.eq_1, if_neg c61]) hR54)⟩) d_19_32_37
  ·
    intro J51
    refine q_join (X := Unit) (fun z H locs ls _ => q_Wd D g (va_A ws sz) s ws H locs ∧ lv_has ls 4 [(0, .ref (q 119)), (1, .int x2), (2, .int x3), (3, .int x4)] ∧ F_WR_common_J22 x2 x3 x4 t0_0 t0_1 t0_2 t0_3 t0_4 t0_5 t0_6 t1_0 t2_0 t3_0 t4_0 t5_0 t6_0 t7_0 = (F_WR_common x2 x3 x4 t0_0 t0_1 t0_2 t0_3 t0_4 t0_5 t0_6 t1_0 t2_0 t3_0 t4_0 t5_0 t6_0 t7_0) ∧ True ∧ S_WR_common_J22 x2 x3 x4 t0_0 t0_1 t0_2 t0_3 t0_4 t0_5 t0_6 t1_0 t2_0 t3_0 t4_0 t5_0 t6_0 t7_0) (fun z => [.ref (q 119)]) 22 0 0 ?_ ?_
    ·
      rintro _ H locs ls _ ⟨V, hl, hR204, hS205⟩
      replace hl : lv_has ls 4 [(0, .ref (q 119)), (1, .int x2), (2, .int x3), (3, .int x4)] := hl
      refine lv_iconst (v := 1) hx hb d_19_32_22 (by decide) ?_
      refine lv_goto (tgt := 27) hx hb d_19_32_23 (by decide) ?_
      exact J51 ((1 : Int32)) _ _ _ ws ⟨(show q_F (0 ≤ 1) from (show 0 ≤ 1 from by omega)), (show q_F (1 ≤ 1) from (show 1 ≤ 1 from by omega)), V, q_lw hl (q_lw1 0 rfl (q_lw1 1 rfl (q_lw1 2 rfl (q_lw1 3 rfl q_lw0)))), (show F_WR_common_J27 x2 x3 x4 t0_0 t0_1 t0_2 t0_3 t0_4 t0_5 t0_6 t1_0 t2_0 t3_0 t4_0 t5_0 t6_0 t7_0 1 = (F_WR_common x2 x3 x4 t0_0 t0_1 t0_2 t0_3 t0_4 t0_5 t0_6 t1_0 t2_0 t3_0 t4_0 t5_0 t6_0 t7_0) from Eq.trans (by rw [F_WR_common_J22.eq_1]) hR204), (show True ∧ S_WR_common_J27 x2 x3 x4 t0_0 t0_1 t0_2 t0_3 t0_4 t0_5 t0_6 t1_0 t2_0 t3_0 t4_0 t5_0 t6_0 t7_0 1 from (by have h := hS205; rw [S_WR_common_J22.eq_1] at h; with_reducible exact h))⟩
    ·
      intro J203
      refine lv_if_ne (tgt := 22) hx hb d_19_32_5 (by decide) (fun c209 => ?_) (fun c209 => ?_)
      ·
        exact J203 (()) _ _ _ ws ⟨V, q_lw hl (q_lw1 0 rfl (q_lw1 1 rfl (q_lw1 2 rfl (q_lw1 3 rfl q_lw0)))), (show F_WR_common_J22 x2 x3 x4 t0_0 t0_1 t0_2 t0_3 t0_4 t0_5 t0_6 t1_0 t2_0 t3_0 t4_0 t5_0 t6_0 t7_0 = (F_WR_common x2 x3 x4 t0_0 t0_1 t0_2 t0_3 t0_4 t0_5 t0_6 t1_0 t2_0 t3_0 t4_0 t5_0 t6_0 t7_0) from (by have c209x := c209; rw [e41] at c209x; rw [F_WR_common.eq_1, if_neg c209x])), (show True ∧ S_WR_common_J22 x2 x3 x4 t0_0 t0_1 t0_2 t0_3 t0_4 t0_5 t0_6 t1_0 t2_0 t3_0 t4_0 t5_0 t6_0 t7_0 from (by have h := hS; rw [S_WR_common.eq_1] at h; have c209x := c209; rw [e41] at c209x; rw [if_neg c209x] at h; with_reducible exact h))⟩
      ·
        refine lv_iload_n hx hb d_19_32_8 rfl (lv_at hl 2 rfl) ?_
        refine q_goi V (q_runS (As := [.int x3]) (rest := [.ref (q 119)]) (d := 1) (mc := 0) (ms := 0) C0 V rfl LS_WR_91 (X_WR_no l D g q ws  x3 hI   _) rfl hl.1 rfl (Nat.le_of_ble_eq_true rfl) ⟨by decide, by decide⟩ ⟨Nat.le_of_ble_eq_true rfl, Nat.le_of_ble_eq_true rfl⟩ d_19_32_9) (fun a214 u212 H locs hp213 V => ?_)
        obtain ⟨rfl, b215, b216, hE217⟩ := hp213
        have e218 : a214 = (F_WR_no x3) := hE217
        clear b215
        clear b216
        refine lv_if_ne (tgt := 22) hx hb d_19_32_12 (by decide) (fun c219 => ?_) (fun c219 => ?_)
        ·
          exact J203 (()) _ _ _ ws ⟨V, q_lw hl (q_lw1 0 rfl (q_lw1 1 rfl (q_lw1 2 rfl (q_lw1 3 rfl q_lw0)))), (show F_WR_common_J22 x2 x3 x4 t0_0 t0_1 t0_2 t0_3 t0_4 t0_5 t0_6 t1_0 t2_0 t3_0 t4_0 t5_0 t6_0 t7_0 = (F_WR_common x2 x3 x4 t0_0 t0_1 t0_2 t0_3 t0_4 t0_5 t0_6 t1_0 t2_0 t3_0 t4_0 t5_0 t6_0 t7_0) from (by have c209x := c209; rw [e41] at c209x; have c219x := c219; rw [e218] at c219x; rw [F_WR_common.eq_1, if_pos c209x, if_neg c219x])), (show True ∧ S_WR_common_J22 x2 x3 x4 t0_0 t0_1 t0_2 t0_3 t0_4 t0_5 t0_6 t1_0 t2_0 t3_0 t4_0 t5_0 t6_0 t7_0 from (by have h := hS; rw [S_WR_common.eq_1] at h; have c209x := c209; rw [e41] at c209x; rw [if_pos c209x] at h; have c219x := c219; rw [e218] at c219x; rw [if_neg c219x] at h; with_reducible exact h))⟩
        ·
          refine lv_iload_n hx hb d_19_32_15 rfl (lv_at hl 3 rfl) ?_
          refine q_goi V (q_runS (As := [.int x4]) (rest := [.ref (q 119)]) (d := 1) (mc := 0) (ms := 0) C0 V rfl LS_WR_91 (X_WR_no l D g q ws  x4 hI   _) rfl hl.1 rfl (Nat.le_of_ble_eq_true rfl) ⟨by decide, by decide⟩ ⟨Nat.le_of_ble_eq_true rfl, Nat.le_of_ble_eq_true rfl⟩ d_19_32_16) (fun a224 u222 H locs hp223 V => ?_)
          obtain ⟨rfl, b225, b226, hE227⟩ := hp223
          have e228 : a224 = (F_WR_no x4) := hE227
          clear b225
          clear b226
          refine lv_if_eq (tgt := 26) hx hb d_19_32_19 (by decide) (fun c229 => ?_) (fun c229 => ?_)
          ·
            refine lv_iconst (v := 0) hx hb d_19_32_26 (by decide) ?_
            exact J51 ((0 : Int32)) _ _ _ ws ⟨(show q_F (0 ≤ 0) from (show 0 ≤ 0 from by omega)), (show q_F (0 ≤ 1) from (show 0 ≤ 1 from by omega)), V, q_lw hl (q_lw1 0 rfl (q_lw1 1 rfl (q_lw1 2 rfl (q_lw1 3 rfl q_lw0)))), (show F_WR_common_J27 x2 x3 x4 t0_0 t0_1 t0_2 t0_3 t0_4 t0_5 t0_6 t1_0 t2_0 t3_0 t4_0 t5_0 t6_0 t7_0 0 = (F_WR_common x2 x3 x4 t0_0 t0_1 t0_2 t0_3 t0_4 t0_5 t0_6 t1_0 t2_0 t3_0 t4_0 t5_0 t6_0 t7_0) from (by have c209x := c209; rw [e41] at c209x; have c219x := c219; rw [e218] at c219x; have c229x := c229; rw [e228] at c229x; rw [F_WR_common.eq_1, if_pos c209x, if_pos c219x, if_pos c229x])), (show True ∧ S_WR_common_J27 x2 x3 x4 t0_0 t0_1 t0_2 t0_3 t0_4 t0_5 t0_6 t1_0 t2_0 t3_0 t4_0 t5_0 t6_0 t7_0 0 from (by have h := hS; rw [S_WR_common.eq_1] at h; have c209x := c209; rw [e41] at c209x; rw [if_pos c209x] at h; have c219x := c219; rw [e218] at c219x; rw [if_pos c219x] at h; have c229x := c229; rw [e228] at c229x; rw [if_pos c229x] at h; with_reducible exact h))⟩
          ·
            exact J203 (()) _ _ _ ws ⟨V, q_lw hl (q_lw1 0 rfl (q_lw1 1 rfl (q_lw1 2 rfl (q_lw1 3 rfl q_lw0)))), (show F_WR_common_J22 x2 x3 x4 t0_0 t0_1 t0_2 t0_3 t0_4 t0_5 t0_6 t1_0 t2_0 t3_0 t4_0 t5_0 t6_0 t7_0 = (F_WR_common x2 x3 x4 t0_0 t0_1 t0_2 t0_3 t0_4 t0_5 t0_6 t1_0 t2_0 t3_0 t4_0 t5_0 t6_0 t7_0) from (by have c209x := c209; rw [e41] at c209x; have c219x := c219; rw [e218] at c219x; have c229x := c229; rw [e228] at c229x; rw [F_WR_common.eq_1, if_pos c209x, if_pos c219x, if_neg c229x])), (show True ∧ S_WR_common_J22 x2 x3 x4 t0_0 t0_1 t0_2 t0_3 t0_4 t0_5 t0_6 t1_0 t2_0 t3_0 t4_0 t5_0 t6_0 t7_0 from (by have h := hS; rw [S_WR_common.eq_1] at h; have c209x := c209; rw [e41] at c209x; rw [if_pos c209x] at h; have c219x := c219; rw [e218] at c219x; rw [if_pos c219x] at h; have c229x := c229; rw [e228] at c229x; rw [if_neg c229x] at h; with_reducible exact h))⟩

theorem d_19_33_0 : decode prog_19_method_33_code 0 = .ok (.aload_n 0, 1) := by decide +kernel
theorem d_19_33_1 : decode prog_19_method_33_code 1 = .ok (.getfield 47, 3) := by decide +kernel
theorem d_19_33_4 : decode prog_19_method_33_code 4 = .ok (.aload_n 0, 1) := by decide +kernel
theorem d_19_33_5 : decode prog_19_method_33_code 5 = .ok (.getfield 38, 3) := by decide +kernel
theorem d_19_33_8 : decode prog_19_method_33_code 8 = .ok (.invokestatic 67, 3) := by decide +kernel
theorem d_19_33_11 : decode prog_19_method_33_code 11 = .ok (.aload_n 0, 1) := by decide +kernel
theorem d_19_33_12 : decode prog_19_method_33_code 12 = .ok (.aload_n 0, 1) := by decide +kernel
theorem d_19_33_13 : decode prog_19_method_33_code 13 = .ok (.getfield 41, 3) := by decide +kernel
theorem d_19_33_16 : decode prog_19_method_33_code 16 = .ok (.invokevirtual 131, 3) := by decide +kernel
set_option maxRecDepth 100000 in
theorem w_2739 : (Cond.code ({ cls := "NumberHouseModel$WholeRows", name := "setOne", desc := "([I)V" } : MethodName) prog_19_method_28_code (2 : Nat) (none : Option ClassFile.FieldType)) ∈ q_tbl := q_of12 99 rfl (by decide +kernel)
set_option maxRecDepth 100000 in
theorem w_2736 : (Cond.methodLink "NumberHouseModel$WholeRows" (131 : Nat) ({ cls := "NumberHouseModel$WholeRows", name := "setOne", desc := "([I)V" } : MethodName)) ∈ q_tbl := q_of12 96 rfl (by decide +kernel)
set_option maxRecDepth 100000 in
theorem w_2738 : (Cond.instanceMethod ({ cls := "NumberHouseModel$WholeRows", name := "setOne", desc := "([I)V" } : MethodName)) ∈ q_tbl := q_of12 98 rfl (by decide +kernel)
theorem ws_108 : Cond.selects "NumberHouseModel$WholeRows" (⟨"NumberHouseModel$WholeRows", "setOne", "([I)V"⟩ : MethodName) (⟨"NumberHouseModel$WholeRows", "setOne", "([I)V"⟩ : MethodName) ∈ q_tbl := q_ofs 108 (by decide +kernel) (by decide +kernel)
theorem LV_WR_131 : q_LV "NumberHouseModel$WholeRows" 131 y_WR_setOne prog_19_method_28_code 2 none 1 := ⟨w_2739, w_15, w_2736, w_2738, ws_108, ⟨by decide, by decide, by decide +kernel⟩⟩
theorem d_19_33_19 : decode prog_19_method_33_code 19 = .ok (.aload_n 0, 1) := by decide +kernel
theorem d_19_33_20 : decode prog_19_method_33_code 20 = .ok (.getfield 44, 3) := by decide +kernel
theorem d_19_33_23 : decode prog_19_method_33_code 23 = .ok (.invokestatic 63, 3) := by decide +kernel
theorem d_19_33_26 : decode prog_19_method_33_code 26 = .ok (.aload_n 0, 1) := by decide +kernel
theorem d_19_33_27 : decode prog_19_method_33_code 27 = .ok (.iconst 0, 1) := by decide +kernel
theorem d_19_33_28 : decode prog_19_method_33_code 28 = .ok (.putfield 137, 3) := by decide +kernel
set_option maxRecDepth 100000 in
theorem w_1940 : (Cond.fieldLink "NumberHouseModel$WholeRows" (137 : Nat) "NumberHouseModel$WholeRows" "firstBelow" "Z") ∈ q_tbl := q_of9 20 rfl (by decide +kernel)
theorem d_19_33_31 : decode prog_19_method_33_code 31 = .ok (.aload_n 0, 1) := by decide +kernel
theorem d_19_33_32 : decode prog_19_method_33_code 32 = .ok (.iconst 0, 1) := by decide +kernel
theorem d_19_33_33 : decode prog_19_method_33_code 33 = .ok (.putfield 140, 3) := by decide +kernel
set_option maxRecDepth 100000 in
theorem w_1941 : (Cond.fieldLink "NumberHouseModel$WholeRows" (140 : Nat) "NumberHouseModel$WholeRows" "secondBelow" "Z") ∈ q_tbl := q_of9 21 rfl (by decide +kernel)
theorem d_19_33_36 : decode prog_19_method_33_code 36 = .ok (.aload_n 0, 1) := by decide +kernel
theorem d_19_33_37 : decode prog_19_method_33_code 37 = .ok (.getfield 38, 3) := by decide +kernel
theorem d_19_33_40 : decode prog_19_method_33_code 40 = .ok (.invokestatic 59, 3) := by decide +kernel
theorem d_19_33_43 : decode prog_19_method_33_code 43 = .ok (.ifCond .le 122, 3) := by decide +kernel
theorem d_19_33_165 : decode prog_19_method_33_code 165 = .ok (.aload_n 0, 1) := by decide +kernel
theorem d_19_33_166 : decode prog_19_method_33_code 166 = .ok (.getfield 35, 3) := by decide +kernel
theorem d_19_33_169 : decode prog_19_method_33_code 169 = .ok (.invokestatic 59, 3) := by decide +kernel
theorem d_19_33_172 : decode prog_19_method_33_code 172 = .ok (.iconst 1, 1) := by decide +kernel
theorem d_19_33_173 : decode prog_19_method_33_code 173 = .ok (.if_icmp .ne 13, 3) := by decide +kernel
theorem d_19_33_186 : decode prog_19_method_33_code 186 = .ok (.iconst 0, 1) := by decide +kernel
theorem d_19_33_187 : decode prog_19_method_33_code 187 = .ok (.ireturn, 1) := by decide +kernel
theorem d_19_33_176 : decode prog_19_method_33_code 176 = .ok (.aload_n 0, 1) := by decide +kernel
theorem d_19_33_177 : decode prog_19_method_33_code 177 = .ok (.getfield 35, 3) := by decide +kernel
theorem d_19_33_180 : decode prog_19_method_33_code 180 = .ok (.iconst 0, 1) := by decide +kernel
theorem d_19_33_181 : decode prog_19_method_33_code 181 = .ok (.iaload, 1) := by decide +kernel
theorem d_19_33_182 : decode prog_19_method_33_code 182 = .ok (.iconst 1, 1) := by decide +kernel
theorem d_19_33_183 : decode prog_19_method_33_code 183 = .ok (.if_icmp .eq 5, 3) := by decide +kernel
theorem d_19_33_188 : decode prog_19_method_33_code 188 = .ok (.aload_n 0, 1) := by decide +kernel
theorem d_19_33_189 : decode prog_19_method_33_code 189 = .ok (.aload_n 0, 1) := by decide +kernel
theorem d_19_33_190 : decode prog_19_method_33_code 190 = .ok (.getfield 41, 3) := by decide +kernel
theorem d_19_33_193 : decode prog_19_method_33_code 193 = .ok (.aload_n 0, 1) := by decide +kernel
theorem d_19_33_194 : decode prog_19_method_33_code 194 = .ok (.getfield 47, 3) := by decide +kernel
theorem d_19_33_197 : decode prog_19_method_33_code 197 = .ok (.invokevirtual 122, 3) := by decide +kernel
theorem d_19_33_200 : decode prog_19_method_33_code 200 = .ok (.aload_n 0, 1) := by decide +kernel
theorem d_19_33_201 : decode prog_19_method_33_code 201 = .ok (.getfield 29, 3) := by decide +kernel
theorem d_19_33_204 : decode prog_19_method_33_code 204 = .ok (.aload_n 0, 1) := by decide +kernel
theorem d_19_33_205 : decode prog_19_method_33_code 205 = .ok (.getfield 35, 3) := by decide +kernel
theorem d_19_33_208 : decode prog_19_method_33_code 208 = .ok (.invokestatic 67, 3) := by decide +kernel
theorem d_19_33_211 : decode prog_19_method_33_code 211 = .ok (.aload_n 0, 1) := by decide +kernel
theorem d_19_33_212 : decode prog_19_method_33_code 212 = .ok (.getfield 137, 3) := by decide +kernel
theorem d_19_33_215 : decode prog_19_method_33_code 215 = .ok (.ifCond .eq 55, 3) := by decide +kernel
theorem d_19_33_270 : decode prog_19_method_33_code 270 = .ok (.iconst 1, 1) := by decide +kernel
theorem d_19_33_271 : decode prog_19_method_33_code 271 = .ok (.ireturn, 1) := by decide +kernel
theorem d_19_33_218 : decode prog_19_method_33_code 218 = .ok (.aload_n 0, 1) := by decide +kernel
theorem d_19_33_219 : decode prog_19_method_33_code 219 = .ok (.getfield 35, 3) := by decide +kernel
theorem d_19_33_222 : decode prog_19_method_33_code 222 = .ok (.invokestatic 59, 3) := by decide +kernel
theorem d_19_33_225 : decode prog_19_method_33_code 225 = .ok (.ifCond .le 45, 3) := by decide +kernel
theorem d_19_33_228 : decode prog_19_method_33_code 228 = .ok (.aload_n 0, 1) := by decide +kernel
theorem d_19_33_229 : decode prog_19_method_33_code 229 = .ok (.getfield 47, 3) := by decide +kernel
theorem d_19_33_232 : decode prog_19_method_33_code 232 = .ok (.aload_n 0, 1) := by decide +kernel
theorem d_19_33_233 : decode prog_19_method_33_code 233 = .ok (.getfield 20, 3) := by decide +kernel
theorem d_19_33_236 : decode prog_19_method_33_code 236 = .ok (.invokestatic 67, 3) := by decide +kernel
theorem d_19_33_239 : decode prog_19_method_33_code 239 = .ok (.aload_n 0, 1) := by decide +kernel
theorem d_19_33_240 : decode prog_19_method_33_code 240 = .ok (.getfield 20, 3) := by decide +kernel
theorem d_19_33_243 : decode prog_19_method_33_code 243 = .ok (.aload_n 0, 1) := by decide +kernel
theorem d_19_33_244 : decode prog_19_method_33_code 244 = .ok (.getfield 35, 3) := by decide +kernel
theorem d_19_33_247 : decode prog_19_method_33_code 247 = .ok (.aload_n 0, 1) := by decide +kernel
theorem d_19_33_248 : decode prog_19_method_33_code 248 = .ok (.getfield 35, 3) := by decide +kernel
theorem d_19_33_251 : decode prog_19_method_33_code 251 = .ok (.invokestatic 59, 3) := by decide +kernel
theorem d_19_33_254 : decode prog_19_method_33_code 254 = .ok (.lconst 1, 1) := by decide +kernel
theorem d_19_33_255 : decode prog_19_method_33_code 255 = .ok (.iconst 1, 1) := by decide +kernel
theorem d_19_33_256 : decode prog_19_method_33_code 256 = .ok (.invokestatic 75, 3) := by decide +kernel
theorem d_19_33_259 : decode prog_19_method_33_code 259 = .ok (.aload_n 0, 1) := by decide +kernel
theorem d_19_33_260 : decode prog_19_method_33_code 260 = .ok (.getfield 20, 3) := by decide +kernel
theorem d_19_33_263 : decode prog_19_method_33_code 263 = .ok (.aload_n 0, 1) := by decide +kernel
theorem d_19_33_264 : decode prog_19_method_33_code 264 = .ok (.getfield 35, 3) := by decide +kernel
theorem d_19_33_267 : decode prog_19_method_33_code 267 = .ok (.invokestatic 67, 3) := by decide +kernel
theorem d_19_33_46 : decode prog_19_method_33_code 46 = .ok (.aload_n 0, 1) := by decide +kernel
theorem d_19_33_47 : decode prog_19_method_33_code 47 = .ok (.aload_n 0, 1) := by decide +kernel
theorem d_19_33_48 : decode prog_19_method_33_code 48 = .ok (.getfield 35, 3) := by decide +kernel
theorem d_19_33_51 : decode prog_19_method_33_code 51 = .ok (.aload_n 0, 1) := by decide +kernel
theorem d_19_33_52 : decode prog_19_method_33_code 52 = .ok (.getfield 38, 3) := by decide +kernel
theorem d_19_33_55 : decode prog_19_method_33_code 55 = .ok (.invokevirtual 122, 3) := by decide +kernel
theorem d_19_33_58 : decode prog_19_method_33_code 58 = .ok (.aload_n 0, 1) := by decide +kernel
theorem d_19_33_59 : decode prog_19_method_33_code 59 = .ok (.getfield 38, 3) := by decide +kernel
theorem d_19_33_62 : decode prog_19_method_33_code 62 = .ok (.aload_n 0, 1) := by decide +kernel
theorem d_19_33_63 : decode prog_19_method_33_code 63 = .ok (.getfield 35, 3) := by decide +kernel
theorem d_19_33_66 : decode prog_19_method_33_code 66 = .ok (.invokestatic 67, 3) := by decide +kernel
theorem d_19_33_69 : decode prog_19_method_33_code 69 = .ok (.aload_n 0, 1) := by decide +kernel
theorem d_19_33_70 : decode prog_19_method_33_code 70 = .ok (.getfield 29, 3) := by decide +kernel
theorem d_19_33_73 : decode prog_19_method_33_code 73 = .ok (.aload_n 0, 1) := by decide +kernel
theorem d_19_33_74 : decode prog_19_method_33_code 74 = .ok (.getfield 38, 3) := by decide +kernel
theorem d_19_33_77 : decode prog_19_method_33_code 77 = .ok (.invokestatic 67, 3) := by decide +kernel
theorem d_19_33_80 : decode prog_19_method_33_code 80 = .ok (.aload_n 0, 1) := by decide +kernel
theorem d_19_33_81 : decode prog_19_method_33_code 81 = .ok (.aload_n 0, 1) := by decide +kernel
theorem d_19_33_82 : decode prog_19_method_33_code 82 = .ok (.getfield 32, 3) := by decide +kernel
theorem d_19_33_85 : decode prog_19_method_33_code 85 = .ok (.aload_n 0, 1) := by decide +kernel
theorem d_19_33_86 : decode prog_19_method_33_code 86 = .ok (.getfield 44, 3) := by decide +kernel
theorem d_19_33_89 : decode prog_19_method_33_code 89 = .ok (.aload_n 0, 1) := by decide +kernel
theorem d_19_33_90 : decode prog_19_method_33_code 90 = .ok (.getfield 23, 3) := by decide +kernel
theorem d_19_33_93 : decode prog_19_method_33_code 93 = .ok (.invokevirtual 115, 3) := by decide +kernel
theorem d_19_33_96 : decode prog_19_method_33_code 96 = .ok (.aload_n 0, 1) := by decide +kernel
theorem d_19_33_97 : decode prog_19_method_33_code 97 = .ok (.aload_n 0, 1) := by decide +kernel
theorem d_19_33_98 : decode prog_19_method_33_code 98 = .ok (.getfield 41, 3) := by decide +kernel
theorem d_19_33_101 : decode prog_19_method_33_code 101 = .ok (.aload_n 0, 1) := by decide +kernel
theorem d_19_33_102 : decode prog_19_method_33_code 102 = .ok (.getfield 137, 3) := by decide +kernel
theorem d_19_33_105 : decode prog_19_method_33_code 105 = .ok (.aload_n 0, 1) := by decide +kernel
theorem d_19_33_106 : decode prog_19_method_33_code 106 = .ok (.getfield 23, 3) := by decide +kernel
theorem d_19_33_109 : decode prog_19_method_33_code 109 = .ok (.aload_n 0, 1) := by decide +kernel
theorem d_19_33_110 : decode prog_19_method_33_code 110 = .ok (.getfield 140, 3) := by decide +kernel
theorem d_19_33_121 : decode prog_19_method_33_code 121 = .ok (.invokevirtual 111, 3) := by decide +kernel
theorem d_19_33_124 : decode prog_19_method_33_code 124 = .ok (.aload_n 0, 1) := by decide +kernel
theorem d_19_33_125 : decode prog_19_method_33_code 125 = .ok (.getfield 44, 3) := by decide +kernel
theorem d_19_33_128 : decode prog_19_method_33_code 128 = .ok (.aload_n 0, 1) := by decide +kernel
theorem d_19_33_129 : decode prog_19_method_33_code 129 = .ok (.getfield 41, 3) := by decide +kernel
theorem d_19_33_132 : decode prog_19_method_33_code 132 = .ok (.invokestatic 67, 3) := by decide +kernel
theorem d_19_33_135 : decode prog_19_method_33_code 135 = .ok (.aload_n 0, 1) := by decide +kernel
theorem d_19_33_136 : decode prog_19_method_33_code 136 = .ok (.aload_n 0, 1) := by decide +kernel
theorem d_19_33_137 : decode prog_19_method_33_code 137 = .ok (.getfield 140, 3) := by decide +kernel
theorem d_19_33_140 : decode prog_19_method_33_code 140 = .ok (.putfield 137, 3) := by decide +kernel
theorem d_19_33_143 : decode prog_19_method_33_code 143 = .ok (.aload_n 0, 1) := by decide +kernel
theorem d_19_33_144 : decode prog_19_method_33_code 144 = .ok (.getfield 20, 3) := by decide +kernel
theorem d_19_33_147 : decode prog_19_method_33_code 147 = .ok (.aload_n 0, 1) := by decide +kernel
theorem d_19_33_148 : decode prog_19_method_33_code 148 = .ok (.getfield 44, 3) := by decide +kernel
theorem d_19_33_151 : decode prog_19_method_33_code 151 = .ok (.invokestatic 67, 3) := by decide +kernel
theorem d_19_33_154 : decode prog_19_method_33_code 154 = .ok (.aload_n 0, 1) := by decide +kernel
theorem d_19_33_155 : decode prog_19_method_33_code 155 = .ok (.aload_n 0, 1) := by decide +kernel
theorem d_19_33_156 : decode prog_19_method_33_code 156 = .ok (.getfield 82, 3) := by decide +kernel
theorem d_19_33_159 : decode prog_19_method_33_code 159 = .ok (.putfield 140, 3) := by decide +kernel
theorem d_19_33_162 : decode prog_19_method_33_code 162 = .ok (.goto (-126), 3) := by decide +kernel
theorem d_19_33_113 : decode prog_19_method_33_code 113 = .ok (.ifCond .ne 7, 3) := by decide +kernel
theorem d_19_33_120 : decode prog_19_method_33_code 120 = .ok (.iconst 0, 1) := by decide +kernel
theorem d_19_33_116 : decode prog_19_method_33_code 116 = .ok (.iconst 1, 1) := by decide +kernel
theorem d_19_33_117 : decode prog_19_method_33_code 117 = .ok (.goto 4, 3) := by decide +kernel
def y_WR_inverts : MethodName := ⟨"NumberHouseModel$WholeRows", "inverts", "()Z"⟩
def F_WR_inverts_c197 (K_F_WR_inverts_L36 : Int32 → Int32 → Int32 → Int32 → Int32 → Int32 → Int32 → (Nat → Int32) → (Nat → Int32) → (Nat → Int32) → (Nat → Int32) → (Nat → Int32) → (Nat → Int32) → (Nat → Int32) → (Nat → Int32) → (Nat → Int32) → (Int32 × Int32 × Int32 × Int32 × Int32 × Int32 × Int32 × Int32 × (Nat → Int32) × (Nat → Int32) × (Nat → Int32) × (Nat → Int32) × (Nat → Int32) × (Nat → Int32) × (Nat → Int32) × (Nat → Int32) × (Nat → Int32))) (t0_0 : Int32) (t0_1 : Int32) (t0_2 : Int32) (t0_3 : Int32) (t0_4 : Int32) (t0_5 : Int32) (t0_6 : Int32) (t1_0 : (Nat → Int32)) (t2_0 : (Nat → Int32)) (t3_0 : (Nat → Int32)) (t4_0 : (Nat → Int32)) (t5_0 : (Nat → Int32)) (t6_0 : (Nat → Int32)) (t7_0 : (Nat → Int32)) (t8_0 : (Nat → Int32)) (t9_0 : (Nat → Int32)) (t10_0 : (Nat → Int32)) (lx70 : Int32) (lx71 : Int32) (lx72 : Int32) (lx73 : Int32) (lx74 : Int32) (lx75 : Int32) (lx76 : Int32) (lx77 : (Nat → Int32)) (lx78 : (Nat → Int32)) (lx79 : (Nat → Int32)) (lx80 : (Nat → Int32)) (lx81 : (Nat → Int32)) (lx82 : (Nat → Int32)) (lx83 : (Nat → Int32)) (lx84 : (Nat → Int32)) (lx85 : (Nat → Int32)) (p150 : ((Nat → Int32) × (Nat → Int32))) : Int32 × Int32 × Int32 × Int32 × Int32 × Int32 × Int32 × Int32 × (Nat → Int32) × (Nat → Int32) × (Nat → Int32) × (Nat → Int32) × (Nat → Int32) × (Nat → Int32) × (Nat → Int32) × (Nat → Int32) × (Nat → Int32) := if lx74 = (0 : Int32) then (((1 : Int32), lx70, lx71, lx72, lx73, lx74, lx75, lx76, lx77, lx78, lx79, (p150.1 : (Nat → Int32)), (p150.2 : (Nat → Int32)), ((F_WR_copy (264 : Int32) (264 : Int32) (p150.1 : (Nat → Int32)) lx82) : (Nat → Int32)), lx83, lx84, lx85)) else (if ((F_WR_size (264 : Int32) ((F_WR_copy (264 : Int32) (264 : Int32) (p150.1 : (Nat → Int32)) lx82) : (Nat → Int32))) : Int32) ≤ (0 : Int32) then (((1 : Int32), lx70, lx71, lx72, lx73, lx74, lx75, lx76, lx77, lx78, lx79, (p150.1 : (Nat → Int32)), (p150.2 : (Nat → Int32)), ((F_WR_copy (264 : Int32) (264 : Int32) (p150.1 : (Nat → Int32)) lx82) : (Nat → Int32)), lx83, lx84, lx85)) else (((1 : Int32), lx70, lx71, lx72, lx73, lx74, lx75, lx76, ((F_WR_join (264 : Int32) (264 : Int32) ((F_WR_size (264 : Int32) ((F_WR_copy (264 : Int32) (264 : Int32) (p150.1 : (Nat → Int32)) lx82) : (Nat → Int32))) : Int32) (1 : Int64) (1 : Int32) ((F_WR_copy (264 : Int32) (264 : Int32) t10_0 lx77) : (Nat → Int32)) ((F_WR_copy (264 : Int32) (264 : Int32) (p150.1 : (Nat → Int32)) lx82) : (Nat → Int32))) : (Nat → Int32)), lx78, lx79, (p150.1 : (Nat → Int32)), (p150.2 : (Nat → Int32)), ((F_WR_copy (264 : Int32) (264 : Int32) ((F_WR_join (264 : Int32) (264 : Int32) ((F_WR_size (264 : Int32) ((F_WR_copy (264 : Int32) (264 : Int32) (p150.1 : (Nat → Int32)) lx82) : (Nat → Int32))) : Int32) (1 : Int64) (1 : Int32) ((F_WR_copy (264 : Int32) (264 : Int32) t10_0 lx77) : (Nat → Int32)) ((F_WR_copy (264 : Int32) (264 : Int32) (p150.1 : (Nat → Int32)) lx82) : (Nat → Int32))) : (Nat → Int32)) ((F_WR_copy (264 : Int32) (264 : Int32) (p150.1 : (Nat → Int32)) lx82) : (Nat → Int32))) : (Nat → Int32)), lx83, lx84, lx85)))
def F_WR_inverts_c121 (K_F_WR_inverts_L36 : Int32 → Int32 → Int32 → Int32 → Int32 → Int32 → Int32 → (Nat → Int32) → (Nat → Int32) → (Nat → Int32) → (Nat → Int32) → (Nat → Int32) → (Nat → Int32) → (Nat → Int32) → (Nat → Int32) → (Nat → Int32) → (Int32 × Int32 × Int32 × Int32 × Int32 × Int32 × Int32 × Int32 × (Nat → Int32) × (Nat → Int32) × (Nat → Int32) × (Nat → Int32) × (Nat → Int32) × (Nat → Int32) × (Nat → Int32) × (Nat → Int32) × (Nat → Int32))) (t0_0 : Int32) (t0_1 : Int32) (t0_2 : Int32) (t0_3 : Int32) (t0_4 : Int32) (t0_5 : Int32) (t0_6 : Int32) (t1_0 : (Nat → Int32)) (t2_0 : (Nat → Int32)) (t3_0 : (Nat → Int32)) (t4_0 : (Nat → Int32)) (t5_0 : (Nat → Int32)) (t6_0 : (Nat → Int32)) (t7_0 : (Nat → Int32)) (t8_0 : (Nat → Int32)) (t9_0 : (Nat → Int32)) (t10_0 : (Nat → Int32)) (lx70 : Int32) (lx71 : Int32) (lx72 : Int32) (lx73 : Int32) (lx74 : Int32) (lx75 : Int32) (lx76 : Int32) (lx77 : (Nat → Int32)) (lx78 : (Nat → Int32)) (lx79 : (Nat → Int32)) (lx80 : (Nat → Int32)) (lx81 : (Nat → Int32)) (lx82 : (Nat → Int32)) (lx83 : (Nat → Int32)) (lx84 : (Nat → Int32)) (lx85 : (Nat → Int32)) (p219 : ((Nat → Int32) × (Nat → Int32))) (f213 : (Nat → Int32)) (f215 : (Nat → Int32)) (f230 : (Nat → Int32)) (f237 : (Nat → Int32)) (p251 : ((Nat → Int32) × (Nat → Int32))) (f247 : (Nat → Int32)) (f245 : (Nat → Int32)) (lx260 : Int32) (p309 : (Int32 × Int32 × Int32 × Int32 × Int32 × Int32 × Int32 × (Nat → Int32))) : Int32 × Int32 × Int32 × Int32 × Int32 × Int32 × Int32 × Int32 × (Nat → Int32) × (Nat → Int32) × (Nat → Int32) × (Nat → Int32) × (Nat → Int32) × (Nat → Int32) × (Nat → Int32) × (Nat → Int32) × (Nat → Int32) := K_F_WR_inverts_L36 (p309.1 : Int32) (p309.2.1 : Int32) (p309.2.2.1 : Int32) (p309.2.2.2.1 : Int32) (p309.2.2.2.2.2.1 : Int32) (p309.2.2.2.1 : Int32) (p309.2.2.2.2.2.2.1 : Int32) (p309.2.2.2.2.2.2.2 : (Nat → Int32)) f247 f245 f213 f215 f230 f237 ((F_WR_copy (264 : Int32) (264 : Int32) lx85 lx84) : (Nat → Int32)) ((F_WR_copy (264 : Int32) (264 : Int32) (p309.2.2.2.2.2.2.2 : (Nat → Int32)) lx85) : (Nat → Int32))
def F_WR_inverts_J121 (K_F_WR_inverts_L36 : Int32 → Int32 → Int32 → Int32 → Int32 → Int32 → Int32 → (Nat → Int32) → (Nat → Int32) → (Nat → Int32) → (Nat → Int32) → (Nat → Int32) → (Nat → Int32) → (Nat → Int32) → (Nat → Int32) → (Nat → Int32) → (Int32 × Int32 × Int32 × Int32 × Int32 × Int32 × Int32 × Int32 × (Nat → Int32) × (Nat → Int32) × (Nat → Int32) × (Nat → Int32) × (Nat → Int32) × (Nat → Int32) × (Nat → Int32) × (Nat → Int32) × (Nat → Int32))) (t0_0 : Int32) (t0_1 : Int32) (t0_2 : Int32) (t0_3 : Int32) (t0_4 : Int32) (t0_5 : Int32) (t0_6 : Int32) (t1_0 : (Nat → Int32)) (t2_0 : (Nat → Int32)) (t3_0 : (Nat → Int32)) (t4_0 : (Nat → Int32)) (t5_0 : (Nat → Int32)) (t6_0 : (Nat → Int32)) (t7_0 : (Nat → Int32)) (t8_0 : (Nat → Int32)) (t9_0 : (Nat → Int32)) (t10_0 : (Nat → Int32)) (lx70 : Int32) (lx71 : Int32) (lx72 : Int32) (lx73 : Int32) (lx74 : Int32) (lx75 : Int32) (lx76 : Int32) (lx77 : (Nat → Int32)) (lx78 : (Nat → Int32)) (lx79 : (Nat → Int32)) (lx80 : (Nat → Int32)) (lx81 : (Nat → Int32)) (lx82 : (Nat → Int32)) (lx83 : (Nat → Int32)) (lx84 : (Nat → Int32)) (lx85 : (Nat → Int32)) (p219 : ((Nat → Int32) × (Nat → Int32))) (f213 : (Nat → Int32)) (f215 : (Nat → Int32)) (f230 : (Nat → Int32)) (f237 : (Nat → Int32)) (p251 : ((Nat → Int32) × (Nat → Int32))) (f247 : (Nat → Int32)) (f245 : (Nat → Int32)) (lx260 : Int32) : Int32 × Int32 × Int32 × Int32 × Int32 × Int32 × Int32 × Int32 × (Nat → Int32) × (Nat → Int32) × (Nat → Int32) × (Nat → Int32) × (Nat → Int32) × (Nat → Int32) × (Nat → Int32) × (Nat → Int32) × (Nat → Int32) := F_WR_inverts_c121 K_F_WR_inverts_L36 t0_0 t0_1 t0_2 t0_3 t0_4 t0_5 t0_6 t1_0 t2_0 t3_0 t4_0 t5_0 t6_0 t7_0 t8_0 t9_0 t10_0 lx70 lx71 lx72 lx73 lx74 lx75 lx76 lx77 lx78 lx79 lx80 lx81 lx82 lx83 lx84 lx85 p219 f213 f215 f230 f237 p251 f247 f245 lx260 ((F_WR_sum (264 : Int32) lx74 (264 : Int32) lx260 lx70 lx71 lx72 lx73 lx74 lx75 lx76 lx77 lx84 f247) : (Int32 × Int32 × Int32 × Int32 × Int32 × Int32 × Int32 × (Nat → Int32)))
def F_WR_inverts_c93 (K_F_WR_inverts_L36 : Int32 → Int32 → Int32 → Int32 → Int32 → Int32 → Int32 → (Nat → Int32) → (Nat → Int32) → (Nat → Int32) → (Nat → Int32) → (Nat → Int32) → (Nat → Int32) → (Nat → Int32) → (Nat → Int32) → (Nat → Int32) → (Int32 × Int32 × Int32 × Int32 × Int32 × Int32 × Int32 × Int32 × (Nat → Int32) × (Nat → Int32) × (Nat → Int32) × (Nat → Int32) × (Nat → Int32) × (Nat → Int32) × (Nat → Int32) × (Nat → Int32) × (Nat → Int32))) (t0_0 : Int32) (t0_1 : Int32) (t0_2 : Int32) (t0_3 : Int32) (t0_4 : Int32) (t0_5 : Int32) (t0_6 : Int32) (t1_0 : (Nat → Int32)) (t2_0 : (Nat → Int32)) (t3_0 : (Nat → Int32)) (t4_0 : (Nat → Int32)) (t5_0 : (Nat → Int32)) (t6_0 : (Nat → Int32)) (t7_0 : (Nat → Int32)) (t8_0 : (Nat → Int32)) (t9_0 : (Nat → Int32)) (t10_0 : (Nat → Int32)) (lx70 : Int32) (lx71 : Int32) (lx72 : Int32) (lx73 : Int32) (lx74 : Int32) (lx75 : Int32) (lx76 : Int32) (lx77 : (Nat → Int32)) (lx78 : (Nat → Int32)) (lx79 : (Nat → Int32)) (lx80 : (Nat → Int32)) (lx81 : (Nat → Int32)) (lx82 : (Nat → Int32)) (lx83 : (Nat → Int32)) (lx84 : (Nat → Int32)) (lx85 : (Nat → Int32)) (p219 : ((Nat → Int32) × (Nat → Int32))) (f213 : (Nat → Int32)) (f215 : (Nat → Int32)) (f230 : (Nat → Int32)) (f237 : (Nat → Int32)) (p251 : ((Nat → Int32) × (Nat → Int32))) : Int32 × Int32 × Int32 × Int32 × Int32 × Int32 × Int32 × Int32 × (Nat → Int32) × (Nat → Int32) × (Nat → Int32) × (Nat → Int32) × (Nat → Int32) × (Nat → Int32) × (Nat → Int32) × (Nat → Int32) × (Nat → Int32) := if lx75 = (0 : Int32) then (F_WR_inverts_J121 K_F_WR_inverts_L36 t0_0 t0_1 t0_2 t0_3 t0_4 t0_5 t0_6 t1_0 t2_0 t3_0 t4_0 t5_0 t6_0 t7_0 t8_0 t9_0 t10_0 lx70 lx71 lx72 lx73 lx74 lx75 lx76 lx77 lx78 lx79 lx80 lx81 lx82 lx83 lx84 lx85 p219 f213 f215 f230 f237 p251 (p251.2 : (Nat → Int32)) (p251.1 : (Nat → Int32)) 1) else (F_WR_inverts_J121 K_F_WR_inverts_L36 t0_0 t0_1 t0_2 t0_3 t0_4 t0_5 t0_6 t1_0 t2_0 t3_0 t4_0 t5_0 t6_0 t7_0 t8_0 t9_0 t10_0 lx70 lx71 lx72 lx73 lx74 lx75 lx76 lx77 lx78 lx79 lx80 lx81 lx82 lx83 lx84 lx85 p219 f213 f215 f230 f237 p251 (p251.2 : (Nat → Int32)) (p251.1 : (Nat → Int32)) 0)
def F_WR_inverts_c55 (K_F_WR_inverts_L36 : Int32 → Int32 → Int32 → Int32 → Int32 → Int32 → Int32 → (Nat → Int32) → (Nat → Int32) → (Nat → Int32) → (Nat → Int32) → (Nat → Int32) → (Nat → Int32) → (Nat → Int32) → (Nat → Int32) → (Nat → Int32) → (Int32 × Int32 × Int32 × Int32 × Int32 × Int32 × Int32 × Int32 × (Nat → Int32) × (Nat → Int32) × (Nat → Int32) × (Nat → Int32) × (Nat → Int32) × (Nat → Int32) × (Nat → Int32) × (Nat → Int32) × (Nat → Int32))) (t0_0 : Int32) (t0_1 : Int32) (t0_2 : Int32) (t0_3 : Int32) (t0_4 : Int32) (t0_5 : Int32) (t0_6 : Int32) (t1_0 : (Nat → Int32)) (t2_0 : (Nat → Int32)) (t3_0 : (Nat → Int32)) (t4_0 : (Nat → Int32)) (t5_0 : (Nat → Int32)) (t6_0 : (Nat → Int32)) (t7_0 : (Nat → Int32)) (t8_0 : (Nat → Int32)) (t9_0 : (Nat → Int32)) (t10_0 : (Nat → Int32)) (lx70 : Int32) (lx71 : Int32) (lx72 : Int32) (lx73 : Int32) (lx74 : Int32) (lx75 : Int32) (lx76 : Int32) (lx77 : (Nat → Int32)) (lx78 : (Nat → Int32)) (lx79 : (Nat → Int32)) (lx80 : (Nat → Int32)) (lx81 : (Nat → Int32)) (lx82 : (Nat → Int32)) (lx83 : (Nat → Int32)) (lx84 : (Nat → Int32)) (lx85 : (Nat → Int32)) (p219 : ((Nat → Int32) × (Nat → Int32))) : Int32 × Int32 × Int32 × Int32 × Int32 × Int32 × Int32 × Int32 × (Nat → Int32) × (Nat → Int32) × (Nat → Int32) × (Nat → Int32) × (Nat → Int32) × (Nat → Int32) × (Nat → Int32) × (Nat → Int32) × (Nat → Int32) := F_WR_inverts_c93 K_F_WR_inverts_L36 t0_0 t0_1 t0_2 t0_3 t0_4 t0_5 t0_6 t1_0 t2_0 t3_0 t4_0 t5_0 t6_0 t7_0 t8_0 t9_0 t10_0 lx70 lx71 lx72 lx73 lx74 lx75 lx76 lx77 lx78 lx79 lx80 lx81 lx82 lx83 lx84 lx85 p219 (p219.1 : (Nat → Int32)) (p219.2 : (Nat → Int32)) ((F_WR_copy (264 : Int32) (264 : Int32) lx83 lx82) : (Nat → Int32)) ((F_WR_copy (264 : Int32) (264 : Int32) (p219.1 : (Nat → Int32)) lx83) : (Nat → Int32)) ((F_WR_multiplyRows (264 : Int32) (264 : Int32) (264 : Int32) lx70 lx71 lx72 lx73 lx74 lx75 lx76 lx79 (p219.2 : (Nat → Int32)) lx85 lx78) : ((Nat → Int32) × (Nat → Int32)))
def F_WR_inverts_L36 (t0_0 : Int32) (t0_1 : Int32) (t0_2 : Int32) (t0_3 : Int32) (t0_4 : Int32) (t0_5 : Int32) (t0_6 : Int32) (t1_0 : (Nat → Int32)) (t2_0 : (Nat → Int32)) (t3_0 : (Nat → Int32)) (t4_0 : (Nat → Int32)) (t5_0 : (Nat → Int32)) (t6_0 : (Nat → Int32)) (t7_0 : (Nat → Int32)) (t8_0 : (Nat → Int32)) (t9_0 : (Nat → Int32)) (t10_0 : (Nat → Int32)) : Nat → Int32 → Int32 → Int32 → Int32 → Int32 → Int32 → Int32 → (Nat → Int32) → (Nat → Int32) → (Nat → Int32) → (Nat → Int32) → (Nat → Int32) → (Nat → Int32) → (Nat → Int32) → (Nat → Int32) → (Nat → Int32) → (Int32 × Int32 × Int32 × Int32 × Int32 × Int32 × Int32 × Int32 × (Nat → Int32) × (Nat → Int32) × (Nat → Int32) × (Nat → Int32) × (Nat → Int32) × (Nat → Int32) × (Nat → Int32) × (Nat → Int32) × (Nat → Int32))
  | 0, _, _, _, _, _, _, _, _, _, _, _, _, _, _, _, _ => default
  | fm + 1, lx70, lx71, lx72, lx73, lx74, lx75, lx76, lx77, lx78, lx79, lx80, lx81, lx82, lx83, lx84, lx85 => if ((F_WR_size (264 : Int32) lx83) : Int32) ≤ (0 : Int32) then (if ((F_WR_size (264 : Int32) lx82) : Int32) = (1 : Int32) then (if (lx82 (0 : Int32).toNatClampNeg : Int32) = (1 : Int32) then (F_WR_inverts_c197 (F_WR_inverts_L36 t0_0 t0_1 t0_2 t0_3 t0_4 t0_5 t0_6 t1_0 t2_0 t3_0 t4_0 t5_0 t6_0 t7_0 t8_0 t9_0 t10_0 fm) t0_0 t0_1 t0_2 t0_3 t0_4 t0_5 t0_6 t1_0 t2_0 t3_0 t4_0 t5_0 t6_0 t7_0 t8_0 t9_0 t10_0 lx70 lx71 lx72 lx73 lx74 lx75 lx76 lx77 lx78 lx79 lx80 lx81 lx82 lx83 lx84 lx85 ((F_WR_divideRows (264 : Int32) (264 : Int32) lx70 lx71 lx72 lx73 lx74 lx75 lx76 lx80 lx81 lx84 t10_0) : ((Nat → Int32) × (Nat → Int32)))) else (((0 : Int32), lx70, lx71, lx72, lx73, lx74, lx75, lx76, lx77, lx78, lx79, lx80, lx81, lx82, lx83, lx84, lx85))) else (((0 : Int32), lx70, lx71, lx72, lx73, lx74, lx75, lx76, lx77, lx78, lx79, lx80, lx81, lx82, lx83, lx84, lx85))) else (F_WR_inverts_c55 (F_WR_inverts_L36 t0_0 t0_1 t0_2 t0_3 t0_4 t0_5 t0_6 t1_0 t2_0 t3_0 t4_0 t5_0 t6_0 t7_0 t8_0 t9_0 t10_0 fm) t0_0 t0_1 t0_2 t0_3 t0_4 t0_5 t0_6 t1_0 t2_0 t3_0 t4_0 t5_0 t6_0 t7_0 t8_0 t9_0 t10_0 lx70 lx71 lx72 lx73 lx74 lx75 lx76 lx77 lx78 lx79 lx80 lx81 lx82 lx83 lx84 lx85 ((F_WR_divideRows (264 : Int32) (264 : Int32) lx70 lx71 lx72 lx73 lx74 lx75 lx76 lx80 lx81 lx82 lx83) : ((Nat → Int32) × (Nat → Int32))))
def F_WR_inverts (t0_0 : Int32) (t0_1 : Int32) (t0_2 : Int32) (t0_3 : Int32) (t0_4 : Int32) (t0_5 : Int32) (t0_6 : Int32) (t1_0 : (Nat → Int32)) (t2_0 : (Nat → Int32)) (t3_0 : (Nat → Int32)) (t4_0 : (Nat → Int32)) (t5_0 : (Nat → Int32)) (t6_0 : (Nat → Int32)) (t7_0 : (Nat → Int32)) (t8_0 : (Nat → Int32)) (t9_0 : (Nat → Int32)) (t10_0 : (Nat → Int32)) : Int32 × Int32 × Int32 × Int32 × Int32 × Int32 × Int32 × Int32 × (Nat → Int32) × (Nat → Int32) × (Nat → Int32) × (Nat → Int32) × (Nat → Int32) × (Nat → Int32) × (Nat → Int32) × (Nat → Int32) × (Nat → Int32) := F_WR_inverts_L36 t0_0 t0_1 t0_2 t0_3 t0_4 t0_5 t0_6 t1_0 t2_0 t3_0 t4_0 t5_0 t6_0 t7_0 t8_0 t9_0 t10_0 1000000 t0_0 t0_1 t0_2 t0_3 0 0 t0_6 t1_0 t2_0 t3_0 t4_0 t5_0 t6_0 ((F_WR_copy (264 : Int32) (264 : Int32) t10_0 t7_0) : (Nat → Int32)) ((F_WR_setOne (264 : Int32) t0_0 t0_1 t0_2 t0_3 t0_4 t0_5 t0_6 t8_0) : (Nat → Int32)) ((F_WR_clear (264 : Int32) t9_0) : (Nat → Int32))
def S_WR_inverts_c197 (K_S_WR_inverts_L36 : Int32 → Int32 → Int32 → Int32 → Int32 → Int32 → Int32 → (Nat → Int32) → (Nat → Int32) → (Nat → Int32) → (Nat → Int32) → (Nat → Int32) → (Nat → Int32) → (Nat → Int32) → (Nat → Int32) → (Nat → Int32) → Prop) (t0_0 : Int32) (t0_1 : Int32) (t0_2 : Int32) (t0_3 : Int32) (t0_4 : Int32) (t0_5 : Int32) (t0_6 : Int32) (t1_0 : (Nat → Int32)) (t2_0 : (Nat → Int32)) (t3_0 : (Nat → Int32)) (t4_0 : (Nat → Int32)) (t5_0 : (Nat → Int32)) (t6_0 : (Nat → Int32)) (t7_0 : (Nat → Int32)) (t8_0 : (Nat → Int32)) (t9_0 : (Nat → Int32)) (t10_0 : (Nat → Int32)) (lx70 : Int32) (lx71 : Int32) (lx72 : Int32) (lx73 : Int32) (lx74 : Int32) (lx75 : Int32) (lx76 : Int32) (lx77 : (Nat → Int32)) (lx78 : (Nat → Int32)) (lx79 : (Nat → Int32)) (lx80 : (Nat → Int32)) (lx81 : (Nat → Int32)) (lx82 : (Nat → Int32)) (lx83 : (Nat → Int32)) (lx84 : (Nat → Int32)) (lx85 : (Nat → Int32)) (p150 : ((Nat → Int32) × (Nat → Int32))) : Prop := if lx74 = (0 : Int32) then (True) else (if ((F_WR_size (264 : Int32) ((F_WR_copy (264 : Int32) (264 : Int32) (p150.1 : (Nat → Int32)) lx82) : (Nat → Int32))) : Int32) ≤ (0 : Int32) then (True) else ((True ∧ S_WR_join (264 : Int32) (264 : Int32) ((F_WR_size (264 : Int32) ((F_WR_copy (264 : Int32) (264 : Int32) (p150.1 : (Nat → Int32)) lx82) : (Nat → Int32))) : Int32) (1 : Int64) (1 : Int32) ((F_WR_copy (264 : Int32) (264 : Int32) t10_0 lx77) : (Nat → Int32)) ((F_WR_copy (264 : Int32) (264 : Int32) (p150.1 : (Nat → Int32)) lx82) : (Nat → Int32))) ∧ (True)))
def S_WR_inverts_c121 (K_S_WR_inverts_L36 : Int32 → Int32 → Int32 → Int32 → Int32 → Int32 → Int32 → (Nat → Int32) → (Nat → Int32) → (Nat → Int32) → (Nat → Int32) → (Nat → Int32) → (Nat → Int32) → (Nat → Int32) → (Nat → Int32) → (Nat → Int32) → Prop) (t0_0 : Int32) (t0_1 : Int32) (t0_2 : Int32) (t0_3 : Int32) (t0_4 : Int32) (t0_5 : Int32) (t0_6 : Int32) (t1_0 : (Nat → Int32)) (t2_0 : (Nat → Int32)) (t3_0 : (Nat → Int32)) (t4_0 : (Nat → Int32)) (t5_0 : (Nat → Int32)) (t6_0 : (Nat → Int32)) (t7_0 : (Nat → Int32)) (t8_0 : (Nat → Int32)) (t9_0 : (Nat → Int32)) (t10_0 : (Nat → Int32)) (lx70 : Int32) (lx71 : Int32) (lx72 : Int32) (lx73 : Int32) (lx74 : Int32) (lx75 : Int32) (lx76 : Int32) (lx77 : (Nat → Int32)) (lx78 : (Nat → Int32)) (lx79 : (Nat → Int32)) (lx80 : (Nat → Int32)) (lx81 : (Nat → Int32)) (lx82 : (Nat → Int32)) (lx83 : (Nat → Int32)) (lx84 : (Nat → Int32)) (lx85 : (Nat → Int32)) (p219 : ((Nat → Int32) × (Nat → Int32))) (f213 : (Nat → Int32)) (f215 : (Nat → Int32)) (f230 : (Nat → Int32)) (f237 : (Nat → Int32)) (p251 : ((Nat → Int32) × (Nat → Int32))) (f247 : (Nat → Int32)) (f245 : (Nat → Int32)) (lx260 : Int32) (p309 : (Int32 × Int32 × Int32 × Int32 × Int32 × Int32 × Int32 × (Nat → Int32))) : Prop := K_S_WR_inverts_L36 (p309.1 : Int32) (p309.2.1 : Int32) (p309.2.2.1 : Int32) (p309.2.2.2.1 : Int32) (p309.2.2.2.2.2.1 : Int32) (p309.2.2.2.1 : Int32) (p309.2.2.2.2.2.2.1 : Int32) (p309.2.2.2.2.2.2.2 : (Nat → Int32)) f247 f245 f213 f215 f230 f237 ((F_WR_copy (264 : Int32) (264 : Int32) lx85 lx84) : (Nat → Int32)) ((F_WR_copy (264 : Int32) (264 : Int32) (p309.2.2.2.2.2.2.2 : (Nat → Int32)) lx85) : (Nat → Int32))
def S_WR_inverts_J121 (K_S_WR_inverts_L36 : Int32 → Int32 → Int32 → Int32 → Int32 → Int32 → Int32 → (Nat → Int32) → (Nat → Int32) → (Nat → Int32) → (Nat → Int32) → (Nat → Int32) → (Nat → Int32) → (Nat → Int32) → (Nat → Int32) → (Nat → Int32) → Prop) (t0_0 : Int32) (t0_1 : Int32) (t0_2 : Int32) (t0_3 : Int32) (t0_4 : Int32) (t0_5 : Int32) (t0_6 : Int32) (t1_0 : (Nat → Int32)) (t2_0 : (Nat → Int32)) (t3_0 : (Nat → Int32)) (t4_0 : (Nat → Int32)) (t5_0 : (Nat → Int32)) (t6_0 : (Nat → Int32)) (t7_0 : (Nat → Int32)) (t8_0 : (Nat → Int32)) (t9_0 : (Nat → Int32)) (t10_0 : (Nat → Int32)) (lx70 : Int32) (lx71 : Int32) (lx72 : Int32) (lx73 : Int32) (lx74 : Int32) (lx75 : Int32) (lx76 : Int32) (lx77 : (Nat → Int32)) (lx78 : (Nat → Int32)) (lx79 : (Nat → Int32)) (lx80 : (Nat → Int32)) (lx81 : (Nat → Int32)) (lx82 : (Nat → Int32)) (lx83 : (Nat → Int32)) (lx84 : (Nat → Int32)) (lx85 : (Nat → Int32)) (p219 : ((Nat → Int32) × (Nat → Int32))) (f213 : (Nat → Int32)) (f215 : (Nat → Int32)) (f230 : (Nat → Int32)) (f237 : (Nat → Int32)) (p251 : ((Nat → Int32) × (Nat → Int32))) (f247 : (Nat → Int32)) (f245 : (Nat → Int32)) (lx260 : Int32) : Prop := (True ∧ S_WR_sum (264 : Int32) lx74 (264 : Int32) lx260 lx70 lx71 lx72 lx73 lx74 lx75 lx76 lx77 lx84 f247) ∧ (S_WR_inverts_c121 K_S_WR_inverts_L36 t0_0 t0_1 t0_2 t0_3 t0_4 t0_5 t0_6 t1_0 t2_0 t3_0 t4_0 t5_0 t6_0 t7_0 t8_0 t9_0 t10_0 lx70 lx71 lx72 lx73 lx74 lx75 lx76 lx77 lx78 lx79 lx80 lx81 lx82 lx83 lx84 lx85 p219 f213 f215 f230 f237 p251 f247 f245 lx260 ((F_WR_sum (264 : Int32) lx74 (264 : Int32) lx260 lx70 lx71 lx72 lx73 lx74 lx75 lx76 lx77 lx84 f247) : (Int32 × Int32 × Int32 × Int32 × Int32 × Int32 × Int32 × (Nat → Int32))))
def S_WR_inverts_c93 (K_S_WR_inverts_L36 : Int32 → Int32 → Int32 → Int32 → Int32 → Int32 → Int32 → (Nat → Int32) → (Nat → Int32) → (Nat → Int32) → (Nat → Int32) → (Nat → Int32) → (Nat → Int32) → (Nat → Int32) → (Nat → Int32) → (Nat → Int32) → Prop) (t0_0 : Int32) (t0_1 : Int32) (t0_2 : Int32) (t0_3 : Int32) (t0_4 : Int32) (t0_5 : Int32) (t0_6 : Int32) (t1_0 : (Nat → Int32)) (t2_0 : (Nat → Int32)) (t3_0 : (Nat → Int32)) (t4_0 : (Nat → Int32)) (t5_0 : (Nat → Int32)) (t6_0 : (Nat → Int32)) (t7_0 : (Nat → Int32)) (t8_0 : (Nat → Int32)) (t9_0 : (Nat → Int32)) (t10_0 : (Nat → Int32)) (lx70 : Int32) (lx71 : Int32) (lx72 : Int32) (lx73 : Int32) (lx74 : Int32) (lx75 : Int32) (lx76 : Int32) (lx77 : (Nat → Int32)) (lx78 : (Nat → Int32)) (lx79 : (Nat → Int32)) (lx80 : (Nat → Int32)) (lx81 : (Nat → Int32)) (lx82 : (Nat → Int32)) (lx83 : (Nat → Int32)) (lx84 : (Nat → Int32)) (lx85 : (Nat → Int32)) (p219 : ((Nat → Int32) × (Nat → Int32))) (f213 : (Nat → Int32)) (f215 : (Nat → Int32)) (f230 : (Nat → Int32)) (f237 : (Nat → Int32)) (p251 : ((Nat → Int32) × (Nat → Int32))) : Prop := if lx75 = (0 : Int32) then (S_WR_inverts_J121 K_S_WR_inverts_L36 t0_0 t0_1 t0_2 t0_3 t0_4 t0_5 t0_6 t1_0 t2_0 t3_0 t4_0 t5_0 t6_0 t7_0 t8_0 t9_0 t10_0 lx70 lx71 lx72 lx73 lx74 lx75 lx76 lx77 lx78 lx79 lx80 lx81 lx82 lx83 lx84 lx85 p219 f213 f215 f230 f237 p251 (p251.2 : (Nat → Int32)) (p251.1 : (Nat → Int32)) 1) else (S_WR_inverts_J121 K_S_WR_inverts_L36 t0_0 t0_1 t0_2 t0_3 t0_4 t0_5 t0_6 t1_0 t2_0 t3_0 t4_0 t5_0 t6_0 t7_0 t8_0 t9_0 t10_0 lx70 lx71 lx72 lx73 lx74 lx75 lx76 lx77 lx78 lx79 lx80 lx81 lx82 lx83 lx84 lx85 p219 f213 f215 f230 f237 p251 (p251.2 : (Nat → Int32)) (p251.1 : (Nat → Int32)) 0)
def S_WR_inverts_c55 (K_S_WR_inverts_L36 : Int32 → Int32 → Int32 → Int32 → Int32 → Int32 → Int32 → (Nat → Int32) → (Nat → Int32) → (Nat → Int32) → (Nat → Int32) → (Nat → Int32) → (Nat → Int32) → (Nat → Int32) → (Nat → Int32) → (Nat → Int32) → Prop) (t0_0 : Int32) (t0_1 : Int32) (t0_2 : Int32) (t0_3 : Int32) (t0_4 : Int32) (t0_5 : Int32) (t0_6 : Int32) (t1_0 : (Nat → Int32)) (t2_0 : (Nat → Int32)) (t3_0 : (Nat → Int32)) (t4_0 : (Nat → Int32)) (t5_0 : (Nat → Int32)) (t6_0 : (Nat → Int32)) (t7_0 : (Nat → Int32)) (t8_0 : (Nat → Int32)) (t9_0 : (Nat → Int32)) (t10_0 : (Nat → Int32)) (lx70 : Int32) (lx71 : Int32) (lx72 : Int32) (lx73 : Int32) (lx74 : Int32) (lx75 : Int32) (lx76 : Int32) (lx77 : (Nat → Int32)) (lx78 : (Nat → Int32)) (lx79 : (Nat → Int32)) (lx80 : (Nat → Int32)) (lx81 : (Nat → Int32)) (lx82 : (Nat → Int32)) (lx83 : (Nat → Int32)) (lx84 : (Nat → Int32)) (lx85 : (Nat → Int32)) (p219 : ((Nat → Int32) × (Nat → Int32))) : Prop := (True ∧ S_WR_multiplyRows (264 : Int32) (264 : Int32) (264 : Int32) lx70 lx71 lx72 lx73 lx74 lx75 lx76 lx79 (p219.2 : (Nat → Int32)) lx85 lx78) ∧ (S_WR_inverts_c93 K_S_WR_inverts_L36 t0_0 t0_1 t0_2 t0_3 t0_4 t0_5 t0_6 t1_0 t2_0 t3_0 t4_0 t5_0 t6_0 t7_0 t8_0 t9_0 t10_0 lx70 lx71 lx72 lx73 lx74 lx75 lx76 lx77 lx78 lx79 lx80 lx81 lx82 lx83 lx84 lx85 p219 (p219.1 : (Nat → Int32)) (p219.2 : (Nat → Int32)) ((F_WR_copy (264 : Int32) (264 : Int32) lx83 lx82) : (Nat → Int32)) ((F_WR_copy (264 : Int32) (264 : Int32) (p219.1 : (Nat → Int32)) lx83) : (Nat → Int32)) ((F_WR_multiplyRows (264 : Int32) (264 : Int32) (264 : Int32) lx70 lx71 lx72 lx73 lx74 lx75 lx76 lx79 (p219.2 : (Nat → Int32)) lx85 lx78) : ((Nat → Int32) × (Nat → Int32))))
def S_WR_inverts_L36 (t0_0 : Int32) (t0_1 : Int32) (t0_2 : Int32) (t0_3 : Int32) (t0_4 : Int32) (t0_5 : Int32) (t0_6 : Int32) (t1_0 : (Nat → Int32)) (t2_0 : (Nat → Int32)) (t3_0 : (Nat → Int32)) (t4_0 : (Nat → Int32)) (t5_0 : (Nat → Int32)) (t6_0 : (Nat → Int32)) (t7_0 : (Nat → Int32)) (t8_0 : (Nat → Int32)) (t9_0 : (Nat → Int32)) (t10_0 : (Nat → Int32)) : Nat → Int32 → Int32 → Int32 → Int32 → Int32 → Int32 → Int32 → (Nat → Int32) → (Nat → Int32) → (Nat → Int32) → (Nat → Int32) → (Nat → Int32) → (Nat → Int32) → (Nat → Int32) → (Nat → Int32) → (Nat → Int32) → Prop
  | 0, _, _, _, _, _, _, _, _, _, _, _, _, _, _, _, _ => False
  | fm + 1, lx70, lx71, lx72, lx73, lx74, lx75, lx76, lx77, lx78, lx79, lx80, lx81, lx82, lx83, lx84, lx85 => if ((F_WR_size (264 : Int32) lx83) : Int32) ≤ (0 : Int32) then (if ((F_WR_size (264 : Int32) lx82) : Int32) = (1 : Int32) then (if (lx82 (0 : Int32).toNatClampNeg : Int32) = (1 : Int32) then ((True ∧ S_WR_divideRows (264 : Int32) (264 : Int32) lx70 lx71 lx72 lx73 lx74 lx75 lx76 lx80 lx81 lx84 t10_0) ∧ (S_WR_inverts_c197 (S_WR_inverts_L36 t0_0 t0_1 t0_2 t0_3 t0_4 t0_5 t0_6 t1_0 t2_0 t3_0 t4_0 t5_0 t6_0 t7_0 t8_0 t9_0 t10_0 fm) t0_0 t0_1 t0_2 t0_3 t0_4 t0_5 t0_6 t1_0 t2_0 t3_0 t4_0 t5_0 t6_0 t7_0 t8_0 t9_0 t10_0 lx70 lx71 lx72 lx73 lx74 lx75 lx76 lx77 lx78 lx79 lx80 lx81 lx82 lx83 lx84 lx85 ((F_WR_divideRows (264 : Int32) (264 : Int32) lx70 lx71 lx72 lx73 lx74 lx75 lx76 lx80 lx81 lx84 t10_0) : ((Nat → Int32) × (Nat → Int32))))) else (True)) else (True)) else ((True ∧ S_WR_divideRows (264 : Int32) (264 : Int32) lx70 lx71 lx72 lx73 lx74 lx75 lx76 lx80 lx81 lx82 lx83) ∧ (S_WR_inverts_c55 (S_WR_inverts_L36 t0_0 t0_1 t0_2 t0_3 t0_4 t0_5 t0_6 t1_0 t2_0 t3_0 t4_0 t5_0 t6_0 t7_0 t8_0 t9_0 t10_0 fm) t0_0 t0_1 t0_2 t0_3 t0_4 t0_5 t0_6 t1_0 t2_0 t3_0 t4_0 t5_0 t6_0 t7_0 t8_0 t9_0 t10_0 lx70 lx71 lx72 lx73 lx74 lx75 lx76 lx77 lx78 lx79 lx80 lx81 lx82 lx83 lx84 lx85 ((F_WR_divideRows (264 : Int32) (264 : Int32) lx70 lx71 lx72 lx73 lx74 lx75 lx76 lx80 lx81 lx82 lx83) : ((Nat → Int32) × (Nat → Int32)))))
def S_WR_inverts (t0_0 : Int32) (t0_1 : Int32) (t0_2 : Int32) (t0_3 : Int32) (t0_4 : Int32) (t0_5 : Int32) (t0_6 : Int32) (t1_0 : (Nat → Int32)) (t2_0 : (Nat → Int32)) (t3_0 : (Nat → Int32)) (t4_0 : (Nat → Int32)) (t5_0 : (Nat → Int32)) (t6_0 : (Nat → Int32)) (t7_0 : (Nat → Int32)) (t8_0 : (Nat → Int32)) (t9_0 : (Nat → Int32)) (t10_0 : (Nat → Int32)) : Prop := (True ∧ S_WR_setOne (264 : Int32) t0_0 t0_1 t0_2 t0_3 t0_4 t0_5 t0_6 t8_0) ∧ (S_WR_inverts_L36 t0_0 t0_1 t0_2 t0_3 t0_4 t0_5 t0_6 t1_0 t2_0 t3_0 t4_0 t5_0 t6_0 t7_0 t8_0 t9_0 t10_0 1000000 t0_0 t0_1 t0_2 t0_3 0 0 t0_6 t1_0 t2_0 t3_0 t4_0 t5_0 t6_0 ((F_WR_copy (264 : Int32) (264 : Int32) t10_0 t7_0) : (Nat → Int32)) ((F_WR_setOne (264 : Int32) t0_0 t0_1 t0_2 t0_3 t0_4 t0_5 t0_6 t8_0) : (Nat → Int32)) ((F_WR_clear (264 : Int32) t9_0) : (Nat → Int32)))
set_option maxRecDepth 100000 in
set_option maxHeartbeats 4000000 in
theorem X_WR_inverts (l : Launch) (D : va_G) (g : Nat → ClassId) (q : Nat → Nat) (ws : va_W) (hI : q_I (msh g q) q ws) (t0_0 : Int32) (t0_1 : Int32) (t0_2 : Int32) (t0_3 : Int32) (t0_4 : Int32) (t0_5 : Int32) (t0_6 : Int32) (hT0 : ws[119]? = (some (q 119, .inr (13, [.int t0_0, .int t0_1, .ref (q 120), .int t0_2, .ref (q 121), .ref (q 122), .ref (q 123), .int t0_3, .ref (q 124), .ref (q 125), .ref (q 126), .ref (q 127), .ref (q 128), .ref (q 129), .ref (q 130), .ref (q 131), .int t0_4, .int t0_5, .ref (q 132), .ref (q 133), .int t0_6])) : Option (Nat × va_E))) (t1_0 : (Nat → Int32)) (hT1 : ws[123]? = (some (q 123, .inl (g 0, (264 : Int32).toNatClampNeg, .inl t1_0)) : Option (Nat × va_E))) (t2_0 : (Nat → Int32)) (hT2 : ws[124]? = (some (q 124, .inl (g 0, (264 : Int32).toNatClampNeg, .inl t2_0)) : Option (Nat × va_E))) (t3_0 : (Nat → Int32)) (hT3 : ws[125]? = (some (q 125, .inl (g 0, (528 : Int32).toNatClampNeg, .inl t3_0)) : Option (Nat × va_E))) (t4_0 : (Nat → Int32)) (hT4 : ws[126]? = (some (q 126, .inl (g 0, (264 : Int32).toNatClampNeg, .inl t4_0)) : Option (Nat × va_E))) (t5_0 : (Nat → Int32)) (hT5 : ws[127]? = (some (q 127, .inl (g 0, (264 : Int32).toNatClampNeg, .inl t5_0)) : Option (Nat × va_E))) (t6_0 : (Nat → Int32)) (hT6 : ws[128]? = (some (q 128, .inl (g 0, (264 : Int32).toNatClampNeg, .inl t6_0)) : Option (Nat × va_E))) (t7_0 : (Nat → Int32)) (hT7 : ws[129]? = (some (q 129, .inl (g 0, (264 : Int32).toNatClampNeg, .inl t7_0)) : Option (Nat × va_E))) (t8_0 : (Nat → Int32)) (hT8 : ws[130]? = (some (q 130, .inl (g 0, (264 : Int32).toNatClampNeg, .inl t8_0)) : Option (Nat × va_E))) (t9_0 : (Nat → Int32)) (hT9 : ws[131]? = (some (q 131, .inl (g 0, (264 : Int32).toNatClampNeg, .inl t9_0)) : Option (Nat × va_E))) (t10_0 : (Nat → Int32)) (hT10 : ws[132]? = (some (q 132, .inl (g 0, (264 : Int32).toNatClampNeg, .inl t10_0)) : Option (Nat × va_E))) (hS : True ∧ S_WR_inverts t0_0 t0_1 t0_2 t0_3 t0_4 t0_5 t0_6 t1_0 t2_0 t3_0 t4_0 t5_0 t6_0 t7_0 t8_0 t9_0 t10_0) : q_mI l y_WR_inverts prog_19_method_33_code 1 (.boolean) 3 0 0 D g [.ref (q 119)] ws (fun r u => q_I (msh g q) q u ∧ q_un ws u [119, 123, 124, 125, 126, 127, 128, 129, 130, 131] ∧ ∃ (u0_0 : Int32) (u0_1 : Int32) (u0_2 : Int32) (u0_3 : Int32) (u0_4 : Int32) (u0_5 : Int32) (u0_6 : Int32) (u1_0 : (Nat → Int32)) (u2_0 : (Nat → Int32)) (u3_0 : (Nat → Int32)) (u4_0 : (Nat → Int32)) (u5_0 : (Nat → Int32)) (u6_0 : (Nat → Int32)) (u7_0 : (Nat → Int32)) (u8_0 : (Nat → Int32)) (u9_0 : (Nat → Int32)), u[119]? = (some (q 119, .inr (13, [.int u0_0, .int u0_1, .ref (q 120), .int u0_2, .ref (q 121), .ref (q 122), .ref (q 123), .int u0_3, .ref (q 124), .ref (q 125), .ref (q 126), .ref (q 127), .ref (q 128), .ref (q 129), .ref (q 130), .ref (q 131), .int u0_4, .int u0_5, .ref (q 132), .ref (q 133), .int u0_6])) : Option (Nat × va_E)) ∧ u[123]? = (some (q 123, .inl (g 0, (264 : Int32).toNatClampNeg, .inl u1_0)) : Option (Nat × va_E)) ∧ u[124]? = (some (q 124, .inl (g 0, (264 : Int32).toNatClampNeg, .inl u2_0)) : Option (Nat × va_E)) ∧ u[125]? = (some (q 125, .inl (g 0, (528 : Int32).toNatClampNeg, .inl u3_0)) : Option (Nat × va_E)) ∧ u[126]? = (some (q 126, .inl (g 0, (264 : Int32).toNatClampNeg, .inl u4_0)) : Option (Nat × va_E)) ∧ u[127]? = (some (q 127, .inl (g 0, (264 : Int32).toNatClampNeg, .inl u5_0)) : Option (Nat × va_E)) ∧ u[128]? = (some (q 128, .inl (g 0, (264 : Int32).toNatClampNeg, .inl u6_0)) : Option (Nat × va_E)) ∧ u[129]? = (some (q 129, .inl (g 0, (264 : Int32).toNatClampNeg, .inl u7_0)) : Option (Nat × va_E)) ∧ u[130]? = (some (q 130, .inl (g 0, (264 : Int32).toNatClampNeg, .inl u8_0)) : Option (Nat × va_E)) ∧ u[131]? = (some (q 131, .inl (g 0, (264 : Int32).toNatClampNeg, .inl u9_0)) : Option (Nat × va_E)) ∧ (0 ≤ r.toInt) ∧ (r.toInt ≤ 1) ∧ (0 ≤ u0_3.toInt) ∧ (u0_3.toInt ≤ 1) ∧ (0 ≤ u0_4.toInt) ∧ (u0_4.toInt ≤ 1) ∧ (0 ≤ u0_5.toInt) ∧ (u0_5.toInt ≤ 1) ∧ (t0_0.toInt ≤ u0_0.toInt) ∧ (u0_0.toInt ≤ t0_0.toInt) ∧ (t0_1.toInt ≤ u0_1.toInt) ∧ (u0_1.toInt ≤ t0_1.toInt) ∧ (t0_2.toInt ≤ u0_2.toInt) ∧ (u0_2.toInt ≤ t0_2.toInt) ∧ (t0_6.toInt ≤ u0_6.toInt) ∧ (u0_6.toInt ≤ t0_6.toInt) ∧ (r, u0_0, u0_1, u0_2, u0_3, u0_4, u0_5, u0_6, u1_0, u2_0, u3_0, u4_0, u5_0, u6_0, u7_0, u8_0, u9_0) = (F_WR_inverts t0_0 t0_1 t0_2 t0_3 t0_4 t0_5 t0_6 t1_0 t2_0 t3_0 t4_0 t5_0 t6_0 t7_0 t8_0 t9_0 t10_0)) := by
  intro sz
  refine q_into (by decide) (Nat.le_of_ble_eq_true rfl) ?_
  intro p e s m below meth c ls hsz C0 V hl
  have hx := C0.1
  have hb := C0.2.1
  obtain ⟨btt0_2, hZ9⟩ := n_w119 hI hT0
  obtain ⟨btt0_3, hZ9⟩ := hZ9
  replace hZ9 := hZ9.2
  obtain ⟨btt0_5, btt0_6⟩ := hZ9
  replace btt0_2 : q_F (0 ≤ t0_2.toInt ∧ t0_2.toInt ≤ 4100) := btt0_2
  replace btt0_3 : q_F (0 ≤ t0_3.toInt ∧ t0_3.toInt ≤ 1) := btt0_3
  replace btt0_5 : q_F (0 ≤ t0_5.toInt ∧ t0_5.toInt ≤ 1) := btt0_5
  replace btt0_6 : q_F (0 ≤ t0_6.toInt ∧ t0_6.toInt ≤ 2100) := btt0_6
  have hF : q_un ws ws [119, 123, 124, 125, 126, 127, 128, 129, 130, 131] := q_u0
  have hl : lv_has ls 1 [(0, .ref (q 119))] := hl
  refine lv_aload_n hx hb d_19_33_0 rfl (lv_at hl 0 rfl) ?_
  refine q_get (ci := 13) (j := 18) (v := .ref (q 132)) C0 V i_WR rfl rfl hT0 (by decide) w_1942 rfl d_19_33_1 ?_
  refine lv_aload_n hx hb d_19_33_4 rfl (lv_at hl 0 rfl) ?_
  refine q_get (ci := 13) (j := 13) (v := .ref (q 129)) C0 V i_WR rfl rfl hT0 (by decide) w_1937 rfl d_19_33_5 ?_
  refine q_gov V (q_runS (As := [.ref (q 132), .ref (q 129)]) (rest := []) (d := 1) (mc := 0) (ms := 0) C0 V rfl LS_WR_67 (X_WR_copy l D g q ws 132 264 (n_r132 g q) 129 264 (n_r129 g q)  (by decide) hI t10_0 hT10 t7_0 hT7  _) rfl hl.1 rfl (Nat.le_of_ble_eq_true rfl) ⟨by decide, by decide⟩ ⟨Nat.le_of_ble_eq_true rfl, Nat.le_of_ble_eq_true rfl⟩ d_19_33_8) (fun u44 H locs hp45 V => ?_)
  obtain ⟨hI, hu49, f46, hA47, hE48⟩ := hp45
  replace hA47 : u44[129]? = (some (q 129, .inl (g 0, (264 : Int32).toNatClampNeg, .inl f46)) : Option (Nat × va_E)) := hA47
  have e50 : f46 = (F_WR_copy (264 : Int32) (264 : Int32) t10_0 t7_0) := hE48
  replace hT0 := (hu49 _ (by decide)).trans hT0
  replace hT1 := (hu49 _ (by decide)).trans hT1
  replace hT2 := (hu49 _ (by decide)).trans hT2
  replace hT3 := (hu49 _ (by decide)).trans hT3
  replace hT4 := (hu49 _ (by decide)).trans hT4
  replace hT5 := (hu49 _ (by decide)).trans hT5
  replace hT6 := (hu49 _ (by decide)).trans hT6
  replace hT8 := (hu49 _ (by decide)).trans hT8
  replace hT9 := (hu49 _ (by decide)).trans hT9
  replace hT10 := (hu49 _ (by decide)).trans hT10
  replace hF := q_uc hF hu49 (by simp)
  refine lv_aload_n hx hb d_19_33_11 rfl (lv_at hl 0 rfl) ?_
  refine lv_aload_n hx hb d_19_33_12 rfl (lv_at hl 0 rfl) ?_
  refine q_get (ci := 13) (j := 14) (v := .ref (q 130)) C0 V i_WR rfl rfl hT0 (by decide) w_1938 rfl d_19_33_13 ?_
  have ob51 : True ∧ S_WR_setOne (264 : Int32) t0_0 t0_1 t0_2 t0_3 t0_4 t0_5 t0_6 t8_0 := (by have h := hS; rw [S_WR_inverts.eq_1] at h; with_reducible exact h.2.1)
  refine q_gov V (q_runV (As := [.ref (q 130)]) (rest := []) (d := 2) (mc := 0) (ms := 0) (ci := 13) C0 V rfl LV_WR_131 (X_WR_setOne l D g q u44 130 264 (n_r130 g q)  hI t0_0 t0_1 t0_2 t0_3 t0_4 t0_5 t0_6 hT0 t8_0 hT8 ob51 _) rfl rfl hT0 rfl hl.1 rfl (Nat.le_of_ble_eq_true rfl) ⟨by decide, by decide⟩ ⟨Nat.le_of_ble_eq_true rfl, Nat.le_of_ble_eq_true rfl⟩ d_19_33_16) (fun u52 H locs hp53 V => ?_)
  obtain ⟨hI, hu57, f54, hA55, hE56⟩ := hp53
  replace hA55 : u52[130]? = (some (q 130, .inl (g 0, (264 : Int32).toNatClampNeg, .inl f54)) : Option (Nat × va_E)) := hA55
  have e58 : f54 = (F_WR_setOne (264 : Int32) t0_0 t0_1 t0_2 t0_3 t0_4 t0_5 t0_6 t8_0) := hE56
  replace hT0 := (hu57 _ (by decide)).trans hT0
  replace hT1 := (hu57 _ (by decide)).trans hT1
  replace hT2 := (hu57 _ (by decide)).trans hT2
  replace hT3 := (hu57 _ (by decide)).trans hT3
  replace hT4 := (hu57 _ (by decide)).trans hT4
  replace hT5 := (hu57 _ (by decide)).trans hT5
  replace hT6 := (hu57 _ (by decide)).trans hT6
  replace hA47 := (hu57 _ (by decide)).trans hA47
  replace hT9 := (hu57 _ (by decide)).trans hT9
  replace hT10 := (hu57 _ (by decide)).trans hT10
  replace hF := q_uc hF hu57 (by simp)
  refine lv_aload_n hx hb d_19_33_19 rfl (lv_at hl 0 rfl) ?_
  refine q_get (ci := 13) (j := 15) (v := .ref (q 131)) C0 V i_WR rfl rfl hT0 (by decide) w_1939 rfl d_19_33_20 ?_
  refine q_gov V (q_runS (As := [.ref (q 131)]) (rest := []) (d := 1) (mc := 0) (ms := 0) C0 V rfl LS_WR_63 (X_WR_clear l D g q u52 131 264 (n_r131 g q)  hI t9_0 hT9  _) rfl hl.1 rfl (Nat.le_of_ble_eq_true rfl) ⟨by decide, by decide⟩ ⟨Nat.le_of_ble_eq_true rfl, Nat.le_of_ble_eq_true rfl⟩ d_19_33_23) (fun u59 H locs hp60 V => ?_)
  obtain ⟨hI, hu64, f61, hA62, hE63⟩ := hp60
  replace hA62 : u59[131]? = (some (q 131, .inl (g 0, (264 : Int32).toNatClampNeg, .inl f61)) : Option (Nat × va_E)) := hA62
  have e65 : f61 = (F_WR_clear (264 : Int32) t9_0) := hE63
  replace hT0 := (hu64 _ (by decide)).trans hT0
  replace hT1 := (hu64 _ (by decide)).trans hT1
  replace hT2 := (hu64 _ (by decide)).trans hT2
  replace hT3 := (hu64 _ (by decide)).trans hT3
  replace hT4 := (hu64 _ (by decide)).trans hT4
  replace hT5 := (hu64 _ (by decide)).trans hT5
  replace hT6 := (hu64 _ (by decide)).trans hT6
  replace hA47 := (hu64 _ (by decide)).trans hA47
  replace hA55 := (hu64 _ (by decide)).trans hA55
  replace hT10 := (hu64 _ (by decide)).trans hT10
  replace hF := q_uc hF hu64 (by simp)
  refine lv_aload_n hx hb d_19_33_26 rfl (lv_at hl 0 rfl) ?_
  refine lv_iconst (v := 0) hx hb d_19_33_27 (by decide) ?_
  refine q_put (ci := 13) (j := 16) (v := .int 0) (ty := .boolean) C0 V i_WR o_WR n_WR rfl rfl hT0 (by decide) w_1940 rfl rfl rfl rfl (Nat.le_of_ble_eq_true rfl) d_19_33_28 (fun H locs w66 hu67 hT0 V => ?_)
  replace hT0 : w66[119]? = (some (q 119, .inr (13, [.int t0_0, .int t0_1, .ref (q 120), .int t0_2, .ref (q 121), .ref (q 122), .ref (q 123), .int t0_3, .ref (q 124), .ref (q 125), .ref (q 126), .ref (q 127), .ref (q 128), .ref (q 129), .ref (q 130), .ref (q 131), .int 0, .int t0_5, .ref (q 132), .ref (q 133), .int t0_6])) : Option (Nat × va_E)) := hT0
  replace hI := n_p119 hI hu67 hT0 (by first | with_reducible exact q_fe btt0_2 | exact ⟨(by have t1 : 0 ≤ t0_2.toInt ∧ t0_2.toInt ≤ 4100 := btt0_2; omega), (by have t1 : 0 ≤ t0_2.toInt ∧ t0_2.toInt ≤ 4100 := btt0_2; omega)⟩) (by first | with_reducible exact q_fe btt0_3 | exact ⟨(by have t1 : 0 ≤ t0_3.toInt ∧ t0_3.toInt ≤ 1 := btt0_3; omega), (by have t1 : 0 ≤ t0_3.toInt ∧ t0_3.toInt ≤ 1 := btt0_3; omega)⟩) ⟨(by have z9 : (0 : Int32).toInt = 0 := rfl; omega), (by have z9 : (0 : Int32).toInt = 0 := rfl; omega)⟩ (by first | with_reducible exact q_fe btt0_5 | exact ⟨(by have t1 : 0 ≤ t0_5.toInt ∧ t0_5.toInt ≤ 1 := btt0_5; omega), (by have t1 : 0 ≤ t0_5.toInt ∧ t0_5.toInt ≤ 1 := btt0_5; omega)⟩) (by first | with_reducible exact q_fe btt0_6 | exact ⟨(by have t1 : 0 ≤ t0_6.toInt ∧ t0_6.toInt ≤ 2100 := btt0_6; omega), (by have t1 : 0 ≤ t0_6.toInt ∧ t0_6.toInt ≤ 2100 := btt0_6; omega)⟩)
  replace hT1 := (hu67 _ (by decide)).trans hT1
  replace hT2 := (hu67 _ (by decide)).trans hT2
  replace hT3 := (hu67 _ (by decide)).trans hT3
  replace hT4 := (hu67 _ (by decide)).trans hT4
  replace hT5 := (hu67 _ (by decide)).trans hT5
  replace hT6 := (hu67 _ (by decide)).trans hT6
  replace hA47 := (hu67 _ (by decide)).trans hA47
  replace hA55 := (hu67 _ (by decide)).trans hA55
  replace hA62 := (hu67 _ (by decide)).trans hA62
  replace hT10 := (hu67 _ (by decide)).trans hT10
  replace hF := q_us hF hu67 (by simp)
  refine lv_aload_n hx hb d_19_33_31 rfl (lv_at hl 0 rfl) ?_
  refine lv_iconst (v := 0) hx hb d_19_33_32 (by decide) ?_
  refine q_put (ci := 13) (j := 17) (v := .int 0) (ty := .boolean) C0 V i_WR o_WR n_WR rfl rfl hT0 (by decide) w_1941 rfl rfl rfl rfl (Nat.le_of_ble_eq_true rfl) d_19_33_33 (fun H locs w68 hu69 hT0 V => ?_)
  replace hT0 : w68[119]? = (some (q 119, .inr (13, [.int t0_0, .int t0_1, .ref (q 120), .int t0_2, .ref (q 121), .ref (q 122), .ref (q 123), .int t0_3, .ref (q 124), .ref (q 125), .ref (q 126), .ref (q 127), .ref (q 128), .ref (q 129), .ref (q 130), .ref (q 131), .int 0, .int 0, .ref (q 132), .ref (q 133), .int t0_6])) : Option (Nat × va_E)) := hT0
  replace hI := n_p119 hI hu69 hT0 (by first | with_reducible exact q_fe btt0_2 | exact ⟨(by have t1 : 0 ≤ t0_2.toInt ∧ t0_2.toInt ≤ 4100 := btt0_2; omega), (by have t1 : 0 ≤ t0_2.toInt ∧ t0_2.toInt ≤ 4100 := btt0_2; omega)⟩) (by first | with_reducible exact q_fe btt0_3 | exact ⟨(by have t1 : 0 ≤ t0_3.toInt ∧ t0_3.toInt ≤ 1 := btt0_3; omega), (by have t1 : 0 ≤ t0_3.toInt ∧ t0_3.toInt ≤ 1 := btt0_3; omega)⟩) ⟨(by have z9 : (0 : Int32).toInt = 0 := rfl; omega), (by have z9 : (0 : Int32).toInt = 0 := rfl; omega)⟩ ⟨(by have z9 : (0 : Int32).toInt = 0 := rfl; omega), (by have z9 : (0 : Int32).toInt = 0 := rfl; omega)⟩ (by first | with_reducible exact q_fe btt0_6 | exact ⟨(by have t1 : 0 ≤ t0_6.toInt ∧ t0_6.toInt ≤ 2100 := btt0_6; omega), (by have t1 : 0 ≤ t0_6.toInt ∧ t0_6.toInt ≤ 2100 := btt0_6; omega)⟩)
  replace hT1 := (hu69 _ (by decide)).trans hT1
  replace hT2 := (hu69 _ (by decide)).trans hT2
  replace hT3 := (hu69 _ (by decide)).trans hT3
  replace hT4 := (hu69 _ (by decide)).trans hT4
  replace hT5 := (hu69 _ (by decide)).trans hT5
  replace hT6 := (hu69 _ (by decide)).trans hT6
  replace hA47 := (hu69 _ (by decide)).trans hA47
  replace hA55 := (hu69 _ (by decide)).trans hA55
  replace hA62 := (hu69 _ (by decide)).trans hA62
  replace hT10 := (hu69 _ (by decide)).trans hT10
  replace hF := q_us hF hu69 (by simp)
  refine q_loop (X := Nat × Int32 × Int32 × Int32 × Int32 × Int32 × Int32 × Int32 × (Nat → Int32) × (Nat → Int32) × (Nat → Int32) × (Nat → Int32) × (Nat → Int32) × (Nat → Int32) × (Nat → Int32) × (Nat → Int32) × (Nat → Int32)) (fun z H locs ls w101 => q_F (0 ≤ z.2.2.2.2.1.toInt) ∧ q_F (z.2.2.2.2.1.toInt ≤ 1) ∧ q_F (0 ≤ z.2.2.2.2.2.1.toInt) ∧ q_F (z.2.2.2.2.2.1.toInt ≤ 1) ∧ q_F (0 ≤ z.2.2.2.2.2.2.1.toInt) ∧ q_F (z.2.2.2.2.2.2.1.toInt ≤ 1) ∧ q_F (t0_0.toInt ≤ z.2.1.toInt) ∧ q_F (z.2.1.toInt ≤ t0_0.toInt) ∧ q_F (t0_1.toInt ≤ z.2.2.1.toInt) ∧ q_F (z.2.2.1.toInt ≤ t0_1.toInt) ∧ q_F (t0_2.toInt ≤ z.2.2.2.1.toInt) ∧ q_F (z.2.2.2.1.toInt ≤ t0_2.toInt) ∧ q_F (t0_6.toInt ≤ z.2.2.2.2.2.2.2.1.toInt) ∧ q_F (z.2.2.2.2.2.2.2.1.toInt ≤ t0_6.toInt) ∧ q_Wd D g (va_A ws sz) s w101 H locs ∧ lv_has ls 1 [(0, .ref (q 119))] ∧ q_I (msh g q) q w101 ∧ q_un ws w101 [119, 123, 124, 125, 126, 127, 128, 129, 130, 131] ∧ w101[119]? = (some (q 119, .inr (13, [.int z.2.1, .int z.2.2.1, .ref (q 120), .int z.2.2.2.1, .ref (q 121), .ref (q 122), .ref (q 123), .int z.2.2.2.2.1, .ref (q 124), .ref (q 125), .ref (q 126), .ref (q 127), .ref (q 128), .ref (q 129), .ref (q 130), .ref (q 131), .int z.2.2.2.2.2.1, .int z.2.2.2.2.2.2.1, .ref (q 132), .ref (q 133), .int z.2.2.2.2.2.2.2.1])) : Option (Nat × va_E)) ∧ w101[123]? = (some (q 123, .inl (g 0, (264 : Int32).toNatClampNeg, .inl z.2.2.2.2.2.2.2.2.1)) : Option (Nat × va_E)) ∧ w101[124]? = (some (q 124, .inl (g 0, (264 : Int32).toNatClampNeg, .inl z.2.2.2.2.2.2.2.2.2.1)) : Option (Nat × va_E)) ∧ w101[125]? = (some (q 125, .inl (g 0, (528 : Int32).toNatClampNeg, .inl z.2.2.2.2.2.2.2.2.2.2.1)) : Option (Nat × va_E)) ∧ w101[126]? = (some (q 126, .inl (g 0, (264 : Int32).toNatClampNeg, .inl z.2.2.2.2.2.2.2.2.2.2.2.1)) : Option (Nat × va_E)) ∧ w101[127]? = (some (q 127, .inl (g 0, (264 : Int32).toNatClampNeg, .inl z.2.2.2.2.2.2.2.2.2.2.2.2.1)) : Option (Nat × va_E)) ∧ w101[128]? = (some (q 128, .inl (g 0, (264 : Int32).toNatClampNeg, .inl z.2.2.2.2.2.2.2.2.2.2.2.2.2.1)) : Option (Nat × va_E)) ∧ w101[129]? = (some (q 129, .inl (g 0, (264 : Int32).toNatClampNeg, .inl z.2.2.2.2.2.2.2.2.2.2.2.2.2.2.1)) : Option (Nat × va_E)) ∧ w101[130]? = (some (q 130, .inl (g 0, (264 : Int32).toNatClampNeg, .inl z.2.2.2.2.2.2.2.2.2.2.2.2.2.2.2.1)) : Option (Nat × va_E)) ∧ w101[131]? = (some (q 131, .inl (g 0, (264 : Int32).toNatClampNeg, .inl z.2.2.2.2.2.2.2.2.2.2.2.2.2.2.2.2)) : Option (Nat × va_E)) ∧ w101[132]? = (some (q 132, .inl (g 0, (264 : Int32).toNatClampNeg, .inl t10_0)) : Option (Nat × va_E)) ∧ F_WR_inverts_L36 t0_0 t0_1 t0_2 t0_3 t0_4 t0_5 t0_6 t1_0 t2_0 t3_0 t4_0 t5_0 t6_0 t7_0 t8_0 t9_0 t10_0 z.1 z.2.1 z.2.2.1 z.2.2.2.1 z.2.2.2.2.1 z.2.2.2.2.2.1 z.2.2.2.2.2.2.1 z.2.2.2.2.2.2.2.1 z.2.2.2.2.2.2.2.2.1 z.2.2.2.2.2.2.2.2.2.1 z.2.2.2.2.2.2.2.2.2.2.1 z.2.2.2.2.2.2.2.2.2.2.2.1 z.2.2.2.2.2.2.2.2.2.2.2.2.1 z.2.2.2.2.2.2.2.2.2.2.2.2.2.1 z.2.2.2.2.2.2.2.2.2.2.2.2.2.2.1 z.2.2.2.2.2.2.2.2.2.2.2.2.2.2.2.1 z.2.2.2.2.2.2.2.2.2.2.2.2.2.2.2.2 = (F_WR_inverts t0_0 t0_1 t0_2 t0_3 t0_4 t0_5 t0_6 t1_0 t2_0 t3_0 t4_0 t5_0 t6_0 t7_0 t8_0 t9_0 t10_0) ∧ True ∧ S_WR_inverts_L36 t0_0 t0_1 t0_2 t0_3 t0_4 t0_5 t0_6 t1_0 t2_0 t3_0 t4_0 t5_0 t6_0 t7_0 t8_0 t9_0 t10_0 z.1 z.2.1 z.2.2.1 z.2.2.2.1 z.2.2.2.2.1 z.2.2.2.2.2.1 z.2.2.2.2.2.2.1 z.2.2.2.2.2.2.2.1 z.2.2.2.2.2.2.2.2.1 z.2.2.2.2.2.2.2.2.2.1 z.2.2.2.2.2.2.2.2.2.2.1 z.2.2.2.2.2.2.2.2.2.2.2.1 z.2.2.2.2.2.2.2.2.2.2.2.2.1 z.2.2.2.2.2.2.2.2.2.2.2.2.2.1 z.2.2.2.2.2.2.2.2.2.2.2.2.2.2.1 z.2.2.2.2.2.2.2.2.2.2.2.2.2.2.2.1 z.2.2.2.2.2.2.2.2.2.2.2.2.2.2.2.2) (fun z => z.1) ?_ ((1000000 : Nat), (t0_0 : Int32), (t0_1 : Int32), (t0_2 : Int32), (t0_3 : Int32), (0 : Int32), (0 : Int32), (t0_6 : Int32), (t1_0 : (Nat → Int32)), (t2_0 : (Nat → Int32)), (t3_0 : (Nat → Int32)), (t4_0 : (Nat → Int32)), (t5_0 : (Nat → Int32)), (t6_0 : (Nat → Int32)), (f46 : (Nat → Int32)), (f54 : (Nat → Int32)), (f61 : (Nat → Int32))) _ _ _ w68 ⟨(show q_F (0 ≤ t0_3.toInt) from (show 0 ≤ t0_3.toInt from by have t1 : 0 ≤ t0_3.toInt ∧ t0_3.toInt ≤ 1 := btt0_3; omega)), (show q_F (t0_3.toInt ≤ 1) from (show t0_3.toInt ≤ 1 from by have t1 : 0 ≤ t0_3.toInt ∧ t0_3.toInt ≤ 1 := btt0_3; omega)), (show q_F (0 ≤ 0) from (show 0 ≤ 0 from by omega)), (show q_F (0 ≤ 1) from (show 0 ≤ 1 from by omega)), (show q_F (0 ≤ 0) from (show 0 ≤ 0 from by omega)), (show q_F (0 ≤ 1) from (show 0 ≤ 1 from by omega)), (show q_F (t0_0.toInt ≤ t0_0.toInt) from (show t0_0.toInt ≤ t0_0.toInt from by omega)), (show q_F (t0_0.toInt ≤ t0_0.toInt) from (show t0_0.toInt ≤ t0_0.toInt from by omega)), (show q_F (t0_1.toInt ≤ t0_1.toInt) from (show t0_1.toInt ≤ t0_1.toInt from by omega)), (show q_F (t0_1.toInt ≤ t0_1.toInt) from (show t0_1.toInt ≤ t0_1.toInt from by omega)), (show q_F (t0_2.toInt ≤ t0_2.toInt) from (show t0_2.toInt ≤ t0_2.toInt from by omega)), (show q_F (t0_2.toInt ≤ t0_2.toInt) from (show t0_2.toInt ≤ t0_2.toInt from by omega)), (show q_F (t0_6.toInt ≤ t0_6.toInt) from (show t0_6.toInt ≤ t0_6.toInt from by omega)), (show q_F (t0_6.toInt ≤ t0_6.toInt) from (show t0_6.toInt ≤ t0_6.toInt from by omega)), V, q_lw hl (q_lw1 0 rfl q_lw0), hI, hF, hT0, hT1, hT2, hT3, hT4, hT5, hT6, hA47, hA55, hA62, hT10, (show F_WR_inverts_L36 t0_0 t0_1 t0_2 t0_3 t0_4 t0_5 t0_6 t1_0 t2_0 t3_0 t4_0 t5_0 t6_0 t7_0 t8_0 t9_0 t10_0 1000000 t0_0 t0_1 t0_2 t0_3 0 0 t0_6 t1_0 t2_0 t3_0 t4_0 t5_0 t6_0 f46 f54 f61 = (F_WR_inverts t0_0 t0_1 t0_2 t0_3 t0_4 t0_5 t0_6 t1_0 t2_0 t3_0 t4_0 t5_0 t6_0 t7_0 t8_0 t9_0 t10_0) from (by rw [e65, e58, e50, F_WR_inverts.eq_1])), (show True ∧ S_WR_inverts_L36 t0_0 t0_1 t0_2 t0_3 t0_4 t0_5 t0_6 t1_0 t2_0 t3_0 t4_0 t5_0 t6_0 t7_0 t8_0 t9_0 t10_0 1000000 t0_0 t0_1 t0_2 t0_3 0 0 t0_6 t1_0 t2_0 t3_0 t4_0 t5_0 t6_0 f46 f54 f61 from (by rw [e65, e58, e50]; have h := hS; rw [S_WR_inverts.eq_1] at h; replace h := q_s2 h; with_reducible exact h))⟩
  rintro ⟨fu115, lx70, lx71, lx72, lx73, lx74, lx75, lx76, lx77, lx78, lx79, lx80, lx81, lx82, lx83, lx84, lx85⟩ H locs ls w101 ⟨i86, i87, i88, i89, i90, i91, i92, i93, i94, i95, i96, i97, i98, i99, V, hl, hI, hF, hO102, hO103, hO104, hO105, hO106, hO107, hO108, hO109, hO110, hO111, hO112, hR113, hS114⟩ ih100
  obtain ⟨fm117, rfl⟩ : ∃ m, fu115 = m + 1 := Nat.exists_eq_succ_of_ne_zero (fun e => by subst e; rw [S_WR_inverts_L36.eq_1] at hS114; exact hS114.2)
  replace i86 : q_F (0 ≤ lx73.toInt) := i86
  replace i87 : q_F (lx73.toInt ≤ 1) := i87
  replace i88 : q_F (0 ≤ lx74.toInt) := i88
  replace i89 : q_F (lx74.toInt ≤ 1) := i89
  replace i90 : q_F (0 ≤ lx75.toInt) := i90
  replace i91 : q_F (lx75.toInt ≤ 1) := i91
  replace i92 : q_F (t0_0.toInt ≤ lx70.toInt) := i92
  replace i93 : q_F (lx70.toInt ≤ t0_0.toInt) := i93
  replace i94 : q_F (t0_1.toInt ≤ lx71.toInt) := i94
  replace i95 : q_F (lx71.toInt ≤ t0_1.toInt) := i95
  replace i96 : q_F (t0_2.toInt ≤ lx72.toInt) := i96
  replace i97 : q_F (lx72.toInt ≤ t0_2.toInt) := i97
  replace i98 : q_F (t0_6.toInt ≤ lx76.toInt) := i98
  replace i99 : q_F (lx76.toInt ≤ t0_6.toInt) := i99
  replace hl : lv_has ls 1 [(0, .ref (q 119))] := hl
  replace hO102 : w101[119]? = (some (q 119, .inr (13, [.int lx70, .int lx71, .ref (q 120), .int lx72, .ref (q 121), .ref (q 122), .ref (q 123), .int lx73, .ref (q 124), .ref (q 125), .ref (q 126), .ref (q 127), .ref (q 128), .ref (q 129), .ref (q 130), .ref (q 131), .int lx74, .int lx75, .ref (q 132), .ref (q 133), .int lx76])) : Option (Nat × va_E)) := hO102
  replace hO103 : w101[123]? = (some (q 123, .inl (g 0, (264 : Int32).toNatClampNeg, .inl lx77)) : Option (Nat × va_E)) := hO103
  replace hO104 : w101[124]? = (some (q 124, .inl (g 0, (264 : Int32).toNatClampNeg, .inl lx78)) : Option (Nat × va_E)) := hO104
  replace hO105 : w101[125]? = (some (q 125, .inl (g 0, (528 : Int32).toNatClampNeg, .inl lx79)) : Option (Nat × va_E)) := hO105
  replace hO106 : w101[126]? = (some (q 126, .inl (g 0, (264 : Int32).toNatClampNeg, .inl lx80)) : Option (Nat × va_E)) := hO106
  replace hO107 : w101[127]? = (some (q 127, .inl (g 0, (264 : Int32).toNatClampNeg, .inl lx81)) : Option (Nat × va_E)) := hO107
  replace hO108 : w101[128]? = (some (q 128, .inl (g 0, (264 : Int32).toNatClampNeg, .inl lx82)) : Option (Nat × va_E)) := hO108
  replace hO109 : w101[129]? = (some (q 129, .inl (g 0, (264 : Int32).toNatClampNeg, .inl lx83)) : Option (Nat × va_E)) := hO109
  replace hO110 : w101[130]? = (some (q 130, .inl (g 0, (264 : Int32).toNatClampNeg, .inl lx84)) : Option (Nat × va_E)) := hO110
  replace hO111 : w101[131]? = (some (q 131, .inl (g 0, (264 : Int32).toNatClampNeg, .inl lx85)) : Option (Nat × va_E)) := hO111
  replace hO112 : w101[132]? = (some (q 132, .inl (g 0, (264 : Int32).toNatClampNeg, .inl t10_0)) : Option (Nat × va_E)) := hO112
  refine lv_aload_n hx hb d_19_33_36 rfl (lv_at hl 0 rfl) ?_
  refine q_get (ci := 13) (j := 13) (v := .ref (q 129)) C0 V i_WR rfl rfl hO102 (by decide) w_1937 rfl d_19_33_37 ?_
  refine q_goi V (q_runS (As := [.ref (q 129)]) (rest := []) (d := 1) (mc := 0) (ms := 0) C0 V rfl LS_WR_59 (X_WR_size l D g q w101 129 264 (n_r129 g q)  hI lx83 hO109  _) rfl hl.1 rfl (Nat.le_of_ble_eq_true rfl) ⟨by decide, by decide⟩ ⟨Nat.le_of_ble_eq_true rfl, Nat.le_of_ble_eq_true rfl⟩ d_19_33_40) (fun a120 u118 H locs hp119 V => ?_)
  obtain ⟨rfl, b121, b122, hE123⟩ := hp119
  have e124 : a120 = (F_WR_size (264 : Int32) lx83) := hE123
  clear b121
  clear b122
  refine lv_if_le (tgt := 165) hx hb d_19_33_43 (by decide) (fun c125 => ?_) (fun c125 => ?_)
  ·
    refine lv_aload_n hx hb d_19_33_165 rfl (lv_at hl 0 rfl) ?_
    refine q_get (ci := 13) (j := 12) (v := .ref (q 128)) C0 V i_WR rfl rfl hO102 (by decide) w_1936 rfl d_19_33_166 ?_
    refine q_goi V (q_runS (As := [.ref (q 128)]) (rest := []) (d := 1) (mc := 0) (ms := 0) C0 V rfl LS_WR_59 (X_WR_size l D g q w101 128 264 (n_r128 g q)  hI lx82 hO108  _) rfl hl.1 rfl (Nat.le_of_ble_eq_true rfl) ⟨by decide, by decide⟩ ⟨Nat.le_of_ble_eq_true rfl, Nat.le_of_ble_eq_true rfl⟩ d_19_33_169) (fun a129 u127 H locs hp128 V => ?_)
    obtain ⟨rfl, b130, b131, hE132⟩ := hp128
    have e133 : a129 = (F_WR_size (264 : Int32) lx82) := hE132
    clear b130
    clear b131
    refine lv_iconst (v := 1) hx hb d_19_33_172 (by decide) ?_
    refine lv_icmp_ne (tgt := 186) hx hb d_19_33_173 (by decide) (fun c134 => ?_) (fun c134 => ?_)
    ·
      refine lv_iconst (v := 0) hx hb d_19_33_186 (by decide) ?_
      exact q_retz C0 V (by decide) (⟨hI, hF, lx70, lx71, lx72, lx73, lx74, lx75, lx76, lx77, lx78, lx79, lx80, lx81, lx82, lx83, lx84, lx85, hO102, hO103, hO104, hO105, hO106, hO107, hO108, hO109, hO110, hO111, (show 0 ≤ (0 : Int32).toInt from (by have z17 : (0 : Int32).toInt = 0 := rfl; omega)), (show (0 : Int32).toInt ≤ 1 from (by have z17 : (0 : Int32).toInt = 0 := rfl; omega)), (show 0 ≤ lx73.toInt from (by have z17 : (0 : Int32).toInt = 0 := rfl; have t1 : 0 ≤ lx73.toInt := i86; omega)), (show lx73.toInt ≤ 1 from (by have z17 : (0 : Int32).toInt = 0 := rfl; have t1 : lx73.toInt ≤ 1 := i87; omega)), (show 0 ≤ lx74.toInt from (by have z17 : (0 : Int32).toInt = 0 := rfl; have t1 : 0 ≤ lx74.toInt := i88; omega)), (show lx74.toInt ≤ 1 from (by have z17 : (0 : Int32).toInt = 0 := rfl; have t1 : lx74.toInt ≤ 1 := i89; omega)), (show 0 ≤ lx75.toInt from (by have z17 : (0 : Int32).toInt = 0 := rfl; have t1 : 0 ≤ lx75.toInt := i90; omega)), (show lx75.toInt ≤ 1 from (by have z17 : (0 : Int32).toInt = 0 := rfl; have t1 : lx75.toInt ≤ 1 := i91; omega)), (show t0_0.toInt ≤ lx70.toInt from (by have z17 : (0 : Int32).toInt = 0 := rfl; have t1 : t0_0.toInt ≤ lx70.toInt := i92; omega)), (show lx70.toInt ≤ t0_0.toInt from (by have z17 : (0 : Int32).toInt = 0 := rfl; have t1 : lx70.toInt ≤ t0_0.toInt := i93; omega)), (show t0_1.toInt ≤ lx71.toInt from (by have z17 : (0 : Int32).toInt = 0 := rfl; have t1 : t0_1.toInt ≤ lx71.toInt := i94; omega)), (show lx71.toInt ≤ t0_1.toInt from (by have z17 : (0 : Int32).toInt = 0 := rfl; have t1 : lx71.toInt ≤ t0_1.toInt := i95; omega)), (show t0_2.toInt ≤ lx72.toInt from (by have z17 : (0 : Int32).toInt = 0 := rfl; have t1 : t0_2.toInt ≤ lx72.toInt := i96; omega)), (show lx72.toInt ≤ t0_2.toInt from (by have z17 : (0 : Int32).toInt = 0 := rfl; have t1 : lx72.toInt ≤ t0_2.toInt := i97; omega)), (show t0_6.toInt ≤ lx76.toInt from (by have z17 : (0 : Int32).toInt = 0 := rfl; have t1 : t0_6.toInt ≤ lx76.toInt := i98; omega)), (show lx76.toInt ≤ t0_6.toInt from (by have z17 : (0 : Int32).toInt = 0 := rfl; have t1 : lx76.toInt ≤ t0_6.toInt := i99; omega)), (show ((0 : Int32), lx70, lx71, lx72, lx73, lx74, lx75, lx76, lx77, lx78, lx79, lx80, lx81, lx82, lx83, lx84, lx85) = (F_WR_inverts t0_0 t0_1 t0_2 t0_3 t0_4 t0_5 t0_6 t1_0 t2_0 t3_0 t4_0 t5_0 t6_0 t7_0 t8_0 t9_0 t10_0) from Eq.trans (by have c125x := c125; rw [e124] at c125x; have c134x := c134; rw [e133] at c134x; rw [F_WR_inverts_L36.eq_2, if_pos c125x, if_neg c134x]) hR113)⟩) d_19_33_187
    ·
      refine lv_aload_n hx hb d_19_33_176 rfl (lv_at hl 0 rfl) ?_
      refine q_get (ci := 13) (j := 12) (v := .ref (q 128)) C0 V i_WR rfl rfl hO102 (by decide) w_1936 rfl d_19_33_177 ?_
      refine lv_iconst (v := 0) hx hb d_19_33_180 (by decide) ?_
      refine q_iald C0 V hO108 (q_ix (x := 0) (by decide) (by omega) (by have e9 : (((264 : Int32).toNatClampNeg : Nat) : Int) = 264 := (by decide); omega)) d_19_33_181 ?_
      obtain ⟨a137, e138⟩ := q_nm (lx82 (0 : Int32).toNatClampNeg : Int32)
      refine q_ti (v := a137) e138 ?_
      refine lv_iconst (v := 1) hx hb d_19_33_182 (by decide) ?_
      refine lv_icmp_eq (tgt := 188) hx hb d_19_33_183 (by decide) (fun c139 => ?_) (fun c139 => ?_)
      ·
        refine lv_aload_n hx hb d_19_33_188 rfl (lv_at hl 0 rfl) ?_
        refine lv_aload_n hx hb d_19_33_189 rfl (lv_at hl 0 rfl) ?_
        refine q_get (ci := 13) (j := 14) (v := .ref (q 130)) C0 V i_WR rfl rfl hO102 (by decide) w_1938 rfl d_19_33_190 ?_
        refine lv_aload_n hx hb d_19_33_193 rfl (lv_at hl 0 rfl) ?_
        refine q_get (ci := 13) (j := 18) (v := .ref (q 132)) C0 V i_WR rfl rfl hO102 (by decide) w_1942 rfl d_19_33_194 ?_
        have ob141 : True ∧ S_WR_divideRows (264 : Int32) (264 : Int32) lx70 lx71 lx72 lx73 lx74 lx75 lx76 lx80 lx81 lx84 t10_0 := (by have h := hS114; rw [S_WR_inverts_L36.eq_2] at h; have c125x := c125; rw [e124] at c125x; rw [if_pos c125x] at h; have c134x := c134; rw [e133] at c134x; rw [if_pos c134x] at h; have c139x := c139; rw [← e138] at c139x; rw [if_pos c139x] at h; with_reducible exact h.2.1)
        refine q_gov V (q_runV (As := [.ref (q 130), .ref (q 132)]) (rest := []) (d := 2) (mc := 0) (ms := 0) (ci := 13) C0 V rfl LV_WR_122 (X_WR_divideRows l D g q w101 130 264 (n_r130 g q) 132 264 (n_r132 g q)  (by decide) (by decide) (by decide) (by decide) (by decide) hI lx70 lx71 lx72 lx73 lx74 lx75 lx76 hO102 lx80 hO106 lx81 hO107 lx84 hO110 t10_0 hO112 ob141 _) rfl rfl hO102 rfl hl.1 rfl (Nat.le_of_ble_eq_true rfl) ⟨by decide, by decide⟩ ⟨Nat.le_of_ble_eq_true rfl, Nat.le_of_ble_eq_true rfl⟩ d_19_33_197) (fun u142 H locs hp143 V => ?_)
        obtain ⟨hI, hZ9⟩ := hp143
        obtain ⟨hu149, hZ9⟩ := hZ9
        obtain ⟨f144, hZ9⟩ := hZ9
        obtain ⟨f146, hZ9⟩ := hZ9
        obtain ⟨hA145, hZ9⟩ := hZ9
        obtain ⟨hA147, hE148⟩ := hZ9
        replace hA145 : u142[126]? = (some (q 126, .inl (g 0, (264 : Int32).toNatClampNeg, .inl f144)) : Option (Nat × va_E)) := hA145
        replace hA147 : u142[127]? = (some (q 127, .inl (g 0, (264 : Int32).toNatClampNeg, .inl f146)) : Option (Nat × va_E)) := hA147
        obtain ⟨p150, e151⟩ : ∃ z, z = (F_WR_divideRows (264 : Int32) (264 : Int32) lx70 lx71 lx72 lx73 lx74 lx75 lx76 lx80 lx81 lx84 t10_0) := ⟨_, rfl⟩
        have e152 : f144 = p150.1 := congrArg (fun z => z.1) (hE148.trans e151.symm)
        have e153 : f146 = p150.2 := congrArg (fun z => z.2) (hE148.trans e151.symm)
        replace hO102 := (hu149 _ (by decide)).trans hO102
        replace hO103 := (hu149 _ (by decide)).trans hO103
        replace hO104 := (hu149 _ (by decide)).trans hO104
        replace hO105 := (hu149 _ (by decide)).trans hO105
        replace hO108 := (hu149 _ (by decide)).trans hO108
        replace hO109 := (hu149 _ (by decide)).trans hO109
        replace hO110 := (hu149 _ (by decide)).trans hO110
        replace hO111 := (hu149 _ (by decide)).trans hO111
        replace hO112 := (hu149 _ (by decide)).trans hO112
        replace hF := q_uc hF hu149 (by simp)
        have hR154 := (show F_WR_inverts_c197 (F_WR_inverts_L36 t0_0 t0_1 t0_2 t0_3 t0_4 t0_5 t0_6 t1_0 t2_0 t3_0 t4_0 t5_0 t6_0 t7_0 t8_0 t9_0 t10_0 fm117) t0_0 t0_1 t0_2 t0_3 t0_4 t0_5 t0_6 t1_0 t2_0 t3_0 t4_0 t5_0 t6_0 t7_0 t8_0 t9_0 t10_0 lx70 lx71 lx72 lx73 lx74 lx75 lx76 lx77 lx78 lx79 lx80 lx81 lx82 lx83 lx84 lx85 p150 = (F_WR_inverts t0_0 t0_1 t0_2 t0_3 t0_4 t0_5 t0_6 t1_0 t2_0 t3_0 t4_0 t5_0 t6_0 t7_0 t8_0 t9_0 t10_0) from Eq.trans (by have c125x := c125; rw [e124] at c125x; have c134x := c134; rw [e133] at c134x; have c139x := c139; rw [← e138] at c139x; rw [e151, F_WR_inverts_L36.eq_2, if_pos c125x, if_pos c134x, if_pos c139x]) hR113)
        have hS155 := (show True ∧ S_WR_inverts_c197 (S_WR_inverts_L36 t0_0 t0_1 t0_2 t0_3 t0_4 t0_5 t0_6 t1_0 t2_0 t3_0 t4_0 t5_0 t6_0 t7_0 t8_0 t9_0 t10_0 fm117) t0_0 t0_1 t0_2 t0_3 t0_4 t0_5 t0_6 t1_0 t2_0 t3_0 t4_0 t5_0 t6_0 t7_0 t8_0 t9_0 t10_0 lx70 lx71 lx72 lx73 lx74 lx75 lx76 lx77 lx78 lx79 lx80 lx81 lx82 lx83 lx84 lx85 p150 from (by rw [e151]; have h := hS114; rw [S_WR_inverts_L36.eq_2] at h; have c125x := c125; rw [e124] at c125x; rw [if_pos c125x] at h; have c134x := c134; rw [e133] at c134x; rw [if_pos c134x] at h; have c139x := c139; rw [← e138] at c139x; rw [if_pos c139x] at h; replace h := q_s2 h; with_reducible exact h))
        refine lv_aload_n hx hb d_19_33_200 rfl (lv_at hl 0 rfl) ?_
        refine q_get (ci := 13) (j := 10) (v := .ref (q 126)) C0 V i_WR rfl rfl hO102 (by decide) w_1934 rfl d_19_33_201 ?_
        refine lv_aload_n hx hb d_19_33_204 rfl (lv_at hl 0 rfl) ?_
        refine q_get (ci := 13) (j := 12) (v := .ref (q 128)) C0 V i_WR rfl rfl hO102 (by decide) w_1936 rfl d_19_33_205 ?_
        refine q_gov V (q_runS (As := [.ref (q 126), .ref (q 128)]) (rest := []) (d := 1) (mc := 0) (ms := 0) C0 V rfl LS_WR_67 (X_WR_copy l D g q u142 126 264 (n_r126 g q) 128 264 (n_r128 g q)  (by decide) hI f144 hA145 lx82 hO108  _) rfl hl.1 rfl (Nat.le_of_ble_eq_true rfl) ⟨by decide, by decide⟩ ⟨Nat.le_of_ble_eq_true rfl, Nat.le_of_ble_eq_true rfl⟩ d_19_33_208) (fun u159 H locs hp160 V => ?_)
        obtain ⟨hI, hu164, f161, hA162, hE163⟩ := hp160
        replace hA162 : u159[128]? = (some (q 128, .inl (g 0, (264 : Int32).toNatClampNeg, .inl f161)) : Option (Nat × va_E)) := hA162
        have e165 : f161 = (F_WR_copy (264 : Int32) (264 : Int32) f144 lx82) := hE163
        replace hO102 := (hu164 _ (by decide)).trans hO102
        replace hO103 := (hu164 _ (by decide)).trans hO103
        replace hO104 := (hu164 _ (by decide)).trans hO104
        replace hO105 := (hu164 _ (by decide)).trans hO105
        replace hA145 := (hu164 _ (by decide)).trans hA145
        replace hA147 := (hu164 _ (by decide)).trans hA147
        replace hO109 := (hu164 _ (by decide)).trans hO109
        replace hO110 := (hu164 _ (by decide)).trans hO110
        replace hO111 := (hu164 _ (by decide)).trans hO111
        replace hO112 := (hu164 _ (by decide)).trans hO112
        replace hF := q_uc hF hu164 (by simp)
        refine lv_aload_n hx hb d_19_33_211 rfl (lv_at hl 0 rfl) ?_
        refine q_get (ci := 13) (j := 16) (v := .int lx74) C0 V i_WR rfl rfl hO102 (by decide) w_1940 rfl d_19_33_212 ?_
        refine lv_if_eq (tgt := 270) hx hb d_19_33_215 (by decide) (fun c166 => ?_) (fun c166 => ?_)
        ·
          refine lv_iconst (v := 1) hx hb d_19_33_270 (by decide) ?_
          exact q_retz C0 V (by decide) (⟨hI, hF, lx70, lx71, lx72, lx73, lx74, lx75, lx76, lx77, lx78, lx79, f144, f146, f161, lx83, lx84, lx85, hO102, hO103, hO104, hO105, hA145, hA147, hA162, hO109, hO110, hO111, (show 0 ≤ (1 : Int32).toInt from (by have z17 : (1 : Int32).toInt = 1 := rfl; omega)), (show (1 : Int32).toInt ≤ 1 from (by have z17 : (1 : Int32).toInt = 1 := rfl; omega)), (show 0 ≤ lx73.toInt from (by have z17 : (1 : Int32).toInt = 1 := rfl; have t1 : 0 ≤ lx73.toInt := i86; omega)), (show lx73.toInt ≤ 1 from (by have z17 : (1 : Int32).toInt = 1 := rfl; have t1 : lx73.toInt ≤ 1 := i87; omega)), (show 0 ≤ lx74.toInt from (by have z17 : (1 : Int32).toInt = 1 := rfl; have t1 : 0 ≤ lx74.toInt := i88; omega)), (show lx74.toInt ≤ 1 from (by have z17 : (1 : Int32).toInt = 1 := rfl; have t1 : lx74.toInt ≤ 1 := i89; omega)), (show 0 ≤ lx75.toInt from (by have z17 : (1 : Int32).toInt = 1 := rfl; have t1 : 0 ≤ lx75.toInt := i90; omega)), (show lx75.toInt ≤ 1 from (by have z17 : (1 : Int32).toInt = 1 := rfl; have t1 : lx75.toInt ≤ 1 := i91; omega)), (show t0_0.toInt ≤ lx70.toInt from (by have z17 : (1 : Int32).toInt = 1 := rfl; have t1 : t0_0.toInt ≤ lx70.toInt := i92; omega)), (show lx70.toInt ≤ t0_0.toInt from (by have z17 : (1 : Int32).toInt = 1 := rfl; have t1 : lx70.toInt ≤ t0_0.toInt := i93; omega)), (show t0_1.toInt ≤ lx71.toInt from (by have z17 : (1 : Int32).toInt = 1 := rfl; have t1 : t0_1.toInt ≤ lx71.toInt := i94; omega)), (show lx71.toInt ≤ t0_1.toInt from (by have z17 : (1 : Int32).toInt = 1 := rfl; have t1 : lx71.toInt ≤ t0_1.toInt := i95; omega)), (show t0_2.toInt ≤ lx72.toInt from (by have z17 : (1 : Int32).toInt = 1 := rfl; have t1 : t0_2.toInt ≤ lx72.toInt := i96; omega)), (show lx72.toInt ≤ t0_2.toInt from (by have z17 : (1 : Int32).toInt = 1 := rfl; have t1 : lx72.toInt ≤ t0_2.toInt := i97; omega)), (show t0_6.toInt ≤ lx76.toInt from (by have z17 : (1 : Int32).toInt = 1 := rfl; have t1 : t0_6.toInt ≤ lx76.toInt := i98; omega)), (show lx76.toInt ≤ t0_6.toInt from (by have z17 : (1 : Int32).toInt = 1 := rfl; have t1 : lx76.toInt ≤ t0_6.toInt := i99; omega)), (show ((1 : Int32), lx70, lx71, lx72, lx73, lx74, lx75, lx76, lx77, lx78, lx79, f144, f146, f161, lx83, lx84, lx85) = (F_WR_inverts t0_0 t0_1 t0_2 t0_3 t0_4 t0_5 t0_6 t1_0 t2_0 t3_0 t4_0 t5_0 t6_0 t7_0 t8_0 t9_0 t10_0) from Eq.trans (by rw [e165, e153, e152, F_WR_inverts_c197.eq_1, if_pos c166]) hR154)⟩) d_19_33_271
        ·
          refine lv_aload_n hx hb d_19_33_218 rfl (lv_at hl 0 rfl) ?_
          refine q_get (ci := 13) (j := 12) (v := .ref (q 128)) C0 V i_WR rfl rfl hO102 (by decide) w_1936 rfl d_19_33_219 ?_
          refine q_goi V (q_runS (As := [.ref (q 128)]) (rest := []) (d := 1) (mc := 0) (ms := 0) C0 V rfl LS_WR_59 (X_WR_size l D g q u159 128 264 (n_r128 g q)  hI f161 hA162  _) rfl hl.1 rfl (Nat.le_of_ble_eq_true rfl) ⟨by decide, by decide⟩ ⟨Nat.le_of_ble_eq_true rfl, Nat.le_of_ble_eq_true rfl⟩ d_19_33_222) (fun a171 u169 H locs hp170 V => ?_)
          obtain ⟨rfl, b172, b173, hE174⟩ := hp170
          have e175 : a171 = (F_WR_size (264 : Int32) f161) := hE174
          clear b172
          clear b173
          refine lv_if_le (tgt := 270) hx hb d_19_33_225 (by decide) (fun c176 => ?_) (fun c176 => ?_)
          ·
            refine lv_iconst (v := 1) hx hb d_19_33_270 (by decide) ?_
            exact q_retz C0 V (by decide) (⟨hI, hF, lx70, lx71, lx72, lx73, lx74, lx75, lx76, lx77, lx78, lx79, f144, f146, f161, lx83, lx84, lx85, hO102, hO103, hO104, hO105, hA145, hA147, hA162, hO109, hO110, hO111, (show 0 ≤ (1 : Int32).toInt from (by have z17 : (1 : Int32).toInt = 1 := rfl; omega)), (show (1 : Int32).toInt ≤ 1 from (by have z17 : (1 : Int32).toInt = 1 := rfl; omega)), (show 0 ≤ lx73.toInt from (by have z17 : (1 : Int32).toInt = 1 := rfl; have t1 : 0 ≤ lx73.toInt := i86; omega)), (show lx73.toInt ≤ 1 from (by have z17 : (1 : Int32).toInt = 1 := rfl; have t1 : lx73.toInt ≤ 1 := i87; omega)), (show 0 ≤ lx74.toInt from (by have z17 : (1 : Int32).toInt = 1 := rfl; have t1 : 0 ≤ lx74.toInt := i88; omega)), (show lx74.toInt ≤ 1 from (by have z17 : (1 : Int32).toInt = 1 := rfl; have t1 : lx74.toInt ≤ 1 := i89; omega)), (show 0 ≤ lx75.toInt from (by have z17 : (1 : Int32).toInt = 1 := rfl; have t1 : 0 ≤ lx75.toInt := i90; omega)), (show lx75.toInt ≤ 1 from (by have z17 : (1 : Int32).toInt = 1 := rfl; have t1 : lx75.toInt ≤ 1 := i91; omega)), (show t0_0.toInt ≤ lx70.toInt from (by have z17 : (1 : Int32).toInt = 1 := rfl; have t1 : t0_0.toInt ≤ lx70.toInt := i92; omega)), (show lx70.toInt ≤ t0_0.toInt from (by have z17 : (1 : Int32).toInt = 1 := rfl; have t1 : lx70.toInt ≤ t0_0.toInt := i93; omega)), (show t0_1.toInt ≤ lx71.toInt from (by have z17 : (1 : Int32).toInt = 1 := rfl; have t1 : t0_1.toInt ≤ lx71.toInt := i94; omega)), (show lx71.toInt ≤ t0_1.toInt from (by have z17 : (1 : Int32).toInt = 1 := rfl; have t1 : lx71.toInt ≤ t0_1.toInt := i95; omega)), (show t0_2.toInt ≤ lx72.toInt from (by have z17 : (1 : Int32).toInt = 1 := rfl; have t1 : t0_2.toInt ≤ lx72.toInt := i96; omega)), (show lx72.toInt ≤ t0_2.toInt from (by have z17 : (1 : Int32).toInt = 1 := rfl; have t1 : lx72.toInt ≤ t0_2.toInt := i97; omega)), (show t0_6.toInt ≤ lx76.toInt from (by have z17 : (1 : Int32).toInt = 1 := rfl; have t1 : t0_6.toInt ≤ lx76.toInt := i98; omega)), (show lx76.toInt ≤ t0_6.toInt from (by have z17 : (1 : Int32).toInt = 1 := rfl; have t1 : lx76.toInt ≤ t0_6.toInt := i99; omega)), (show ((1 : Int32), lx70, lx71, lx72, lx73, lx74, lx75, lx76, lx77, lx78, lx79, f144, f146, f161, lx83, lx84, lx85) = (F_WR_inverts t0_0 t0_1 t0_2 t0_3 t0_4 t0_5 t0_6 t1_0 t2_0 t3_0 t4_0 t5_0 t6_0 t7_0 t8_0 t9_0 t10_0) from Eq.trans (by have c176x := c176; rw [e175, e165, e152] at c176x; rw [e165, e153, e152, F_WR_inverts_c197.eq_1, if_neg c166, if_pos c176x]) hR154)⟩) d_19_33_271
          ·
            refine lv_aload_n hx hb d_19_33_228 rfl (lv_at hl 0 rfl) ?_
            refine q_get (ci := 13) (j := 18) (v := .ref (q 132)) C0 V i_WR rfl rfl hO102 (by decide) w_1942 rfl d_19_33_229 ?_
            refine lv_aload_n hx hb d_19_33_232 rfl (lv_at hl 0 rfl) ?_
            refine q_get (ci := 13) (j := 6) (v := .ref (q 123)) C0 V i_WR rfl rfl hO102 (by decide) w_1930 rfl d_19_33_233 ?_
            refine q_gov V (q_runS (As := [.ref (q 132), .ref (q 123)]) (rest := []) (d := 1) (mc := 0) (ms := 0) C0 V rfl LS_WR_67 (X_WR_copy l D g q u159 132 264 (n_r132 g q) 123 264 (n_r123 g q)  (by decide) hI t10_0 hO112 lx77 hO103  _) rfl hl.1 rfl (Nat.le_of_ble_eq_true rfl) ⟨by decide, by decide⟩ ⟨Nat.le_of_ble_eq_true rfl, Nat.le_of_ble_eq_true rfl⟩ d_19_33_236) (fun u179 H locs hp180 V => ?_)
            obtain ⟨hI, hu184, f181, hA182, hE183⟩ := hp180
            replace hA182 : u179[123]? = (some (q 123, .inl (g 0, (264 : Int32).toNatClampNeg, .inl f181)) : Option (Nat × va_E)) := hA182
            have e185 : f181 = (F_WR_copy (264 : Int32) (264 : Int32) t10_0 lx77) := hE183
            replace hO102 := (hu184 _ (by decide)).trans hO102
            replace hO104 := (hu184 _ (by decide)).trans hO104
            replace hO105 := (hu184 _ (by decide)).trans hO105
            replace hA145 := (hu184 _ (by decide)).trans hA145
            replace hA147 := (hu184 _ (by decide)).trans hA147
            replace hA162 := (hu184 _ (by decide)).trans hA162
            replace hO109 := (hu184 _ (by decide)).trans hO109
            replace hO110 := (hu184 _ (by decide)).trans hO110
            replace hO111 := (hu184 _ (by decide)).trans hO111
            replace hF := q_uc hF hu184 (by simp)
            refine lv_aload_n hx hb d_19_33_239 rfl (lv_at hl 0 rfl) ?_
            refine q_get (ci := 13) (j := 6) (v := .ref (q 123)) C0 V i_WR rfl rfl hO102 (by decide) w_1930 rfl d_19_33_240 ?_
            refine lv_aload_n hx hb d_19_33_243 rfl (lv_at hl 0 rfl) ?_
            refine q_get (ci := 13) (j := 12) (v := .ref (q 128)) C0 V i_WR rfl rfl hO102 (by decide) w_1936 rfl d_19_33_244 ?_
            refine lv_aload_n hx hb d_19_33_247 rfl (lv_at hl 0 rfl) ?_
            refine q_get (ci := 13) (j := 12) (v := .ref (q 128)) C0 V i_WR rfl rfl hO102 (by decide) w_1936 rfl d_19_33_248 ?_
            refine q_goi V (q_runS (As := [.ref (q 128)]) (rest := [.ref (q 128), .ref (q 123)]) (d := 1) (mc := 0) (ms := 0) C0 V rfl LS_WR_59 (X_WR_size l D g q u179 128 264 (n_r128 g q)  hI f161 hA162  _) rfl hl.1 rfl (Nat.le_of_ble_eq_true rfl) ⟨by decide, by decide⟩ ⟨Nat.le_of_ble_eq_true rfl, Nat.le_of_ble_eq_true rfl⟩ d_19_33_251) (fun a188 u186 H locs hp187 V => ?_)
            obtain ⟨rfl, b189, b190, hE191⟩ := hp187
            have e192 : a188 = (F_WR_size (264 : Int32) f161) := hE191
            clear b189
            clear b190
            refine lv_lconst (v := 1) hx hb d_19_33_254 (by decide) ?_
            refine lv_iconst (v := 1) hx hb d_19_33_255 (by decide) ?_
            have ob193 : True ∧ S_WR_join (264 : Int32) (264 : Int32) a188 (1 : Int64) (1 : Int32) f181 f161 := (by rw [e192, e185, e165, e152]; have h := hS155; rw [S_WR_inverts_c197.eq_1] at h; rw [if_neg c166] at h; have c176x := c176; rw [e175, e165, e152] at c176x; rw [if_neg c176x] at h; with_reducible exact h.2.1)
            refine q_gov V (q_runS (As := [.ref (q 123), .ref (q 128), .int a188, .long 1, .int 1]) (rest := []) (d := 1) (mc := 0) (ms := 0) C0 V rfl LS_WR_75 (X_WR_join l D g q u179 123 264 (n_r123 g q) 128 264 (n_r128 g q) a188 1 1 (by decide) hI f181 hA182 f161 hA162 ⟨(by have y0 : (264 : Int32).toInt = 264 := rfl; have y1 : (264 : Int32).toInt = 264 := rfl; have y2 : (1 : Int64).toInt = 1 := rfl; have y3 : (1 : Int32).toInt = 1 := rfl; omega), (by have y0 : (264 : Int32).toInt = 264 := rfl; have y1 : (264 : Int32).toInt = 264 := rfl; have y2 : (1 : Int64).toInt = 1 := rfl; have y3 : (1 : Int32).toInt = 1 := rfl; omega)⟩ ob193 _) rfl hl.1 rfl (Nat.le_of_ble_eq_true rfl) ⟨by decide, by decide⟩ ⟨Nat.le_of_ble_eq_true rfl, Nat.le_of_ble_eq_true rfl⟩ d_19_33_256) (fun u194 H locs hp195 V => ?_)
            obtain ⟨hI, hu199, f196, hA197, hE198⟩ := hp195
            replace hA197 : u194[123]? = (some (q 123, .inl (g 0, (264 : Int32).toNatClampNeg, .inl f196)) : Option (Nat × va_E)) := hA197
            have e200 : f196 = (F_WR_join (264 : Int32) (264 : Int32) a188 (1 : Int64) (1 : Int32) f181 f161) := hE198
            replace hO102 := (hu199 _ (by decide)).trans hO102
            replace hO104 := (hu199 _ (by decide)).trans hO104
            replace hO105 := (hu199 _ (by decide)).trans hO105
            replace hA145 := (hu199 _ (by decide)).trans hA145
            replace hA147 := (hu199 _ (by decide)).trans hA147
            replace hA162 := (hu199 _ (by decide)).trans hA162
            replace hO109 := (hu199 _ (by decide)).trans hO109
            replace hO110 := (hu199 _ (by decide)).trans hO110
            replace hO111 := (hu199 _ (by decide)).trans hO111
            replace hF := q_uc hF hu199 (by simp)
            refine lv_aload_n hx hb d_19_33_259 rfl (lv_at hl 0 rfl) ?_
            refine q_get (ci := 13) (j := 6) (v := .ref (q 123)) C0 V i_WR rfl rfl hO102 (by decide) w_1930 rfl d_19_33_260 ?_
            refine lv_aload_n hx hb d_19_33_263 rfl (lv_at hl 0 rfl) ?_
            refine q_get (ci := 13) (j := 12) (v := .ref (q 128)) C0 V i_WR rfl rfl hO102 (by decide) w_1936 rfl d_19_33_264 ?_
            refine q_gov V (q_runS (As := [.ref (q 123), .ref (q 128)]) (rest := []) (d := 1) (mc := 0) (ms := 0) C0 V rfl LS_WR_67 (X_WR_copy l D g q u194 123 264 (n_r123 g q) 128 264 (n_r128 g q)  (by decide) hI f196 hA197 f161 hA162  _) rfl hl.1 rfl (Nat.le_of_ble_eq_true rfl) ⟨by decide, by decide⟩ ⟨Nat.le_of_ble_eq_true rfl, Nat.le_of_ble_eq_true rfl⟩ d_19_33_267) (fun u201 H locs hp202 V => ?_)
            obtain ⟨hI, hu206, f203, hA204, hE205⟩ := hp202
            replace hA204 : u201[128]? = (some (q 128, .inl (g 0, (264 : Int32).toNatClampNeg, .inl f203)) : Option (Nat × va_E)) := hA204
            have e207 : f203 = (F_WR_copy (264 : Int32) (264 : Int32) f196 f161) := hE205
            replace hO102 := (hu206 _ (by decide)).trans hO102
            replace hA197 := (hu206 _ (by decide)).trans hA197
            replace hO104 := (hu206 _ (by decide)).trans hO104
            replace hO105 := (hu206 _ (by decide)).trans hO105
            replace hA145 := (hu206 _ (by decide)).trans hA145
            replace hA147 := (hu206 _ (by decide)).trans hA147
            replace hO109 := (hu206 _ (by decide)).trans hO109
            replace hO110 := (hu206 _ (by decide)).trans hO110
            replace hO111 := (hu206 _ (by decide)).trans hO111
            replace hF := q_uc hF hu206 (by simp)
            refine lv_iconst (v := 1) hx hb d_19_33_270 (by decide) ?_
            exact q_retz C0 V (by decide) (⟨hI, hF, lx70, lx71, lx72, lx73, lx74, lx75, lx76, f196, lx78, lx79, f144, f146, f203, lx83, lx84, lx85, hO102, hA197, hO104, hO105, hA145, hA147, hA204, hO109, hO110, hO111, (show 0 ≤ (1 : Int32).toInt from (by have z17 : (1 : Int32).toInt = 1 := rfl; omega)), (show (1 : Int32).toInt ≤ 1 from (by have z17 : (1 : Int32).toInt = 1 := rfl; omega)), (show 0 ≤ lx73.toInt from (by have z17 : (1 : Int32).toInt = 1 := rfl; have t1 : 0 ≤ lx73.toInt := i86; omega)), (show lx73.toInt ≤ 1 from (by have z17 : (1 : Int32).toInt = 1 := rfl; have t1 : lx73.toInt ≤ 1 := i87; omega)), (show 0 ≤ lx74.toInt from (by have z17 : (1 : Int32).toInt = 1 := rfl; have t1 : 0 ≤ lx74.toInt := i88; omega)), (show lx74.toInt ≤ 1 from (by have z17 : (1 : Int32).toInt = 1 := rfl; have t1 : lx74.toInt ≤ 1 := i89; omega)), (show 0 ≤ lx75.toInt from (by have z17 : (1 : Int32).toInt = 1 := rfl; have t1 : 0 ≤ lx75.toInt := i90; omega)), (show lx75.toInt ≤ 1 from (by have z17 : (1 : Int32).toInt = 1 := rfl; have t1 : lx75.toInt ≤ 1 := i91; omega)), (show t0_0.toInt ≤ lx70.toInt from (by have z17 : (1 : Int32).toInt = 1 := rfl; have t1 : t0_0.toInt ≤ lx70.toInt := i92; omega)), (show lx70.toInt ≤ t0_0.toInt from (by have z17 : (1 : Int32).toInt = 1 := rfl; have t1 : lx70.toInt ≤ t0_0.toInt := i93; omega)), (show t0_1.toInt ≤ lx71.toInt from (by have z17 : (1 : Int32).toInt = 1 := rfl; have t1 : t0_1.toInt ≤ lx71.toInt := i94; omega)), (show lx71.toInt ≤ t0_1.toInt from (by have z17 : (1 : Int32).toInt = 1 := rfl; have t1 : lx71.toInt ≤ t0_1.toInt := i95; omega)), (show t0_2.toInt ≤ lx72.toInt from (by have z17 : (1 : Int32).toInt = 1 := rfl; have t1 : t0_2.toInt ≤ lx72.toInt := i96; omega)), (show lx72.toInt ≤ t0_2.toInt from (by have z17 : (1 : Int32).toInt = 1 := rfl; have t1 : lx72.toInt ≤ t0_2.toInt := i97; omega)), (show t0_6.toInt ≤ lx76.toInt from (by have z17 : (1 : Int32).toInt = 1 := rfl; have t1 : t0_6.toInt ≤ lx76.toInt := i98; omega)), (show lx76.toInt ≤ t0_6.toInt from (by have z17 : (1 : Int32).toInt = 1 := rfl; have t1 : lx76.toInt ≤ t0_6.toInt := i99; omega)), (show ((1 : Int32), lx70, lx71, lx72, lx73, lx74, lx75, lx76, f196, lx78, lx79, f144, f146, f203, lx83, lx84, lx85) = (F_WR_inverts t0_0 t0_1 t0_2 t0_3 t0_4 t0_5 t0_6 t1_0 t2_0 t3_0 t4_0 t5_0 t6_0 t7_0 t8_0 t9_0 t10_0) from Eq.trans (by have c176x := c176; rw [e175, e165, e152] at c176x; rw [e207, e200, e192, e185, e165, e153, e152, F_WR_inverts_c197.eq_1, if_neg c166, if_neg c176x]) hR154)⟩) d_19_33_271
      ·
        refine lv_iconst (v := 0) hx hb d_19_33_186 (by decide) ?_
        exact q_retz C0 V (by decide) (⟨hI, hF, lx70, lx71, lx72, lx73, lx74, lx75, lx76, lx77, lx78, lx79, lx80, lx81, lx82, lx83, lx84, lx85, hO102, hO103, hO104, hO105, hO106, hO107, hO108, hO109, hO110, hO111, (show 0 ≤ (0 : Int32).toInt from (by have z17 : (0 : Int32).toInt = 0 := rfl; omega)), (show (0 : Int32).toInt ≤ 1 from (by have z17 : (0 : Int32).toInt = 0 := rfl; omega)), (show 0 ≤ lx73.toInt from (by have z17 : (0 : Int32).toInt = 0 := rfl; have t1 : 0 ≤ lx73.toInt := i86; omega)), (show lx73.toInt ≤ 1 from (by have z17 : (0 : Int32).toInt = 0 := rfl; have t1 : lx73.toInt ≤ 1 := i87; omega)), (show 0 ≤ lx74.toInt from (by have z17 : (0 : Int32).toInt = 0 := rfl; have t1 : 0 ≤ lx74.toInt := i88; omega)), (show lx74.toInt ≤ 1 from (by have z17 : (0 : Int32).toInt = 0 := rfl; have t1 : lx74.toInt ≤ 1 := i89; omega)), (show 0 ≤ lx75.toInt from (by have z17 : (0 : Int32).toInt = 0 := rfl; have t1 : 0 ≤ lx75.toInt := i90; omega)), (show lx75.toInt ≤ 1 from (by have z17 : (0 : Int32).toInt = 0 := rfl; have t1 : lx75.toInt ≤ 1 := i91; omega)), (show t0_0.toInt ≤ lx70.toInt from (by have z17 : (0 : Int32).toInt = 0 := rfl; have t1 : t0_0.toInt ≤ lx70.toInt := i92; omega)), (show lx70.toInt ≤ t0_0.toInt from (by have z17 : (0 : Int32).toInt = 0 := rfl; have t1 : lx70.toInt ≤ t0_0.toInt := i93; omega)), (show t0_1.toInt ≤ lx71.toInt from (by have z17 : (0 : Int32).toInt = 0 := rfl; have t1 : t0_1.toInt ≤ lx71.toInt := i94; omega)), (show lx71.toInt ≤ t0_1.toInt from (by have z17 : (0 : Int32).toInt = 0 := rfl; have t1 : lx71.toInt ≤ t0_1.toInt := i95; omega)), (show t0_2.toInt ≤ lx72.toInt from (by have z17 : (0 : Int32).toInt = 0 := rfl; have t1 : t0_2.toInt ≤ lx72.toInt := i96; omega)), (show lx72.toInt ≤ t0_2.toInt from (by have z17 : (0 : Int32).toInt = 0 := rfl; have t1 : lx72.toInt ≤ t0_2.toInt := i97; omega)), (show t0_6.toInt ≤ lx76.toInt from (by have z17 : (0 : Int32).toInt = 0 := rfl; have t1 : t0_6.toInt ≤ lx76.toInt := i98; omega)), (show lx76.toInt ≤ t0_6.toInt from (by have z17 : (0 : Int32).toInt = 0 := rfl; have t1 : lx76.toInt ≤ t0_6.toInt := i99; omega)), (show ((0 : Int32), lx70, lx71, lx72, lx73, lx74, lx75, lx76, lx77, lx78, lx79, lx80, lx81, lx82, lx83, lx84, lx85) = (F_WR_inverts t0_0 t0_1 t0_2 t0_3 t0_4 t0_5 t0_6 t1_0 t2_0 t3_0 t4_0 t5_0 t6_0 t7_0 t8_0 t9_0 t10_0) from Eq.trans (by have c125x := c125; rw [e124] at c125x; have c134x := c134; rw [e133] at c134x; have c139x := c139; rw [← e138] at c139x; rw [F_WR_inverts_L36.eq_2, if_pos c125x, if_pos c134x, if_neg c139x]) hR113)⟩) d_19_33_187
  ·
    refine lv_aload_n hx hb d_19_33_46 rfl (lv_at hl 0 rfl) ?_
    refine lv_aload_n hx hb d_19_33_47 rfl (lv_at hl 0 rfl) ?_
    refine q_get (ci := 13) (j := 12) (v := .ref (q 128)) C0 V i_WR rfl rfl hO102 (by decide) w_1936 rfl d_19_33_48 ?_
    refine lv_aload_n hx hb d_19_33_51 rfl (lv_at hl 0 rfl) ?_
    refine q_get (ci := 13) (j := 13) (v := .ref (q 129)) C0 V i_WR rfl rfl hO102 (by decide) w_1937 rfl d_19_33_52 ?_
    have ob210 : True ∧ S_WR_divideRows (264 : Int32) (264 : Int32) lx70 lx71 lx72 lx73 lx74 lx75 lx76 lx80 lx81 lx82 lx83 := (by have h := hS114; rw [S_WR_inverts_L36.eq_2] at h; have c125x := c125; rw [e124] at c125x; rw [if_neg c125x] at h; with_reducible exact h.2.1)
    refine q_gov V (q_runV (As := [.ref (q 128), .ref (q 129)]) (rest := []) (d := 2) (mc := 0) (ms := 0) (ci := 13) C0 V rfl LV_WR_122 (X_WR_divideRows l D g q w101 128 264 (n_r128 g q) 129 264 (n_r129 g q)  (by decide) (by decide) (by decide) (by decide) (by decide) hI lx70 lx71 lx72 lx73 lx74 lx75 lx76 hO102 lx80 hO106 lx81 hO107 lx82 hO108 lx83 hO109 ob210 _) rfl rfl hO102 rfl hl.1 rfl (Nat.le_of_ble_eq_true rfl) ⟨by decide, by decide⟩ ⟨Nat.le_of_ble_eq_true rfl, Nat.le_of_ble_eq_true rfl⟩ d_19_33_55) (fun u211 H locs hp212 V => ?_)
    obtain ⟨hI, hZ9⟩ := hp212
    obtain ⟨hu218, hZ9⟩ := hZ9
    obtain ⟨f213, hZ9⟩ := hZ9
    obtain ⟨f215, hZ9⟩ := hZ9
    obtain ⟨hA214, hZ9⟩ := hZ9
    obtain ⟨hA216, hE217⟩ := hZ9
    replace hA214 : u211[126]? = (some (q 126, .inl (g 0, (264 : Int32).toNatClampNeg, .inl f213)) : Option (Nat × va_E)) := hA214
    replace hA216 : u211[127]? = (some (q 127, .inl (g 0, (264 : Int32).toNatClampNeg, .inl f215)) : Option (Nat × va_E)) := hA216
    obtain ⟨p219, e220⟩ : ∃ z, z = (F_WR_divideRows (264 : Int32) (264 : Int32) lx70 lx71 lx72 lx73 lx74 lx75 lx76 lx80 lx81 lx82 lx83) := ⟨_, rfl⟩
    have e221 : f213 = p219.1 := congrArg (fun z => z.1) (hE217.trans e220.symm)
    have e222 : f215 = p219.2 := congrArg (fun z => z.2) (hE217.trans e220.symm)
    replace hO102 := (hu218 _ (by decide)).trans hO102
    replace hO103 := (hu218 _ (by decide)).trans hO103
    replace hO104 := (hu218 _ (by decide)).trans hO104
    replace hO105 := (hu218 _ (by decide)).trans hO105
    replace hO108 := (hu218 _ (by decide)).trans hO108
    replace hO109 := (hu218 _ (by decide)).trans hO109
    replace hO110 := (hu218 _ (by decide)).trans hO110
    replace hO111 := (hu218 _ (by decide)).trans hO111
    replace hO112 := (hu218 _ (by decide)).trans hO112
    replace hF := q_uc hF hu218 (by simp)
    have hR223 := (show F_WR_inverts_c55 (F_WR_inverts_L36 t0_0 t0_1 t0_2 t0_3 t0_4 t0_5 t0_6 t1_0 t2_0 t3_0 t4_0 t5_0 t6_0 t7_0 t8_0 t9_0 t10_0 fm117) t0_0 t0_1 t0_2 t0_3 t0_4 t0_5 t0_6 t1_0 t2_0 t3_0 t4_0 t5_0 t6_0 t7_0 t8_0 t9_0 t10_0 lx70 lx71 lx72 lx73 lx74 lx75 lx76 lx77 lx78 lx79 lx80 lx81 lx82 lx83 lx84 lx85 p219 = (F_WR_inverts t0_0 t0_1 t0_2 t0_3 t0_4 t0_5 t0_6 t1_0 t2_0 t3_0 t4_0 t5_0 t6_0 t7_0 t8_0 t9_0 t10_0) from Eq.trans (by have c125x := c125; rw [e124] at c125x; rw [e220, F_WR_inverts_L36.eq_2, if_neg c125x]) hR113)
    have hS224 := (show True ∧ S_WR_inverts_c55 (S_WR_inverts_L36 t0_0 t0_1 t0_2 t0_3 t0_4 t0_5 t0_6 t1_0 t2_0 t3_0 t4_0 t5_0 t6_0 t7_0 t8_0 t9_0 t10_0 fm117) t0_0 t0_1 t0_2 t0_3 t0_4 t0_5 t0_6 t1_0 t2_0 t3_0 t4_0 t5_0 t6_0 t7_0 t8_0 t9_0 t10_0 lx70 lx71 lx72 lx73 lx74 lx75 lx76 lx77 lx78 lx79 lx80 lx81 lx82 lx83 lx84 lx85 p219 from (by rw [e220]; have h := hS114; rw [S_WR_inverts_L36.eq_2] at h; have c125x := c125; rw [e124] at c125x; rw [if_neg c125x] at h; replace h := q_s2 h; with_reducible exact h))
    refine lv_aload_n hx hb d_19_33_58 rfl (lv_at hl 0 rfl) ?_
    refine q_get (ci := 13) (j := 13) (v := .ref (q 129)) C0 V i_WR rfl rfl hO102 (by decide) w_1937 rfl d_19_33_59 ?_
    refine lv_aload_n hx hb d_19_33_62 rfl (lv_at hl 0 rfl) ?_
    refine q_get (ci := 13) (j := 12) (v := .ref (q 128)) C0 V i_WR rfl rfl hO102 (by decide) w_1936 rfl d_19_33_63 ?_
    refine q_gov V (q_runS (As := [.ref (q 129), .ref (q 128)]) (rest := []) (d := 1) (mc := 0) (ms := 0) C0 V rfl LS_WR_67 (X_WR_copy l D g q u211 129 264 (n_r129 g q) 128 264 (n_r128 g q)  (by decide) hI lx83 hO109 lx82 hO108  _) rfl hl.1 rfl (Nat.le_of_ble_eq_true rfl) ⟨by decide, by decide⟩ ⟨Nat.le_of_ble_eq_true rfl, Nat.le_of_ble_eq_true rfl⟩ d_19_33_66) (fun u228 H locs hp229 V => ?_)
    obtain ⟨hI, hu233, f230, hA231, hE232⟩ := hp229
    replace hA231 : u228[128]? = (some (q 128, .inl (g 0, (264 : Int32).toNatClampNeg, .inl f230)) : Option (Nat × va_E)) := hA231
    have e234 : f230 = (F_WR_copy (264 : Int32) (264 : Int32) lx83 lx82) := hE232
    replace hO102 := (hu233 _ (by decide)).trans hO102
    replace hO103 := (hu233 _ (by decide)).trans hO103
    replace hO104 := (hu233 _ (by decide)).trans hO104
    replace hO105 := (hu233 _ (by decide)).trans hO105
    replace hA214 := (hu233 _ (by decide)).trans hA214
    replace hA216 := (hu233 _ (by decide)).trans hA216
    replace hO109 := (hu233 _ (by decide)).trans hO109
    replace hO110 := (hu233 _ (by decide)).trans hO110
    replace hO111 := (hu233 _ (by decide)).trans hO111
    replace hO112 := (hu233 _ (by decide)).trans hO112
    replace hF := q_uc hF hu233 (by simp)
    refine lv_aload_n hx hb d_19_33_69 rfl (lv_at hl 0 rfl) ?_
    refine q_get (ci := 13) (j := 10) (v := .ref (q 126)) C0 V i_WR rfl rfl hO102 (by decide) w_1934 rfl d_19_33_70 ?_
    refine lv_aload_n hx hb d_19_33_73 rfl (lv_at hl 0 rfl) ?_
    refine q_get (ci := 13) (j := 13) (v := .ref (q 129)) C0 V i_WR rfl rfl hO102 (by decide) w_1937 rfl d_19_33_74 ?_
    refine q_gov V (q_runS (As := [.ref (q 126), .ref (q 129)]) (rest := []) (d := 1) (mc := 0) (ms := 0) C0 V rfl LS_WR_67 (X_WR_copy l D g q u228 126 264 (n_r126 g q) 129 264 (n_r129 g q)  (by decide) hI f213 hA214 lx83 hO109  _) rfl hl.1 rfl (Nat.le_of_ble_eq_true rfl) ⟨by decide, by decide⟩ ⟨Nat.le_of_ble_eq_true rfl, Nat.le_of_ble_eq_true rfl⟩ d_19_33_77) (fun u235 H locs hp236 V => ?_)
    obtain ⟨hI, hu240, f237, hA238, hE239⟩ := hp236
    replace hA238 : u235[129]? = (some (q 129, .inl (g 0, (264 : Int32).toNatClampNeg, .inl f237)) : Option (Nat × va_E)) := hA238
    have e241 : f237 = (F_WR_copy (264 : Int32) (264 : Int32) f213 lx83) := hE239
    replace hO102 := (hu240 _ (by decide)).trans hO102
    replace hO103 := (hu240 _ (by decide)).trans hO103
    replace hO104 := (hu240 _ (by decide)).trans hO104
    replace hO105 := (hu240 _ (by decide)).trans hO105
    replace hA214 := (hu240 _ (by decide)).trans hA214
    replace hA216 := (hu240 _ (by decide)).trans hA216
    replace hA231 := (hu240 _ (by decide)).trans hA231
    replace hO110 := (hu240 _ (by decide)).trans hO110
    replace hO111 := (hu240 _ (by decide)).trans hO111
    replace hO112 := (hu240 _ (by decide)).trans hO112
    replace hF := q_uc hF hu240 (by simp)
    refine lv_aload_n hx hb d_19_33_80 rfl (lv_at hl 0 rfl) ?_
    refine lv_aload_n hx hb d_19_33_81 rfl (lv_at hl 0 rfl) ?_
    refine q_get (ci := 13) (j := 11) (v := .ref (q 127)) C0 V i_WR rfl rfl hO102 (by decide) w_1935 rfl d_19_33_82 ?_
    refine lv_aload_n hx hb d_19_33_85 rfl (lv_at hl 0 rfl) ?_
    refine q_get (ci := 13) (j := 15) (v := .ref (q 131)) C0 V i_WR rfl rfl hO102 (by decide) w_1939 rfl d_19_33_86 ?_
    refine lv_aload_n hx hb d_19_33_89 rfl (lv_at hl 0 rfl) ?_
    refine q_get (ci := 13) (j := 8) (v := .ref (q 124)) C0 V i_WR rfl rfl hO102 (by decide) w_1932 rfl d_19_33_90 ?_
    have ob242 : True ∧ S_WR_multiplyRows (264 : Int32) (264 : Int32) (264 : Int32) lx70 lx71 lx72 lx73 lx74 lx75 lx76 lx79 f215 lx85 lx78 := (by rw [e222]; have h := hS224; rw [S_WR_inverts_c55.eq_1] at h; with_reducible exact h.2.1)
    refine q_gov V (q_runV (As := [.ref (q 127), .ref (q 131), .ref (q 124)]) (rest := []) (d := 2) (mc := 0) (ms := 0) (ci := 13) C0 V rfl LV_WR_115 (X_WR_multiplyRows l D g q u235 127 264 (n_r127 g q) 131 264 (n_r131 g q) 124 264 (n_r124 g q)  (by decide) (by decide) (by decide) (by decide) (by decide) (by decide) hI lx70 lx71 lx72 lx73 lx74 lx75 lx76 hO102 lx79 hO105 f215 hA216 lx85 hO111 lx78 hO104 ob242 _) rfl rfl hO102 rfl hl.1 rfl (Nat.le_of_ble_eq_true rfl) ⟨by decide, by decide⟩ ⟨Nat.le_of_ble_eq_true rfl, Nat.le_of_ble_eq_true rfl⟩ d_19_33_93) (fun u243 H locs hp244 V => ?_)
    obtain ⟨hI, hZ9⟩ := hp244
    obtain ⟨hu250, hZ9⟩ := hZ9
    obtain ⟨f245, hZ9⟩ := hZ9
    obtain ⟨f247, hZ9⟩ := hZ9
    obtain ⟨hA246, hZ9⟩ := hZ9
    obtain ⟨hA248, hE249⟩ := hZ9
    replace hA246 : u243[125]? = (some (q 125, .inl (g 0, (528 : Int32).toNatClampNeg, .inl f245)) : Option (Nat × va_E)) := hA246
    replace hA248 : u243[124]? = (some (q 124, .inl (g 0, (264 : Int32).toNatClampNeg, .inl f247)) : Option (Nat × va_E)) := hA248
    obtain ⟨p251, e252⟩ : ∃ z, z = (F_WR_multiplyRows (264 : Int32) (264 : Int32) (264 : Int32) lx70 lx71 lx72 lx73 lx74 lx75 lx76 lx79 f215 lx85 lx78) := ⟨_, rfl⟩
    have e253 : f245 = p251.1 := congrArg (fun z => z.1) (hE249.trans e252.symm)
    have e254 : f247 = p251.2 := congrArg (fun z => z.2) (hE249.trans e252.symm)
    replace hO102 := (hu250 _ (by decide)).trans hO102
    replace hO103 := (hu250 _ (by decide)).trans hO103
    replace hA214 := (hu250 _ (by decide)).trans hA214
    replace hA216 := (hu250 _ (by decide)).trans hA216
    replace hA231 := (hu250 _ (by decide)).trans hA231
    replace hA238 := (hu250 _ (by decide)).trans hA238
    replace hO110 := (hu250 _ (by decide)).trans hO110
    replace hO111 := (hu250 _ (by decide)).trans hO111
    replace hO112 := (hu250 _ (by decide)).trans hO112
    replace hF := q_uc hF hu250 (by simp)
    have hR255 := (show F_WR_inverts_c93 (F_WR_inverts_L36 t0_0 t0_1 t0_2 t0_3 t0_4 t0_5 t0_6 t1_0 t2_0 t3_0 t4_0 t5_0 t6_0 t7_0 t8_0 t9_0 t10_0 fm117) t0_0 t0_1 t0_2 t0_3 t0_4 t0_5 t0_6 t1_0 t2_0 t3_0 t4_0 t5_0 t6_0 t7_0 t8_0 t9_0 t10_0 lx70 lx71 lx72 lx73 lx74 lx75 lx76 lx77 lx78 lx79 lx80 lx81 lx82 lx83 lx84 lx85 p219 f213 f215 f230 f237 p251 = (F_WR_inverts t0_0 t0_1 t0_2 t0_3 t0_4 t0_5 t0_6 t1_0 t2_0 t3_0 t4_0 t5_0 t6_0 t7_0 t8_0 t9_0 t10_0) from Eq.trans (by rw [e252, e241, e234, e222, e221, F_WR_inverts_c55.eq_1]) hR223)
    have hS256 := (show True ∧ S_WR_inverts_c93 (S_WR_inverts_L36 t0_0 t0_1 t0_2 t0_3 t0_4 t0_5 t0_6 t1_0 t2_0 t3_0 t4_0 t5_0 t6_0 t7_0 t8_0 t9_0 t10_0 fm117) t0_0 t0_1 t0_2 t0_3 t0_4 t0_5 t0_6 t1_0 t2_0 t3_0 t4_0 t5_0 t6_0 t7_0 t8_0 t9_0 t10_0 lx70 lx71 lx72 lx73 lx74 lx75 lx76 lx77 lx78 lx79 lx80 lx81 lx82 lx83 lx84 lx85 p219 f213 f215 f230 f237 p251 from (by rw [e252, e241, e234, e222, e221]; have h := hS224; rw [S_WR_inverts_c55.eq_1] at h; replace h := q_s2 h; with_reducible exact h))
    refine lv_aload_n hx hb d_19_33_96 rfl (lv_at hl 0 rfl) ?_
    refine lv_aload_n hx hb d_19_33_97 rfl (lv_at hl 0 rfl) ?_
    refine q_get (ci := 13) (j := 14) (v := .ref (q 130)) C0 V i_WR rfl rfl hO102 (by decide) w_1938 rfl d_19_33_98 ?_
    refine lv_aload_n hx hb d_19_33_101 rfl (lv_at hl 0 rfl) ?_
    refine q_get (ci := 13) (j := 16) (v := .int lx74) C0 V i_WR rfl rfl hO102 (by decide) w_1940 rfl d_19_33_102 ?_
    refine lv_aload_n hx hb d_19_33_105 rfl (lv_at hl 0 rfl) ?_
    refine q_get (ci := 13) (j := 8) (v := .ref (q 124)) C0 V i_WR rfl rfl hO102 (by decide) w_1932 rfl d_19_33_106 ?_
    refine lv_aload_n hx hb d_19_33_109 rfl (lv_at hl 0 rfl) ?_
    refine q_get (ci := 13) (j := 17) (v := .int lx75) C0 V i_WR rfl rfl hO102 (by decide) w_1941 rfl d_19_33_110 ?_
    refine q_join (X := Int32) (fun z H locs ls _ => q_F (0 ≤ z.toInt) ∧ q_F (z.toInt ≤ 1) ∧ q_Wd D g (va_A ws sz) s u243 H locs ∧ lv_has ls 1 [(0, .ref (q 119))] ∧ F_WR_inverts_J121 (F_WR_inverts_L36 t0_0 t0_1 t0_2 t0_3 t0_4 t0_5 t0_6 t1_0 t2_0 t3_0 t4_0 t5_0 t6_0 t7_0 t8_0 t9_0 t10_0 fm117) t0_0 t0_1 t0_2 t0_3 t0_4 t0_5 t0_6 t1_0 t2_0 t3_0 t4_0 t5_0 t6_0 t7_0 t8_0 t9_0 t10_0 lx70 lx71 lx72 lx73 lx74 lx75 lx76 lx77 lx78 lx79 lx80 lx81 lx82 lx83 lx84 lx85 p219 f213 f215 f230 f237 p251 f247 f245 z = (F_WR_inverts t0_0 t0_1 t0_2 t0_3 t0_4 t0_5 t0_6 t1_0 t2_0 t3_0 t4_0 t5_0 t6_0 t7_0 t8_0 t9_0 t10_0) ∧ True ∧ S_WR_inverts_J121 (S_WR_inverts_L36 t0_0 t0_1 t0_2 t0_3 t0_4 t0_5 t0_6 t1_0 t2_0 t3_0 t4_0 t5_0 t6_0 t7_0 t8_0 t9_0 t10_0 fm117) t0_0 t0_1 t0_2 t0_3 t0_4 t0_5 t0_6 t1_0 t2_0 t3_0 t4_0 t5_0 t6_0 t7_0 t8_0 t9_0 t10_0 lx70 lx71 lx72 lx73 lx74 lx75 lx76 lx77 lx78 lx79 lx80 lx81 lx82 lx83 lx84 lx85 p219 f213 f215 f230 f237 p251 f247 f245 z) (fun z => [.int z, .ref (q 124), .int lx74, .ref (q 130), .ref (q 119)]) 121 0 0 ?_ ?_
    ·
      rintro lx260 H locs ls _ hZ9
      obtain ⟨i273, hZ9⟩ := hZ9
      obtain ⟨i274, hZ9⟩ := hZ9
      obtain ⟨V, hZ9⟩ := hZ9
      obtain ⟨hl, hZ9⟩ := hZ9
      obtain ⟨hR275, hS276⟩ := hZ9
      replace i273 : q_F (0 ≤ lx260.toInt) := i273
      replace i274 : q_F (lx260.toInt ≤ 1) := i274
      replace hl : lv_has ls 1 [(0, .ref (q 119))] := hl
      have ob280 : True ∧ S_WR_sum (264 : Int32) lx74 (264 : Int32) lx260 lx70 lx71 lx72 lx73 lx74 lx75 lx76 lx77 lx84 f247 := (by have h := hS276; rw [S_WR_inverts_J121.eq_1] at h; with_reducible exact h.2.1)
      refine q_gov V (q_runV (As := [.ref (q 130), .int lx74, .ref (q 124), .int lx260]) (rest := []) (d := 2) (mc := 0) (ms := 0) (ci := 13) C0 V rfl LV_WR_111 (X_WR_sum l D g q u243 130 264 (n_r130 g q) 124 264 (n_r124 g q) lx74 lx260 (by decide) (by decide) (by decide) hI lx70 lx71 lx72 lx73 lx74 lx75 lx76 hO102 lx77 hO103 lx84 hO110 f247 hA248 ⟨(by have y0 : (264 : Int32).toInt = 264 := rfl; have y1 : (264 : Int32).toInt = 264 := rfl; have t1 : 0 ≤ lx74.toInt := i88; omega), (by have y0 : (264 : Int32).toInt = 264 := rfl; have y1 : (264 : Int32).toInt = 264 := rfl; have t1 : lx74.toInt ≤ 1 := i89; omega)⟩ ⟨(by have y0 : (264 : Int32).toInt = 264 := rfl; have y1 : (264 : Int32).toInt = 264 := rfl; have t1 : 0 ≤ lx260.toInt := i273; omega), (by have y0 : (264 : Int32).toInt = 264 := rfl; have y1 : (264 : Int32).toInt = 264 := rfl; have t1 : lx260.toInt ≤ 1 := i274; omega)⟩ ob280 _) rfl rfl hO102 rfl hl.1 rfl (Nat.le_of_ble_eq_true rfl) ⟨by decide, by decide⟩ ⟨Nat.le_of_ble_eq_true rfl, Nat.le_of_ble_eq_true rfl⟩ d_19_33_121) (fun u281 H locs hp282 V => ?_)
      obtain ⟨hI, hZ9⟩ := hp282
      obtain ⟨hu308, hZ9⟩ := hZ9
      obtain ⟨y284, hZ9⟩ := hZ9
      obtain ⟨y285, hZ9⟩ := hZ9
      obtain ⟨y286, hZ9⟩ := hZ9
      obtain ⟨y287, hZ9⟩ := hZ9
      obtain ⟨y288, hZ9⟩ := hZ9
      obtain ⟨y289, hZ9⟩ := hZ9
      obtain ⟨y290, hZ9⟩ := hZ9
      obtain ⟨f291, hZ9⟩ := hZ9
      obtain ⟨hO283, hZ9⟩ := hZ9
      obtain ⟨hA292, hZ9⟩ := hZ9
      obtain ⟨b293, hZ9⟩ := hZ9
      obtain ⟨b294, hZ9⟩ := hZ9
      obtain ⟨b295, hZ9⟩ := hZ9
      obtain ⟨b296, hZ9⟩ := hZ9
      obtain ⟨b297, hZ9⟩ := hZ9
      obtain ⟨b298, hZ9⟩ := hZ9
      obtain ⟨b299, hZ9⟩ := hZ9
      obtain ⟨b300, hZ9⟩ := hZ9
      replace hZ9 := hZ9.2.2
      obtain ⟨b303, hZ9⟩ := hZ9
      obtain ⟨b304, hZ9⟩ := hZ9
      obtain ⟨b305, hZ9⟩ := hZ9
      obtain ⟨b306, hE307⟩ := hZ9
      replace hO283 : u281[119]? = (some (q 119, .inr (13, [.int y284, .int y285, .ref (q 120), .int y286, .ref (q 121), .ref (q 122), .ref (q 123), .int y287, .ref (q 124), .ref (q 125), .ref (q 126), .ref (q 127), .ref (q 128), .ref (q 129), .ref (q 130), .ref (q 131), .int y288, .int y289, .ref (q 132), .ref (q 133), .int y290])) : Option (Nat × va_E)) := hO283
      replace hA292 : u281[123]? = (some (q 123, .inl (g 0, (264 : Int32).toNatClampNeg, .inl f291)) : Option (Nat × va_E)) := hA292
      obtain ⟨p309, e310⟩ : ∃ z, z = (F_WR_sum (264 : Int32) lx74 (264 : Int32) lx260 lx70 lx71 lx72 lx73 lx74 lx75 lx76 lx77 lx84 f247) := ⟨_, rfl⟩
      have e311 : y284 = p309.1 := congrArg (fun z => z.1) (hE307.trans e310.symm)
      have e312 : y285 = p309.2.1 := congrArg (fun z => z.2.1) (hE307.trans e310.symm)
      have e313 : y286 = p309.2.2.1 := congrArg (fun z => z.2.2.1) (hE307.trans e310.symm)
      have e314 : y287 = p309.2.2.2.1 := congrArg (fun z => z.2.2.2.1) (hE307.trans e310.symm)
      have e315 : y288 = p309.2.2.2.2.1 := congrArg (fun z => z.2.2.2.2.1) (hE307.trans e310.symm)
      have e316 : y289 = p309.2.2.2.2.2.1 := congrArg (fun z => z.2.2.2.2.2.1) (hE307.trans e310.symm)
      have e317 : y290 = p309.2.2.2.2.2.2.1 := congrArg (fun z => z.2.2.2.2.2.2.1) (hE307.trans e310.symm)
      have e318 : f291 = p309.2.2.2.2.2.2.2 := congrArg (fun z => z.2.2.2.2.2.2.2) (hE307.trans e310.symm)
      replace b293 : q_F (0 ≤ y287.toInt) := b293
      replace b294 : q_F (y287.toInt ≤ 1) := b294
      replace b295 : q_F (lx70.toInt ≤ y284.toInt) := b295
      replace b296 : q_F (y284.toInt ≤ lx70.toInt) := b296
      replace b297 : q_F (lx71.toInt ≤ y285.toInt) := b297
      replace b298 : q_F (y285.toInt ≤ lx71.toInt) := b298
      replace b299 : q_F (lx72.toInt ≤ y286.toInt) := b299
      replace b300 : q_F (y286.toInt ≤ lx72.toInt) := b300
      replace b303 : q_F (lx75.toInt ≤ y289.toInt) := b303
      replace b304 : q_F (y289.toInt ≤ lx75.toInt) := b304
      replace b305 : q_F (lx76.toInt ≤ y290.toInt) := b305
      replace b306 : q_F (y290.toInt ≤ lx76.toInt) := b306
      replace hA248 := (hu308 _ (by decide)).trans hA248
      replace hA246 := (hu308 _ (by decide)).trans hA246
      replace hA214 := (hu308 _ (by decide)).trans hA214
      replace hA216 := (hu308 _ (by decide)).trans hA216
      replace hA231 := (hu308 _ (by decide)).trans hA231
      replace hA238 := (hu308 _ (by decide)).trans hA238
      replace hO110 := (hu308 _ (by decide)).trans hO110
      replace hO111 := (hu308 _ (by decide)).trans hO111
      replace hO112 := (hu308 _ (by decide)).trans hO112
      replace hF := q_uc hF hu308 (by simp)
      have hR319 := (show F_WR_inverts_c121 (F_WR_inverts_L36 t0_0 t0_1 t0_2 t0_3 t0_4 t0_5 t0_6 t1_0 t2_0 t3_0 t4_0 t5_0 t6_0 t7_0 t8_0 t9_0 t10_0 fm117) t0_0 t0_1 t0_2 t0_3 t0_4 t0_5 t0_6 t1_0 t2_0 t3_0 t4_0 t5_0 t6_0 t7_0 t8_0 t9_0 t10_0 lx70 lx71 lx72 lx73 lx74 lx75 lx76 lx77 lx78 lx79 lx80 lx81 lx82 lx83 lx84 lx85 p219 f213 f215 f230 f237 p251 f247 f245 lx260 p309 = (F_WR_inverts t0_0 t0_1 t0_2 t0_3 t0_4 t0_5 t0_6 t1_0 t2_0 t3_0 t4_0 t5_0 t6_0 t7_0 t8_0 t9_0 t10_0) from Eq.trans (by rw [e310, F_WR_inverts_J121.eq_1]) hR275)
      have hS320 := (show True ∧ S_WR_inverts_c121 (S_WR_inverts_L36 t0_0 t0_1 t0_2 t0_3 t0_4 t0_5 t0_6 t1_0 t2_0 t3_0 t4_0 t5_0 t6_0 t7_0 t8_0 t9_0 t10_0 fm117) t0_0 t0_1 t0_2 t0_3 t0_4 t0_5 t0_6 t1_0 t2_0 t3_0 t4_0 t5_0 t6_0 t7_0 t8_0 t9_0 t10_0 lx70 lx71 lx72 lx73 lx74 lx75 lx76 lx77 lx78 lx79 lx80 lx81 lx82 lx83 lx84 lx85 p219 f213 f215 f230 f237 p251 f247 f245 lx260 p309 from (by rw [e310]; have h := hS276; rw [S_WR_inverts_J121.eq_1] at h; replace h := q_s2 h; with_reducible exact h))
      refine lv_aload_n hx hb d_19_33_124 rfl (lv_at hl 0 rfl) ?_
      refine q_get (ci := 13) (j := 15) (v := .ref (q 131)) C0 V i_WR rfl rfl hO283 (by decide) w_1939 rfl d_19_33_125 ?_
      refine lv_aload_n hx hb d_19_33_128 rfl (lv_at hl 0 rfl) ?_
      refine q_get (ci := 13) (j := 14) (v := .ref (q 130)) C0 V i_WR rfl rfl hO283 (by decide) w_1938 rfl d_19_33_129 ?_
      refine q_gov V (q_runS (As := [.ref (q 131), .ref (q 130)]) (rest := []) (d := 1) (mc := 0) (ms := 0) C0 V rfl LS_WR_67 (X_WR_copy l D g q u281 131 264 (n_r131 g q) 130 264 (n_r130 g q)  (by decide) hI lx85 hO111 lx84 hO110  _) rfl hl.1 rfl (Nat.le_of_ble_eq_true rfl) ⟨by decide, by decide⟩ ⟨Nat.le_of_ble_eq_true rfl, Nat.le_of_ble_eq_true rfl⟩ d_19_33_132) (fun u324 H locs hp325 V => ?_)
      obtain ⟨hI, hu329, f326, hA327, hE328⟩ := hp325
      replace hA327 : u324[130]? = (some (q 130, .inl (g 0, (264 : Int32).toNatClampNeg, .inl f326)) : Option (Nat × va_E)) := hA327
      have e330 : f326 = (F_WR_copy (264 : Int32) (264 : Int32) lx85 lx84) := hE328
      replace hO283 := (hu329 _ (by decide)).trans hO283
      replace hA292 := (hu329 _ (by decide)).trans hA292
      replace hA248 := (hu329 _ (by decide)).trans hA248
      replace hA246 := (hu329 _ (by decide)).trans hA246
      replace hA214 := (hu329 _ (by decide)).trans hA214
      replace hA216 := (hu329 _ (by decide)).trans hA216
      replace hA231 := (hu329 _ (by decide)).trans hA231
      replace hA238 := (hu329 _ (by decide)).trans hA238
      replace hO111 := (hu329 _ (by decide)).trans hO111
      replace hO112 := (hu329 _ (by decide)).trans hO112
      replace hF := q_uc hF hu329 (by simp)
      refine lv_aload_n hx hb d_19_33_135 rfl (lv_at hl 0 rfl) ?_
      refine lv_aload_n hx hb d_19_33_136 rfl (lv_at hl 0 rfl) ?_
      refine q_get (ci := 13) (j := 17) (v := .int y289) C0 V i_WR rfl rfl hO283 (by decide) w_1941 rfl d_19_33_137 ?_
      refine q_put (ci := 13) (j := 16) (v := .int y289) (ty := .boolean) C0 V i_WR o_WR n_WR rfl rfl hO283 (by decide) w_1940 rfl rfl (q_nz01 (q_Ile (x := 0) (y := y289.toInt) (by decide) rfl (by have t1 : 0 ≤ lx75.toInt := i90; have t2 : lx75.toInt ≤ y289.toInt := b303; omega)) (q_Ile (x := y289.toInt) (y := 1) rfl (by decide) (by have t1 : lx75.toInt ≤ 1 := i91; have t2 : y289.toInt ≤ lx75.toInt := b304; omega))) (q_fz01 (q_Ile (x := 0) (y := y289.toInt) (by decide) rfl (by have t1 : 0 ≤ lx75.toInt := i90; have t2 : lx75.toInt ≤ y289.toInt := b303; omega)) (q_Ile (x := y289.toInt) (y := 1) rfl (by decide) (by have t1 : lx75.toInt ≤ 1 := i91; have t2 : y289.toInt ≤ lx75.toInt := b304; omega))) (Nat.le_of_ble_eq_true rfl) d_19_33_140 (fun H locs w331 hu332 hO283 V => ?_)
      replace hO283 : w331[119]? = (some (q 119, .inr (13, [.int y284, .int y285, .ref (q 120), .int y286, .ref (q 121), .ref (q 122), .ref (q 123), .int y287, .ref (q 124), .ref (q 125), .ref (q 126), .ref (q 127), .ref (q 128), .ref (q 129), .ref (q 130), .ref (q 131), .int y289, .int y289, .ref (q 132), .ref (q 133), .int y290])) : Option (Nat × va_E)) := hO283
      replace hI := n_p119 hI hu332 hO283 ⟨(by have t1 : 0 ≤ t0_2.toInt ∧ t0_2.toInt ≤ 4100 := btt0_2; have t2 : t0_2.toInt ≤ lx72.toInt := i96; have t3 : lx72.toInt ≤ y286.toInt := b299; omega), (by have t1 : 0 ≤ t0_2.toInt ∧ t0_2.toInt ≤ 4100 := btt0_2; have t2 : lx72.toInt ≤ t0_2.toInt := i97; have t3 : y286.toInt ≤ lx72.toInt := b300; omega)⟩ ⟨(by first | with_reducible exact q_fe b293 | (have t1 : 0 ≤ y287.toInt := b293; omega)), (by first | with_reducible exact q_fe b294 | (have t1 : y287.toInt ≤ 1 := b294; omega))⟩ ⟨(by have t1 : 0 ≤ lx75.toInt := i90; have t2 : lx75.toInt ≤ y289.toInt := b303; omega), (by have t1 : lx75.toInt ≤ 1 := i91; have t2 : y289.toInt ≤ lx75.toInt := b304; omega)⟩ ⟨(by have t1 : 0 ≤ lx75.toInt := i90; have t2 : lx75.toInt ≤ y289.toInt := b303; omega), (by have t1 : lx75.toInt ≤ 1 := i91; have t2 : y289.toInt ≤ lx75.toInt := b304; omega)⟩ ⟨(by have t1 : 0 ≤ t0_6.toInt ∧ t0_6.toInt ≤ 2100 := btt0_6; have t2 : t0_6.toInt ≤ lx76.toInt := i98; have t3 : lx76.toInt ≤ y290.toInt := b305; omega), (by have t1 : 0 ≤ t0_6.toInt ∧ t0_6.toInt ≤ 2100 := btt0_6; have t2 : lx76.toInt ≤ t0_6.toInt := i99; have t3 : y290.toInt ≤ lx76.toInt := b306; omega)⟩
      replace hA292 := (hu332 _ (by decide)).trans hA292
      replace hA248 := (hu332 _ (by decide)).trans hA248
      replace hA246 := (hu332 _ (by decide)).trans hA246
      replace hA214 := (hu332 _ (by decide)).trans hA214
      replace hA216 := (hu332 _ (by decide)).trans hA216
      replace hA231 := (hu332 _ (by decide)).trans hA231
      replace hA238 := (hu332 _ (by decide)).trans hA238
      replace hA327 := (hu332 _ (by decide)).trans hA327
      replace hO111 := (hu332 _ (by decide)).trans hO111
      replace hO112 := (hu332 _ (by decide)).trans hO112
      replace hF := q_us hF hu332 (by simp)
      refine lv_aload_n hx hb d_19_33_143 rfl (lv_at hl 0 rfl) ?_
      refine q_get (ci := 13) (j := 6) (v := .ref (q 123)) C0 V i_WR rfl rfl hO283 (by decide) w_1930 rfl d_19_33_144 ?_
      refine lv_aload_n hx hb d_19_33_147 rfl (lv_at hl 0 rfl) ?_
      refine q_get (ci := 13) (j := 15) (v := .ref (q 131)) C0 V i_WR rfl rfl hO283 (by decide) w_1939 rfl d_19_33_148 ?_
      refine q_gov V (q_runS (As := [.ref (q 123), .ref (q 131)]) (rest := []) (d := 1) (mc := 0) (ms := 0) C0 V rfl LS_WR_67 (X_WR_copy l D g q w331 123 264 (n_r123 g q) 131 264 (n_r131 g q)  (by decide) hI f291 hA292 lx85 hO111  _) rfl hl.1 rfl (Nat.le_of_ble_eq_true rfl) ⟨by decide, by decide⟩ ⟨Nat.le_of_ble_eq_true rfl, Nat.le_of_ble_eq_true rfl⟩ d_19_33_151) (fun u333 H locs hp334 V => ?_)
      obtain ⟨hI, hu338, f335, hA336, hE337⟩ := hp334
      replace hA336 : u333[131]? = (some (q 131, .inl (g 0, (264 : Int32).toNatClampNeg, .inl f335)) : Option (Nat × va_E)) := hA336
      have e339 : f335 = (F_WR_copy (264 : Int32) (264 : Int32) f291 lx85) := hE337
      replace hO283 := (hu338 _ (by decide)).trans hO283
      replace hA292 := (hu338 _ (by decide)).trans hA292
      replace hA248 := (hu338 _ (by decide)).trans hA248
      replace hA246 := (hu338 _ (by decide)).trans hA246
      replace hA214 := (hu338 _ (by decide)).trans hA214
      replace hA216 := (hu338 _ (by decide)).trans hA216
      replace hA231 := (hu338 _ (by decide)).trans hA231
      replace hA238 := (hu338 _ (by decide)).trans hA238
      replace hA327 := (hu338 _ (by decide)).trans hA327
      replace hO112 := (hu338 _ (by decide)).trans hO112
      replace hF := q_uc hF hu338 (by simp)
      refine lv_aload_n hx hb d_19_33_154 rfl (lv_at hl 0 rfl) ?_
      refine lv_aload_n hx hb d_19_33_155 rfl (lv_at hl 0 rfl) ?_
      refine q_get (ci := 13) (j := 7) (v := .int y287) C0 V i_WR rfl rfl hO283 (by decide) w_1931 rfl d_19_33_156 ?_
      refine q_put (ci := 13) (j := 17) (v := .int y287) (ty := .boolean) C0 V i_WR o_WR n_WR rfl rfl hO283 (by decide) w_1941 rfl rfl (q_nz01 (q_Ile (x := 0) (y := y287.toInt) (by decide) rfl (by first | with_reducible exact q_fe b293 | (have t1 : 0 ≤ y287.toInt := b293; omega))) (q_Ile (x := y287.toInt) (y := 1) rfl (by decide) (by first | with_reducible exact q_fe b294 | (have t1 : y287.toInt ≤ 1 := b294; omega)))) (q_fz01 (q_Ile (x := 0) (y := y287.toInt) (by decide) rfl (by first | with_reducible exact q_fe b293 | (have t1 : 0 ≤ y287.toInt := b293; omega))) (q_Ile (x := y287.toInt) (y := 1) rfl (by decide) (by first | with_reducible exact q_fe b294 | (have t1 : y287.toInt ≤ 1 := b294; omega)))) (Nat.le_of_ble_eq_true rfl) d_19_33_159 (fun H locs w340 hu341 hO283 V => ?_)
      replace hO283 : w340[119]? = (some (q 119, .inr (13, [.int y284, .int y285, .ref (q 120), .int y286, .ref (q 121), .ref (q 122), .ref (q 123), .int y287, .ref (q 124), .ref (q 125), .ref (q 126), .ref (q 127), .ref (q 128), .ref (q 129), .ref (q 130), .ref (q 131), .int y289, .int y287, .ref (q 132), .ref (q 133), .int y290])) : Option (Nat × va_E)) := hO283
      replace hI := n_p119 hI hu341 hO283 ⟨(by have t1 : 0 ≤ t0_2.toInt ∧ t0_2.toInt ≤ 4100 := btt0_2; have t2 : t0_2.toInt ≤ lx72.toInt := i96; have t3 : lx72.toInt ≤ y286.toInt := b299; omega), (by have t1 : 0 ≤ t0_2.toInt ∧ t0_2.toInt ≤ 4100 := btt0_2; have t2 : lx72.toInt ≤ t0_2.toInt := i97; have t3 : y286.toInt ≤ lx72.toInt := b300; omega)⟩ ⟨(by first | with_reducible exact q_fe b293 | (have t1 : 0 ≤ y287.toInt := b293; omega)), (by first | with_reducible exact q_fe b294 | (have t1 : y287.toInt ≤ 1 := b294; omega))⟩ ⟨(by have t1 : 0 ≤ lx75.toInt := i90; have t2 : lx75.toInt ≤ y289.toInt := b303; omega), (by have t1 : lx75.toInt ≤ 1 := i91; have t2 : y289.toInt ≤ lx75.toInt := b304; omega)⟩ ⟨(by first | with_reducible exact q_fe b293 | (have t1 : 0 ≤ y287.toInt := b293; omega)), (by first | with_reducible exact q_fe b294 | (have t1 : y287.toInt ≤ 1 := b294; omega))⟩ ⟨(by have t1 : 0 ≤ t0_6.toInt ∧ t0_6.toInt ≤ 2100 := btt0_6; have t2 : t0_6.toInt ≤ lx76.toInt := i98; have t3 : lx76.toInt ≤ y290.toInt := b305; omega), (by have t1 : 0 ≤ t0_6.toInt ∧ t0_6.toInt ≤ 2100 := btt0_6; have t2 : lx76.toInt ≤ t0_6.toInt := i99; have t3 : y290.toInt ≤ lx76.toInt := b306; omega)⟩
      replace hA292 := (hu341 _ (by decide)).trans hA292
      replace hA248 := (hu341 _ (by decide)).trans hA248
      replace hA246 := (hu341 _ (by decide)).trans hA246
      replace hA214 := (hu341 _ (by decide)).trans hA214
      replace hA216 := (hu341 _ (by decide)).trans hA216
      replace hA231 := (hu341 _ (by decide)).trans hA231
      replace hA238 := (hu341 _ (by decide)).trans hA238
      replace hA327 := (hu341 _ (by decide)).trans hA327
      replace hA336 := (hu341 _ (by decide)).trans hA336
      replace hO112 := (hu341 _ (by decide)).trans hO112
      replace hF := q_us hF hu341 (by simp)
      refine lv_goto (tgt := 36) hx hb d_19_33_162 (by decide) ?_
      exact ih100 ((fm117 : Nat), (y284 : Int32), (y285 : Int32), (y286 : Int32), (y287 : Int32), (y289 : Int32), (y287 : Int32), (y290 : Int32), (f291 : (Nat → Int32)), (f247 : (Nat → Int32)), (f245 : (Nat → Int32)), (f213 : (Nat → Int32)), (f215 : (Nat → Int32)), (f230 : (Nat → Int32)), (f237 : (Nat → Int32)), (f326 : (Nat → Int32)), (f335 : (Nat → Int32))) _ _ _ _ (Nat.lt_succ_self _) ⟨(show q_F (0 ≤ y287.toInt) from (show 0 ≤ y287.toInt from by have t1 : 0 ≤ y287.toInt := b293; omega)), (show q_F (y287.toInt ≤ 1) from (show y287.toInt ≤ 1 from by have t1 : y287.toInt ≤ 1 := b294; omega)), (show q_F (0 ≤ y289.toInt) from (show 0 ≤ y289.toInt from by have t1 : 0 ≤ lx75.toInt := i90; have t2 : lx75.toInt ≤ y289.toInt := b303; omega)), (show q_F (y289.toInt ≤ 1) from (show y289.toInt ≤ 1 from by have t1 : lx75.toInt ≤ 1 := i91; have t2 : y289.toInt ≤ lx75.toInt := b304; omega)), (show q_F (0 ≤ y287.toInt) from (show 0 ≤ y287.toInt from by have t1 : 0 ≤ y287.toInt := b293; omega)), (show q_F (y287.toInt ≤ 1) from (show y287.toInt ≤ 1 from by have t1 : y287.toInt ≤ 1 := b294; omega)), (show q_F (t0_0.toInt ≤ y284.toInt) from (show t0_0.toInt ≤ y284.toInt from by have t1 : t0_0.toInt ≤ lx70.toInt := i92; have t2 : lx70.toInt ≤ y284.toInt := b295; omega)), (show q_F (y284.toInt ≤ t0_0.toInt) from (show y284.toInt ≤ t0_0.toInt from by have t1 : lx70.toInt ≤ t0_0.toInt := i93; have t2 : y284.toInt ≤ lx70.toInt := b296; omega)), (show q_F (t0_1.toInt ≤ y285.toInt) from (show t0_1.toInt ≤ y285.toInt from by have t1 : t0_1.toInt ≤ lx71.toInt := i94; have t2 : lx71.toInt ≤ y285.toInt := b297; omega)), (show q_F (y285.toInt ≤ t0_1.toInt) from (show y285.toInt ≤ t0_1.toInt from by have t1 : lx71.toInt ≤ t0_1.toInt := i95; have t2 : y285.toInt ≤ lx71.toInt := b298; omega)), (show q_F (t0_2.toInt ≤ y286.toInt) from (show t0_2.toInt ≤ y286.toInt from by have t1 : t0_2.toInt ≤ lx72.toInt := i96; have t2 : lx72.toInt ≤ y286.toInt := b299; omega)), (show q_F (y286.toInt ≤ t0_2.toInt) from (show y286.toInt ≤ t0_2.toInt from by have t1 : lx72.toInt ≤ t0_2.toInt := i97; have t2 : y286.toInt ≤ lx72.toInt := b300; omega)), (show q_F (t0_6.toInt ≤ y290.toInt) from (show t0_6.toInt ≤ y290.toInt from by have t1 : t0_6.toInt ≤ lx76.toInt := i98; have t2 : lx76.toInt ≤ y290.toInt := b305; omega)), (show q_F (y290.toInt ≤ t0_6.toInt) from (show y290.toInt ≤ t0_6.toInt from by have t1 : lx76.toInt ≤ t0_6.toInt := i99; have t2 : y290.toInt ≤ lx76.toInt := b306; omega)), V, q_lw hl (q_lw1 0 rfl q_lw0), hI, hF, hO283, hA292, hA248, hA246, hA214, hA216, hA231, hA238, hA327, hA336, hO112, (show F_WR_inverts_L36 t0_0 t0_1 t0_2 t0_3 t0_4 t0_5 t0_6 t1_0 t2_0 t3_0 t4_0 t5_0 t6_0 t7_0 t8_0 t9_0 t10_0 fm117 y284 y285 y286 y287 y289 y287 y290 f291 f247 f245 f213 f215 f230 f237 f326 f335 = (F_WR_inverts t0_0 t0_1 t0_2 t0_3 t0_4 t0_5 t0_6 t1_0 t2_0 t3_0 t4_0 t5_0 t6_0 t7_0 t8_0 t9_0 t10_0) from Eq.trans (by rw [e339, e330, e318, e317, e316, e314, e313, e312, e311, F_WR_inverts_c121.eq_1]) hR319), (show True ∧ S_WR_inverts_L36 t0_0 t0_1 t0_2 t0_3 t0_4 t0_5 t0_6 t1_0 t2_0 t3_0 t4_0 t5_0 t6_0 t7_0 t8_0 t9_0 t10_0 fm117 y284 y285 y286 y287 y289 y287 y290 f291 f247 f245 f213 f215 f230 f237 f326 f335 from (by rw [e339, e330, e318, e317, e316, e314, e313, e312, e311]; have h := hS320; rw [S_WR_inverts_c121.eq_1] at h; with_reducible exact h))⟩
    ·
      intro J272
      refine lv_if_ne (tgt := 120) hx hb d_19_33_113 (by decide) (fun c342 => ?_) (fun c342 => ?_)
      ·
        refine lv_iconst (v := 0) hx hb d_19_33_120 (by decide) ?_
        exact J272 ((0 : Int32)) _ _ _ u243 ⟨(show q_F (0 ≤ 0) from (show 0 ≤ 0 from by omega)), (show q_F (0 ≤ 1) from (show 0 ≤ 1 from by omega)), V, q_lw hl (q_lw1 0 rfl q_lw0), (show F_WR_inverts_J121 (F_WR_inverts_L36 t0_0 t0_1 t0_2 t0_3 t0_4 t0_5 t0_6 t1_0 t2_0 t3_0 t4_0 t5_0 t6_0 t7_0 t8_0 t9_0 t10_0 fm117) t0_0 t0_1 t0_2 t0_3 t0_4 t0_5 t0_6 t1_0 t2_0 t3_0 t4_0 t5_0 t6_0 t7_0 t8_0 t9_0 t10_0 lx70 lx71 lx72 lx73 lx74 lx75 lx76 lx77 lx78 lx79 lx80 lx81 lx82 lx83 lx84 lx85 p219 f213 f215 f230 f237 p251 f247 f245 0 = (F_WR_inverts t0_0 t0_1 t0_2 t0_3 t0_4 t0_5 t0_6 t1_0 t2_0 t3_0 t4_0 t5_0 t6_0 t7_0 t8_0 t9_0 t10_0) from Eq.trans (by rw [e254, e253, F_WR_inverts_c93.eq_1, if_neg c342]) hR255), (show True ∧ S_WR_inverts_J121 (S_WR_inverts_L36 t0_0 t0_1 t0_2 t0_3 t0_4 t0_5 t0_6 t1_0 t2_0 t3_0 t4_0 t5_0 t6_0 t7_0 t8_0 t9_0 t10_0 fm117) t0_0 t0_1 t0_2 t0_3 t0_4 t0_5 t0_6 t1_0 t2_0 t3_0 t4_0 t5_0 t6_0 t7_0 t8_0 t9_0 t10_0 lx70 lx71 lx72 lx73 lx74 lx75 lx76 lx77 lx78 lx79 lx80 lx81 lx82 lx83 lx84 lx85 p219 f213 f215 f230 f237 p251 f247 f245 0 from (by rw [e254, e253]; have h := hS256; rw [S_WR_inverts_c93.eq_1] at h; rw [if_neg c342] at h; with_reducible exact h))⟩
      ·
        refine lv_iconst (v := 1) hx hb d_19_33_116 (by decide) ?_
        refine lv_goto (tgt := 121) hx hb d_19_33_117 (by decide) ?_
        exact J272 ((1 : Int32)) _ _ _ u243 ⟨(show q_F (0 ≤ 1) from (show 0 ≤ 1 from by omega)), (show q_F (1 ≤ 1) from (show 1 ≤ 1 from by omega)), V, q_lw hl (q_lw1 0 rfl q_lw0), (show F_WR_inverts_J121 (F_WR_inverts_L36 t0_0 t0_1 t0_2 t0_3 t0_4 t0_5 t0_6 t1_0 t2_0 t3_0 t4_0 t5_0 t6_0 t7_0 t8_0 t9_0 t10_0 fm117) t0_0 t0_1 t0_2 t0_3 t0_4 t0_5 t0_6 t1_0 t2_0 t3_0 t4_0 t5_0 t6_0 t7_0 t8_0 t9_0 t10_0 lx70 lx71 lx72 lx73 lx74 lx75 lx76 lx77 lx78 lx79 lx80 lx81 lx82 lx83 lx84 lx85 p219 f213 f215 f230 f237 p251 f247 f245 1 = (F_WR_inverts t0_0 t0_1 t0_2 t0_3 t0_4 t0_5 t0_6 t1_0 t2_0 t3_0 t4_0 t5_0 t6_0 t7_0 t8_0 t9_0 t10_0) from Eq.trans (by rw [e254, e253, F_WR_inverts_c93.eq_1, if_pos c342]) hR255), (show True ∧ S_WR_inverts_J121 (S_WR_inverts_L36 t0_0 t0_1 t0_2 t0_3 t0_4 t0_5 t0_6 t1_0 t2_0 t3_0 t4_0 t5_0 t6_0 t7_0 t8_0 t9_0 t10_0 fm117) t0_0 t0_1 t0_2 t0_3 t0_4 t0_5 t0_6 t1_0 t2_0 t3_0 t4_0 t5_0 t6_0 t7_0 t8_0 t9_0 t10_0 lx70 lx71 lx72 lx73 lx74 lx75 lx76 lx77 lx78 lx79 lx80 lx81 lx82 lx83 lx84 lx85 p219 f213 f215 f230 f237 p251 f247 f245 1 from (by rw [e254, e253]; have h := hS256; rw [S_WR_inverts_c93.eq_1] at h; rw [if_pos c342] at h; with_reducible exact h))⟩

