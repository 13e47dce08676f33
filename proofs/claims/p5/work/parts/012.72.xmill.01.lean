def F_Mil_modulo_a_c24 (R2 : Int32) (R4 : Int32) (t0_0 : Int32) (t0_1 : Int32) (t1_0 : (Nat → Int32)) (t2_0 : Int32) (t2_1 : Int32) (t3_0 : (Nat → Int32)) (t4_0 : Int32) (t4_1 : Int32) (t5_0 : (Nat → Int32)) (p41 : (Int32 × Int32 × (Nat → Int32))) (p91 : (Int32 × Int32 × (Nat → Int32) × Int32 × Int32 × (Nat → Int32) × Int32 × Int32 × (Nat → Int32))) (y70 : Int32) (y71 : Int32) (f72 : (Nat → Int32)) (y65 : Int32) (y66 : Int32) (f67 : (Nat → Int32)) (p125 : (Int32 × Int32 × (Nat → Int32))) : Int32 × Int32 × (Nat → Int32) × Int32 × Int32 × (Nat → Int32) × Int32 × Int32 × (Nat → Int32) := (y70, y71, f72, y65, y66, f67, (p125.1 : Int32), (p125.2.1 : Int32), (p125.2.2 : (Nat → Int32)))
def F_Mil_modulo_a_c11 (R2 : Int32) (R4 : Int32) (t0_0 : Int32) (t0_1 : Int32) (t1_0 : (Nat → Int32)) (t2_0 : Int32) (t2_1 : Int32) (t3_0 : (Nat → Int32)) (t4_0 : Int32) (t4_1 : Int32) (t5_0 : (Nat → Int32)) (p41 : (Int32 × Int32 × (Nat → Int32))) (p91 : (Int32 × Int32 × (Nat → Int32) × Int32 × Int32 × (Nat → Int32) × Int32 × Int32 × (Nat → Int32))) : Int32 × Int32 × (Nat → Int32) × Int32 × Int32 × (Nat → Int32) × Int32 × Int32 × (Nat → Int32) := if (p91.2.1 : Int32) = (0 : Int32) then (((p91.2.2.2.2.2.2.1 : Int32), (p91.2.2.2.2.2.2.2.1 : Int32), (p91.2.2.2.2.2.2.2.2 : (Nat → Int32)), (p91.2.2.2.1 : Int32), (p91.2.2.2.2.1 : Int32), (p91.2.2.2.2.2.1 : (Nat → Int32)), (p91.1 : Int32), (p91.2.1 : Int32), (p91.2.2.1 : (Nat → Int32)))) else (F_Mil_modulo_a_c24 R2 R4 t0_0 t0_1 t1_0 t2_0 t2_1 t3_0 t4_0 t4_1 t5_0 p41 p91 (p91.2.2.2.2.2.2.1 : Int32) (p91.2.2.2.2.2.2.2.1 : Int32) (p91.2.2.2.2.2.2.2.2 : (Nat → Int32)) (p91.2.2.2.1 : Int32) (p91.2.2.2.2.1 : Int32) (p91.2.2.2.2.2.1 : (Nat → Int32)) ((F_Big_addSigned R4 R2 (0 : Int32) (p91.1 : Int32) (p91.2.1 : Int32) (p91.2.2.1 : (Nat → Int32)) (p91.2.2.2.1 : Int32) (p91.2.2.2.2.1 : Int32) (p91.2.2.2.2.2.1 : (Nat → Int32))) : (Int32 × Int32 × (Nat → Int32))))
def F_Mil_modulo_a_c2 (R2 : Int32) (R4 : Int32) (t0_0 : Int32) (t0_1 : Int32) (t1_0 : (Nat → Int32)) (t2_0 : Int32) (t2_1 : Int32) (t3_0 : (Nat → Int32)) (t4_0 : Int32) (t4_1 : Int32) (t5_0 : (Nat → Int32)) (p41 : (Int32 × Int32 × (Nat → Int32))) : Int32 × Int32 × (Nat → Int32) × Int32 × Int32 × (Nat → Int32) × Int32 × Int32 × (Nat → Int32) := F_Mil_modulo_a_c11 R2 R4 t0_0 t0_1 t1_0 t2_0 t2_1 t3_0 t4_0 t4_1 t5_0 p41 ((F_Big_divideBy R4 R2 (220 : Int32) (p41.1 : Int32) (p41.2.1 : Int32) (p41.2.2 : (Nat → Int32)) t2_0 t2_1 t3_0 t0_0 t0_1 t1_0) : (Int32 × Int32 × (Nat → Int32) × Int32 × Int32 × (Nat → Int32) × Int32 × Int32 × (Nat → Int32)))
def F_Mil_modulo_a (R2 : Int32) (R4 : Int32) (t0_0 : Int32) (t0_1 : Int32) (t1_0 : (Nat → Int32)) (t2_0 : Int32) (t2_1 : Int32) (t3_0 : (Nat → Int32)) (t4_0 : Int32) (t4_1 : Int32) (t5_0 : (Nat → Int32)) : Int32 × Int32 × (Nat → Int32) × Int32 × Int32 × (Nat → Int32) × Int32 × Int32 × (Nat → Int32) := F_Mil_modulo_a_c2 R2 R4 t0_0 t0_1 t1_0 t2_0 t2_1 t3_0 t4_0 t4_1 t5_0 ((F_Big_copy R4 R2 t4_0 t4_1 t5_0 t2_0 t2_1 t3_0) : (Int32 × Int32 × (Nat → Int32)))
def S_Mil_modulo_a_c24 (R2 : Int32) (R4 : Int32) (t0_0 : Int32) (t0_1 : Int32) (t1_0 : (Nat → Int32)) (t2_0 : Int32) (t2_1 : Int32) (t3_0 : (Nat → Int32)) (t4_0 : Int32) (t4_1 : Int32) (t5_0 : (Nat → Int32)) (p41 : (Int32 × Int32 × (Nat → Int32))) (p91 : (Int32 × Int32 × (Nat → Int32) × Int32 × Int32 × (Nat → Int32) × Int32 × Int32 × (Nat → Int32))) (y70 : Int32) (y71 : Int32) (f72 : (Nat → Int32)) (y65 : Int32) (y66 : Int32) (f67 : (Nat → Int32)) (p125 : (Int32 × Int32 × (Nat → Int32))) : Prop := True
def S_Mil_modulo_a_c11 (R2 : Int32) (R4 : Int32) (t0_0 : Int32) (t0_1 : Int32) (t1_0 : (Nat → Int32)) (t2_0 : Int32) (t2_1 : Int32) (t3_0 : (Nat → Int32)) (t4_0 : Int32) (t4_1 : Int32) (t5_0 : (Nat → Int32)) (p41 : (Int32 × Int32 × (Nat → Int32))) (p91 : (Int32 × Int32 × (Nat → Int32) × Int32 × Int32 × (Nat → Int32) × Int32 × Int32 × (Nat → Int32))) : Prop := if (p91.2.1 : Int32) = (0 : Int32) then (True) else (S_Mil_modulo_a_c24 R2 R4 t0_0 t0_1 t1_0 t2_0 t2_1 t3_0 t4_0 t4_1 t5_0 p41 p91 (p91.2.2.2.2.2.2.1 : Int32) (p91.2.2.2.2.2.2.2.1 : Int32) (p91.2.2.2.2.2.2.2.2 : (Nat → Int32)) (p91.2.2.2.1 : Int32) (p91.2.2.2.2.1 : Int32) (p91.2.2.2.2.2.1 : (Nat → Int32)) ((F_Big_addSigned R4 R2 (0 : Int32) (p91.1 : Int32) (p91.2.1 : Int32) (p91.2.2.1 : (Nat → Int32)) (p91.2.2.2.1 : Int32) (p91.2.2.2.2.1 : Int32) (p91.2.2.2.2.2.1 : (Nat → Int32))) : (Int32 × Int32 × (Nat → Int32))))
def S_Mil_modulo_a_c2 (R2 : Int32) (R4 : Int32) (t0_0 : Int32) (t0_1 : Int32) (t1_0 : (Nat → Int32)) (t2_0 : Int32) (t2_1 : Int32) (t3_0 : (Nat → Int32)) (t4_0 : Int32) (t4_1 : Int32) (t5_0 : (Nat → Int32)) (p41 : (Int32 × Int32 × (Nat → Int32))) : Prop := (True ∧ S_Big_divideBy R4 R2 (220 : Int32) (p41.1 : Int32) (p41.2.1 : Int32) (p41.2.2 : (Nat → Int32)) t2_0 t2_1 t3_0 t0_0 t0_1 t1_0) ∧ (S_Mil_modulo_a_c11 R2 R4 t0_0 t0_1 t1_0 t2_0 t2_1 t3_0 t4_0 t4_1 t5_0 p41 ((F_Big_divideBy R4 R2 (220 : Int32) (p41.1 : Int32) (p41.2.1 : Int32) (p41.2.2 : (Nat → Int32)) t2_0 t2_1 t3_0 t0_0 t0_1 t1_0) : (Int32 × Int32 × (Nat → Int32) × Int32 × Int32 × (Nat → Int32) × Int32 × Int32 × (Nat → Int32))))
def S_Mil_modulo_a (R2 : Int32) (R4 : Int32) (t0_0 : Int32) (t0_1 : Int32) (t1_0 : (Nat → Int32)) (t2_0 : Int32) (t2_1 : Int32) (t3_0 : (Nat → Int32)) (t4_0 : Int32) (t4_1 : Int32) (t5_0 : (Nat → Int32)) : Prop := S_Mil_modulo_a_c2 R2 R4 t0_0 t0_1 t1_0 t2_0 t2_1 t3_0 t4_0 t4_1 t5_0 ((F_Big_copy R4 R2 t4_0 t4_1 t5_0 t2_0 t2_1 t3_0) : (Int32 × Int32 × (Nat → Int32)))
set_option maxRecDepth 100000 in
set_option maxHeartbeats 4000000 in
theorem X_Mil_modulo_a (l : Launch) (D : va_G) (g : Nat → ClassId) (q : Nat → Nat) (ws : va_W) (k2 : Nat) (R2 : Int32) (hB2 : q_isBig (nsh g q) g q k2 R2) (zk2 : (10 ≤ k2 ∧ k2 ≤ 32) ∨ 66 ≤ k2) (k4 : Nat) (R4 : Int32) (hB4 : q_isBig (nsh g q) g q k4 R4) (zk4 : (10 ≤ k4 ∧ k4 ≤ 32) ∨ 66 ≤ k4) (ne_k2_12 : k2 ≠ 12) (ne_k2_13 : k2 ≠ 13) (ne_k2_11 : k2 ≠ 11) (ne_k4_12 : k4 ≠ 12) (ne_k4_13 : k4 ≠ 13) (ne_k4_11 : k4 ≠ 11) (ne_k2_k4 : k2 ≠ k4) (hI : q_I (nsh g q) q ws) (t0_0 : Int32) (t0_1 : Int32) (hT0 : ws[12]? = (some (q 12, .inr (2, [.ref (q 13), .int t0_0, .int t0_1])) : Option (Nat × va_E))) (t1_0 : (Nat → Int32)) (hT1 : ws[13]? = (some (q 13, .inl (g 0, (220 : Int32).toNatClampNeg, .inl t1_0)) : Option (Nat × va_E))) (t2_0 : Int32) (t2_1 : Int32) (hT2 : ws[k2]? = (some (q k2, .inr (2, [.ref (q (k2 + 1)), .int t2_0, .int t2_1])) : Option (Nat × va_E))) (t3_0 : (Nat → Int32)) (hT3 : ws[k2 + 1]? = (some (q (k2 + 1), .inl (g 0, R2.toNatClampNeg, .inl t3_0)) : Option (Nat × va_E))) (t4_0 : Int32) (t4_1 : Int32) (hT4 : ws[k4]? = (some (q k4, .inr (2, [.ref (q (k4 + 1)), .int t4_0, .int t4_1])) : Option (Nat × va_E))) (t5_0 : (Nat → Int32)) (hT5 : ws[k4 + 1]? = (some (q (k4 + 1), .inl (g 0, R4.toNatClampNeg, .inl t5_0)) : Option (Nat × va_E))) (hS : True ∧ S_Mil_modulo_a R2 R4 t0_0 t0_1 t1_0 t2_0 t2_1 t3_0 t4_0 t4_1 t5_0) : q_mV l y_Mil_modulo prog_8_method_4_code 4 5 0 0 D g [.ref (q 9), .ref (q k2), .ref (q k2), .ref (q k4)] ws (fun u => q_I (nsh g q) q u ∧ q_un ws u [12, 13, k2, k2 + 1, k4, k4 + 1] ∧ ∃ (u0_0 : Int32) (u0_1 : Int32) (u1_0 : (Nat → Int32)) (u2_0 : Int32) (u2_1 : Int32) (u3_0 : (Nat → Int32)) (u4_0 : Int32) (u4_1 : Int32) (u5_0 : (Nat → Int32)), u[12]? = (some (q 12, .inr (2, [.ref (q 13), .int u0_0, .int u0_1])) : Option (Nat × va_E)) ∧ u[13]? = (some (q 13, .inl (g 0, (220 : Int32).toNatClampNeg, .inl u1_0)) : Option (Nat × va_E)) ∧ u[k2]? = (some (q k2, .inr (2, [.ref (q (k2 + 1)), .int u2_0, .int u2_1])) : Option (Nat × va_E)) ∧ u[k2 + 1]? = (some (q (k2 + 1), .inl (g 0, R2.toNatClampNeg, .inl u3_0)) : Option (Nat × va_E)) ∧ u[k4]? = (some (q k4, .inr (2, [.ref (q (k4 + 1)), .int u4_0, .int u4_1])) : Option (Nat × va_E)) ∧ u[k4 + 1]? = (some (q (k4 + 1), .inl (g 0, R4.toNatClampNeg, .inl u5_0)) : Option (Nat × va_E)) ∧ (0 ≤ u0_1.toInt) ∧ (u0_1.toInt ≤ 0) ∧ (u0_0.toInt ≤ t2_0.toInt + 219) ∧ (u0_0.toInt ≤ R4.toInt + 1) ∧ (u2_0.toInt ≤ t2_0.toInt + 218) ∧ (u2_0.toInt ≤ R2.toInt) ∧ (u2_1.toInt ≤ t2_1.toInt) ∧ (u4_0.toInt ≤ R4.toInt) ∧ (u4_1.toInt ≤ t2_1.toInt) ∧ (u0_1.toInt ≤ u0_0.toInt) ∧ (u0_0.toInt ≤ u0_1.toInt + 220) ∧ (u0_1.toInt ≤ u2_0.toInt) ∧ (u0_1.toInt ≤ u2_1.toInt) ∧ (u0_1.toInt ≤ u4_0.toInt) ∧ (u0_1.toInt ≤ u4_1.toInt) ∧ (u0_0, u0_1, u1_0, u2_0, u2_1, u3_0, u4_0, u4_1, u5_0) = (F_Mil_modulo_a R2 R4 t0_0 t0_1 t1_0 t2_0 t2_1 t3_0 t4_0 t4_1 t5_0)) := by
  intro sz
  refine q_into (by decide) (Nat.le_of_ble_eq_true rfl) ?_
  intro p e s m below meth c ls hsz C0 V hl
  have hx := C0.1
  have hb := C0.2.1
  have btt0_1 := (q_bigW hI (n_b12 g q) hT0).2
  clear btt0_1
  have btt2_1 := (q_bigW hI hB2 hT2).2
  clear btt2_1
  have btt4_1 := (q_bigW hI hB4 hT4).2
  clear btt4_1
  have hF : q_un ws ws [12, 13, k2, k2 + 1, k4, k4 + 1] := q_u0
  have hl : lv_has ls 4 [(0, .ref (q 9)), (1, .ref (q k2)), (2, .ref (q k2)), (3, .ref (q k4))] := hl
  refine lv_aload_n hx hb d_8_4_0 rfl (lv_at hl 3 rfl) ?_
  refine lv_aload_n hx hb d_8_4_1 rfl (lv_at hl 1 rfl) ?_
  have ne25 := q_df hT3 hT4
  have ne26 := q_df hT5 hT2
  refine q_gov V (q_runV (As := [.ref (q k2)]) (rest := []) (d := 2) (mc := 0) (ms := 0) (ci := 2) C0 V rfl LV_Mil_51 (X_Big_copy l D g q ws k4 R4 hB4 zk4 k2 R2 hB2 zk2  (by have z := ne_k2_k4; omega) hI t4_0 t4_1 hT4 t5_0 hT5 t2_0 t2_1 hT2 t3_0 hT3  _) rfl rfl hT4 rfl hl.1 rfl (Nat.le_of_ble_eq_true rfl) ⟨by decide, by decide⟩ ⟨Nat.le_of_ble_eq_true rfl, Nat.le_of_ble_eq_true rfl⟩ d_8_4_2) (fun u27 H locs hp28 V => ?_)
  obtain ⟨hI, hZ9⟩ := hp28
  obtain ⟨hu40, hZ9⟩ := hZ9
  obtain ⟨y30, hZ9⟩ := hZ9
  obtain ⟨y31, hZ9⟩ := hZ9
  obtain ⟨f32, hZ9⟩ := hZ9
  obtain ⟨hO29, hZ9⟩ := hZ9
  obtain ⟨hA33, hZ9⟩ := hZ9
  replace hZ9 := hZ9.2.2.2.2
  obtain ⟨b38, hE39⟩ := hZ9
  replace hO29 : u27[k4]? = (some (q k4, .inr (2, [.ref (q (k4 + 1)), .int y30, .int y31])) : Option (Nat × va_E)) := hO29
  replace hA33 : u27[k4 + 1]? = (some (q (k4 + 1), .inl (g 0, R4.toNatClampNeg, .inl f32)) : Option (Nat × va_E)) := hA33
  obtain ⟨p41, e42⟩ : ∃ z, z = (F_Big_copy R4 R2 t4_0 t4_1 t5_0 t2_0 t2_1 t3_0) := ⟨_, rfl⟩
  have e43 : y30 = p41.1 := congrArg (fun z => z.1) (hE39.trans e42.symm)
  have e44 : y31 = p41.2.1 := congrArg (fun z => z.2.1) (hE39.trans e42.symm)
  have e45 : f32 = p41.2.2 := congrArg (fun z => z.2.2) (hE39.trans e42.symm)
  replace b38 : q_F (y31.toInt ≤ t2_1.toInt) := b38
  replace hT0 := (hu40 _ (by first | exact (q_nc (Ne.symm ne_k4_12) (q_nc (q_ns1 ne_k4_11) List.not_mem_nil)) | (have z0 := zk4; simp only [List.mem_cons, List.not_mem_nil, or_false, not_or]; omega))).trans hT0
  replace hT1 := (hu40 _ (by first | exact (q_nc (Ne.symm ne_k4_13) (q_nc (q_ns1 ne_k4_12) List.not_mem_nil)) | (have z0 := zk4; simp only [List.mem_cons, List.not_mem_nil, or_false, not_or]; omega))).trans hT1
  replace hT2 := (hu40 _ (q_nc (by have z := ne_k2_k4; omega) (q_nc (Ne.symm ne26) List.not_mem_nil))).trans hT2
  replace hT3 := (hu40 _ (q_nc ne25 (q_nc (by have z := ne_k2_k4; omega) List.not_mem_nil))).trans hT3
  replace hF := q_uc hF hu40 (by first | exact (q_sk (q_mi 4 rfl) (q_sk (q_mi 5 rfl) q_s0)) | simp)
  have hR46 := (show F_Mil_modulo_a_c2 R2 R4 t0_0 t0_1 t1_0 t2_0 t2_1 t3_0 t4_0 t4_1 t5_0 p41 = (F_Mil_modulo_a R2 R4 t0_0 t0_1 t1_0 t2_0 t2_1 t3_0 t4_0 t4_1 t5_0) from (by rw [e42, F_Mil_modulo_a.eq_1]))
  have hS47 := (show True ∧ S_Mil_modulo_a_c2 R2 R4 t0_0 t0_1 t1_0 t2_0 t2_1 t3_0 t4_0 t4_1 t5_0 p41 from (by rw [e42]; have h := hS; rw [S_Mil_modulo_a.eq_1] at h; with_reducible exact h))
  refine lv_aload_n hx hb d_8_4_5 rfl (lv_at hl 3 rfl) ?_
  refine lv_aload_n hx hb d_8_4_6 rfl (lv_at hl 2 rfl) ?_
  refine lv_aload_n hx hb d_8_4_7 rfl (lv_at hl 0 rfl) ?_
  have hO51 := n_o9 hI
  refine q_get (ci := 4) (j := 1) (v := .ref (q 12)) C0 V i_Mil rfl rfl hO51 (by decide) w_114 rfl d_8_4_8 ?_
  have ne52 := q_df hT3 hO29
  have ne53 := q_df hA33 hT2
  have ne54 := q_df hA33 hT2
  have ne55 := q_df hT3 hO29
  have ob56 : True ∧ S_Big_divideBy R4 R2 (220 : Int32) y30 y31 f32 t2_0 t2_1 t3_0 t0_0 t0_1 t1_0 := (by rw [e45, e44, e43]; have h := hS47; rw [S_Mil_modulo_a_c2.eq_1] at h; with_reducible exact h.2.1)
  refine q_gov V (q_runV (As := [.ref (q k2), .ref (q 12)]) (rest := []) (d := 4) (mc := 0) (ms := 0) (ci := 2) C0 V rfl LV_Mil_59 (X_Big_divideBy l D g q u27 k4 R4 hB4 zk4 k2 R2 hB2 zk2 12 220 (n_b12 g q) (by decide)  (by have z := ne_k2_k4; omega) (by have z := ne_k4_12; omega) (by have z := ne_k2_12; omega) hI y30 y31 hO29 f32 hA33 t2_0 t2_1 hT2 t3_0 hT3 t0_0 t0_1 hT0 t1_0 hT1 ob56 _) rfl rfl hO29 rfl hl.1 rfl (Nat.le_of_ble_eq_true rfl) ⟨by decide, by decide⟩ ⟨Nat.le_of_ble_eq_true rfl, Nat.le_of_ble_eq_true rfl⟩ d_8_4_11) (fun u57 H locs hp58 V => ?_)
  obtain ⟨hI, hZ9⟩ := hp58
  obtain ⟨hu90, hZ9⟩ := hZ9
  obtain ⟨y60, hZ9⟩ := hZ9
  obtain ⟨y61, hZ9⟩ := hZ9
  obtain ⟨f62, hZ9⟩ := hZ9
  obtain ⟨y65, hZ9⟩ := hZ9
  obtain ⟨y66, hZ9⟩ := hZ9
  obtain ⟨f67, hZ9⟩ := hZ9
  obtain ⟨y70, hZ9⟩ := hZ9
  obtain ⟨y71, hZ9⟩ := hZ9
  obtain ⟨f72, hZ9⟩ := hZ9
  obtain ⟨hO59, hZ9⟩ := hZ9
  obtain ⟨hA63, hZ9⟩ := hZ9
  obtain ⟨hO64, hZ9⟩ := hZ9
  obtain ⟨hA68, hZ9⟩ := hZ9
  obtain ⟨hO69, hZ9⟩ := hZ9
  obtain ⟨hA73, hZ9⟩ := hZ9
  obtain ⟨b74, hZ9⟩ := hZ9
  obtain ⟨b75, hZ9⟩ := hZ9
  obtain ⟨b76, hZ9⟩ := hZ9
  obtain ⟨b77, hZ9⟩ := hZ9
  obtain ⟨b78, hZ9⟩ := hZ9
  obtain ⟨b79, hZ9⟩ := hZ9
  obtain ⟨b80, hZ9⟩ := hZ9
  obtain ⟨b81, hZ9⟩ := hZ9
  obtain ⟨b82, hZ9⟩ := hZ9
  obtain ⟨b83, hZ9⟩ := hZ9
  obtain ⟨b84, hZ9⟩ := hZ9
  obtain ⟨b85, hZ9⟩ := hZ9
  obtain ⟨b86, hZ9⟩ := hZ9
  obtain ⟨b87, hZ9⟩ := hZ9
  obtain ⟨b88, hE89⟩ := hZ9
  replace hO59 : u57[k4]? = (some (q k4, .inr (2, [.ref (q (k4 + 1)), .int y60, .int y61])) : Option (Nat × va_E)) := hO59
  replace hA63 : u57[k4 + 1]? = (some (q (k4 + 1), .inl (g 0, R4.toNatClampNeg, .inl f62)) : Option (Nat × va_E)) := hA63
  replace hO64 : u57[k2]? = (some (q k2, .inr (2, [.ref (q (k2 + 1)), .int y65, .int y66])) : Option (Nat × va_E)) := hO64
  replace hA68 : u57[k2 + 1]? = (some (q (k2 + 1), .inl (g 0, R2.toNatClampNeg, .inl f67)) : Option (Nat × va_E)) := hA68
  replace hO69 : u57[12]? = (some (q 12, .inr (2, [.ref (q 13), .int y70, .int y71])) : Option (Nat × va_E)) := hO69
  replace hA73 : u57[13]? = (some (q 13, .inl (g 0, (220 : Int32).toNatClampNeg, .inl f72)) : Option (Nat × va_E)) := hA73
  obtain ⟨p91, e92⟩ : ∃ z, z = (F_Big_divideBy R4 R2 (220 : Int32) y30 y31 f32 t2_0 t2_1 t3_0 t0_0 t0_1 t1_0) := ⟨_, rfl⟩
  have e93 : y60 = p91.1 := congrArg (fun z => z.1) (hE89.trans e92.symm)
  have e94 : y61 = p91.2.1 := congrArg (fun z => z.2.1) (hE89.trans e92.symm)
  have e95 : f62 = p91.2.2.1 := congrArg (fun z => z.2.2.1) (hE89.trans e92.symm)
  have e96 : y65 = p91.2.2.2.1 := congrArg (fun z => z.2.2.2.1) (hE89.trans e92.symm)
  have e97 : y66 = p91.2.2.2.2.1 := congrArg (fun z => z.2.2.2.2.1) (hE89.trans e92.symm)
  have e98 : f67 = p91.2.2.2.2.2.1 := congrArg (fun z => z.2.2.2.2.2.1) (hE89.trans e92.symm)
  have e99 : y70 = p91.2.2.2.2.2.2.1 := congrArg (fun z => z.2.2.2.2.2.2.1) (hE89.trans e92.symm)
  have e100 : y71 = p91.2.2.2.2.2.2.2.1 := congrArg (fun z => z.2.2.2.2.2.2.2.1) (hE89.trans e92.symm)
  have e101 : f72 = p91.2.2.2.2.2.2.2.2 := congrArg (fun z => z.2.2.2.2.2.2.2.2) (hE89.trans e92.symm)
  replace b74 : q_F (0 ≤ y71.toInt) := b74
  replace b75 : q_F (y71.toInt ≤ 0) := b75
  replace b76 : q_F (y60.toInt ≤ R4.toInt) := b76
  replace b77 : q_F (y61.toInt ≤ y31.toInt) := b77
  replace b78 : q_F (y65.toInt ≤ t2_0.toInt + 218) := b78
  replace b79 : q_F (y65.toInt ≤ R2.toInt) := b79
  replace b80 : q_F (y66.toInt ≤ t2_1.toInt) := b80
  replace b81 : q_F (y70.toInt ≤ t2_0.toInt + 219) := b81
  replace b82 : q_F (y70.toInt ≤ R4.toInt + 1) := b82
  replace b83 : q_F (y70.toInt ≤ 220) := b83
  replace b84 : q_F (y71.toInt ≤ y60.toInt) := b84
  replace b85 : q_F (y71.toInt ≤ y61.toInt) := b85
  replace b86 : q_F (y71.toInt ≤ y65.toInt) := b86
  replace b87 : q_F (y71.toInt ≤ y66.toInt) := b87
  replace b88 : q_F (y71.toInt ≤ y70.toInt) := b88
  replace hF := q_uc hF hu90 (by first | exact (q_sk (q_mi 4 rfl) (q_sk (q_mi 5 rfl) (q_sk (q_mi 2 rfl) (q_sk (q_mi 3 rfl) (q_sk (q_mi 0 rfl) (q_sk (q_mi 1 rfl) q_s0)))))) | simp)
  have hR102 := (show F_Mil_modulo_a_c11 R2 R4 t0_0 t0_1 t1_0 t2_0 t2_1 t3_0 t4_0 t4_1 t5_0 p41 p91 = (F_Mil_modulo_a R2 R4 t0_0 t0_1 t1_0 t2_0 t2_1 t3_0 t4_0 t4_1 t5_0) from Eq.trans (by rw [e92, e45, e44, e43, F_Mil_modulo_a_c2.eq_1]) hR46)
  have hS103 := (show True ∧ S_Mil_modulo_a_c11 R2 R4 t0_0 t0_1 t1_0 t2_0 t2_1 t3_0 t4_0 t4_1 t5_0 p41 p91 from (by rw [e92, e45, e44, e43]; have h := hS47; rw [S_Mil_modulo_a_c2.eq_1] at h; replace h := q_s2 h; with_reducible exact h))
  refine lv_aload_n hx hb d_8_4_14 rfl (lv_at hl 3 rfl) ?_
  refine q_get (ci := 2) (j := 2) (v := .int y61) C0 V i_Big rfl rfl hO59 (by decide) w_96 rfl d_8_4_15 ?_
  refine lv_if_eq (tgt := 27) hx hb d_8_4_18 (by decide) (fun c107 => ?_) (fun c107 => ?_)
  ·
    exact q_retv C0 V (⟨hI, hF, y70, y71, f72, y65, y66, f67, y60, y61, f62, hO69, hA73, hO64, hA68, hO59, hA63, (show 0 ≤ y71.toInt from (by first | with_reducible exact q_fe b74 | (have t1 : 0 ≤ y71.toInt := b74; omega))), (show y71.toInt ≤ 0 from (by first | with_reducible exact q_fe b75 | (have t1 : y71.toInt ≤ 0 := b75; omega))), (show y70.toInt ≤ t2_0.toInt + 219 from (by first | with_reducible exact q_fe b81 | (have t1 : y70.toInt ≤ t2_0.toInt + 219 := b81; omega))), (show y70.toInt ≤ R4.toInt + 1 from (by first | with_reducible exact q_fe b82 | (have t1 : y70.toInt ≤ R4.toInt + 1 := b82; omega))), (show y65.toInt ≤ t2_0.toInt + 218 from (by first | with_reducible exact q_fe b78 | (have t1 : y65.toInt ≤ t2_0.toInt + 218 := b78; omega))), (show y65.toInt ≤ R2.toInt from (by first | with_reducible exact q_fe b79 | (have t1 : y65.toInt ≤ R2.toInt := b79; omega))), (show y66.toInt ≤ t2_1.toInt from (by first | with_reducible exact q_fe b80 | (have t1 : y66.toInt ≤ t2_1.toInt := b80; omega))), (show y60.toInt ≤ R4.toInt from (by first | with_reducible exact q_fe b76 | (have t1 : y60.toInt ≤ R4.toInt := b76; omega))), (show y61.toInt ≤ t2_1.toInt from (by have t1 : y31.toInt ≤ t2_1.toInt := b38; have t2 : y61.toInt ≤ y31.toInt := b77; omega)), (show y71.toInt ≤ y70.toInt from (by first | with_reducible exact q_fe b88 | (have t1 : y71.toInt ≤ y70.toInt := b88; omega))), (show y70.toInt ≤ y71.toInt + 220 from (by have t1 : 0 ≤ y71.toInt := b74; have t2 : y70.toInt ≤ 220 := b83; omega)), (show y71.toInt ≤ y65.toInt from (by first | with_reducible exact q_fe b86 | (have t1 : y71.toInt ≤ y65.toInt := b86; omega))), (show y71.toInt ≤ y66.toInt from (by first | with_reducible exact q_fe b87 | (have t1 : y71.toInt ≤ y66.toInt := b87; omega))), (show y71.toInt ≤ y60.toInt from (by first | with_reducible exact q_fe b84 | (have t1 : y71.toInt ≤ y60.toInt := b84; omega))), (show y71.toInt ≤ y61.toInt from (by first | with_reducible exact q_fe b85 | (have t1 : y71.toInt ≤ y61.toInt := b85; omega))), (show (y70, y71, f72, y65, y66, f67, y60, y61, f62) = (F_Mil_modulo_a R2 R4 t0_0 t0_1 t1_0 t2_0 t2_1 t3_0 t4_0 t4_1 t5_0) from Eq.trans (by have c107x := c107; rw [e94] at c107x; rw [e101, e100, e99, e98, e97, e96, e95, e94, e93, F_Mil_modulo_a_c11.eq_1, if_pos c107x]) hR102)⟩) d_8_4_27
  ·
    have b109 : q_F (y61.toInt ≠ 0) := (q_neI c107)
    refine lv_aload_n hx hb d_8_4_21 rfl (lv_at hl 3 rfl) ?_
    refine lv_aload_n hx hb d_8_4_22 rfl (lv_at hl 2 rfl) ?_
    refine lv_iconst (v := 0) hx hb d_8_4_23 (by decide) ?_
    have ne110 := q_df hA68 hO59
    have ne111 := q_df hA63 hO64
    refine q_gov V (q_runV (As := [.ref (q k2), .int 0]) (rest := []) (d := 3) (mc := 0) (ms := 0) (ci := 2) C0 V rfl LV_Mil_55 (X_Big_addSigned l D g q u57 k4 R4 hB4 zk4 k2 R2 hB2 zk2 0 (by have z := ne_k2_k4; omega) hI y60 y61 hO59 f62 hA63 y65 y66 hO64 f67 hA68 ⟨(by have y0 : (0 : Int32).toInt = 0 := rfl; omega), (by have y0 : (0 : Int32).toInt = 0 := rfl; omega)⟩ _) rfl rfl hO59 rfl hl.1 rfl (Nat.le_of_ble_eq_true rfl) ⟨by decide, by decide⟩ ⟨Nat.le_of_ble_eq_true rfl, Nat.le_of_ble_eq_true rfl⟩ d_8_4_24) (fun u112 H locs hp113 V => ?_)
    obtain ⟨hI, hZ9⟩ := hp113
    obtain ⟨hu124, hZ9⟩ := hZ9
    obtain ⟨y115, hZ9⟩ := hZ9
    obtain ⟨y116, hZ9⟩ := hZ9
    obtain ⟨f117, hZ9⟩ := hZ9
    obtain ⟨hO114, hZ9⟩ := hZ9
    obtain ⟨hA118, hZ9⟩ := hZ9
    obtain ⟨b119, hZ9⟩ := hZ9
    obtain ⟨b120, hZ9⟩ := hZ9
    obtain ⟨b121, hZ9⟩ := hZ9
    obtain ⟨b122, hE123⟩ := hZ9
    replace hO114 : u112[k4]? = (some (q k4, .inr (2, [.ref (q (k4 + 1)), .int y115, .int y116])) : Option (Nat × va_E)) := hO114
    replace hA118 : u112[k4 + 1]? = (some (q (k4 + 1), .inl (g 0, R4.toNatClampNeg, .inl f117)) : Option (Nat × va_E)) := hA118
    obtain ⟨p125, e126⟩ : ∃ z, z = (F_Big_addSigned R4 R2 (0 : Int32) y60 y61 f62 y65 y66 f67) := ⟨_, rfl⟩
    have e127 : y115 = p125.1 := congrArg (fun z => z.1) (hE123.trans e126.symm)
    have e128 : y116 = p125.2.1 := congrArg (fun z => z.2.1) (hE123.trans e126.symm)
    have e129 : f117 = p125.2.2 := congrArg (fun z => z.2.2) (hE123.trans e126.symm)
    replace b119 : q_F (0 ≤ y115.toInt) := b119
    replace b120 : q_F (0 ≤ y116.toInt) := b120
    replace b121 : q_F (y116.toInt ≤ 1) := b121
    replace b122 : q_F (y115.toInt ≤ R4.toInt) := b122
    replace hO69 := (hu124 _ (by first | exact (q_nc (Ne.symm ne_k4_12) (q_nc (q_ns1 ne_k4_11) List.not_mem_nil)) | (have z0 := zk4; simp only [List.mem_cons, List.not_mem_nil, or_false, not_or]; omega))).trans hO69
    replace hA73 := (hu124 _ (by first | exact (q_nc (Ne.symm ne_k4_13) (q_nc (q_ns1 ne_k4_12) List.not_mem_nil)) | (have z0 := zk4; simp only [List.mem_cons, List.not_mem_nil, or_false, not_or]; omega))).trans hA73
    replace hO64 := (hu124 _ (q_nc (by have z := ne_k2_k4; omega) (q_nc (Ne.symm ne111) List.not_mem_nil))).trans hO64
    replace hA68 := (hu124 _ (q_nc ne110 (q_nc (by have z := ne_k2_k4; omega) List.not_mem_nil))).trans hA68
    replace hF := q_uc hF hu124 (by first | exact (q_sk (q_mi 4 rfl) (q_sk (q_mi 5 rfl) q_s0)) | simp)
    have hR130 := (show F_Mil_modulo_a_c24 R2 R4 t0_0 t0_1 t1_0 t2_0 t2_1 t3_0 t4_0 t4_1 t5_0 p41 p91 y70 y71 f72 y65 y66 f67 p125 = (F_Mil_modulo_a R2 R4 t0_0 t0_1 t1_0 t2_0 t2_1 t3_0 t4_0 t4_1 t5_0) from Eq.trans (by have c107x := c107; rw [e94] at c107x; rw [e126, e101, e100, e99, e98, e97, e96, e95, e94, e93, F_Mil_modulo_a_c11.eq_1, if_neg c107x]) hR102)
    have hS131 := (show True ∧ S_Mil_modulo_a_c24 R2 R4 t0_0 t0_1 t1_0 t2_0 t2_1 t3_0 t4_0 t4_1 t5_0 p41 p91 y70 y71 f72 y65 y66 f67 p125 from (by rw [e126, e101, e100, e99, e98, e97, e96, e95, e94, e93]; have h := hS103; rw [S_Mil_modulo_a_c11.eq_1] at h; have c107x := c107; rw [e94] at c107x; rw [if_neg c107x] at h; with_reducible exact h))
    exact q_retv C0 V (⟨hI, hF, y70, y71, f72, y65, y66, f67, y115, y116, f117, hO69, hA73, hO64, hA68, hO114, hA118, (show 0 ≤ y71.toInt from (by first | with_reducible exact q_fe b74 | (have t1 : 0 ≤ y71.toInt := b74; omega))), (show y71.toInt ≤ 0 from (by first | with_reducible exact q_fe b75 | (have t1 : y71.toInt ≤ 0 := b75; omega))), (show y70.toInt ≤ t2_0.toInt + 219 from (by first | with_reducible exact q_fe b81 | (have t1 : y70.toInt ≤ t2_0.toInt + 219 := b81; omega))), (show y70.toInt ≤ R4.toInt + 1 from (by first | with_reducible exact q_fe b82 | (have t1 : y70.toInt ≤ R4.toInt + 1 := b82; omega))), (show y65.toInt ≤ t2_0.toInt + 218 from (by first | with_reducible exact q_fe b78 | (have t1 : y65.toInt ≤ t2_0.toInt + 218 := b78; omega))), (show y65.toInt ≤ R2.toInt from (by first | with_reducible exact q_fe b79 | (have t1 : y65.toInt ≤ R2.toInt := b79; omega))), (show y66.toInt ≤ t2_1.toInt from (by first | with_reducible exact q_fe b80 | (have t1 : y66.toInt ≤ t2_1.toInt := b80; omega))), (show y115.toInt ≤ R4.toInt from (by first | with_reducible exact q_fe b122 | (have t1 : y115.toInt ≤ R4.toInt := b122; omega))), (show y116.toInt ≤ t2_1.toInt from (by have t1 : y31.toInt ≤ t2_1.toInt := b38; have t2 : 0 ≤ y71.toInt := b74; have t3 : y61.toInt ≤ y31.toInt := b77; have t4 : y71.toInt ≤ y61.toInt := b85; have t5 : y61.toInt ≠ 0 := b109; have t6 : y116.toInt ≤ 1 := b121; omega)), (show y71.toInt ≤ y70.toInt from (by first | with_reducible exact q_fe b88 | (have t1 : y71.toInt ≤ y70.toInt := b88; omega))), (show y70.toInt ≤ y71.toInt + 220 from (by have t1 : 0 ≤ y71.toInt := b74; have t2 : y70.toInt ≤ 220 := b83; omega)), (show y71.toInt ≤ y65.toInt from (by first | with_reducible exact q_fe b86 | (have t1 : y71.toInt ≤ y65.toInt := b86; omega))), (show y71.toInt ≤ y66.toInt from (by first | with_reducible exact q_fe b87 | (have t1 : y71.toInt ≤ y66.toInt := b87; omega))), (show y71.toInt ≤ y115.toInt from (by have t1 : y71.toInt ≤ 0 := b75; have t2 : 0 ≤ y115.toInt := b119; omega)), (show y71.toInt ≤ y116.toInt from (by have t1 : y71.toInt ≤ 0 := b75; have t2 : 0 ≤ y116.toInt := b120; omega)), (show (y70, y71, f72, y65, y66, f67, y115, y116, f117) = (F_Mil_modulo_a R2 R4 t0_0 t0_1 t1_0 t2_0 t2_1 t3_0 t4_0 t4_1 t5_0) from Eq.trans (by rw [e129, e128, e127, F_Mil_modulo_a_c24.eq_1]) hR130)⟩) d_8_4_27
theorem d_8_7_0 : decode prog_8_method_7_code 0 = .ok (.aload_n 0, 1) := by decide +kernel
theorem d_8_7_1 : decode prog_8_method_7_code 1 = .ok (.getfield 23, 3) := by decide +kernel
theorem d_8_7_4 : decode prog_8_method_7_code 4 = .ok (.lconst 1, 1) := by decide +kernel
theorem d_8_7_5 : decode prog_8_method_7_code 5 = .ok (.invokevirtual 77, 3) := by decide +kernel
theorem d_8_7_8 : decode prog_8_method_7_code 8 = .ok (.aload_n 0, 1) := by decide +kernel
theorem d_8_7_9 : decode prog_8_method_7_code 9 = .ok (.getfield 23, 3) := by decide +kernel
theorem d_8_7_12 : decode prog_8_method_7_code 12 = .ok (.aload_n 2, 1) := by decide +kernel
theorem d_8_7_13 : decode prog_8_method_7_code 13 = .ok (.aload_n 0, 1) := by decide +kernel
theorem d_8_7_14 : decode prog_8_method_7_code 14 = .ok (.getfield 20, 3) := by decide +kernel
theorem d_8_7_17 : decode prog_8_method_7_code 17 = .ok (.invokevirtual 59, 3) := by decide +kernel
theorem d_8_7_20 : decode prog_8_method_7_code 20 = .ok (.aload_n 1, 1) := by decide +kernel
theorem d_8_7_21 : decode prog_8_method_7_code 21 = .ok (.invokevirtual 85, 3) := by decide +kernel
theorem d_8_7_24 : decode prog_8_method_7_code 24 = .ok (.iconst 1, 1) := by decide +kernel
theorem d_8_7_25 : decode prog_8_method_7_code 25 = .ok (.isub, 1) := by decide +kernel
theorem d_8_7_26 : decode prog_8_method_7_code 26 = .ok (.istore_n 3, 1) := by decide +kernel
theorem d_8_7_27 : decode prog_8_method_7_code 27 = .ok (.iload_n 3, 1) := by decide +kernel
theorem d_8_7_28 : decode prog_8_method_7_code 28 = .ok (.ifCond .lt 86, 3) := by decide +kernel
theorem d_8_7_114 : decode prog_8_method_7_code 114 = .ok (.aload_n 0, 1) := by decide +kernel
theorem d_8_7_115 : decode prog_8_method_7_code 115 = .ok (.getfield 16, 3) := by decide +kernel
theorem d_8_7_118 : decode prog_8_method_7_code 118 = .ok (.aload_n 0, 1) := by decide +kernel
theorem d_8_7_119 : decode prog_8_method_7_code 119 = .ok (.getfield 23, 3) := by decide +kernel
theorem d_8_7_122 : decode prog_8_method_7_code 122 = .ok (.invokevirtual 51, 3) := by decide +kernel
theorem d_8_7_125 : decode prog_8_method_7_code 125 = .ok (.return_, 1) := by decide +kernel
theorem d_8_7_31 : decode prog_8_method_7_code 31 = .ok (.aload_n 0, 1) := by decide +kernel
theorem d_8_7_32 : decode prog_8_method_7_code 32 = .ok (.getfield 29, 3) := by decide +kernel
theorem d_8_7_35 : decode prog_8_method_7_code 35 = .ok (.aload_n 0, 1) := by decide +kernel
theorem d_8_7_36 : decode prog_8_method_7_code 36 = .ok (.getfield 23, 3) := by decide +kernel
theorem d_8_7_39 : decode prog_8_method_7_code 39 = .ok (.aload_n 0, 1) := by decide +kernel
theorem d_8_7_40 : decode prog_8_method_7_code 40 = .ok (.getfield 23, 3) := by decide +kernel
theorem d_8_7_43 : decode prog_8_method_7_code 43 = .ok (.invokevirtual 47, 3) := by decide +kernel
theorem d_8_7_46 : decode prog_8_method_7_code 46 = .ok (.aload_n 0, 1) := by decide +kernel
theorem d_8_7_47 : decode prog_8_method_7_code 47 = .ok (.getfield 29, 3) := by decide +kernel
theorem d_8_7_50 : decode prog_8_method_7_code 50 = .ok (.aload_n 2, 1) := by decide +kernel
theorem d_8_7_51 : decode prog_8_method_7_code 51 = .ok (.aload_n 0, 1) := by decide +kernel
theorem d_8_7_52 : decode prog_8_method_7_code 52 = .ok (.getfield 20, 3) := by decide +kernel
theorem d_8_7_55 : decode prog_8_method_7_code 55 = .ok (.invokevirtual 59, 3) := by decide +kernel
theorem d_8_7_58 : decode prog_8_method_7_code 58 = .ok (.aload_n 1, 1) := by decide +kernel
theorem d_8_7_59 : decode prog_8_method_7_code 59 = .ok (.iload_n 3, 1) := by decide +kernel
theorem d_8_7_60 : decode prog_8_method_7_code 60 = .ok (.invokevirtual 89, 3) := by decide +kernel
set_option maxRecDepth 100000 in
theorem w_1358 : (Cond.methodLink "NumberHouse$Mill" (89 : Nat) ({ cls := "NumberHouse$Big", name := "bit", desc := "(I)I" } : MethodName)) ∈ q_tbl := q_of6 158 rfl (by decide +kernel)
theorem LV_Mil_89 : q_LV "NumberHouse$Mill" 89 y_Big_bit prog_2_method_17_code 2 (some .int) 1 := ⟨w_746, w_4, w_1358, w_744, w_745, ⟨by decide, by decide, by decide +kernel⟩⟩
theorem d_8_7_63 : decode prog_8_method_7_code 63 = .ok (.iconst 1, 1) := by decide +kernel
theorem d_8_7_64 : decode prog_8_method_7_code 64 = .ok (.if_icmp .ne 33, 3) := by decide +kernel
theorem d_8_7_97 : decode prog_8_method_7_code 97 = .ok (.aload_n 0, 1) := by decide +kernel
theorem d_8_7_98 : decode prog_8_method_7_code 98 = .ok (.getfield 23, 3) := by decide +kernel
theorem d_8_7_101 : decode prog_8_method_7_code 101 = .ok (.aload_n 0, 1) := by decide +kernel
theorem d_8_7_102 : decode prog_8_method_7_code 102 = .ok (.getfield 29, 3) := by decide +kernel
theorem d_8_7_105 : decode prog_8_method_7_code 105 = .ok (.invokevirtual 51, 3) := by decide +kernel
theorem d_8_7_108 : decode prog_8_method_7_code 108 = .ok (.iinc 3 (-1), 3) := by decide +kernel
theorem d_8_7_111 : decode prog_8_method_7_code 111 = .ok (.goto (-84), 3) := by decide +kernel
theorem d_8_7_67 : decode prog_8_method_7_code 67 = .ok (.aload_n 0, 1) := by decide +kernel
theorem d_8_7_68 : decode prog_8_method_7_code 68 = .ok (.getfield 23, 3) := by decide +kernel
theorem d_8_7_71 : decode prog_8_method_7_code 71 = .ok (.aload_n 0, 1) := by decide +kernel
theorem d_8_7_72 : decode prog_8_method_7_code 72 = .ok (.getfield 29, 3) := by decide +kernel
theorem d_8_7_75 : decode prog_8_method_7_code 75 = .ok (.aload_n 0, 1) := by decide +kernel
theorem d_8_7_76 : decode prog_8_method_7_code 76 = .ok (.getfield 16, 3) := by decide +kernel
theorem d_8_7_79 : decode prog_8_method_7_code 79 = .ok (.invokevirtual 47, 3) := by decide +kernel
theorem d_8_7_82 : decode prog_8_method_7_code 82 = .ok (.aload_n 0, 1) := by decide +kernel
theorem d_8_7_83 : decode prog_8_method_7_code 83 = .ok (.getfield 23, 3) := by decide +kernel
theorem d_8_7_86 : decode prog_8_method_7_code 86 = .ok (.aload_n 2, 1) := by decide +kernel
theorem d_8_7_87 : decode prog_8_method_7_code 87 = .ok (.aload_n 0, 1) := by decide +kernel
theorem d_8_7_88 : decode prog_8_method_7_code 88 = .ok (.getfield 20, 3) := by decide +kernel
theorem d_8_7_91 : decode prog_8_method_7_code 91 = .ok (.invokevirtual 59, 3) := by decide +kernel
theorem d_8_7_94 : decode prog_8_method_7_code 94 = .ok (.goto 14, 3) := by decide +kernel
def y_Mil_powerBelow : MethodName := ⟨"NumberHouse$Mill", "powerBelow", "(LNumberHouse$Big;LNumberHouse$Big;)V"⟩
def F_Mil_powerBelow_c122 (K_F_Mil_powerBelow_L27 : Int32 → Int32 → Int32 → (Nat → Int32) → Int32 → Int32 → (Nat → Int32) → Int32 → Int32 → (Nat → Int32) → Int32 → Int32 → (Nat → Int32) → (Int32 × Int32 × (Nat → Int32) × Int32 × Int32 × (Nat → Int32) × Int32 × Int32 × (Nat → Int32) × Int32 × Int32 × (Nat → Int32) × Int32 × Int32 × (Nat → Int32))) (R : Int32) (R2 : Int32) (t0_0 : Int32) (t0_1 : Int32) (t1_0 : (Nat → Int32)) (t2_0 : Int32) (t2_1 : Int32) (t3_0 : (Nat → Int32)) (t4_0 : Int32) (t4_1 : Int32) (t5_0 : (Nat → Int32)) (t6_0 : Int32) (t6_1 : Int32) (t7_0 : (Nat → Int32)) (t8_0 : Int32) (t8_1 : Int32) (t9_0 : (Nat → Int32)) (t10_0 : Int32) (t10_1 : Int32) (t11_0 : (Nat → Int32)) (p64 : (Int32 × Int32 × (Nat → Int32))) (p111 : (Int32 × Int32 × (Nat → Int32) × Int32 × Int32 × (Nat → Int32) × Int32 × Int32 × (Nat → Int32))) (lx139 : Int32) (lx140 : Int32) (lx141 : Int32) (lx142 : (Nat → Int32)) (lx143 : Int32) (lx144 : Int32) (lx145 : (Nat → Int32)) (lx146 : Int32) (lx147 : Int32) (lx148 : (Nat → Int32)) (lx149 : Int32) (lx150 : Int32) (lx151 : (Nat → Int32)) (p210 : (Int32 × Int32 × (Nat → Int32))) : Int32 × Int32 × (Nat → Int32) × Int32 × Int32 × (Nat → Int32) × Int32 × Int32 × (Nat → Int32) × Int32 × Int32 × (Nat → Int32) × Int32 × Int32 × (Nat → Int32) := ((p210.1 : Int32), (p210.2.1 : Int32), (p210.2.2 : (Nat → Int32)), lx140, lx141, lx142, lx143, lx144, lx145, lx146, lx147, lx148, lx149, lx150, lx151)
def F_Mil_powerBelow_c105 (K_F_Mil_powerBelow_L27 : Int32 → Int32 → Int32 → (Nat → Int32) → Int32 → Int32 → (Nat → Int32) → Int32 → Int32 → (Nat → Int32) → Int32 → Int32 → (Nat → Int32) → (Int32 × Int32 × (Nat → Int32) × Int32 × Int32 × (Nat → Int32) × Int32 × Int32 × (Nat → Int32) × Int32 × Int32 × (Nat → Int32) × Int32 × Int32 × (Nat → Int32))) (R : Int32) (R2 : Int32) (t0_0 : Int32) (t0_1 : Int32) (t1_0 : (Nat → Int32)) (t2_0 : Int32) (t2_1 : Int32) (t3_0 : (Nat → Int32)) (t4_0 : Int32) (t4_1 : Int32) (t5_0 : (Nat → Int32)) (t6_0 : Int32) (t6_1 : Int32) (t7_0 : (Nat → Int32)) (t8_0 : Int32) (t8_1 : Int32) (t9_0 : (Nat → Int32)) (t10_0 : Int32) (t10_1 : Int32) (t11_0 : (Nat → Int32)) (p64 : (Int32 × Int32 × (Nat → Int32))) (p111 : (Int32 × Int32 × (Nat → Int32) × Int32 × Int32 × (Nat → Int32) × Int32 × Int32 × (Nat → Int32))) (lx139 : Int32) (lx140 : Int32) (lx141 : Int32) (lx142 : (Nat → Int32)) (lx143 : Int32) (lx144 : Int32) (lx145 : (Nat → Int32)) (lx146 : Int32) (lx147 : Int32) (lx148 : (Nat → Int32)) (lx149 : Int32) (lx150 : Int32) (lx151 : (Nat → Int32)) (p235 : (Int32 × Int32 × (Nat → Int32))) (p282 : (Int32 × Int32 × (Nat → Int32) × Int32 × Int32 × (Nat → Int32) × Int32 × Int32 × (Nat → Int32))) (y261 : Int32) (y262 : Int32) (f263 : (Nat → Int32)) (y251 : Int32) (y252 : Int32) (f253 : (Nat → Int32)) (y256 : Int32) (y257 : Int32) (f258 : (Nat → Int32)) (p321 : (Int32 × Int32 × (Nat → Int32))) : Int32 × Int32 × (Nat → Int32) × Int32 × Int32 × (Nat → Int32) × Int32 × Int32 × (Nat → Int32) × Int32 × Int32 × (Nat → Int32) × Int32 × Int32 × (Nat → Int32) := K_F_Mil_powerBelow_L27 (lx139 + (-1) : Int32) y261 y262 f263 (p321.1 : Int32) (p321.2.1 : Int32) (p321.2.2 : (Nat → Int32)) y251 y252 f253 y256 y257 f258
def F_Mil_powerBelow_c91 (K_F_Mil_powerBelow_L27 : Int32 → Int32 → Int32 → (Nat → Int32) → Int32 → Int32 → (Nat → Int32) → Int32 → Int32 → (Nat → Int32) → Int32 → Int32 → (Nat → Int32) → (Int32 × Int32 × (Nat → Int32) × Int32 × Int32 × (Nat → Int32) × Int32 × Int32 × (Nat → Int32) × Int32 × Int32 × (Nat → Int32) × Int32 × Int32 × (Nat → Int32))) (R : Int32) (R2 : Int32) (t0_0 : Int32) (t0_1 : Int32) (t1_0 : (Nat → Int32)) (t2_0 : Int32) (t2_1 : Int32) (t3_0 : (Nat → Int32)) (t4_0 : Int32) (t4_1 : Int32) (t5_0 : (Nat → Int32)) (t6_0 : Int32) (t6_1 : Int32) (t7_0 : (Nat → Int32)) (t8_0 : Int32) (t8_1 : Int32) (t9_0 : (Nat → Int32)) (t10_0 : Int32) (t10_1 : Int32) (t11_0 : (Nat → Int32)) (p64 : (Int32 × Int32 × (Nat → Int32))) (p111 : (Int32 × Int32 × (Nat → Int32) × Int32 × Int32 × (Nat → Int32) × Int32 × Int32 × (Nat → Int32))) (lx139 : Int32) (lx140 : Int32) (lx141 : Int32) (lx142 : (Nat → Int32)) (lx143 : Int32) (lx144 : Int32) (lx145 : (Nat → Int32)) (lx146 : Int32) (lx147 : Int32) (lx148 : (Nat → Int32)) (lx149 : Int32) (lx150 : Int32) (lx151 : (Nat → Int32)) (p235 : (Int32 × Int32 × (Nat → Int32))) (p282 : (Int32 × Int32 × (Nat → Int32) × Int32 × Int32 × (Nat → Int32) × Int32 × Int32 × (Nat → Int32))) (y261 : Int32) (y262 : Int32) (f263 : (Nat → Int32)) (y251 : Int32) (y252 : Int32) (f253 : (Nat → Int32)) (y256 : Int32) (y257 : Int32) (f258 : (Nat → Int32)) (p348 : (Int32 × Int32 × (Nat → Int32))) (p395 : (Int32 × Int32 × (Nat → Int32) × Int32 × Int32 × (Nat → Int32) × Int32 × Int32 × (Nat → Int32))) : Int32 × Int32 × (Nat → Int32) × Int32 × Int32 × (Nat → Int32) × Int32 × Int32 × (Nat → Int32) × Int32 × Int32 × (Nat → Int32) × Int32 × Int32 × (Nat → Int32) := K_F_Mil_powerBelow_L27 (lx139 + (-1) : Int32) (p395.2.2.2.2.2.2.1 : Int32) (p395.2.2.2.2.2.2.2.1 : Int32) (p395.2.2.2.2.2.2.2.2 : (Nat → Int32)) (p395.1 : Int32) (p395.2.1 : Int32) (p395.2.2.1 : (Nat → Int32)) y251 y252 f253 (p395.2.2.2.1 : Int32) (p395.2.2.2.2.1 : Int32) (p395.2.2.2.2.2.1 : (Nat → Int32))
def F_Mil_powerBelow_c79 (K_F_Mil_powerBelow_L27 : Int32 → Int32 → Int32 → (Nat → Int32) → Int32 → Int32 → (Nat → Int32) → Int32 → Int32 → (Nat → Int32) → Int32 → Int32 → (Nat → Int32) → (Int32 × Int32 × (Nat → Int32) × Int32 × Int32 × (Nat → Int32) × Int32 × Int32 × (Nat → Int32) × Int32 × Int32 × (Nat → Int32) × Int32 × Int32 × (Nat → Int32))) (R : Int32) (R2 : Int32) (t0_0 : Int32) (t0_1 : Int32) (t1_0 : (Nat → Int32)) (t2_0 : Int32) (t2_1 : Int32) (t3_0 : (Nat → Int32)) (t4_0 : Int32) (t4_1 : Int32) (t5_0 : (Nat → Int32)) (t6_0 : Int32) (t6_1 : Int32) (t7_0 : (Nat → Int32)) (t8_0 : Int32) (t8_1 : Int32) (t9_0 : (Nat → Int32)) (t10_0 : Int32) (t10_1 : Int32) (t11_0 : (Nat → Int32)) (p64 : (Int32 × Int32 × (Nat → Int32))) (p111 : (Int32 × Int32 × (Nat → Int32) × Int32 × Int32 × (Nat → Int32) × Int32 × Int32 × (Nat → Int32))) (lx139 : Int32) (lx140 : Int32) (lx141 : Int32) (lx142 : (Nat → Int32)) (lx143 : Int32) (lx144 : Int32) (lx145 : (Nat → Int32)) (lx146 : Int32) (lx147 : Int32) (lx148 : (Nat → Int32)) (lx149 : Int32) (lx150 : Int32) (lx151 : (Nat → Int32)) (p235 : (Int32 × Int32 × (Nat → Int32))) (p282 : (Int32 × Int32 × (Nat → Int32) × Int32 × Int32 × (Nat → Int32) × Int32 × Int32 × (Nat → Int32))) (y261 : Int32) (y262 : Int32) (f263 : (Nat → Int32)) (y251 : Int32) (y252 : Int32) (f253 : (Nat → Int32)) (y256 : Int32) (y257 : Int32) (f258 : (Nat → Int32)) (p348 : (Int32 × Int32 × (Nat → Int32))) : Int32 × Int32 × (Nat → Int32) × Int32 × Int32 × (Nat → Int32) × Int32 × Int32 × (Nat → Int32) × Int32 × Int32 × (Nat → Int32) × Int32 × Int32 × (Nat → Int32) := F_Mil_powerBelow_c91 K_F_Mil_powerBelow_L27 R R2 t0_0 t0_1 t1_0 t2_0 t2_1 t3_0 t4_0 t4_1 t5_0 t6_0 t6_1 t7_0 t8_0 t8_1 t9_0 t10_0 t10_1 t11_0 p64 p111 lx139 lx140 lx141 lx142 lx143 lx144 lx145 lx146 lx147 lx148 lx149 lx150 lx151 p235 p282 y261 y262 f263 y251 y252 f253 y256 y257 f258 p348 ((F_Big_divideBy (220 : Int32) R2 (220 : Int32) (p348.1 : Int32) (p348.2.1 : Int32) (p348.2.2 : (Nat → Int32)) y256 y257 f258 y261 y262 f263) : (Int32 × Int32 × (Nat → Int32) × Int32 × Int32 × (Nat → Int32) × Int32 × Int32 × (Nat → Int32)))
def F_Mil_powerBelow_c55 (K_F_Mil_powerBelow_L27 : Int32 → Int32 → Int32 → (Nat → Int32) → Int32 → Int32 → (Nat → Int32) → Int32 → Int32 → (Nat → Int32) → Int32 → Int32 → (Nat → Int32) → (Int32 × Int32 × (Nat → Int32) × Int32 × Int32 × (Nat → Int32) × Int32 × Int32 × (Nat → Int32) × Int32 × Int32 × (Nat → Int32) × Int32 × Int32 × (Nat → Int32))) (R : Int32) (R2 : Int32) (t0_0 : Int32) (t0_1 : Int32) (t1_0 : (Nat → Int32)) (t2_0 : Int32) (t2_1 : Int32) (t3_0 : (Nat → Int32)) (t4_0 : Int32) (t4_1 : Int32) (t5_0 : (Nat → Int32)) (t6_0 : Int32) (t6_1 : Int32) (t7_0 : (Nat → Int32)) (t8_0 : Int32) (t8_1 : Int32) (t9_0 : (Nat → Int32)) (t10_0 : Int32) (t10_1 : Int32) (t11_0 : (Nat → Int32)) (p64 : (Int32 × Int32 × (Nat → Int32))) (p111 : (Int32 × Int32 × (Nat → Int32) × Int32 × Int32 × (Nat → Int32) × Int32 × Int32 × (Nat → Int32))) (lx139 : Int32) (lx140 : Int32) (lx141 : Int32) (lx142 : (Nat → Int32)) (lx143 : Int32) (lx144 : Int32) (lx145 : (Nat → Int32)) (lx146 : Int32) (lx147 : Int32) (lx148 : (Nat → Int32)) (lx149 : Int32) (lx150 : Int32) (lx151 : (Nat → Int32)) (p235 : (Int32 × Int32 × (Nat → Int32))) (p282 : (Int32 × Int32 × (Nat → Int32) × Int32 × Int32 × (Nat → Int32) × Int32 × Int32 × (Nat → Int32))) : Int32 × Int32 × (Nat → Int32) × Int32 × Int32 × (Nat → Int32) × Int32 × Int32 × (Nat → Int32) × Int32 × Int32 × (Nat → Int32) × Int32 × Int32 × (Nat → Int32) := if ((F_Big_bit R lx139 t8_0 t8_1 t9_0) : Int32) = (1 : Int32) then (F_Mil_powerBelow_c79 K_F_Mil_powerBelow_L27 R R2 t0_0 t0_1 t1_0 t2_0 t2_1 t3_0 t4_0 t4_1 t5_0 t6_0 t6_1 t7_0 t8_0 t8_1 t9_0 t10_0 t10_1 t11_0 p64 p111 lx139 lx140 lx141 lx142 lx143 lx144 lx145 lx146 lx147 lx148 lx149 lx150 lx151 p235 p282 (p282.2.2.2.2.2.2.1 : Int32) (p282.2.2.2.2.2.2.2.1 : Int32) (p282.2.2.2.2.2.2.2.2 : (Nat → Int32)) (p282.1 : Int32) (p282.2.1 : Int32) (p282.2.2.1 : (Nat → Int32)) (p282.2.2.2.1 : Int32) (p282.2.2.2.2.1 : Int32) (p282.2.2.2.2.2.1 : (Nat → Int32)) ((F_Big_product (220 : Int32) (220 : Int32) (220 : Int32) lx143 lx144 lx145 (p282.1 : Int32) (p282.2.1 : Int32) (p282.2.2.1 : (Nat → Int32)) t0_0 t0_1 t1_0) : (Int32 × Int32 × (Nat → Int32)))) else (F_Mil_powerBelow_c105 K_F_Mil_powerBelow_L27 R R2 t0_0 t0_1 t1_0 t2_0 t2_1 t3_0 t4_0 t4_1 t5_0 t6_0 t6_1 t7_0 t8_0 t8_1 t9_0 t10_0 t10_1 t11_0 p64 p111 lx139 lx140 lx141 lx142 lx143 lx144 lx145 lx146 lx147 lx148 lx149 lx150 lx151 p235 p282 (p282.2.2.2.2.2.2.1 : Int32) (p282.2.2.2.2.2.2.2.1 : Int32) (p282.2.2.2.2.2.2.2.2 : (Nat → Int32)) (p282.1 : Int32) (p282.2.1 : Int32) (p282.2.2.1 : (Nat → Int32)) (p282.2.2.2.1 : Int32) (p282.2.2.2.2.1 : Int32) (p282.2.2.2.2.2.1 : (Nat → Int32)) ((F_Big_copy (220 : Int32) (220 : Int32) lx143 lx144 lx145 (p282.1 : Int32) (p282.2.1 : Int32) (p282.2.2.1 : (Nat → Int32))) : (Int32 × Int32 × (Nat → Int32))))
def F_Mil_powerBelow_c43 (K_F_Mil_powerBelow_L27 : Int32 → Int32 → Int32 → (Nat → Int32) → Int32 → Int32 → (Nat → Int32) → Int32 → Int32 → (Nat → Int32) → Int32 → Int32 → (Nat → Int32) → (Int32 × Int32 × (Nat → Int32) × Int32 × Int32 × (Nat → Int32) × Int32 × Int32 × (Nat → Int32) × Int32 × Int32 × (Nat → Int32) × Int32 × Int32 × (Nat → Int32))) (R : Int32) (R2 : Int32) (t0_0 : Int32) (t0_1 : Int32) (t1_0 : (Nat → Int32)) (t2_0 : Int32) (t2_1 : Int32) (t3_0 : (Nat → Int32)) (t4_0 : Int32) (t4_1 : Int32) (t5_0 : (Nat → Int32)) (t6_0 : Int32) (t6_1 : Int32) (t7_0 : (Nat → Int32)) (t8_0 : Int32) (t8_1 : Int32) (t9_0 : (Nat → Int32)) (t10_0 : Int32) (t10_1 : Int32) (t11_0 : (Nat → Int32)) (p64 : (Int32 × Int32 × (Nat → Int32))) (p111 : (Int32 × Int32 × (Nat → Int32) × Int32 × Int32 × (Nat → Int32) × Int32 × Int32 × (Nat → Int32))) (lx139 : Int32) (lx140 : Int32) (lx141 : Int32) (lx142 : (Nat → Int32)) (lx143 : Int32) (lx144 : Int32) (lx145 : (Nat → Int32)) (lx146 : Int32) (lx147 : Int32) (lx148 : (Nat → Int32)) (lx149 : Int32) (lx150 : Int32) (lx151 : (Nat → Int32)) (p235 : (Int32 × Int32 × (Nat → Int32))) : Int32 × Int32 × (Nat → Int32) × Int32 × Int32 × (Nat → Int32) × Int32 × Int32 × (Nat → Int32) × Int32 × Int32 × (Nat → Int32) × Int32 × Int32 × (Nat → Int32) := F_Mil_powerBelow_c55 K_F_Mil_powerBelow_L27 R R2 t0_0 t0_1 t1_0 t2_0 t2_1 t3_0 t4_0 t4_1 t5_0 t6_0 t6_1 t7_0 t8_0 t8_1 t9_0 t10_0 t10_1 t11_0 p64 p111 lx139 lx140 lx141 lx142 lx143 lx144 lx145 lx146 lx147 lx148 lx149 lx150 lx151 p235 ((F_Big_divideBy (220 : Int32) R2 (220 : Int32) (p235.1 : Int32) (p235.2.1 : Int32) (p235.2.2 : (Nat → Int32)) lx149 lx150 lx151 lx140 lx141 lx142) : (Int32 × Int32 × (Nat → Int32) × Int32 × Int32 × (Nat → Int32) × Int32 × Int32 × (Nat → Int32)))
def F_Mil_powerBelow_L27 (R : Int32) (R2 : Int32) (t0_0 : Int32) (t0_1 : Int32) (t1_0 : (Nat → Int32)) (t2_0 : Int32) (t2_1 : Int32) (t3_0 : (Nat → Int32)) (t4_0 : Int32) (t4_1 : Int32) (t5_0 : (Nat → Int32)) (t6_0 : Int32) (t6_1 : Int32) (t7_0 : (Nat → Int32)) (t8_0 : Int32) (t8_1 : Int32) (t9_0 : (Nat → Int32)) (t10_0 : Int32) (t10_1 : Int32) (t11_0 : (Nat → Int32)) (p64 : (Int32 × Int32 × (Nat → Int32))) (p111 : (Int32 × Int32 × (Nat → Int32) × Int32 × Int32 × (Nat → Int32) × Int32 × Int32 × (Nat → Int32))) : Nat → Int32 → Int32 → Int32 → (Nat → Int32) → Int32 → Int32 → (Nat → Int32) → Int32 → Int32 → (Nat → Int32) → Int32 → Int32 → (Nat → Int32) → (Int32 × Int32 × (Nat → Int32) × Int32 × Int32 × (Nat → Int32) × Int32 × Int32 × (Nat → Int32) × Int32 × Int32 × (Nat → Int32) × Int32 × Int32 × (Nat → Int32))
  | 0, _, _, _, _, _, _, _, _, _, _, _, _, _ => default
  | fm + 1, lx139, lx140, lx141, lx142, lx143, lx144, lx145, lx146, lx147, lx148, lx149, lx150, lx151 => if lx139 < (0 : Int32) then (F_Mil_powerBelow_c122 (F_Mil_powerBelow_L27 R R2 t0_0 t0_1 t1_0 t2_0 t2_1 t3_0 t4_0 t4_1 t5_0 t6_0 t6_1 t7_0 t8_0 t8_1 t9_0 t10_0 t10_1 t11_0 p64 p111 fm) R R2 t0_0 t0_1 t1_0 t2_0 t2_1 t3_0 t4_0 t4_1 t5_0 t6_0 t6_1 t7_0 t8_0 t8_1 t9_0 t10_0 t10_1 t11_0 p64 p111 lx139 lx140 lx141 lx142 lx143 lx144 lx145 lx146 lx147 lx148 lx149 lx150 lx151 ((F_Big_copy (220 : Int32) (220 : Int32) t0_0 t0_1 t1_0 lx143 lx144 lx145) : (Int32 × Int32 × (Nat → Int32)))) else (F_Mil_powerBelow_c43 (F_Mil_powerBelow_L27 R R2 t0_0 t0_1 t1_0 t2_0 t2_1 t3_0 t4_0 t4_1 t5_0 t6_0 t6_1 t7_0 t8_0 t8_1 t9_0 t10_0 t10_1 t11_0 p64 p111 fm) R R2 t0_0 t0_1 t1_0 t2_0 t2_1 t3_0 t4_0 t4_1 t5_0 t6_0 t6_1 t7_0 t8_0 t8_1 t9_0 t10_0 t10_1 t11_0 p64 p111 lx139 lx140 lx141 lx142 lx143 lx144 lx145 lx146 lx147 lx148 lx149 lx150 lx151 ((F_Big_product (220 : Int32) (220 : Int32) (220 : Int32) lx146 lx147 lx148 lx143 lx144 lx145 lx143 lx144 lx145) : (Int32 × Int32 × (Nat → Int32))))
def F_Mil_powerBelow_c17 (R : Int32) (R2 : Int32) (t0_0 : Int32) (t0_1 : Int32) (t1_0 : (Nat → Int32)) (t2_0 : Int32) (t2_1 : Int32) (t3_0 : (Nat → Int32)) (t4_0 : Int32) (t4_1 : Int32) (t5_0 : (Nat → Int32)) (t6_0 : Int32) (t6_1 : Int32) (t7_0 : (Nat → Int32)) (t8_0 : Int32) (t8_1 : Int32) (t9_0 : (Nat → Int32)) (t10_0 : Int32) (t10_1 : Int32) (t11_0 : (Nat → Int32)) (p64 : (Int32 × Int32 × (Nat → Int32))) (p111 : (Int32 × Int32 × (Nat → Int32) × Int32 × Int32 × (Nat → Int32) × Int32 × Int32 × (Nat → Int32))) : Int32 × Int32 × (Nat → Int32) × Int32 × Int32 × (Nat → Int32) × Int32 × Int32 × (Nat → Int32) × Int32 × Int32 × (Nat → Int32) × Int32 × Int32 × (Nat → Int32) := F_Mil_powerBelow_L27 R R2 t0_0 t0_1 t1_0 t2_0 t2_1 t3_0 t4_0 t4_1 t5_0 t6_0 t6_1 t7_0 t8_0 t8_1 t9_0 t10_0 t10_1 t11_0 p64 p111 (((((F_Big_bitLength R t8_0 t8_1 t9_0) : Int32) - 1 : Int32).toInt - ((-1))).toNat + 1) (((F_Big_bitLength R t8_0 t8_1 t9_0) : Int32) - 1 : Int32) (p111.2.2.2.2.2.2.1 : Int32) (p111.2.2.2.2.2.2.2.1 : Int32) (p111.2.2.2.2.2.2.2.2 : (Nat → Int32)) (p111.1 : Int32) (p111.2.1 : Int32) (p111.2.2.1 : (Nat → Int32)) t6_0 t6_1 t7_0 (p111.2.2.2.1 : Int32) (p111.2.2.2.2.1 : Int32) (p111.2.2.2.2.2.1 : (Nat → Int32))
def F_Mil_powerBelow_c5 (R : Int32) (R2 : Int32) (t0_0 : Int32) (t0_1 : Int32) (t1_0 : (Nat → Int32)) (t2_0 : Int32) (t2_1 : Int32) (t3_0 : (Nat → Int32)) (t4_0 : Int32) (t4_1 : Int32) (t5_0 : (Nat → Int32)) (t6_0 : Int32) (t6_1 : Int32) (t7_0 : (Nat → Int32)) (t8_0 : Int32) (t8_1 : Int32) (t9_0 : (Nat → Int32)) (t10_0 : Int32) (t10_1 : Int32) (t11_0 : (Nat → Int32)) (p64 : (Int32 × Int32 × (Nat → Int32))) : Int32 × Int32 × (Nat → Int32) × Int32 × Int32 × (Nat → Int32) × Int32 × Int32 × (Nat → Int32) × Int32 × Int32 × (Nat → Int32) × Int32 × Int32 × (Nat → Int32) := F_Mil_powerBelow_c17 R R2 t0_0 t0_1 t1_0 t2_0 t2_1 t3_0 t4_0 t4_1 t5_0 t6_0 t6_1 t7_0 t8_0 t8_1 t9_0 t10_0 t10_1 t11_0 p64 ((F_Big_divideBy (220 : Int32) R2 (220 : Int32) (p64.1 : Int32) (p64.2.1 : Int32) (p64.2.2 : (Nat → Int32)) t10_0 t10_1 t11_0 t2_0 t2_1 t3_0) : (Int32 × Int32 × (Nat → Int32) × Int32 × Int32 × (Nat → Int32) × Int32 × Int32 × (Nat → Int32)))
def F_Mil_powerBelow (R : Int32) (R2 : Int32) (t0_0 : Int32) (t0_1 : Int32) (t1_0 : (Nat → Int32)) (t2_0 : Int32) (t2_1 : Int32) (t3_0 : (Nat → Int32)) (t4_0 : Int32) (t4_1 : Int32) (t5_0 : (Nat → Int32)) (t6_0 : Int32) (t6_1 : Int32) (t7_0 : (Nat → Int32)) (t8_0 : Int32) (t8_1 : Int32) (t9_0 : (Nat → Int32)) (t10_0 : Int32) (t10_1 : Int32) (t11_0 : (Nat → Int32)) : Int32 × Int32 × (Nat → Int32) × Int32 × Int32 × (Nat → Int32) × Int32 × Int32 × (Nat → Int32) × Int32 × Int32 × (Nat → Int32) × Int32 × Int32 × (Nat → Int32) := F_Mil_powerBelow_c5 R R2 t0_0 t0_1 t1_0 t2_0 t2_1 t3_0 t4_0 t4_1 t5_0 t6_0 t6_1 t7_0 t8_0 t8_1 t9_0 t10_0 t10_1 t11_0 ((F_Big_setLong (220 : Int32) (1 : Int64) t4_0 t4_1 t5_0) : (Int32 × Int32 × (Nat → Int32)))
def S_Mil_powerBelow_c122 (K_S_Mil_powerBelow_L27 : Int32 → Int32 → Int32 → (Nat → Int32) → Int32 → Int32 → (Nat → Int32) → Int32 → Int32 → (Nat → Int32) → Int32 → Int32 → (Nat → Int32) → Prop) (R : Int32) (R2 : Int32) (t0_0 : Int32) (t0_1 : Int32) (t1_0 : (Nat → Int32)) (t2_0 : Int32) (t2_1 : Int32) (t3_0 : (Nat → Int32)) (t4_0 : Int32) (t4_1 : Int32) (t5_0 : (Nat → Int32)) (t6_0 : Int32) (t6_1 : Int32) (t7_0 : (Nat → Int32)) (t8_0 : Int32) (t8_1 : Int32) (t9_0 : (Nat → Int32)) (t10_0 : Int32) (t10_1 : Int32) (t11_0 : (Nat → Int32)) (p64 : (Int32 × Int32 × (Nat → Int32))) (p111 : (Int32 × Int32 × (Nat → Int32) × Int32 × Int32 × (Nat → Int32) × Int32 × Int32 × (Nat → Int32))) (lx139 : Int32) (lx140 : Int32) (lx141 : Int32) (lx142 : (Nat → Int32)) (lx143 : Int32) (lx144 : Int32) (lx145 : (Nat → Int32)) (lx146 : Int32) (lx147 : Int32) (lx148 : (Nat → Int32)) (lx149 : Int32) (lx150 : Int32) (lx151 : (Nat → Int32)) (p210 : (Int32 × Int32 × (Nat → Int32))) : Prop := True
def S_Mil_powerBelow_c105 (K_S_Mil_powerBelow_L27 : Int32 → Int32 → Int32 → (Nat → Int32) → Int32 → Int32 → (Nat → Int32) → Int32 → Int32 → (Nat → Int32) → Int32 → Int32 → (Nat → Int32) → Prop) (R : Int32) (R2 : Int32) (t0_0 : Int32) (t0_1 : Int32) (t1_0 : (Nat → Int32)) (t2_0 : Int32) (t2_1 : Int32) (t3_0 : (Nat → Int32)) (t4_0 : Int32) (t4_1 : Int32) (t5_0 : (Nat → Int32)) (t6_0 : Int32) (t6_1 : Int32) (t7_0 : (Nat → Int32)) (t8_0 : Int32) (t8_1 : Int32) (t9_0 : (Nat → Int32)) (t10_0 : Int32) (t10_1 : Int32) (t11_0 : (Nat → Int32)) (p64 : (Int32 × Int32 × (Nat → Int32))) (p111 : (Int32 × Int32 × (Nat → Int32) × Int32 × Int32 × (Nat → Int32) × Int32 × Int32 × (Nat → Int32))) (lx139 : Int32) (lx140 : Int32) (lx141 : Int32) (lx142 : (Nat → Int32)) (lx143 : Int32) (lx144 : Int32) (lx145 : (Nat → Int32)) (lx146 : Int32) (lx147 : Int32) (lx148 : (Nat → Int32)) (lx149 : Int32) (lx150 : Int32) (lx151 : (Nat → Int32)) (p235 : (Int32 × Int32 × (Nat → Int32))) (p282 : (Int32 × Int32 × (Nat → Int32) × Int32 × Int32 × (Nat → Int32) × Int32 × Int32 × (Nat → Int32))) (y261 : Int32) (y262 : Int32) (f263 : (Nat → Int32)) (y251 : Int32) (y252 : Int32) (f253 : (Nat → Int32)) (y256 : Int32) (y257 : Int32) (f258 : (Nat → Int32)) (p321 : (Int32 × Int32 × (Nat → Int32))) : Prop := K_S_Mil_powerBelow_L27 (lx139 + (-1) : Int32) y261 y262 f263 (p321.1 : Int32) (p321.2.1 : Int32) (p321.2.2 : (Nat → Int32)) y251 y252 f253 y256 y257 f258
def S_Mil_powerBelow_c91 (K_S_Mil_powerBelow_L27 : Int32 → Int32 → Int32 → (Nat → Int32) → Int32 → Int32 → (Nat → Int32) → Int32 → Int32 → (Nat → Int32) → Int32 → Int32 → (Nat → Int32) → Prop) (R : Int32) (R2 : Int32) (t0_0 : Int32) (t0_1 : Int32) (t1_0 : (Nat → Int32)) (t2_0 : Int32) (t2_1 : Int32) (t3_0 : (Nat → Int32)) (t4_0 : Int32) (t4_1 : Int32) (t5_0 : (Nat → Int32)) (t6_0 : Int32) (t6_1 : Int32) (t7_0 : (Nat → Int32)) (t8_0 : Int32) (t8_1 : Int32) (t9_0 : (Nat → Int32)) (t10_0 : Int32) (t10_1 : Int32) (t11_0 : (Nat → Int32)) (p64 : (Int32 × Int32 × (Nat → Int32))) (p111 : (Int32 × Int32 × (Nat → Int32) × Int32 × Int32 × (Nat → Int32) × Int32 × Int32 × (Nat → Int32))) (lx139 : Int32) (lx140 : Int32) (lx141 : Int32) (lx142 : (Nat → Int32)) (lx143 : Int32) (lx144 : Int32) (lx145 : (Nat → Int32)) (lx146 : Int32) (lx147 : Int32) (lx148 : (Nat → Int32)) (lx149 : Int32) (lx150 : Int32) (lx151 : (Nat → Int32)) (p235 : (Int32 × Int32 × (Nat → Int32))) (p282 : (Int32 × Int32 × (Nat → Int32) × Int32 × Int32 × (Nat → Int32) × Int32 × Int32 × (Nat → Int32))) (y261 : Int32) (y262 : Int32) (f263 : (Nat → Int32)) (y251 : Int32) (y252 : Int32) (f253 : (Nat → Int32)) (y256 : Int32) (y257 : Int32) (f258 : (Nat → Int32)) (p348 : (Int32 × Int32 × (Nat → Int32))) (p395 : (Int32 × Int32 × (Nat → Int32) × Int32 × Int32 × (Nat → Int32) × Int32 × Int32 × (Nat → Int32))) : Prop := K_S_Mil_powerBelow_L27 (lx139 + (-1) : Int32) (p395.2.2.2.2.2.2.1 : Int32) (p395.2.2.2.2.2.2.2.1 : Int32) (p395.2.2.2.2.2.2.2.2 : (Nat → Int32)) (p395.1 : Int32) (p395.2.1 : Int32) (p395.2.2.1 : (Nat → Int32)) y251 y252 f253 (p395.2.2.2.1 : Int32) (p395.2.2.2.2.1 : Int32) (p395.2.2.2.2.2.1 : (Nat → Int32))
def S_Mil_powerBelow_c79 (K_S_Mil_powerBelow_L27 : Int32 → Int32 → Int32 → (Nat → Int32) → Int32 → Int32 → (Nat → Int32) → Int32 → Int32 → (Nat → Int32) → Int32 → Int32 → (Nat → Int32) → Prop) (R : Int32) (R2 : Int32) (t0_0 : Int32) (t0_1 : Int32) (t1_0 : (Nat → Int32)) (t2_0 : Int32) (t2_1 : Int32) (t3_0 : (Nat → Int32)) (t4_0 : Int32) (t4_1 : Int32) (t5_0 : (Nat → Int32)) (t6_0 : Int32) (t6_1 : Int32) (t7_0 : (Nat → Int32)) (t8_0 : Int32) (t8_1 : Int32) (t9_0 : (Nat → Int32)) (t10_0 : Int32) (t10_1 : Int32) (t11_0 : (Nat → Int32)) (p64 : (Int32 × Int32 × (Nat → Int32))) (p111 : (Int32 × Int32 × (Nat → Int32) × Int32 × Int32 × (Nat → Int32) × Int32 × Int32 × (Nat → Int32))) (lx139 : Int32) (lx140 : Int32) (lx141 : Int32) (lx142 : (Nat → Int32)) (lx143 : Int32) (lx144 : Int32) (lx145 : (Nat → Int32)) (lx146 : Int32) (lx147 : Int32) (lx148 : (Nat → Int32)) (lx149 : Int32) (lx150 : Int32) (lx151 : (Nat → Int32)) (p235 : (Int32 × Int32 × (Nat → Int32))) (p282 : (Int32 × Int32 × (Nat → Int32) × Int32 × Int32 × (Nat → Int32) × Int32 × Int32 × (Nat → Int32))) (y261 : Int32) (y262 : Int32) (f263 : (Nat → Int32)) (y251 : Int32) (y252 : Int32) (f253 : (Nat → Int32)) (y256 : Int32) (y257 : Int32) (f258 : (Nat → Int32)) (p348 : (Int32 × Int32 × (Nat → Int32))) : Prop := (True ∧ S_Big_divideBy (220 : Int32) R2 (220 : Int32) (p348.1 : Int32) (p348.2.1 : Int32) (p348.2.2 : (Nat → Int32)) y256 y257 f258 y261 y262 f263) ∧ (S_Mil_powerBelow_c91 K_S_Mil_powerBelow_L27 R R2 t0_0 t0_1 t1_0 t2_0 t2_1 t3_0 t4_0 t4_1 t5_0 t6_0 t6_1 t7_0 t8_0 t8_1 t9_0 t10_0 t10_1 t11_0 p64 p111 lx139 lx140 lx141 lx142 lx143 lx144 lx145 lx146 lx147 lx148 lx149 lx150 lx151 p235 p282 y261 y262 f263 y251 y252 f253 y256 y257 f258 p348 ((F_Big_divideBy (220 : Int32) R2 (220 : Int32) (p348.1 : Int32) (p348.2.1 : Int32) (p348.2.2 : (Nat → Int32)) y256 y257 f258 y261 y262 f263) : (Int32 × Int32 × (Nat → Int32) × Int32 × Int32 × (Nat → Int32) × Int32 × Int32 × (Nat → Int32))))
def S_Mil_powerBelow_c55 (K_S_Mil_powerBelow_L27 : Int32 → Int32 → Int32 → (Nat → Int32) → Int32 → Int32 → (Nat → Int32) → Int32 → Int32 → (Nat → Int32) → Int32 → Int32 → (Nat → Int32) → Prop) (R : Int32) (R2 : Int32) (t0_0 : Int32) (t0_1 : Int32) (t1_0 : (Nat → Int32)) (t2_0 : Int32) (t2_1 : Int32) (t3_0 : (Nat → Int32)) (t4_0 : Int32) (t4_1 : Int32) (t5_0 : (Nat → Int32)) (t6_0 : Int32) (t6_1 : Int32) (t7_0 : (Nat → Int32)) (t8_0 : Int32) (t8_1 : Int32) (t9_0 : (Nat → Int32)) (t10_0 : Int32) (t10_1 : Int32) (t11_0 : (Nat → Int32)) (p64 : (Int32 × Int32 × (Nat → Int32))) (p111 : (Int32 × Int32 × (Nat → Int32) × Int32 × Int32 × (Nat → Int32) × Int32 × Int32 × (Nat → Int32))) (lx139 : Int32) (lx140 : Int32) (lx141 : Int32) (lx142 : (Nat → Int32)) (lx143 : Int32) (lx144 : Int32) (lx145 : (Nat → Int32)) (lx146 : Int32) (lx147 : Int32) (lx148 : (Nat → Int32)) (lx149 : Int32) (lx150 : Int32) (lx151 : (Nat → Int32)) (p235 : (Int32 × Int32 × (Nat → Int32))) (p282 : (Int32 × Int32 × (Nat → Int32) × Int32 × Int32 × (Nat → Int32) × Int32 × Int32 × (Nat → Int32))) : Prop := if ((F_Big_bit R lx139 t8_0 t8_1 t9_0) : Int32) = (1 : Int32) then (S_Mil_powerBelow_c79 K_S_Mil_powerBelow_L27 R R2 t0_0 t0_1 t1_0 t2_0 t2_1 t3_0 t4_0 t4_1 t5_0 t6_0 t6_1 t7_0 t8_0 t8_1 t9_0 t10_0 t10_1 t11_0 p64 p111 lx139 lx140 lx141 lx142 lx143 lx144 lx145 lx146 lx147 lx148 lx149 lx150 lx151 p235 p282 (p282.2.2.2.2.2.2.1 : Int32) (p282.2.2.2.2.2.2.2.1 : Int32) (p282.2.2.2.2.2.2.2.2 : (Nat → Int32)) (p282.1 : Int32) (p282.2.1 : Int32) (p282.2.2.1 : (Nat → Int32)) (p282.2.2.2.1 : Int32) (p282.2.2.2.2.1 : Int32) (p282.2.2.2.2.2.1 : (Nat → Int32)) ((F_Big_product (220 : Int32) (220 : Int32) (220 : Int32) lx143 lx144 lx145 (p282.1 : Int32) (p282.2.1 : Int32) (p282.2.2.1 : (Nat → Int32)) t0_0 t0_1 t1_0) : (Int32 × Int32 × (Nat → Int32)))) else (S_Mil_powerBelow_c105 K_S_Mil_powerBelow_L27 R R2 t0_0 t0_1 t1_0 t2_0 t2_1 t3_0 t4_0 t4_1 t5_0 t6_0 t6_1 t7_0 t8_0 t8_1 t9_0 t10_0 t10_1 t11_0 p64 p111 lx139 lx140 lx141 lx142 lx143 lx144 lx145 lx146 lx147 lx148 lx149 lx150 lx151 p235 p282 (p282.2.2.2.2.2.2.1 : Int32) (p282.2.2.2.2.2.2.2.1 : Int32) (p282.2.2.2.2.2.2.2.2 : (Nat → Int32)) (p282.1 : Int32) (p282.2.1 : Int32) (p282.2.2.1 : (Nat → Int32)) (p282.2.2.2.1 : Int32) (p282.2.2.2.2.1 : Int32) (p282.2.2.2.2.2.1 : (Nat → Int32)) ((F_Big_copy (220 : Int32) (220 : Int32) lx143 lx144 lx145 (p282.1 : Int32) (p282.2.1 : Int32) (p282.2.2.1 : (Nat → Int32))) : (Int32 × Int32 × (Nat → Int32))))
def S_Mil_powerBelow_c43 (K_S_Mil_powerBelow_L27 : Int32 → Int32 → Int32 → (Nat → Int32) → Int32 → Int32 → (Nat → Int32) → Int32 → Int32 → (Nat → Int32) → Int32 → Int32 → (Nat → Int32) → Prop) (R : Int32) (R2 : Int32) (t0_0 : Int32) (t0_1 : Int32) (t1_0 : (Nat → Int32)) (t2_0 : Int32) (t2_1 : Int32) (t3_0 : (Nat → Int32)) (t4_0 : Int32) (t4_1 : Int32) (t5_0 : (Nat → Int32)) (t6_0 : Int32) (t6_1 : Int32) (t7_0 : (Nat → Int32)) (t8_0 : Int32) (t8_1 : Int32) (t9_0 : (Nat → Int32)) (t10_0 : Int32) (t10_1 : Int32) (t11_0 : (Nat → Int32)) (p64 : (Int32 × Int32 × (Nat → Int32))) (p111 : (Int32 × Int32 × (Nat → Int32) × Int32 × Int32 × (Nat → Int32) × Int32 × Int32 × (Nat → Int32))) (lx139 : Int32) (lx140 : Int32) (lx141 : Int32) (lx142 : (Nat → Int32)) (lx143 : Int32) (lx144 : Int32) (lx145 : (Nat → Int32)) (lx146 : Int32) (lx147 : Int32) (lx148 : (Nat → Int32)) (lx149 : Int32) (lx150 : Int32) (lx151 : (Nat → Int32)) (p235 : (Int32 × Int32 × (Nat → Int32))) : Prop := (True ∧ S_Big_divideBy (220 : Int32) R2 (220 : Int32) (p235.1 : Int32) (p235.2.1 : Int32) (p235.2.2 : (Nat → Int32)) lx149 lx150 lx151 lx140 lx141 lx142) ∧ (S_Mil_powerBelow_c55 K_S_Mil_powerBelow_L27 R R2 t0_0 t0_1 t1_0 t2_0 t2_1 t3_0 t4_0 t4_1 t5_0 t6_0 t6_1 t7_0 t8_0 t8_1 t9_0 t10_0 t10_1 t11_0 p64 p111 lx139 lx140 lx141 lx142 lx143 lx144 lx145 lx146 lx147 lx148 lx149 lx150 lx151 p235 ((F_Big_divideBy (220 : Int32) R2 (220 : Int32) (p235.1 : Int32) (p235.2.1 : Int32) (p235.2.2 : (Nat → Int32)) lx149 lx150 lx151 lx140 lx141 lx142) : (Int32 × Int32 × (Nat → Int32) × Int32 × Int32 × (Nat → Int32) × Int32 × Int32 × (Nat → Int32))))
def S_Mil_powerBelow_L27 (R : Int32) (R2 : Int32) (t0_0 : Int32) (t0_1 : Int32) (t1_0 : (Nat → Int32)) (t2_0 : Int32) (t2_1 : Int32) (t3_0 : (Nat → Int32)) (t4_0 : Int32) (t4_1 : Int32) (t5_0 : (Nat → Int32)) (t6_0 : Int32) (t6_1 : Int32) (t7_0 : (Nat → Int32)) (t8_0 : Int32) (t8_1 : Int32) (t9_0 : (Nat → Int32)) (t10_0 : Int32) (t10_1 : Int32) (t11_0 : (Nat → Int32)) (p64 : (Int32 × Int32 × (Nat → Int32))) (p111 : (Int32 × Int32 × (Nat → Int32) × Int32 × Int32 × (Nat → Int32) × Int32 × Int32 × (Nat → Int32))) : Nat → Int32 → Int32 → Int32 → (Nat → Int32) → Int32 → Int32 → (Nat → Int32) → Int32 → Int32 → (Nat → Int32) → Int32 → Int32 → (Nat → Int32) → Prop
  | 0, _, _, _, _, _, _, _, _, _, _, _, _, _ => False
  | fm + 1, lx139, lx140, lx141, lx142, lx143, lx144, lx145, lx146, lx147, lx148, lx149, lx150, lx151 => if lx139 < (0 : Int32) then (S_Mil_powerBelow_c122 (S_Mil_powerBelow_L27 R R2 t0_0 t0_1 t1_0 t2_0 t2_1 t3_0 t4_0 t4_1 t5_0 t6_0 t6_1 t7_0 t8_0 t8_1 t9_0 t10_0 t10_1 t11_0 p64 p111 fm) R R2 t0_0 t0_1 t1_0 t2_0 t2_1 t3_0 t4_0 t4_1 t5_0 t6_0 t6_1 t7_0 t8_0 t8_1 t9_0 t10_0 t10_1 t11_0 p64 p111 lx139 lx140 lx141 lx142 lx143 lx144 lx145 lx146 lx147 lx148 lx149 lx150 lx151 ((F_Big_copy (220 : Int32) (220 : Int32) t0_0 t0_1 t1_0 lx143 lx144 lx145) : (Int32 × Int32 × (Nat → Int32)))) else (S_Mil_powerBelow_c43 (S_Mil_powerBelow_L27 R R2 t0_0 t0_1 t1_0 t2_0 t2_1 t3_0 t4_0 t4_1 t5_0 t6_0 t6_1 t7_0 t8_0 t8_1 t9_0 t10_0 t10_1 t11_0 p64 p111 fm) R R2 t0_0 t0_1 t1_0 t2_0 t2_1 t3_0 t4_0 t4_1 t5_0 t6_0 t6_1 t7_0 t8_0 t8_1 t9_0 t10_0 t10_1 t11_0 p64 p111 lx139 lx140 lx141 lx142 lx143 lx144 lx145 lx146 lx147 lx148 lx149 lx150 lx151 ((F_Big_product (220 : Int32) (220 : Int32) (220 : Int32) lx146 lx147 lx148 lx143 lx144 lx145 lx143 lx144 lx145) : (Int32 × Int32 × (Nat → Int32))))
def S_Mil_powerBelow_c17 (R : Int32) (R2 : Int32) (t0_0 : Int32) (t0_1 : Int32) (t1_0 : (Nat → Int32)) (t2_0 : Int32) (t2_1 : Int32) (t3_0 : (Nat → Int32)) (t4_0 : Int32) (t4_1 : Int32) (t5_0 : (Nat → Int32)) (t6_0 : Int32) (t6_1 : Int32) (t7_0 : (Nat → Int32)) (t8_0 : Int32) (t8_1 : Int32) (t9_0 : (Nat → Int32)) (t10_0 : Int32) (t10_1 : Int32) (t11_0 : (Nat → Int32)) (p64 : (Int32 × Int32 × (Nat → Int32))) (p111 : (Int32 × Int32 × (Nat → Int32) × Int32 × Int32 × (Nat → Int32) × Int32 × Int32 × (Nat → Int32))) : Prop := S_Mil_powerBelow_L27 R R2 t0_0 t0_1 t1_0 t2_0 t2_1 t3_0 t4_0 t4_1 t5_0 t6_0 t6_1 t7_0 t8_0 t8_1 t9_0 t10_0 t10_1 t11_0 p64 p111 (((((F_Big_bitLength R t8_0 t8_1 t9_0) : Int32) - 1 : Int32).toInt - ((-1))).toNat + 1) (((F_Big_bitLength R t8_0 t8_1 t9_0) : Int32) - 1 : Int32) (p111.2.2.2.2.2.2.1 : Int32) (p111.2.2.2.2.2.2.2.1 : Int32) (p111.2.2.2.2.2.2.2.2 : (Nat → Int32)) (p111.1 : Int32) (p111.2.1 : Int32) (p111.2.2.1 : (Nat → Int32)) t6_0 t6_1 t7_0 (p111.2.2.2.1 : Int32) (p111.2.2.2.2.1 : Int32) (p111.2.2.2.2.2.1 : (Nat → Int32))
def S_Mil_powerBelow_c5 (R : Int32) (R2 : Int32) (t0_0 : Int32) (t0_1 : Int32) (t1_0 : (Nat → Int32)) (t2_0 : Int32) (t2_1 : Int32) (t3_0 : (Nat → Int32)) (t4_0 : Int32) (t4_1 : Int32) (t5_0 : (Nat → Int32)) (t6_0 : Int32) (t6_1 : Int32) (t7_0 : (Nat → Int32)) (t8_0 : Int32) (t8_1 : Int32) (t9_0 : (Nat → Int32)) (t10_0 : Int32) (t10_1 : Int32) (t11_0 : (Nat → Int32)) (p64 : (Int32 × Int32 × (Nat → Int32))) : Prop := (True ∧ S_Big_divideBy (220 : Int32) R2 (220 : Int32) (p64.1 : Int32) (p64.2.1 : Int32) (p64.2.2 : (Nat → Int32)) t10_0 t10_1 t11_0 t2_0 t2_1 t3_0) ∧ (S_Mil_powerBelow_c17 R R2 t0_0 t0_1 t1_0 t2_0 t2_1 t3_0 t4_0 t4_1 t5_0 t6_0 t6_1 t7_0 t8_0 t8_1 t9_0 t10_0 t10_1 t11_0 p64 ((F_Big_divideBy (220 : Int32) R2 (220 : Int32) (p64.1 : Int32) (p64.2.1 : Int32) (p64.2.2 : (Nat → Int32)) t10_0 t10_1 t11_0 t2_0 t2_1 t3_0) : (Int32 × Int32 × (Nat → Int32) × Int32 × Int32 × (Nat → Int32) × Int32 × Int32 × (Nat → Int32))))
def S_Mil_powerBelow (R : Int32) (R2 : Int32) (t0_0 : Int32) (t0_1 : Int32) (t1_0 : (Nat → Int32)) (t2_0 : Int32) (t2_1 : Int32) (t3_0 : (Nat → Int32)) (t4_0 : Int32) (t4_1 : Int32) (t5_0 : (Nat → Int32)) (t6_0 : Int32) (t6_1 : Int32) (t7_0 : (Nat → Int32)) (t8_0 : Int32) (t8_1 : Int32) (t9_0 : (Nat → Int32)) (t10_0 : Int32) (t10_1 : Int32) (t11_0 : (Nat → Int32)) : Prop := S_Mil_powerBelow_c5 R R2 t0_0 t0_1 t1_0 t2_0 t2_1 t3_0 t4_0 t4_1 t5_0 t6_0 t6_1 t7_0 t8_0 t8_1 t9_0 t10_0 t10_1 t11_0 ((F_Big_setLong (220 : Int32) (1 : Int64) t4_0 t4_1 t5_0) : (Int32 × Int32 × (Nat → Int32)))
set_option maxRecDepth 100000 in
set_option maxHeartbeats 4000000 in
theorem X_Mil_powerBelow (l : Launch) (D : va_G) (g : Nat → ClassId) (q : Nat → Nat) (ws : va_W) (k2 : Nat) (R : Int32) (hB2 : q_isBig (nsh g q) g q k2 R) (zk2 : (10 ≤ k2 ∧ k2 ≤ 32) ∨ 66 ≤ k2) (k3 : Nat) (R2 : Int32) (hB3 : q_isBig (nsh g q) g q k3 R2) (zk3 : (10 ≤ k3 ∧ k3 ≤ 32) ∨ 66 ≤ k3) (ne_k2_10 : k2 ≠ 10) (ne_k2_11 : k2 ≠ 11) (ne_k2_9 : k2 ≠ 9) (ne_k2_12 : k2 ≠ 12) (ne_k2_13 : k2 ≠ 13) (ne_k2_11 : k2 ≠ 11) (ne_k2_14 : k2 ≠ 14) (ne_k2_15 : k2 ≠ 15) (ne_k2_13 : k2 ≠ 13) (ne_k2_18 : k2 ≠ 18) (ne_k2_19 : k2 ≠ 19) (ne_k2_17 : k2 ≠ 17) (ne_k3_10 : k3 ≠ 10) (ne_k3_11 : k3 ≠ 11) (ne_k3_9 : k3 ≠ 9) (ne_k3_12 : k3 ≠ 12) (ne_k3_13 : k3 ≠ 13) (ne_k3_11 : k3 ≠ 11) (ne_k3_14 : k3 ≠ 14) (ne_k3_15 : k3 ≠ 15) (ne_k3_13 : k3 ≠ 13) (ne_k3_18 : k3 ≠ 18) (ne_k3_19 : k3 ≠ 19) (ne_k3_17 : k3 ≠ 17) (ne_k2_k3 : k2 ≠ k3) (hI : q_I (nsh g q) q ws) (t0_0 : Int32) (t0_1 : Int32) (hT0 : ws[10]? = (some (q 10, .inr (2, [.ref (q 11), .int t0_0, .int t0_1])) : Option (Nat × va_E))) (t1_0 : (Nat → Int32)) (hT1 : ws[11]? = (some (q 11, .inl (g 0, (220 : Int32).toNatClampNeg, .inl t1_0)) : Option (Nat × va_E))) (t2_0 : Int32) (t2_1 : Int32) (hT2 : ws[12]? = (some (q 12, .inr (2, [.ref (q 13), .int t2_0, .int t2_1])) : Option (Nat × va_E))) (t3_0 : (Nat → Int32)) (hT3 : ws[13]? = (some (q 13, .inl (g 0, (220 : Int32).toNatClampNeg, .inl t3_0)) : Option (Nat × va_E))) (t4_0 : Int32) (t4_1 : Int32) (hT4 : ws[14]? = (some (q 14, .inr (2, [.ref (q 15), .int t4_0, .int t4_1])) : Option (Nat × va_E))) (t5_0 : (Nat → Int32)) (hT5 : ws[15]? = (some (q 15, .inl (g 0, (220 : Int32).toNatClampNeg, .inl t5_0)) : Option (Nat × va_E))) (t6_0 : Int32) (t6_1 : Int32) (hT6 : ws[18]? = (some (q 18, .inr (2, [.ref (q 19), .int t6_0, .int t6_1])) : Option (Nat × va_E))) (t7_0 : (Nat → Int32)) (hT7 : ws[19]? = (some (q 19, .inl (g 0, (220 : Int32).toNatClampNeg, .inl t7_0)) : Option (Nat × va_E))) (t8_0 : Int32) (t8_1 : Int32) (hT8 : ws[k2]? = (some (q k2, .inr (2, [.ref (q (k2 + 1)), .int t8_0, .int t8_1])) : Option (Nat × va_E))) (t9_0 : (Nat → Int32)) (hT9 : ws[k2 + 1]? = (some (q (k2 + 1), .inl (g 0, R.toNatClampNeg, .inl t9_0)) : Option (Nat × va_E))) (t10_0 : Int32) (t10_1 : Int32) (hT10 : ws[k3]? = (some (q k3, .inr (2, [.ref (q (k3 + 1)), .int t10_0, .int t10_1])) : Option (Nat × va_E))) (t11_0 : (Nat → Int32)) (hT11 : ws[k3 + 1]? = (some (q (k3 + 1), .inl (g 0, R2.toNatClampNeg, .inl t11_0)) : Option (Nat × va_E))) (hS : True ∧ S_Mil_powerBelow R R2 t0_0 t0_1 t1_0 t2_0 t2_1 t3_0 t4_0 t4_1 t5_0 t6_0 t6_1 t7_0 t8_0 t8_1 t9_0 t10_0 t10_1 t11_0) : q_mV l y_Mil_powerBelow prog_8_method_7_code 4 5 0 0 D g [.ref (q 9), .ref (q k2), .ref (q k3)] ws (fun u => q_I (nsh g q) q u ∧ q_un ws u [10, 11, 12, 13, 14, 15, 18, 19, k3, k3 + 1] ∧ ∃ (u0_0 : Int32) (u0_1 : Int32) (u1_0 : (Nat → Int32)) (u2_0 : Int32) (u2_1 : Int32) (u3_0 : (Nat → Int32)) (u4_0 : Int32) (u4_1 : Int32) (u5_0 : (Nat → Int32)) (u6_0 : Int32) (u6_1 : Int32) (u7_0 : (Nat → Int32)) (u10_0 : Int32) (u10_1 : Int32) (u11_0 : (Nat → Int32)), u[10]? = (some (q 10, .inr (2, [.ref (q 11), .int u0_0, .int u0_1])) : Option (Nat × va_E)) ∧ u[11]? = (some (q 11, .inl (g 0, (220 : Int32).toNatClampNeg, .inl u1_0)) : Option (Nat × va_E)) ∧ u[12]? = (some (q 12, .inr (2, [.ref (q 13), .int u2_0, .int u2_1])) : Option (Nat × va_E)) ∧ u[13]? = (some (q 13, .inl (g 0, (220 : Int32).toNatClampNeg, .inl u3_0)) : Option (Nat × va_E)) ∧ u[14]? = (some (q 14, .inr (2, [.ref (q 15), .int u4_0, .int u4_1])) : Option (Nat × va_E)) ∧ u[15]? = (some (q 15, .inl (g 0, (220 : Int32).toNatClampNeg, .inl u5_0)) : Option (Nat × va_E)) ∧ u[18]? = (some (q 18, .inr (2, [.ref (q 19), .int u6_0, .int u6_1])) : Option (Nat × va_E)) ∧ u[19]? = (some (q 19, .inl (g 0, (220 : Int32).toNatClampNeg, .inl u7_0)) : Option (Nat × va_E)) ∧ u[k3]? = (some (q k3, .inr (2, [.ref (q (k3 + 1)), .int u10_0, .int u10_1])) : Option (Nat × va_E)) ∧ u[k3 + 1]? = (some (q (k3 + 1), .inl (g 0, R2.toNatClampNeg, .inl u11_0)) : Option (Nat × va_E)) ∧ (0 ≤ u2_1.toInt) ∧ (u2_1.toInt ≤ 0) ∧ (u10_1.toInt ≤ t10_1.toInt) ∧ (u2_1.toInt ≤ u0_0.toInt) ∧ (u0_0.toInt ≤ u4_0.toInt) ∧ (u4_1.toInt ≤ u0_1.toInt) ∧ (u0_1.toInt ≤ u4_1.toInt) ∧ (u2_1.toInt ≤ u2_0.toInt) ∧ (u2_0.toInt ≤ u2_1.toInt + 220) ∧ (u4_0.toInt ≤ u2_1.toInt + 220) ∧ (u4_1.toInt ≤ u2_1.toInt + 1) ∧ (u2_1.toInt ≤ u4_1.toInt) ∧ (u6_0.toInt ≤ u2_1.toInt + 220) ∧ (u2_1.toInt ≤ u6_0.toInt) ∧ (u6_1.toInt ≤ u2_1.toInt + 1) ∧ (u2_1.toInt ≤ u6_1.toInt) ∧ (u10_0.toInt ≤ u2_1.toInt + 220) ∧ (u2_1.toInt ≤ u10_0.toInt) ∧ (u2_1.toInt ≤ u10_1.toInt) ∧ (u0_0, u0_1, u1_0, u2_0, u2_1, u3_0, u4_0, u4_1, u5_0, u6_0, u6_1, u7_0, u10_0, u10_1, u11_0) = (F_Mil_powerBelow R R2 t0_0 t0_1 t1_0 t2_0 t2_1 t3_0 t4_0 t4_1 t5_0 t6_0 t6_1 t7_0 t8_0 t8_1 t9_0 t10_0 t10_1 t11_0)) := by
  intro sz
  refine q_into (by decide) (Nat.le_of_ble_eq_true rfl) ?_
  intro p e s m below meth c ls hsz C0 V hl
  have hx := C0.1
  have hb := C0.2.1
  have hfk30 : q_F (0 ≤ R2.toInt ∧ R2.toInt ≤ 220) := hB3.2.2
  have btt0_1 := (q_bigW hI (n_b10 g q) hT0).2
  clear btt0_1
  have btt2_1 := (q_bigW hI (n_b12 g q) hT2).2
  clear btt2_1
  have btt4_1 := (q_bigW hI (n_b14 g q) hT4).2
  clear btt4_1
  obtain ⟨btt6_0, btt6_1⟩ := q_bigW hI (n_b18 g q) hT6
  replace btt6_0 : q_F (0 ≤ t6_0.toInt ∧ t6_0.toInt ≤ 220) := btt6_0
  replace btt6_1 : q_F (0 ≤ t6_1.toInt ∧ t6_1.toInt ≤ 1) := btt6_1
  have btt8_1 := (q_bigW hI hB2 hT8).2
  clear btt8_1
  have btt10_1 := (q_bigW hI hB3 hT10).2
  replace btt10_1 : q_F (0 ≤ t10_1.toInt ∧ t10_1.toInt ≤ 1) := btt10_1
  have hF : q_un ws ws [10, 11, 12, 13, 14, 15, 18, 19, k3, k3 + 1] := q_u0
  have hl : lv_has ls 4 [(0, .ref (q 9)), (1, .ref (q k2)), (2, .ref (q k3))] := hl
  refine lv_aload_n hx hb d_8_7_0 rfl (lv_at hl 0 rfl) ?_
  have hO49 := n_o9 hI
  refine q_get (ci := 4) (j := 2) (v := .ref (q 14)) C0 V i_Mil rfl rfl hO49 (by decide) w_117 rfl d_8_7_1 ?_
  refine lv_lconst (v := 1) hx hb d_8_7_4 (by decide) ?_
  refine q_gov V (q_runV (As := [.long 1]) (rest := []) (d := 2) (mc := 0) (ms := 0) (ci := 2) C0 V rfl LV_Mil_77 (X_Big_setLong l D g q ws 14 220 (n_b14 g q) (by decide) 1 hI t4_0 t4_1 hT4 t5_0 hT5  _) rfl rfl hT4 rfl hl.1 rfl (Nat.le_of_ble_eq_true rfl) ⟨by decide, by decide⟩ ⟨Nat.le_of_ble_eq_true rfl, Nat.le_of_ble_eq_true rfl⟩ d_8_7_5) (fun u50 H locs hp51 V => ?_)
  obtain ⟨hI, hZ9⟩ := hp51
  obtain ⟨hu63, hZ9⟩ := hZ9
  obtain ⟨y53, hZ9⟩ := hZ9
  obtain ⟨y54, hZ9⟩ := hZ9
  obtain ⟨f55, hZ9⟩ := hZ9
  obtain ⟨hO52, hZ9⟩ := hZ9
  obtain ⟨hA56, hZ9⟩ := hZ9
  replace hZ9 := hZ9.2.2.2
  obtain ⟨b60, hZ9⟩ := hZ9
  obtain ⟨-, hE62⟩ := hZ9
  replace hO52 : u50[14]? = (some (q 14, .inr (2, [.ref (q 15), .int y53, .int y54])) : Option (Nat × va_E)) := hO52
  replace hA56 : u50[15]? = (some (q 15, .inl (g 0, (220 : Int32).toNatClampNeg, .inl f55)) : Option (Nat × va_E)) := hA56
  obtain ⟨p64, e65⟩ : ∃ z, z = (F_Big_setLong (220 : Int32) (1 : Int64) t4_0 t4_1 t5_0) := ⟨_, rfl⟩
  have e66 : y53 = p64.1 := congrArg (fun z => z.1) (hE62.trans e65.symm)
  have e67 : y54 = p64.2.1 := congrArg (fun z => z.2.1) (hE62.trans e65.symm)
  have e68 : f55 = p64.2.2 := congrArg (fun z => z.2.2) (hE62.trans e65.symm)
  replace b60 : q_F (y54.toInt ≤ 1) := b60
  replace hT0 := (hu63 _ (by decide)).trans hT0
  replace hT1 := (hu63 _ (by decide)).trans hT1
  replace hT2 := (hu63 _ (by decide)).trans hT2
  replace hT3 := (hu63 _ (by decide)).trans hT3
  replace hT6 := (hu63 _ (by decide)).trans hT6
  replace hT7 := (hu63 _ (by decide)).trans hT7
  replace hT8 := (hu63 _ (by first | exact (q_nc ne_k2_14 (q_nc ne_k2_15 List.not_mem_nil)) | (have z0 := zk2; simp only [List.mem_cons, List.not_mem_nil, or_false, not_or]; omega))).trans hT8
  replace hT9 := (hu63 _ (by first | exact (q_nc (q_nt1 ne_k2_13) (q_nc (q_nt1 ne_k2_14) List.not_mem_nil)) | (have z0 := zk2; simp only [List.mem_cons, List.not_mem_nil, or_false, not_or]; omega))).trans hT9
  replace hT10 := (hu63 _ (by first | exact (q_nc ne_k3_14 (q_nc ne_k3_15 List.not_mem_nil)) | (have z0 := zk3; simp only [List.mem_cons, List.not_mem_nil, or_false, not_or]; omega))).trans hT10
  replace hT11 := (hu63 _ (by first | exact (q_nc (q_nt1 ne_k3_13) (q_nc (q_nt1 ne_k3_14) List.not_mem_nil)) | (have z0 := zk3; simp only [List.mem_cons, List.not_mem_nil, or_false, not_or]; omega))).trans hT11
  replace hO49 := (hu63 _ (by decide)).trans hO49
  replace hF := q_uc hF hu63 (by first | exact (q_sk (q_mi 4 rfl) (q_sk (q_mi 5 rfl) q_s0)) | simp)
  have hR69 := (show F_Mil_powerBelow_c5 R R2 t0_0 t0_1 t1_0 t2_0 t2_1 t3_0 t4_0 t4_1 t5_0 t6_0 t6_1 t7_0 t8_0 t8_1 t9_0 t10_0 t10_1 t11_0 p64 = (F_Mil_powerBelow R R2 t0_0 t0_1 t1_0 t2_0 t2_1 t3_0 t4_0 t4_1 t5_0 t6_0 t6_1 t7_0 t8_0 t8_1 t9_0 t10_0 t10_1 t11_0) from (by rw [e65, F_Mil_powerBelow.eq_1]))
  have hS70 := (show True ∧ S_Mil_powerBelow_c5 R R2 t0_0 t0_1 t1_0 t2_0 t2_1 t3_0 t4_0 t4_1 t5_0 t6_0 t6_1 t7_0 t8_0 t8_1 t9_0 t10_0 t10_1 t11_0 p64 from (by rw [e65]; have h := hS; rw [S_Mil_powerBelow.eq_1] at h; with_reducible exact h))
  refine lv_aload_n hx hb d_8_7_8 rfl (lv_at hl 0 rfl) ?_
  refine q_get (ci := 4) (j := 2) (v := .ref (q 14)) C0 V i_Mil rfl rfl hO49 (by decide) w_117 rfl d_8_7_9 ?_
  refine lv_aload_n hx hb d_8_7_12 rfl (lv_at hl 2 rfl) ?_
  refine lv_aload_n hx hb d_8_7_13 rfl (lv_at hl 0 rfl) ?_
  refine q_get (ci := 4) (j := 1) (v := .ref (q 12)) C0 V i_Mil rfl rfl hO49 (by decide) w_114 rfl d_8_7_14 ?_
  have ne74 := q_df hT9 hT10
  have ne75 := q_df hT11 hT8
  have ob76 : True ∧ S_Big_divideBy (220 : Int32) R2 (220 : Int32) y53 y54 f55 t10_0 t10_1 t11_0 t2_0 t2_1 t3_0 := (by rw [e68, e67, e66]; have h := hS70; rw [S_Mil_powerBelow_c5.eq_1] at h; with_reducible exact h.2.1)
  refine q_gov V (q_runV (As := [.ref (q k3), .ref (q 12)]) (rest := []) (d := 4) (mc := 0) (ms := 0) (ci := 2) C0 V rfl LV_Mil_59 (X_Big_divideBy l D g q u50 14 220 (n_b14 g q) (by decide) k3 R2 hB3 zk3 12 220 (n_b12 g q) (by decide)  (by have z := ne_k3_14; omega) (by decide) (by have z := ne_k3_12; omega) hI y53 y54 hO52 f55 hA56 t10_0 t10_1 hT10 t11_0 hT11 t2_0 t2_1 hT2 t3_0 hT3 ob76 _) rfl rfl hO52 rfl hl.1 rfl (Nat.le_of_ble_eq_true rfl) ⟨by decide, by decide⟩ ⟨Nat.le_of_ble_eq_true rfl, Nat.le_of_ble_eq_true rfl⟩ d_8_7_17) (fun u77 H locs hp78 V => ?_)
  obtain ⟨hI, hZ9⟩ := hp78
  obtain ⟨hu110, hZ9⟩ := hZ9
  obtain ⟨y80, hZ9⟩ := hZ9
  obtain ⟨y81, hZ9⟩ := hZ9
  obtain ⟨f82, hZ9⟩ := hZ9
  obtain ⟨y85, hZ9⟩ := hZ9
  obtain ⟨y86, hZ9⟩ := hZ9
  obtain ⟨f87, hZ9⟩ := hZ9
  obtain ⟨y90, hZ9⟩ := hZ9
  obtain ⟨y91, hZ9⟩ := hZ9
  obtain ⟨f92, hZ9⟩ := hZ9
  obtain ⟨hO79, hZ9⟩ := hZ9
  obtain ⟨hA83, hZ9⟩ := hZ9
  obtain ⟨hO84, hZ9⟩ := hZ9
  obtain ⟨hA88, hZ9⟩ := hZ9
  obtain ⟨hO89, hZ9⟩ := hZ9
  obtain ⟨hA93, hZ9⟩ := hZ9
  obtain ⟨b94, hZ9⟩ := hZ9
  obtain ⟨b95, hZ9⟩ := hZ9
  obtain ⟨b96, hZ9⟩ := hZ9
  obtain ⟨b97, hZ9⟩ := hZ9
  replace hZ9 := hZ9.2
  obtain ⟨b99, hZ9⟩ := hZ9
  obtain ⟨b100, hZ9⟩ := hZ9
  replace hZ9 := hZ9.2.2
  obtain ⟨b103, hZ9⟩ := hZ9
  obtain ⟨b104, hZ9⟩ := hZ9
  obtain ⟨b105, hZ9⟩ := hZ9
  obtain ⟨b106, hZ9⟩ := hZ9
  obtain ⟨b107, hZ9⟩ := hZ9
  obtain ⟨b108, hE109⟩ := hZ9
  replace hO79 : u77[14]? = (some (q 14, .inr (2, [.ref (q 15), .int y80, .int y81])) : Option (Nat × va_E)) := hO79
  replace hA83 : u77[15]? = (some (q 15, .inl (g 0, (220 : Int32).toNatClampNeg, .inl f82)) : Option (Nat × va_E)) := hA83
  replace hO84 : u77[k3]? = (some (q k3, .inr (2, [.ref (q (k3 + 1)), .int y85, .int y86])) : Option (Nat × va_E)) := hO84
  replace hA88 : u77[k3 + 1]? = (some (q (k3 + 1), .inl (g 0, R2.toNatClampNeg, .inl f87)) : Option (Nat × va_E)) := hA88
  replace hO89 : u77[12]? = (some (q 12, .inr (2, [.ref (q 13), .int y90, .int y91])) : Option (Nat × va_E)) := hO89
  replace hA93 : u77[13]? = (some (q 13, .inl (g 0, (220 : Int32).toNatClampNeg, .inl f92)) : Option (Nat × va_E)) := hA93
  obtain ⟨p111, e112⟩ : ∃ z, z = (F_Big_divideBy (220 : Int32) R2 (220 : Int32) y53 y54 f55 t10_0 t10_1 t11_0 t2_0 t2_1 t3_0) := ⟨_, rfl⟩
  have e113 : y80 = p111.1 := congrArg (fun z => z.1) (hE109.trans e112.symm)
  have e114 : y81 = p111.2.1 := congrArg (fun z => z.2.1) (hE109.trans e112.symm)
  have e115 : f82 = p111.2.2.1 := congrArg (fun z => z.2.2.1) (hE109.trans e112.symm)
  have e116 : y85 = p111.2.2.2.1 := congrArg (fun z => z.2.2.2.1) (hE109.trans e112.symm)
  have e117 : y86 = p111.2.2.2.2.1 := congrArg (fun z => z.2.2.2.2.1) (hE109.trans e112.symm)
  have e118 : f87 = p111.2.2.2.2.2.1 := congrArg (fun z => z.2.2.2.2.2.1) (hE109.trans e112.symm)
  have e119 : y90 = p111.2.2.2.2.2.2.1 := congrArg (fun z => z.2.2.2.2.2.2.1) (hE109.trans e112.symm)
  have e120 : y91 = p111.2.2.2.2.2.2.2.1 := congrArg (fun z => z.2.2.2.2.2.2.2.1) (hE109.trans e112.symm)
  have e121 : f92 = p111.2.2.2.2.2.2.2.2 := congrArg (fun z => z.2.2.2.2.2.2.2.2) (hE109.trans e112.symm)
  replace b94 : q_F (0 ≤ y91.toInt) := b94
  replace b95 : q_F (y91.toInt ≤ 0) := b95
  replace b96 : q_F (y80.toInt ≤ 220) := b96
  replace b97 : q_F (y81.toInt ≤ y54.toInt) := b97
  replace b99 : q_F (y85.toInt ≤ R2.toInt) := b99
  replace b100 : q_F (y86.toInt ≤ t10_1.toInt) := b100
  replace b103 : q_F (y90.toInt ≤ 220) := b103
  replace b104 : q_F (y91.toInt ≤ y80.toInt) := b104
  replace b105 : q_F (y91.toInt ≤ y81.toInt) := b105
  replace b106 : q_F (y91.toInt ≤ y85.toInt) := b106
  replace b107 : q_F (y91.toInt ≤ y86.toInt) := b107
  replace b108 : q_F (y91.toInt ≤ y90.toInt) := b108
  replace hT0 := (hu110 _ (by first | exact (q_nc (Nat.ne_of_beq_eq_false rfl) (q_nc (Nat.ne_of_beq_eq_false rfl) (q_nc (Ne.symm ne_k3_10) (q_nc (q_ns1 ne_k3_9) (q_nc (Nat.ne_of_beq_eq_false rfl) (q_nc (Nat.ne_of_beq_eq_false rfl) List.not_mem_nil)))))) | (have z0 := zk3; simp only [List.mem_cons, List.not_mem_nil, or_false, not_or]; omega))).trans hT0
  replace hT1 := (hu110 _ (by first | exact (q_nc (Nat.ne_of_beq_eq_false rfl) (q_nc (Nat.ne_of_beq_eq_false rfl) (q_nc (Ne.symm ne_k3_11) (q_nc (q_ns1 ne_k3_10) (q_nc (Nat.ne_of_beq_eq_false rfl) (q_nc (Nat.ne_of_beq_eq_false rfl) List.not_mem_nil)))))) | (have z0 := zk3; simp only [List.mem_cons, List.not_mem_nil, or_false, not_or]; omega))).trans hT1
  replace hT6 := (hu110 _ (by first | exact (q_nc (Nat.ne_of_beq_eq_false rfl) (q_nc (Nat.ne_of_beq_eq_false rfl) (q_nc (Ne.symm ne_k3_18) (q_nc (q_ns1 ne_k3_17) (q_nc (Nat.ne_of_beq_eq_false rfl) (q_nc (Nat.ne_of_beq_eq_false rfl) List.not_mem_nil)))))) | (have z0 := zk3; simp only [List.mem_cons, List.not_mem_nil, or_false, not_or]; omega))).trans hT6
  replace hT7 := (hu110 _ (by first | exact (q_nc (Nat.ne_of_beq_eq_false rfl) (q_nc (Nat.ne_of_beq_eq_false rfl) (q_nc (Ne.symm ne_k3_19) (q_nc (q_ns1 ne_k3_18) (q_nc (Nat.ne_of_beq_eq_false rfl) (q_nc (Nat.ne_of_beq_eq_false rfl) List.not_mem_nil)))))) | (have z0 := zk3; simp only [List.mem_cons, List.not_mem_nil, or_false, not_or]; omega))).trans hT7
  replace hT8 := (hu110 _ (q_nc (by have z := ne_k2_14; omega) (q_nc (by have z := ne_k2_15; omega) (q_nc (by have z := ne_k2_k3; omega) (q_nc (Ne.symm ne75) (q_nc (by have z := ne_k2_12; omega) (q_nc (by have z := ne_k2_13; omega) List.not_mem_nil))))))).trans hT8
  replace hT9 := (hu110 _ (q_nc (by have z := ne_k2_13; omega) (q_nc (by have z := ne_k2_14; omega) (q_nc ne74 (q_nc (by have z := ne_k2_k3; omega) (q_nc (by have z := ne_k2_11; omega) (q_nc (by have z := ne_k2_12; omega) List.not_mem_nil))))))).trans hT9
  replace hF := q_uc hF hu110 (by first | exact (q_sk (q_mi 4 rfl) (q_sk (q_mi 5 rfl) (q_sk (q_mi 8 rfl) (q_sk (q_mi 9 rfl) (q_sk (q_mi 2 rfl) (q_sk (q_mi 3 rfl) q_s0)))))) | simp)
  have hR122 := (show F_Mil_powerBelow_c17 R R2 t0_0 t0_1 t1_0 t2_0 t2_1 t3_0 t4_0 t4_1 t5_0 t6_0 t6_1 t7_0 t8_0 t8_1 t9_0 t10_0 t10_1 t11_0 p64 p111 = (F_Mil_powerBelow R R2 t0_0 t0_1 t1_0 t2_0 t2_1 t3_0 t4_0 t4_1 t5_0 t6_0 t6_1 t7_0 t8_0 t8_1 t9_0 t10_0 t10_1 t11_0) from Eq.trans (by rw [e112, e68, e67, e66, F_Mil_powerBelow_c5.eq_1]) hR69)
  have hS123 := (show True ∧ S_Mil_powerBelow_c17 R R2 t0_0 t0_1 t1_0 t2_0 t2_1 t3_0 t4_0 t4_1 t5_0 t6_0 t6_1 t7_0 t8_0 t8_1 t9_0 t10_0 t10_1 t11_0 p64 p111 from (by rw [e112, e68, e67, e66]; have h := hS70; rw [S_Mil_powerBelow_c5.eq_1] at h; replace h := q_s2 h; with_reducible exact h))
  refine lv_aload_n hx hb d_8_7_20 rfl (lv_at hl 1 rfl) ?_
  refine q_goi V (q_runV (As := []) (rest := []) (d := 3) (mc := 0) (ms := 0) (ci := 2) C0 V rfl LV_Mil_85 (X_Big_bitLength l D g q u77 k2 R hB2 zk2  hI t8_0 t8_1 hT8 t9_0 hT9  _) rfl rfl hT8 rfl hl.1 rfl (Nat.le_of_ble_eq_true rfl) ⟨by decide, by decide⟩ ⟨Nat.le_of_ble_eq_true rfl, Nat.le_of_ble_eq_true rfl⟩ d_8_7_21) (fun a129 u127 H locs hp128 V => ?_)
  obtain ⟨rfl, b130, b131, b132, hE133⟩ := hp128
  have e134 : a129 = (F_Big_bitLength R t8_0 t8_1 t9_0) := hE133
  replace b130 : q_F (0 ≤ a129.toInt) := b130
  clear b131
  clear b132
  refine lv_iconst (v := 1) hx hb d_8_7_24 (by decide) ?_
  refine lv_isub hx hb d_8_7_25 ?_
  obtain ⟨a135, e136⟩ := q_nm (a129 - 1 : Int32)
  refine q_ti (v := a135) e136 ?_
  have b137 : q_F (a135.toInt = a129.toInt - 1) := (by rw [← e136]; show (a129 - 1 : Int32).toInt = a129.toInt - 1; exact q_subI (x := a129.toInt) (y := 1) rfl (by decide) (by have t1 : 0 ≤ a129.toInt := b130; have _ := q_lo32 (x := a129); have _ := q_hi32 (x := a129); omega) (by have t1 : 0 ≤ a129.toInt := b130; have _ := q_lo32 (x := a129); have _ := q_hi32 (x := a129); omega))
  refine lv_istore_n (lv' := [(3, .int a135), (0, .ref (q 9)), (1, .ref (q k2)), (2, .ref (q k3))]) hx hb d_8_7_26 rfl hl (by decide) rfl (fun ls hl => ?_)
  refine q_loop (X := Int32 × Int32 × Int32 × (Nat → Int32) × Int32 × Int32 × (Nat → Int32) × Int32 × Int32 × (Nat → Int32) × Int32 × Int32 × (Nat → Int32)) (fun z H locs ls w175 => q_F (0 ≤ z.1.toInt + 1) ∧ q_F (0 ≤ z.2.1.toInt) ∧ q_F (z.2.1.toInt ≤ 220) ∧ q_F (0 ≤ z.2.2.2.2.1.toInt) ∧ q_F (z.2.2.2.2.1.toInt ≤ 220) ∧ q_F (0 ≤ z.2.2.2.2.2.1.toInt) ∧ q_F (z.2.2.2.2.2.1.toInt ≤ 1) ∧ q_F (0 ≤ z.2.2.2.2.2.2.2.1.toInt) ∧ q_F (z.2.2.2.2.2.2.2.1.toInt ≤ 220) ∧ q_F (0 ≤ z.2.2.2.2.2.2.2.2.1.toInt) ∧ q_F (z.2.2.2.2.2.2.2.2.1.toInt ≤ 1) ∧ q_F (0 ≤ z.2.2.2.2.2.2.2.2.2.2.1.toInt) ∧ q_F (z.2.2.2.2.2.2.2.2.2.2.1.toInt ≤ 220) ∧ q_F (0 ≤ z.2.2.2.2.2.2.2.2.2.2.2.1.toInt) ∧ q_F (y91.toInt ≤ z.2.2.1.toInt) ∧ q_F (z.2.2.1.toInt ≤ y91.toInt) ∧ q_F (z.2.2.2.2.2.2.2.2.2.2.2.1.toInt ≤ y86.toInt) ∧ q_F (z.1.toInt + z.2.2.2.2.2.1.toInt ≤ a135.toInt + y81.toInt) ∧ q_F (z.1.toInt + y81.toInt ≤ z.2.2.2.2.2.1.toInt + a135.toInt) ∧ q_F (z.1.toInt + z.2.2.2.2.2.2.2.2.1.toInt ≤ a135.toInt + t6_1.toInt) ∧ q_F (z.1.toInt + t6_1.toInt ≤ z.2.2.2.2.2.2.2.2.1.toInt + a135.toInt) ∧ q_F (z.1.toInt + y86.toInt ≤ z.2.2.2.2.2.2.2.2.2.2.2.1.toInt + a135.toInt) ∧ q_Wd D g (va_A ws sz) s w175 H locs ∧ lv_has ls 4 [(3, .int z.1), (0, .ref (q 9)), (1, .ref (q k2)), (2, .ref (q k3))] ∧ q_I (nsh g q) q w175 ∧ q_un ws w175 [10, 11, 12, 13, 14, 15, 18, 19, k3, k3 + 1] ∧ w175[10]? = (some (q 10, .inr (2, [.ref (q 11), .int t0_0, .int t0_1])) : Option (Nat × va_E)) ∧ w175[11]? = (some (q 11, .inl (g 0, (220 : Int32).toNatClampNeg, .inl t1_0)) : Option (Nat × va_E)) ∧ w175[12]? = (some (q 12, .inr (2, [.ref (q 13), .int z.2.1, .int z.2.2.1])) : Option (Nat × va_E)) ∧ w175[13]? = (some (q 13, .inl (g 0, (220 : Int32).toNatClampNeg, .inl z.2.2.2.1)) : Option (Nat × va_E)) ∧ w175[14]? = (some (q 14, .inr (2, [.ref (q 15), .int z.2.2.2.2.1, .int z.2.2.2.2.2.1])) : Option (Nat × va_E)) ∧ w175[15]? = (some (q 15, .inl (g 0, (220 : Int32).toNatClampNeg, .inl z.2.2.2.2.2.2.1)) : Option (Nat × va_E)) ∧ w175[18]? = (some (q 18, .inr (2, [.ref (q 19), .int z.2.2.2.2.2.2.2.1, .int z.2.2.2.2.2.2.2.2.1])) : Option (Nat × va_E)) ∧ w175[19]? = (some (q 19, .inl (g 0, (220 : Int32).toNatClampNeg, .inl z.2.2.2.2.2.2.2.2.2.1)) : Option (Nat × va_E)) ∧ w175[k2]? = (some (q k2, .inr (2, [.ref (q (k2 + 1)), .int t8_0, .int t8_1])) : Option (Nat × va_E)) ∧ w175[k2 + 1]? = (some (q (k2 + 1), .inl (g 0, R.toNatClampNeg, .inl t9_0)) : Option (Nat × va_E)) ∧ w175[k3]? = (some (q k3, .inr (2, [.ref (q (k3 + 1)), .int z.2.2.2.2.2.2.2.2.2.2.1, .int z.2.2.2.2.2.2.2.2.2.2.2.1])) : Option (Nat × va_E)) ∧ w175[k3 + 1]? = (some (q (k3 + 1), .inl (g 0, R2.toNatClampNeg, .inl z.2.2.2.2.2.2.2.2.2.2.2.2)) : Option (Nat × va_E)) ∧ (∃ n, (z.1.toInt - ((-1))).toNat < n ∧ F_Mil_powerBelow_L27 R R2 t0_0 t0_1 t1_0 t2_0 t2_1 t3_0 t4_0 t4_1 t5_0 t6_0 t6_1 t7_0 t8_0 t8_1 t9_0 t10_0 t10_1 t11_0 p64 p111 n z.1 z.2.1 z.2.2.1 z.2.2.2.1 z.2.2.2.2.1 z.2.2.2.2.2.1 z.2.2.2.2.2.2.1 z.2.2.2.2.2.2.2.1 z.2.2.2.2.2.2.2.2.1 z.2.2.2.2.2.2.2.2.2.1 z.2.2.2.2.2.2.2.2.2.2.1 z.2.2.2.2.2.2.2.2.2.2.2.1 z.2.2.2.2.2.2.2.2.2.2.2.2 = (F_Mil_powerBelow R R2 t0_0 t0_1 t1_0 t2_0 t2_1 t3_0 t4_0 t4_1 t5_0 t6_0 t6_1 t7_0 t8_0 t8_1 t9_0 t10_0 t10_1 t11_0) ∧ True ∧ S_Mil_powerBelow_L27 R R2 t0_0 t0_1 t1_0 t2_0 t2_1 t3_0 t4_0 t4_1 t5_0 t6_0 t6_1 t7_0 t8_0 t8_1 t9_0 t10_0 t10_1 t11_0 p64 p111 n z.1 z.2.1 z.2.2.1 z.2.2.2.1 z.2.2.2.2.1 z.2.2.2.2.2.1 z.2.2.2.2.2.2.1 z.2.2.2.2.2.2.2.1 z.2.2.2.2.2.2.2.2.1 z.2.2.2.2.2.2.2.2.2.1 z.2.2.2.2.2.2.2.2.2.2.1 z.2.2.2.2.2.2.2.2.2.2.2.1 z.2.2.2.2.2.2.2.2.2.2.2.2)) (fun z => (z.1.toInt - ((-1))).toNat) ?_ ((a135 : Int32), (y90 : Int32), (y91 : Int32), (f92 : (Nat → Int32)), (y80 : Int32), (y81 : Int32), (f82 : (Nat → Int32)), (t6_0 : Int32), (t6_1 : Int32), (t7_0 : (Nat → Int32)), (y85 : Int32), (y86 : Int32), (f87 : (Nat → Int32))) _ _ _ u77 ⟨(show q_F (0 ≤ a135.toInt + 1) from (show 0 ≤ a135.toInt + 1 from by have t1 : 0 ≤ a129.toInt := b130; have t2 : a135.toInt = a129.toInt - 1 := b137; omega)), (show q_F (0 ≤ y90.toInt) from (show 0 ≤ y90.toInt from by have t1 : 0 ≤ y91.toInt := b94; have t2 : y91.toInt ≤ y90.toInt := b108; omega)), (show q_F (y90.toInt ≤ 220) from (show y90.toInt ≤ 220 from by have t1 : y90.toInt ≤ 220 := b103; omega)), (show q_F (0 ≤ y80.toInt) from (show 0 ≤ y80.toInt from by have t1 : 0 ≤ y91.toInt := b94; have t2 : y91.toInt ≤ y80.toInt := b104; omega)), (show q_F (y80.toInt ≤ 220) from (show y80.toInt ≤ 220 from by have t1 : y80.toInt ≤ 220 := b96; omega)), (show q_F (0 ≤ y81.toInt) from (show 0 ≤ y81.toInt from by have t1 : 0 ≤ y91.toInt := b94; have t2 : y91.toInt ≤ y81.toInt := b105; omega)), (show q_F (y81.toInt ≤ 1) from (show y81.toInt ≤ 1 from by have t1 : y54.toInt ≤ 1 := b60; have t2 : y81.toInt ≤ y54.toInt := b97; omega)), (show q_F (0 ≤ t6_0.toInt) from (show 0 ≤ t6_0.toInt from by have t1 : 0 ≤ t6_0.toInt ∧ t6_0.toInt ≤ 220 := btt6_0; omega)), (show q_F (t6_0.toInt ≤ 220) from (show t6_0.toInt ≤ 220 from by have t1 : 0 ≤ t6_0.toInt ∧ t6_0.toInt ≤ 220 := btt6_0; omega)), (show q_F (0 ≤ t6_1.toInt) from (show 0 ≤ t6_1.toInt from by have t1 : 0 ≤ t6_1.toInt ∧ t6_1.toInt ≤ 1 := btt6_1; omega)), (show q_F (t6_1.toInt ≤ 1) from (show t6_1.toInt ≤ 1 from by have t1 : 0 ≤ t6_1.toInt ∧ t6_1.toInt ≤ 1 := btt6_1; omega)), (show q_F (0 ≤ y85.toInt) from (show 0 ≤ y85.toInt from by have t1 : 0 ≤ y91.toInt := b94; have t2 : y91.toInt ≤ y85.toInt := b106; omega)), (show q_F (y85.toInt ≤ 220) from (show y85.toInt ≤ 220 from by have t1 : 0 ≤ R2.toInt ∧ R2.toInt ≤ 220 := hfk30; have t2 : y85.toInt ≤ R2.toInt := b99; omega)), (show q_F (0 ≤ y86.toInt) from (show 0 ≤ y86.toInt from by have t1 : 0 ≤ y91.toInt := b94; have t2 : y91.toInt ≤ y86.toInt := b107; omega)), (show q_F (y91.toInt ≤ y91.toInt) from (show y91.toInt ≤ y91.toInt from by omega)), (show q_F (y91.toInt ≤ y91.toInt) from (show y91.toInt ≤ y91.toInt from by omega)), (show q_F (y86.toInt ≤ y86.toInt) from (show y86.toInt ≤ y86.toInt from by omega)), (show q_F (a135.toInt + y81.toInt ≤ a135.toInt + y81.toInt) from (show a135.toInt + y81.toInt ≤ a135.toInt + y81.toInt from by omega)), (show q_F (a135.toInt + y81.toInt ≤ y81.toInt + a135.toInt) from (show a135.toInt + y81.toInt ≤ y81.toInt + a135.toInt from by omega)), (show q_F (a135.toInt + t6_1.toInt ≤ a135.toInt + t6_1.toInt) from (show a135.toInt + t6_1.toInt ≤ a135.toInt + t6_1.toInt from by omega)), (show q_F (a135.toInt + t6_1.toInt ≤ t6_1.toInt + a135.toInt) from (show a135.toInt + t6_1.toInt ≤ t6_1.toInt + a135.toInt from by omega)), (show q_F (a135.toInt + y86.toInt ≤ y86.toInt + a135.toInt) from (show a135.toInt + y86.toInt ≤ y86.toInt + a135.toInt from by omega)), V, q_lw hl (q_lw1 0 rfl (q_lw1 1 rfl (q_lw1 2 rfl (q_lw1 3 rfl q_lw0)))), hI, hF, hT0, hT1, hO89, hA93, hO79, hA83, hT6, hT7, hT8, hT9, hO84, hA88, ⟨((a135.toInt - ((-1))).toNat + 1), Nat.lt_succ_self _, (show F_Mil_powerBelow_L27 R R2 t0_0 t0_1 t1_0 t2_0 t2_1 t3_0 t4_0 t4_1 t5_0 t6_0 t6_1 t7_0 t8_0 t8_1 t9_0 t10_0 t10_1 t11_0 p64 p111 ((a135.toInt - ((-1))).toNat + 1) a135 y90 y91 f92 y80 y81 f82 t6_0 t6_1 t7_0 y85 y86 f87 = (F_Mil_powerBelow R R2 t0_0 t0_1 t1_0 t2_0 t2_1 t3_0 t4_0 t4_1 t5_0 t6_0 t6_1 t7_0 t8_0 t8_1 t9_0 t10_0 t10_1 t11_0) from Eq.trans (by rw [← e136, e134, e121, e120, e119, e118, e117, e116, e115, e114, e113, F_Mil_powerBelow_c17.eq_1]) hR122), (show True ∧ S_Mil_powerBelow_L27 R R2 t0_0 t0_1 t1_0 t2_0 t2_1 t3_0 t4_0 t4_1 t5_0 t6_0 t6_1 t7_0 t8_0 t8_1 t9_0 t10_0 t10_1 t11_0 p64 p111 ((a135.toInt - ((-1))).toNat + 1) a135 y90 y91 f92 y80 y81 f82 t6_0 t6_1 t7_0 y85 y86 f87 from (by rw [← e136, e134, e121, e120, e119, e118, e117, e116, e115, e114, e113]; have h := hS123; rw [S_Mil_powerBelow_c17.eq_1] at h; with_reducible exact h))⟩⟩
  rintro ⟨lx139, lx140, lx141, lx142, lx143, lx144, lx145, lx146, lx147, lx148, lx149, lx150, lx151⟩ H locs ls w175 ⟨i152, i153, i154, i155, i156, i157, i158, i159, i160, i161, i162, i163, i164, i165, i166, i167, i168, i169, i170, i171, i172, i173, V, hl, hI, hF, hO176, hO177, hO178, hO179, hO180, hO181, hO182, hO183, hO184, hO185, hO186, hO187, ⟨fu190, hf191, hR188, hS189⟩⟩ ih174
  obtain ⟨fm192, rfl⟩ : ∃ m, fu190 = m + 1 := ⟨fu190 - 1, by omega⟩
  replace i152 : q_F (0 ≤ lx139.toInt + 1) := i152
  replace i153 : q_F (0 ≤ lx140.toInt) := i153
  replace i154 : q_F (lx140.toInt ≤ 220) := i154
  clear i155
  replace i156 : q_F (lx143.toInt ≤ 220) := i156
  replace i157 : q_F (0 ≤ lx144.toInt) := i157
  replace i158 : q_F (lx144.toInt ≤ 1) := i158
  replace i159 : q_F (0 ≤ lx146.toInt) := i159
  replace i160 : q_F (lx146.toInt ≤ 220) := i160
  replace i161 : q_F (0 ≤ lx147.toInt) := i161
  replace i162 : q_F (lx147.toInt ≤ 1) := i162
  replace i163 : q_F (0 ≤ lx149.toInt) := i163
  replace i164 : q_F (lx149.toInt ≤ 220) := i164
  replace i165 : q_F (0 ≤ lx150.toInt) := i165
  replace i166 : q_F (y91.toInt ≤ lx141.toInt) := i166
  replace i167 : q_F (lx141.toInt ≤ y91.toInt) := i167
  replace i168 : q_F (lx150.toInt ≤ y86.toInt) := i168
  replace i169 : q_F (lx139.toInt + lx144.toInt ≤ a135.toInt + y81.toInt) := i169
  replace i170 : q_F (lx139.toInt + y81.toInt ≤ lx144.toInt + a135.toInt) := i170
  clear i171
  clear i172
  clear i173
  replace hl : lv_has ls 4 [(3, .int lx139), (0, .ref (q 9)), (1, .ref (q k2)), (2, .ref (q k3))] := hl
  replace hO176 : w175[10]? = (some (q 10, .inr (2, [.ref (q 11), .int t0_0, .int t0_1])) : Option (Nat × va_E)) := hO176
  replace hO177 : w175[11]? = (some (q 11, .inl (g 0, (220 : Int32).toNatClampNeg, .inl t1_0)) : Option (Nat × va_E)) := hO177
  replace hO178 : w175[12]? = (some (q 12, .inr (2, [.ref (q 13), .int lx140, .int lx141])) : Option (Nat × va_E)) := hO178
  replace hO179 : w175[13]? = (some (q 13, .inl (g 0, (220 : Int32).toNatClampNeg, .inl lx142)) : Option (Nat × va_E)) := hO179
  replace hO180 : w175[14]? = (some (q 14, .inr (2, [.ref (q 15), .int lx143, .int lx144])) : Option (Nat × va_E)) := hO180
  replace hO181 : w175[15]? = (some (q 15, .inl (g 0, (220 : Int32).toNatClampNeg, .inl lx145)) : Option (Nat × va_E)) := hO181
  replace hO182 : w175[18]? = (some (q 18, .inr (2, [.ref (q 19), .int lx146, .int lx147])) : Option (Nat × va_E)) := hO182
  replace hO183 : w175[19]? = (some (q 19, .inl (g 0, (220 : Int32).toNatClampNeg, .inl lx148)) : Option (Nat × va_E)) := hO183
  replace hO184 : w175[k2]? = (some (q k2, .inr (2, [.ref (q (k2 + 1)), .int t8_0, .int t8_1])) : Option (Nat × va_E)) := hO184
  replace hO185 : w175[k2 + 1]? = (some (q (k2 + 1), .inl (g 0, R.toNatClampNeg, .inl t9_0)) : Option (Nat × va_E)) := hO185
  replace hO186 : w175[k3]? = (some (q k3, .inr (2, [.ref (q (k3 + 1)), .int lx149, .int lx150])) : Option (Nat × va_E)) := hO186
  replace hO187 : w175[k3 + 1]? = (some (q (k3 + 1), .inl (g 0, R2.toNatClampNeg, .inl lx151)) : Option (Nat × va_E)) := hO187
  refine lv_iload_n hx hb d_8_7_27 rfl (lv_at hl 0 rfl) ?_
  refine lv_if_lt (tgt := 114) hx hb d_8_7_28 (by decide) (fun c193 => ?_) (fun c193 => ?_)
  ·
    refine lv_aload_n hx hb d_8_7_114 rfl (lv_at hl 1 rfl) ?_
    have hO195 := n_o9 hI
    refine q_get (ci := 4) (j := 0) (v := .ref (q 10)) C0 V i_Mil rfl rfl hO195 (by decide) w_108 rfl d_8_7_115 ?_
    refine lv_aload_n hx hb d_8_7_118 rfl (lv_at hl 1 rfl) ?_
    refine q_get (ci := 4) (j := 2) (v := .ref (q 14)) C0 V i_Mil rfl rfl hO195 (by decide) w_117 rfl d_8_7_119 ?_
    refine q_gov V (q_runV (As := [.ref (q 14)]) (rest := []) (d := 2) (mc := 0) (ms := 0) (ci := 2) C0 V rfl LV_Mil_51 (X_Big_copy l D g q w175 10 220 (n_b10 g q) (by decide) 14 220 (n_b14 g q) (by decide)  (by decide) hI t0_0 t0_1 hO176 t1_0 hO177 lx143 lx144 hO180 lx145 hO181  _) rfl rfl hO176 rfl hl.1 rfl (Nat.le_of_ble_eq_true rfl) ⟨by decide, by decide⟩ ⟨Nat.le_of_ble_eq_true rfl, Nat.le_of_ble_eq_true rfl⟩ d_8_7_122) (fun u196 H locs hp197 V => ?_)
    obtain ⟨hI, hZ9⟩ := hp197
    obtain ⟨hu209, hZ9⟩ := hZ9
    obtain ⟨y199, hZ9⟩ := hZ9
    obtain ⟨y200, hZ9⟩ := hZ9
    obtain ⟨f201, hZ9⟩ := hZ9
    obtain ⟨hO198, hZ9⟩ := hZ9
    obtain ⟨hA202, hZ9⟩ := hZ9
    obtain ⟨b203, hZ9⟩ := hZ9
    obtain ⟨b204, hZ9⟩ := hZ9
    replace hZ9 := hZ9.2
    obtain ⟨b206, hZ9⟩ := hZ9
    obtain ⟨b207, hE208⟩ := hZ9
    replace hO198 : u196[10]? = (some (q 10, .inr (2, [.ref (q 11), .int y199, .int y200])) : Option (Nat × va_E)) := hO198
    replace hA202 : u196[11]? = (some (q 11, .inl (g 0, (220 : Int32).toNatClampNeg, .inl f201)) : Option (Nat × va_E)) := hA202
    obtain ⟨p210, e211⟩ : ∃ z, z = (F_Big_copy (220 : Int32) (220 : Int32) t0_0 t0_1 t1_0 lx143 lx144 lx145) := ⟨_, rfl⟩
    have e212 : y199 = p210.1 := congrArg (fun z => z.1) (hE208.trans e211.symm)
    have e213 : y200 = p210.2.1 := congrArg (fun z => z.2.1) (hE208.trans e211.symm)
    have e214 : f201 = p210.2.2 := congrArg (fun z => z.2.2) (hE208.trans e211.symm)
    replace b203 : q_F (0 ≤ y199.toInt) := b203
    replace b204 : q_F (y199.toInt ≤ lx143.toInt) := b204
    replace b206 : q_F (lx144.toInt ≤ y200.toInt) := b206
    replace b207 : q_F (y200.toInt ≤ lx144.toInt) := b207
    replace hO178 := (hu209 _ (by decide)).trans hO178
    replace hO179 := (hu209 _ (by decide)).trans hO179
    replace hO180 := (hu209 _ (by decide)).trans hO180
    replace hO181 := (hu209 _ (by decide)).trans hO181
    replace hO182 := (hu209 _ (by decide)).trans hO182
    replace hO183 := (hu209 _ (by decide)).trans hO183
    replace hO186 := (hu209 _ (by first | exact (q_nc ne_k3_10 (q_nc ne_k3_11 List.not_mem_nil)) | (have z0 := zk3; simp only [List.mem_cons, List.not_mem_nil, or_false, not_or]; omega))).trans hO186
    replace hO187 := (hu209 _ (by first | exact (q_nc (q_nt1 ne_k3_9) (q_nc (q_nt1 ne_k3_10) List.not_mem_nil)) | (have z0 := zk3; simp only [List.mem_cons, List.not_mem_nil, or_false, not_or]; omega))).trans hO187
    replace hF := q_uc hF hu209 (by first | exact (q_sk (q_mi 0 rfl) (q_sk (q_mi 1 rfl) q_s0)) | simp)
    have hR215 := (show F_Mil_powerBelow_c122 (F_Mil_powerBelow_L27 R R2 t0_0 t0_1 t1_0 t2_0 t2_1 t3_0 t4_0 t4_1 t5_0 t6_0 t6_1 t7_0 t8_0 t8_1 t9_0 t10_0 t10_1 t11_0 p64 p111 fm192) R R2 t0_0 t0_1 t1_0 t2_0 t2_1 t3_0 t4_0 t4_1 t5_0 t6_0 t6_1 t7_0 t8_0 t8_1 t9_0 t10_0 t10_1 t11_0 p64 p111 lx139 lx140 lx141 lx142 lx143 lx144 lx145 lx146 lx147 lx148 lx149 lx150 lx151 p210 = (F_Mil_powerBelow R R2 t0_0 t0_1 t1_0 t2_0 t2_1 t3_0 t4_0 t4_1 t5_0 t6_0 t6_1 t7_0 t8_0 t8_1 t9_0 t10_0 t10_1 t11_0) from Eq.trans (by rw [e211, F_Mil_powerBelow_L27.eq_2, if_pos c193]) hR188)
    have hS216 := (show True ∧ S_Mil_powerBelow_c122 (S_Mil_powerBelow_L27 R R2 t0_0 t0_1 t1_0 t2_0 t2_1 t3_0 t4_0 t4_1 t5_0 t6_0 t6_1 t7_0 t8_0 t8_1 t9_0 t10_0 t10_1 t11_0 p64 p111 fm192) R R2 t0_0 t0_1 t1_0 t2_0 t2_1 t3_0 t4_0 t4_1 t5_0 t6_0 t6_1 t7_0 t8_0 t8_1 t9_0 t10_0 t10_1 t11_0 p64 p111 lx139 lx140 lx141 lx142 lx143 lx144 lx145 lx146 lx147 lx148 lx149 lx150 lx151 p210 from (by rw [e211]; have h := hS189; rw [S_Mil_powerBelow_L27.eq_2] at h; rw [if_pos c193] at h; with_reducible exact h))
    exact q_retv C0 V (⟨hI, hF, y199, y200, f201, lx140, lx141, lx142, lx143, lx144, lx145, lx146, lx147, lx148, lx149, lx150, lx151, hO198, hA202, hO178, hO179, hO180, hO181, hO182, hO183, hO186, hO187, (show 0 ≤ lx141.toInt from (by have t1 : 0 ≤ y91.toInt := b94; have t2 : y91.toInt ≤ lx141.toInt := i166; omega)), (show lx141.toInt ≤ 0 from (by have t1 : y91.toInt ≤ 0 := b95; have t2 : lx141.toInt ≤ y91.toInt := i167; omega)), (show lx150.toInt ≤ t10_1.toInt from (by have t1 : y86.toInt ≤ t10_1.toInt := b100; have t2 : lx150.toInt ≤ y86.toInt := i168; omega)), (show lx141.toInt ≤ y199.toInt from (by have t1 : y91.toInt ≤ 0 := b95; have t2 : lx141.toInt ≤ y91.toInt := i167; have t3 : 0 ≤ y199.toInt := b203; omega)), (show y199.toInt ≤ lx143.toInt from (by first | with_reducible exact q_fe b204 | (have t1 : y199.toInt ≤ lx143.toInt := b204; omega))), (show lx144.toInt ≤ y200.toInt from (by first | with_reducible exact q_fe b206 | (have t1 : lx144.toInt ≤ y200.toInt := b206; omega))), (show y200.toInt ≤ lx144.toInt from (by first | with_reducible exact q_fe b207 | (have t1 : y200.toInt ≤ lx144.toInt := b207; omega))), (show lx141.toInt ≤ lx140.toInt from (by have t1 : y91.toInt ≤ 0 := b95; have t2 : 0 ≤ lx140.toInt := i153; have t3 : lx141.toInt ≤ y91.toInt := i167; omega)), (show lx140.toInt ≤ lx141.toInt + 220 from (by have t1 : 0 ≤ y91.toInt := b94; have t2 : lx140.toInt ≤ 220 := i154; have t3 : y91.toInt ≤ lx141.toInt := i166; omega)), (show lx143.toInt ≤ lx141.toInt + 220 from (by have t1 : 0 ≤ y91.toInt := b94; have t2 : lx143.toInt ≤ 220 := i156; have t3 : y91.toInt ≤ lx141.toInt := i166; omega)), (show lx144.toInt ≤ lx141.toInt + 1 from (by have t1 : 0 ≤ y91.toInt := b94; have t2 : lx144.toInt ≤ 1 := i158; have t3 : y91.toInt ≤ lx141.toInt := i166; omega)), (show lx141.toInt ≤ lx144.toInt from (by have t1 : y91.toInt ≤ 0 := b95; have t2 : 0 ≤ lx144.toInt := i157; have t3 : lx141.toInt ≤ y91.toInt := i167; omega)), (show lx146.toInt ≤ lx141.toInt + 220 from (by have t1 : 0 ≤ y91.toInt := b94; have t2 : lx146.toInt ≤ 220 := i160; have t3 : y91.toInt ≤ lx141.toInt := i166; omega)), (show lx141.toInt ≤ lx146.toInt from (by have t1 : y91.toInt ≤ 0 := b95; have t2 : 0 ≤ lx146.toInt := i159; have t3 : lx141.toInt ≤ y91.toInt := i167; omega)), (show lx147.toInt ≤ lx141.toInt + 1 from (by have t1 : 0 ≤ y91.toInt := b94; have t2 : lx147.toInt ≤ 1 := i162; have t3 : y91.toInt ≤ lx141.toInt := i166; omega)), (show lx141.toInt ≤ lx147.toInt from (by have t1 : y91.toInt ≤ 0 := b95; have t2 : 0 ≤ lx147.toInt := i161; have t3 : lx141.toInt ≤ y91.toInt := i167; omega)), (show lx149.toInt ≤ lx141.toInt + 220 from (by have t1 : 0 ≤ y91.toInt := b94; have t2 : lx149.toInt ≤ 220 := i164; have t3 : y91.toInt ≤ lx141.toInt := i166; omega)), (show lx141.toInt ≤ lx149.toInt from (by have t1 : y91.toInt ≤ 0 := b95; have t2 : 0 ≤ lx149.toInt := i163; have t3 : lx141.toInt ≤ y91.toInt := i167; omega)), (show lx141.toInt ≤ lx150.toInt from (by have t1 : y91.toInt ≤ 0 := b95; have t2 : 0 ≤ lx150.toInt := i165; have t3 : lx141.toInt ≤ y91.toInt := i167; omega)), (show (y199, y200, f201, lx140, lx141, lx142, lx143, lx144, lx145, lx146, lx147, lx148, lx149, lx150, lx151) = (F_Mil_powerBelow R R2 t0_0 t0_1 t1_0 t2_0 t2_1 t3_0 t4_0 t4_1 t5_0 t6_0 t6_1 t7_0 t8_0 t8_1 t9_0 t10_0 t10_1 t11_0) from Eq.trans (by rw [e214, e213, e212, F_Mil_powerBelow_c122.eq_1]) hR215)⟩) d_8_7_125
  ·
    have b220 : q_F (0 ≤ lx139.toInt) := (q_nltI c193)
    refine lv_aload_n hx hb d_8_7_31 rfl (lv_at hl 1 rfl) ?_
    have hO221 := n_o9 hI
    refine q_get (ci := 4) (j := 4) (v := .ref (q 18)) C0 V i_Mil rfl rfl hO221 (by decide) w_123 rfl d_8_7_32 ?_
    refine lv_aload_n hx hb d_8_7_35 rfl (lv_at hl 1 rfl) ?_
    refine q_get (ci := 4) (j := 2) (v := .ref (q 14)) C0 V i_Mil rfl rfl hO221 (by decide) w_117 rfl d_8_7_36 ?_
    refine lv_aload_n hx hb d_8_7_39 rfl (lv_at hl 1 rfl) ?_
    refine q_get (ci := 4) (j := 2) (v := .ref (q 14)) C0 V i_Mil rfl rfl hO221 (by decide) w_117 rfl d_8_7_40 ?_
    refine q_gov V (q_runV (As := [.ref (q 14), .ref (q 14)]) (rest := []) (d := 3) (mc := 0) (ms := 0) (ci := 2) C0 V rfl LV_Mil_47 (X_Big_product l D g q w175 18 220 (n_b18 g q) (by decide) 14 220 (n_b14 g q) (by decide) 14 220 (n_b14 g q) (by decide)  (by decide) (by decide) hI lx146 lx147 hO182 lx148 hO183 lx143 lx144 hO180 lx145 hO181 lx143 lx144 hO180 lx145 hO181  _) rfl rfl hO182 rfl hl.1 rfl (Nat.le_of_ble_eq_true rfl) ⟨by decide, by decide⟩ ⟨Nat.le_of_ble_eq_true rfl, Nat.le_of_ble_eq_true rfl⟩ d_8_7_43) (fun u222 H locs hp223 V => ?_)
    obtain ⟨hI, hZ9⟩ := hp223
    obtain ⟨hu234, hZ9⟩ := hZ9
    obtain ⟨y225, hZ9⟩ := hZ9
    obtain ⟨y226, hZ9⟩ := hZ9
    obtain ⟨f227, hZ9⟩ := hZ9
    obtain ⟨hO224, hZ9⟩ := hZ9
    obtain ⟨hA228, hZ9⟩ := hZ9
    replace hZ9 := hZ9.2
    obtain ⟨b230, hZ9⟩ := hZ9
    replace hZ9 := hZ9.2
    obtain ⟨-, hE233⟩ := hZ9
    replace hO224 : u222[18]? = (some (q 18, .inr (2, [.ref (q 19), .int y225, .int y226])) : Option (Nat × va_E)) := hO224
    replace hA228 : u222[19]? = (some (q 19, .inl (g 0, (220 : Int32).toNatClampNeg, .inl f227)) : Option (Nat × va_E)) := hA228
    obtain ⟨p235, e236⟩ : ∃ z, z = (F_Big_product (220 : Int32) (220 : Int32) (220 : Int32) lx146 lx147 lx148 lx143 lx144 lx145 lx143 lx144 lx145) := ⟨_, rfl⟩
    have e237 : y225 = p235.1 := congrArg (fun z => z.1) (hE233.trans e236.symm)
    have e238 : y226 = p235.2.1 := congrArg (fun z => z.2.1) (hE233.trans e236.symm)
    have e239 : f227 = p235.2.2 := congrArg (fun z => z.2.2) (hE233.trans e236.symm)
    replace b230 : q_F (y226.toInt ≤ 1) := b230
    replace hO176 := (hu234 _ (by decide)).trans hO176
    replace hO177 := (hu234 _ (by decide)).trans hO177
    replace hO178 := (hu234 _ (by decide)).trans hO178
    replace hO179 := (hu234 _ (by decide)).trans hO179
    replace hO180 := (hu234 _ (by decide)).trans hO180
    replace hO181 := (hu234 _ (by decide)).trans hO181
    replace hO184 := (hu234 _ (by first | exact (q_nc ne_k2_18 (q_nc ne_k2_19 List.not_mem_nil)) | (have z0 := zk2; simp only [List.mem_cons, List.not_mem_nil, or_false, not_or]; omega))).trans hO184
    replace hO185 := (hu234 _ (by first | exact (q_nc (q_nt1 ne_k2_17) (q_nc (q_nt1 ne_k2_18) List.not_mem_nil)) | (have z0 := zk2; simp only [List.mem_cons, List.not_mem_nil, or_false, not_or]; omega))).trans hO185
    replace hO186 := (hu234 _ (by first | exact (q_nc ne_k3_18 (q_nc ne_k3_19 List.not_mem_nil)) | (have z0 := zk3; simp only [List.mem_cons, List.not_mem_nil, or_false, not_or]; omega))).trans hO186
    replace hO187 := (hu234 _ (by first | exact (q_nc (q_nt1 ne_k3_17) (q_nc (q_nt1 ne_k3_18) List.not_mem_nil)) | (have z0 := zk3; simp only [List.mem_cons, List.not_mem_nil, or_false, not_or]; omega))).trans hO187
    replace hO221 := (hu234 _ (by decide)).trans hO221
    replace hF := q_uc hF hu234 (by first | exact (q_sk (q_mi 6 rfl) (q_sk (q_mi 7 rfl) q_s0)) | simp)
    have hR240 := (show F_Mil_powerBelow_c43 (F_Mil_powerBelow_L27 R R2 t0_0 t0_1 t1_0 t2_0 t2_1 t3_0 t4_0 t4_1 t5_0 t6_0 t6_1 t7_0 t8_0 t8_1 t9_0 t10_0 t10_1 t11_0 p64 p111 fm192) R R2 t0_0 t0_1 t1_0 t2_0 t2_1 t3_0 t4_0 t4_1 t5_0 t6_0 t6_1 t7_0 t8_0 t8_1 t9_0 t10_0 t10_1 t11_0 p64 p111 lx139 lx140 lx141 lx142 lx143 lx144 lx145 lx146 lx147 lx148 lx149 lx150 lx151 p235 = (F_Mil_powerBelow R R2 t0_0 t0_1 t1_0 t2_0 t2_1 t3_0 t4_0 t4_1 t5_0 t6_0 t6_1 t7_0 t8_0 t8_1 t9_0 t10_0 t10_1 t11_0) from Eq.trans (by rw [e236, F_Mil_powerBelow_L27.eq_2, if_neg c193]) hR188)
    have hS241 := (show True ∧ S_Mil_powerBelow_c43 (S_Mil_powerBelow_L27 R R2 t0_0 t0_1 t1_0 t2_0 t2_1 t3_0 t4_0 t4_1 t5_0 t6_0 t6_1 t7_0 t8_0 t8_1 t9_0 t10_0 t10_1 t11_0 p64 p111 fm192) R R2 t0_0 t0_1 t1_0 t2_0 t2_1 t3_0 t4_0 t4_1 t5_0 t6_0 t6_1 t7_0 t8_0 t8_1 t9_0 t10_0 t10_1 t11_0 p64 p111 lx139 lx140 lx141 lx142 lx143 lx144 lx145 lx146 lx147 lx148 lx149 lx150 lx151 p235 from (by rw [e236]; have h := hS189; rw [S_Mil_powerBelow_L27.eq_2] at h; rw [if_neg c193] at h; with_reducible exact h))
    refine lv_aload_n hx hb d_8_7_46 rfl (lv_at hl 1 rfl) ?_
    refine q_get (ci := 4) (j := 4) (v := .ref (q 18)) C0 V i_Mil rfl rfl hO221 (by decide) w_123 rfl d_8_7_47 ?_
    refine lv_aload_n hx hb d_8_7_50 rfl (lv_at hl 3 rfl) ?_
    refine lv_aload_n hx hb d_8_7_51 rfl (lv_at hl 1 rfl) ?_
    refine q_get (ci := 4) (j := 1) (v := .ref (q 12)) C0 V i_Mil rfl rfl hO221 (by decide) w_114 rfl d_8_7_52 ?_
    have ne245 := q_df hO185 hO186
    have ne246 := q_df hO187 hO184
    have ob247 : True ∧ S_Big_divideBy (220 : Int32) R2 (220 : Int32) y225 y226 f227 lx149 lx150 lx151 lx140 lx141 lx142 := (by rw [e239, e238, e237]; have h := hS241; rw [S_Mil_powerBelow_c43.eq_1] at h; with_reducible exact h.2.1)
    refine q_gov V (q_runV (As := [.ref (q k3), .ref (q 12)]) (rest := []) (d := 4) (mc := 0) (ms := 0) (ci := 2) C0 V rfl LV_Mil_59 (X_Big_divideBy l D g q u222 18 220 (n_b18 g q) (by decide) k3 R2 hB3 zk3 12 220 (n_b12 g q) (by decide)  (by have z := ne_k3_18; omega) (by decide) (by have z := ne_k3_12; omega) hI y225 y226 hO224 f227 hA228 lx149 lx150 hO186 lx151 hO187 lx140 lx141 hO178 lx142 hO179 ob247 _) rfl rfl hO224 rfl hl.1 rfl (Nat.le_of_ble_eq_true rfl) ⟨by decide, by decide⟩ ⟨Nat.le_of_ble_eq_true rfl, Nat.le_of_ble_eq_true rfl⟩ d_8_7_55) (fun u248 H locs hp249 V => ?_)
    obtain ⟨hI, hZ9⟩ := hp249
    obtain ⟨hu281, hZ9⟩ := hZ9
    obtain ⟨y251, hZ9⟩ := hZ9
    obtain ⟨y252, hZ9⟩ := hZ9
    obtain ⟨f253, hZ9⟩ := hZ9
    obtain ⟨y256, hZ9⟩ := hZ9
    obtain ⟨y257, hZ9⟩ := hZ9
    obtain ⟨f258, hZ9⟩ := hZ9
    obtain ⟨y261, hZ9⟩ := hZ9
    obtain ⟨y262, hZ9⟩ := hZ9
    obtain ⟨f263, hZ9⟩ := hZ9
    obtain ⟨hO250, hZ9⟩ := hZ9
    obtain ⟨hA254, hZ9⟩ := hZ9
    obtain ⟨hO255, hZ9⟩ := hZ9
    obtain ⟨hA259, hZ9⟩ := hZ9
    obtain ⟨hO260, hZ9⟩ := hZ9
    obtain ⟨hA264, hZ9⟩ := hZ9
    obtain ⟨b265, hZ9⟩ := hZ9
    obtain ⟨b266, hZ9⟩ := hZ9
    obtain ⟨b267, hZ9⟩ := hZ9
    obtain ⟨b268, hZ9⟩ := hZ9
    replace hZ9 := hZ9.2
    obtain ⟨b270, hZ9⟩ := hZ9
    obtain ⟨b271, hZ9⟩ := hZ9
    replace hZ9 := hZ9.2.2
    obtain ⟨b274, hZ9⟩ := hZ9
    obtain ⟨b275, hZ9⟩ := hZ9
    obtain ⟨b276, hZ9⟩ := hZ9
    obtain ⟨b277, hZ9⟩ := hZ9
    obtain ⟨b278, hZ9⟩ := hZ9
    obtain ⟨b279, hE280⟩ := hZ9
    replace hO250 : u248[18]? = (some (q 18, .inr (2, [.ref (q 19), .int y251, .int y252])) : Option (Nat × va_E)) := hO250
    replace hA254 : u248[19]? = (some (q 19, .inl (g 0, (220 : Int32).toNatClampNeg, .inl f253)) : Option (Nat × va_E)) := hA254
    replace hO255 : u248[k3]? = (some (q k3, .inr (2, [.ref (q (k3 + 1)), .int y256, .int y257])) : Option (Nat × va_E)) := hO255
    replace hA259 : u248[k3 + 1]? = (some (q (k3 + 1), .inl (g 0, R2.toNatClampNeg, .inl f258)) : Option (Nat × va_E)) := hA259
    replace hO260 : u248[12]? = (some (q 12, .inr (2, [.ref (q 13), .int y261, .int y262])) : Option (Nat × va_E)) := hO260
    replace hA264 : u248[13]? = (some (q 13, .inl (g 0, (220 : Int32).toNatClampNeg, .inl f263)) : Option (Nat × va_E)) := hA264
    obtain ⟨p282, e283⟩ : ∃ z, z = (F_Big_divideBy (220 : Int32) R2 (220 : Int32) y225 y226 f227 lx149 lx150 lx151 lx140 lx141 lx142) := ⟨_, rfl⟩
    have e284 : y251 = p282.1 := congrArg (fun z => z.1) (hE280.trans e283.symm)
    have e285 : y252 = p282.2.1 := congrArg (fun z => z.2.1) (hE280.trans e283.symm)
    have e286 : f253 = p282.2.2.1 := congrArg (fun z => z.2.2.1) (hE280.trans e283.symm)
    have e287 : y256 = p282.2.2.2.1 := congrArg (fun z => z.2.2.2.1) (hE280.trans e283.symm)
    have e288 : y257 = p282.2.2.2.2.1 := congrArg (fun z => z.2.2.2.2.1) (hE280.trans e283.symm)
    have e289 : f258 = p282.2.2.2.2.2.1 := congrArg (fun z => z.2.2.2.2.2.1) (hE280.trans e283.symm)
    have e290 : y261 = p282.2.2.2.2.2.2.1 := congrArg (fun z => z.2.2.2.2.2.2.1) (hE280.trans e283.symm)
    have e291 : y262 = p282.2.2.2.2.2.2.2.1 := congrArg (fun z => z.2.2.2.2.2.2.2.1) (hE280.trans e283.symm)
    have e292 : f263 = p282.2.2.2.2.2.2.2.2 := congrArg (fun z => z.2.2.2.2.2.2.2.2) (hE280.trans e283.symm)
    replace b265 : q_F (0 ≤ y262.toInt) := b265
    replace b266 : q_F (y262.toInt ≤ 0) := b266
    replace b267 : q_F (y251.toInt ≤ 220) := b267
    replace b268 : q_F (y252.toInt ≤ y226.toInt) := b268
    replace b270 : q_F (y256.toInt ≤ R2.toInt) := b270
    replace b271 : q_F (y257.toInt ≤ lx150.toInt) := b271
    replace b274 : q_F (y261.toInt ≤ 220) := b274
    replace b275 : q_F (y262.toInt ≤ y251.toInt) := b275
    replace b276 : q_F (y262.toInt ≤ y252.toInt) := b276
    replace b277 : q_F (y262.toInt ≤ y256.toInt) := b277
    replace b278 : q_F (y262.toInt ≤ y257.toInt) := b278
    replace b279 : q_F (y262.toInt ≤ y261.toInt) := b279
    replace hO176 := (hu281 _ (by first | exact (q_nc (Nat.ne_of_beq_eq_false rfl) (q_nc (Nat.ne_of_beq_eq_false rfl) (q_nc (Ne.symm ne_k3_10) (q_nc (q_ns1 ne_k3_9) (q_nc (Nat.ne_of_beq_eq_false rfl) (q_nc (Nat.ne_of_beq_eq_false rfl) List.not_mem_nil)))))) | (have z0 := zk3; simp only [List.mem_cons, List.not_mem_nil, or_false, not_or]; omega))).trans hO176
    replace hO177 := (hu281 _ (by first | exact (q_nc (Nat.ne_of_beq_eq_false rfl) (q_nc (Nat.ne_of_beq_eq_false rfl) (q_nc (Ne.symm ne_k3_11) (q_nc (q_ns1 ne_k3_10) (q_nc (Nat.ne_of_beq_eq_false rfl) (q_nc (Nat.ne_of_beq_eq_false rfl) List.not_mem_nil)))))) | (have z0 := zk3; simp only [List.mem_cons, List.not_mem_nil, or_false, not_or]; omega))).trans hO177
    replace hO180 := (hu281 _ (by first | exact (q_nc (Nat.ne_of_beq_eq_false rfl) (q_nc (Nat.ne_of_beq_eq_false rfl) (q_nc (Ne.symm ne_k3_14) (q_nc (q_ns1 ne_k3_13) (q_nc (Nat.ne_of_beq_eq_false rfl) (q_nc (Nat.ne_of_beq_eq_false rfl) List.not_mem_nil)))))) | (have z0 := zk3; simp only [List.mem_cons, List.not_mem_nil, or_false, not_or]; omega))).trans hO180
    replace hO181 := (hu281 _ (by first | exact (q_nc (Nat.ne_of_beq_eq_false rfl) (q_nc (Nat.ne_of_beq_eq_false rfl) (q_nc (Ne.symm ne_k3_15) (q_nc (q_ns1 ne_k3_14) (q_nc (Nat.ne_of_beq_eq_false rfl) (q_nc (Nat.ne_of_beq_eq_false rfl) List.not_mem_nil)))))) | (have z0 := zk3; simp only [List.mem_cons, List.not_mem_nil, or_false, not_or]; omega))).trans hO181
    replace hO184 := (hu281 _ (q_nc (by have z := ne_k2_18; omega) (q_nc (by have z := ne_k2_19; omega) (q_nc (by have z := ne_k2_k3; omega) (q_nc (Ne.symm ne246) (q_nc (by have z := ne_k2_12; omega) (q_nc (by have z := ne_k2_13; omega) List.not_mem_nil))))))).trans hO184
    replace hO185 := (hu281 _ (q_nc (by have z := ne_k2_17; omega) (q_nc (by have z := ne_k2_18; omega) (q_nc ne245 (q_nc (by have z := ne_k2_k3; omega) (q_nc (by have z := ne_k2_11; omega) (q_nc (by have z := ne_k2_12; omega) List.not_mem_nil))))))).trans hO185
    replace hO221 := (hu281 _ (by first | exact (q_nc (Nat.ne_of_beq_eq_false rfl) (q_nc (Nat.ne_of_beq_eq_false rfl) (q_nc (Ne.symm ne_k3_9) (q_nc (q_nz1 zk3 rfl) (q_nc (Nat.ne_of_beq_eq_false rfl) (q_nc (Nat.ne_of_beq_eq_false rfl) List.not_mem_nil)))))) | (have z0 := zk3; simp only [List.mem_cons, List.not_mem_nil, or_false, not_or]; omega))).trans hO221
    replace hF := q_uc hF hu281 (by first | exact (q_sk (q_mi 6 rfl) (q_sk (q_mi 7 rfl) (q_sk (q_mi 8 rfl) (q_sk (q_mi 9 rfl) (q_sk (q_mi 2 rfl) (q_sk (q_mi 3 rfl) q_s0)))))) | simp)
    have hR293 := (show F_Mil_powerBelow_c55 (F_Mil_powerBelow_L27 R R2 t0_0 t0_1 t1_0 t2_0 t2_1 t3_0 t4_0 t4_1 t5_0 t6_0 t6_1 t7_0 t8_0 t8_1 t9_0 t10_0 t10_1 t11_0 p64 p111 fm192) R R2 t0_0 t0_1 t1_0 t2_0 t2_1 t3_0 t4_0 t4_1 t5_0 t6_0 t6_1 t7_0 t8_0 t8_1 t9_0 t10_0 t10_1 t11_0 p64 p111 lx139 lx140 lx141 lx142 lx143 lx144 lx145 lx146 lx147 lx148 lx149 lx150 lx151 p235 p282 = (F_Mil_powerBelow R R2 t0_0 t0_1 t1_0 t2_0 t2_1 t3_0 t4_0 t4_1 t5_0 t6_0 t6_1 t7_0 t8_0 t8_1 t9_0 t10_0 t10_1 t11_0) from Eq.trans (by rw [e283, e239, e238, e237, F_Mil_powerBelow_c43.eq_1]) hR240)
    have hS294 := (show True ∧ S_Mil_powerBelow_c55 (S_Mil_powerBelow_L27 R R2 t0_0 t0_1 t1_0 t2_0 t2_1 t3_0 t4_0 t4_1 t5_0 t6_0 t6_1 t7_0 t8_0 t8_1 t9_0 t10_0 t10_1 t11_0 p64 p111 fm192) R R2 t0_0 t0_1 t1_0 t2_0 t2_1 t3_0 t4_0 t4_1 t5_0 t6_0 t6_1 t7_0 t8_0 t8_1 t9_0 t10_0 t10_1 t11_0 p64 p111 lx139 lx140 lx141 lx142 lx143 lx144 lx145 lx146 lx147 lx148 lx149 lx150 lx151 p235 p282 from (by rw [e283, e239, e238, e237]; have h := hS241; rw [S_Mil_powerBelow_c43.eq_1] at h; replace h := q_s2 h; with_reducible exact h))
    refine lv_aload_n hx hb d_8_7_58 rfl (lv_at hl 2 rfl) ?_
    refine lv_iload_n hx hb d_8_7_59 rfl (lv_at hl 0 rfl) ?_
    refine q_goi V (q_runV (As := [.int lx139]) (rest := []) (d := 2) (mc := 0) (ms := 0) (ci := 2) C0 V rfl LV_Mil_89 (X_Big_bit l D g q u248 k2 R hB2 zk2 lx139 hI t8_0 t8_1 hO184 t9_0 hO185  _) rfl rfl hO184 rfl hl.1 rfl (Nat.le_of_ble_eq_true rfl) ⟨by decide, by decide⟩ ⟨Nat.le_of_ble_eq_true rfl, Nat.le_of_ble_eq_true rfl⟩ d_8_7_60) (fun a300 u298 H locs hp299 V => ?_)
    obtain ⟨rfl, b301, b302, hE303⟩ := hp299
    have e304 : a300 = (F_Big_bit R lx139 t8_0 t8_1 t9_0) := hE303
    clear b301
    clear b302
    refine lv_iconst (v := 1) hx hb d_8_7_63 (by decide) ?_
    refine lv_icmp_ne (tgt := 97) hx hb d_8_7_64 (by decide) (fun c305 => ?_) (fun c305 => ?_)
    ·
      refine lv_aload_n hx hb d_8_7_97 rfl (lv_at hl 1 rfl) ?_
      refine q_get (ci := 4) (j := 2) (v := .ref (q 14)) C0 V i_Mil rfl rfl hO221 (by decide) w_117 rfl d_8_7_98 ?_
      refine lv_aload_n hx hb d_8_7_101 rfl (lv_at hl 1 rfl) ?_
      refine q_get (ci := 4) (j := 4) (v := .ref (q 18)) C0 V i_Mil rfl rfl hO221 (by decide) w_123 rfl d_8_7_102 ?_
      refine q_gov V (q_runV (As := [.ref (q 18)]) (rest := []) (d := 2) (mc := 0) (ms := 0) (ci := 2) C0 V rfl LV_Mil_51 (X_Big_copy l D g q u248 14 220 (n_b14 g q) (by decide) 18 220 (n_b18 g q) (by decide)  (by decide) hI lx143 lx144 hO180 lx145 hO181 y251 y252 hO250 f253 hA254  _) rfl rfl hO180 rfl hl.1 rfl (Nat.le_of_ble_eq_true rfl) ⟨by decide, by decide⟩ ⟨Nat.le_of_ble_eq_true rfl, Nat.le_of_ble_eq_true rfl⟩ d_8_7_105) (fun u307 H locs hp308 V => ?_)
      obtain ⟨hI, hZ9⟩ := hp308
      obtain ⟨hu320, hZ9⟩ := hZ9
      obtain ⟨y310, hZ9⟩ := hZ9
      obtain ⟨y311, hZ9⟩ := hZ9
      obtain ⟨f312, hZ9⟩ := hZ9
      obtain ⟨hO309, hZ9⟩ := hZ9
      obtain ⟨hA313, hZ9⟩ := hZ9
      obtain ⟨b314, hZ9⟩ := hZ9
      replace hZ9 := hZ9.2
      obtain ⟨b316, hZ9⟩ := hZ9
      obtain ⟨b317, hZ9⟩ := hZ9
      obtain ⟨b318, hE319⟩ := hZ9
      replace hO309 : u307[14]? = (some (q 14, .inr (2, [.ref (q 15), .int y310, .int y311])) : Option (Nat × va_E)) := hO309
      replace hA313 : u307[15]? = (some (q 15, .inl (g 0, (220 : Int32).toNatClampNeg, .inl f312)) : Option (Nat × va_E)) := hA313
      obtain ⟨p321, e322⟩ : ∃ z, z = (F_Big_copy (220 : Int32) (220 : Int32) lx143 lx144 lx145 y251 y252 f253) := ⟨_, rfl⟩
      have e323 : y310 = p321.1 := congrArg (fun z => z.1) (hE319.trans e322.symm)
      have e324 : y311 = p321.2.1 := congrArg (fun z => z.2.1) (hE319.trans e322.symm)
      have e325 : f312 = p321.2.2 := congrArg (fun z => z.2.2) (hE319.trans e322.symm)
      replace b314 : q_F (0 ≤ y310.toInt) := b314
      replace b316 : q_F (y310.toInt ≤ 220) := b316
      replace b317 : q_F (y252.toInt ≤ y311.toInt) := b317
      replace b318 : q_F (y311.toInt ≤ y252.toInt) := b318
      replace hO176 := (hu320 _ (by decide)).trans hO176
      replace hO177 := (hu320 _ (by decide)).trans hO177
      replace hO260 := (hu320 _ (by decide)).trans hO260
      replace hA264 := (hu320 _ (by decide)).trans hA264
      replace hO250 := (hu320 _ (by decide)).trans hO250
      replace hA254 := (hu320 _ (by decide)).trans hA254
      replace hO184 := (hu320 _ (by first | exact (q_nc ne_k2_14 (q_nc ne_k2_15 List.not_mem_nil)) | (have z0 := zk2; simp only [List.mem_cons, List.not_mem_nil, or_false, not_or]; omega))).trans hO184
      replace hO185 := (hu320 _ (by first | exact (q_nc (q_nt1 ne_k2_13) (q_nc (q_nt1 ne_k2_14) List.not_mem_nil)) | (have z0 := zk2; simp only [List.mem_cons, List.not_mem_nil, or_false, not_or]; omega))).trans hO185
      replace hO255 := (hu320 _ (by first | exact (q_nc ne_k3_14 (q_nc ne_k3_15 List.not_mem_nil)) | (have z0 := zk3; simp only [List.mem_cons, List.not_mem_nil, or_false, not_or]; omega))).trans hO255
      replace hA259 := (hu320 _ (by first | exact (q_nc (q_nt1 ne_k3_13) (q_nc (q_nt1 ne_k3_14) List.not_mem_nil)) | (have z0 := zk3; simp only [List.mem_cons, List.not_mem_nil, or_false, not_or]; omega))).trans hA259
      replace hF := q_uc hF hu320 (by first | exact (q_sk (q_mi 4 rfl) (q_sk (q_mi 5 rfl) q_s0)) | simp)
      have hR326 := (show F_Mil_powerBelow_c105 (F_Mil_powerBelow_L27 R R2 t0_0 t0_1 t1_0 t2_0 t2_1 t3_0 t4_0 t4_1 t5_0 t6_0 t6_1 t7_0 t8_0 t8_1 t9_0 t10_0 t10_1 t11_0 p64 p111 fm192) R R2 t0_0 t0_1 t1_0 t2_0 t2_1 t3_0 t4_0 t4_1 t5_0 t6_0 t6_1 t7_0 t8_0 t8_1 t9_0 t10_0 t10_1 t11_0 p64 p111 lx139 lx140 lx141 lx142 lx143 lx144 lx145 lx146 lx147 lx148 lx149 lx150 lx151 p235 p282 y261 y262 f263 y251 y252 f253 y256 y257 f258 p321 = (F_Mil_powerBelow R R2 t0_0 t0_1 t1_0 t2_0 t2_1 t3_0 t4_0 t4_1 t5_0 t6_0 t6_1 t7_0 t8_0 t8_1 t9_0 t10_0 t10_1 t11_0) from Eq.trans (by have c305x := c305; rw [e304] at c305x; rw [e322, e292, e291, e290, e289, e288, e287, e286, e285, e284, F_Mil_powerBelow_c55.eq_1, if_neg c305x]) hR293)
      have hS327 := (show True ∧ S_Mil_powerBelow_c105 (S_Mil_powerBelow_L27 R R2 t0_0 t0_1 t1_0 t2_0 t2_1 t3_0 t4_0 t4_1 t5_0 t6_0 t6_1 t7_0 t8_0 t8_1 t9_0 t10_0 t10_1 t11_0 p64 p111 fm192) R R2 t0_0 t0_1 t1_0 t2_0 t2_1 t3_0 t4_0 t4_1 t5_0 t6_0 t6_1 t7_0 t8_0 t8_1 t9_0 t10_0 t10_1 t11_0 p64 p111 lx139 lx140 lx141 lx142 lx143 lx144 lx145 lx146 lx147 lx148 lx149 lx150 lx151 p235 p282 y261 y262 f263 y251 y252 f253 y256 y257 f258 p321 from (by rw [e322, e292, e291, e290, e289, e288, e287, e286, e285, e284]; have h := hS294; rw [S_Mil_powerBelow_c55.eq_1] at h; have c305x := c305; rw [e304] at c305x; rw [if_neg c305x] at h; with_reducible exact h))
      obtain ⟨a331, e332⟩ := q_nm (lx139 + (-1) : Int32)
      have b333 : q_F (a331.toInt = lx139.toInt + (-1)) := (by rw [← e332]; exact q_addI (y := (-1)) rfl (by decide) (by have t1 : 0 ≤ lx139.toInt + 1 := i152; have t2 : lx139.toInt + lx144.toInt ≤ a135.toInt + y81.toInt := i169; have t3 : lx139.toInt + y81.toInt ≤ lx144.toInt + a135.toInt := i170; have _ := q_lo32 (x := a135); have _ := q_hi32 (x := a135); omega) (by have t1 : 0 ≤ lx139.toInt + 1 := i152; have t2 : lx139.toInt + lx144.toInt ≤ a135.toInt + y81.toInt := i169; have t3 : lx139.toInt + y81.toInt ≤ lx144.toInt + a135.toInt := i170; have _ := q_lo32 (x := a135); have _ := q_hi32 (x := a135); omega))
      refine lv_iinc (v := a331) (lv' := [(3, .int a331), (0, .ref (q 9)), (1, .ref (q k2)), (2, .ref (q k3))]) hx hb d_8_7_108 hl (k := 0) rfl (e332) (by decide) rfl (fun ls hl => ?_)
      refine lv_goto (tgt := 27) hx hb d_8_7_111 (by decide) ?_
      exact ih174 ((a331 : Int32), (y261 : Int32), (y262 : Int32), (f263 : (Nat → Int32)), (y310 : Int32), (y311 : Int32), (f312 : (Nat → Int32)), (y251 : Int32), (y252 : Int32), (f253 : (Nat → Int32)), (y256 : Int32), (y257 : Int32), (f258 : (Nat → Int32))) _ _ _ _ (show (a331.toInt - ((-1))).toNat < (lx139.toInt - ((-1))).toNat from by have t1 : a331.toInt = lx139.toInt + (-1) := b333; have t2 : 0 ≤ lx139.toInt + 1 := i152; have t3 : 0 ≤ lx139.toInt := b220; omega) ⟨(show q_F (0 ≤ a331.toInt + 1) from (show 0 ≤ a331.toInt + 1 from by have t1 : 0 ≤ lx139.toInt := b220; have t2 : a331.toInt = lx139.toInt + (-1) := b333; omega)), (show q_F (0 ≤ y261.toInt) from (show 0 ≤ y261.toInt from by have t1 : 0 ≤ y262.toInt := b265; have t2 : y262.toInt ≤ y261.toInt := b279; omega)), (show q_F (y261.toInt ≤ 220) from (show y261.toInt ≤ 220 from by have t1 : y261.toInt ≤ 220 := b274; omega)), (show q_F (0 ≤ y310.toInt) from (show 0 ≤ y310.toInt from by have t1 : 0 ≤ y310.toInt := b314; omega)), (show q_F (y310.toInt ≤ 220) from (show y310.toInt ≤ 220 from by have t1 : y310.toInt ≤ 220 := b316; omega)), (show q_F (0 ≤ y311.toInt) from (show 0 ≤ y311.toInt from by have t1 : 0 ≤ y262.toInt := b265; have t2 : y262.toInt ≤ y252.toInt := b276; have t3 : y252.toInt ≤ y311.toInt := b317; omega)), (show q_F (y311.toInt ≤ 1) from (show y311.toInt ≤ 1 from by have t1 : y226.toInt ≤ 1 := b230; have t2 : y252.toInt ≤ y226.toInt := b268; have t3 : y311.toInt ≤ y252.toInt := b318; omega)), (show q_F (0 ≤ y251.toInt) from (show 0 ≤ y251.toInt from by have t1 : 0 ≤ y262.toInt := b265; have t2 : y262.toInt ≤ y251.toInt := b275; omega)), (show q_F (y251.toInt ≤ 220) from (show y251.toInt ≤ 220 from by have t1 : y251.toInt ≤ 220 := b267; omega)), (show q_F (0 ≤ y252.toInt) from (show 0 ≤ y252.toInt from by have t1 : 0 ≤ y262.toInt := b265; have t2 : y262.toInt ≤ y252.toInt := b276; omega)), (show q_F (y252.toInt ≤ 1) from (show y252.toInt ≤ 1 from by have t1 : y226.toInt ≤ 1 := b230; have t2 : y252.toInt ≤ y226.toInt := b268; omega)), (show q_F (0 ≤ y256.toInt) from (show 0 ≤ y256.toInt from by have t1 : 0 ≤ y262.toInt := b265; have t2 : y262.toInt ≤ y256.toInt := b277; omega)), (show q_F (y256.toInt ≤ 220) from (show y256.toInt ≤ 220 from by have t1 : 0 ≤ R2.toInt ∧ R2.toInt ≤ 220 := hfk30; have t2 : y256.toInt ≤ R2.toInt := b270; omega)), (show q_F (0 ≤ y257.toInt) from (show 0 ≤ y257.toInt from by have t1 : 0 ≤ y262.toInt := b265; have t2 : y262.toInt ≤ y257.toInt := b278; omega)), (show q_F (y91.toInt ≤ y262.toInt) from (show y91.toInt ≤ y262.toInt from by have t1 : y91.toInt ≤ 0 := b95; have t2 : 0 ≤ y262.toInt := b265; omega)), (show q_F (y262.toInt ≤ y91.toInt) from (show y262.toInt ≤ y91.toInt from by have t1 : 0 ≤ y91.toInt := b94; have t2 : y262.toInt ≤ 0 := b266; omega)), (show q_F (y257.toInt ≤ y86.toInt) from (show y257.toInt ≤ y86.toInt from by have t1 : lx150.toInt ≤ y86.toInt := i168; have t2 : y257.toInt ≤ lx150.toInt := b271; omega)), (show q_F (a331.toInt + y311.toInt ≤ a135.toInt + y81.toInt) from (show a331.toInt + y311.toInt ≤ a135.toInt + y81.toInt from by have t1 : 0 ≤ lx144.toInt := i157; have t2 : lx139.toInt + lx144.toInt ≤ a135.toInt + y81.toInt := i169; have t3 : y226.toInt ≤ 1 := b230; have t4 : y252.toInt ≤ y226.toInt := b268; have t5 : y311.toInt ≤ y252.toInt := b318; have t6 : a331.toInt = lx139.toInt + (-1) := b333; omega)), (show q_F (a331.toInt + y81.toInt ≤ y311.toInt + a135.toInt) from (show a331.toInt + y81.toInt ≤ y311.toInt + a135.toInt from by have t1 : lx144.toInt ≤ 1 := i158; have t2 : lx139.toInt + y81.toInt ≤ lx144.toInt + a135.toInt := i170; have t3 : 0 ≤ y262.toInt := b265; have t4 : y262.toInt ≤ y252.toInt := b276; have t5 : y252.toInt ≤ y311.toInt := b317; have t6 : a331.toInt = lx139.toInt + (-1) := b333; omega)), (show q_F (a331.toInt + y252.toInt ≤ a135.toInt + t6_1.toInt) from (show a331.toInt + y252.toInt ≤ a135.toInt + t6_1.toInt from by have t1 : 0 ≤ t6_1.toInt ∧ t6_1.toInt ≤ 1 := btt6_1; have t2 : lx139.toInt + lx144.toInt ≤ a135.toInt + y81.toInt := i169; have t3 : lx139.toInt + y81.toInt ≤ lx144.toInt + a135.toInt := i170; have t4 : y226.toInt ≤ 1 := b230; have t5 : y252.toInt ≤ y226.toInt := b268; have t6 : a331.toInt = lx139.toInt + (-1) := b333; omega)), (show q_F (a331.toInt + t6_1.toInt ≤ y252.toInt + a135.toInt) from (show a331.toInt + t6_1.toInt ≤ y252.toInt + a135.toInt from by have t1 : 0 ≤ t6_1.toInt ∧ t6_1.toInt ≤ 1 := btt6_1; have t2 : lx139.toInt + lx144.toInt ≤ a135.toInt + y81.toInt := i169; have t3 : lx139.toInt + y81.toInt ≤ lx144.toInt + a135.toInt := i170; have t4 : 0 ≤ y262.toInt := b265; have t5 : y262.toInt ≤ y252.toInt := b276; have t6 : a331.toInt = lx139.toInt + (-1) := b333; omega)), (show q_F (a331.toInt + y86.toInt ≤ y257.toInt + a135.toInt) from (show a331.toInt + y86.toInt ≤ y257.toInt + a135.toInt from by have t1 : 0 ≤ t10_1.toInt ∧ t10_1.toInt ≤ 1 := btt10_1; have t2 : y86.toInt ≤ t10_1.toInt := b100; have t3 : lx139.toInt + lx144.toInt ≤ a135.toInt + y81.toInt := i169; have t4 : lx139.toInt + y81.toInt ≤ lx144.toInt + a135.toInt := i170; have t5 : 0 ≤ y262.toInt := b265; have t6 : y262.toInt ≤ y257.toInt := b278; have t7 : a331.toInt = lx139.toInt + (-1) := b333; omega)), V, q_lw hl (q_lw1 0 rfl (q_lw1 1 rfl (q_lw1 2 rfl (q_lw1 3 rfl q_lw0)))), hI, hF, hO176, hO177, hO260, hA264, hO309, hA313, hO250, hA254, hO184, hO185, hO255, hA259, ⟨fm192, Nat.lt_of_lt_of_le (show (a331.toInt - ((-1))).toNat < (lx139.toInt - ((-1))).toNat from by have t1 : a331.toInt = lx139.toInt + (-1) := b333; have t2 : 0 ≤ lx139.toInt + 1 := i152; have t3 : 0 ≤ lx139.toInt := b220; omega) (Nat.le_of_lt_succ hf191), (show F_Mil_powerBelow_L27 R R2 t0_0 t0_1 t1_0 t2_0 t2_1 t3_0 t4_0 t4_1 t5_0 t6_0 t6_1 t7_0 t8_0 t8_1 t9_0 t10_0 t10_1 t11_0 p64 p111 fm192 a331 y261 y262 f263 y310 y311 f312 y251 y252 f253 y256 y257 f258 = (F_Mil_powerBelow R R2 t0_0 t0_1 t1_0 t2_0 t2_1 t3_0 t4_0 t4_1 t5_0 t6_0 t6_1 t7_0 t8_0 t8_1 t9_0 t10_0 t10_1 t11_0) from Eq.trans (by rw [← e332, e325, e324, e323, F_Mil_powerBelow_c105.eq_1]) hR326), (show True ∧ S_Mil_powerBelow_L27 R R2 t0_0 t0_1 t1_0 t2_0 t2_1 t3_0 t4_0 t4_1 t5_0 t6_0 t6_1 t7_0 t8_0 t8_1 t9_0 t10_0 t10_1 t11_0 p64 p111 fm192 a331 y261 y262 f263 y310 y311 f312 y251 y252 f253 y256 y257 f258 from (by rw [← e332, e325, e324, e323]; have h := hS327; rw [S_Mil_powerBelow_c105.eq_1] at h; with_reducible exact h))⟩⟩
    ·
      refine lv_aload_n hx hb d_8_7_67 rfl (lv_at hl 1 rfl) ?_
      refine q_get (ci := 4) (j := 2) (v := .ref (q 14)) C0 V i_Mil rfl rfl hO221 (by decide) w_117 rfl d_8_7_68 ?_
      refine lv_aload_n hx hb d_8_7_71 rfl (lv_at hl 1 rfl) ?_
      refine q_get (ci := 4) (j := 4) (v := .ref (q 18)) C0 V i_Mil rfl rfl hO221 (by decide) w_123 rfl d_8_7_72 ?_
      refine lv_aload_n hx hb d_8_7_75 rfl (lv_at hl 1 rfl) ?_
      refine q_get (ci := 4) (j := 0) (v := .ref (q 10)) C0 V i_Mil rfl rfl hO221 (by decide) w_108 rfl d_8_7_76 ?_
      refine q_gov V (q_runV (As := [.ref (q 18), .ref (q 10)]) (rest := []) (d := 3) (mc := 0) (ms := 0) (ci := 2) C0 V rfl LV_Mil_47 (X_Big_product l D g q u248 14 220 (n_b14 g q) (by decide) 18 220 (n_b18 g q) (by decide) 10 220 (n_b10 g q) (by decide)  (by decide) (by decide) hI lx143 lx144 hO180 lx145 hO181 y251 y252 hO250 f253 hA254 t0_0 t0_1 hO176 t1_0 hO177  _) rfl rfl hO180 rfl hl.1 rfl (Nat.le_of_ble_eq_true rfl) ⟨by decide, by decide⟩ ⟨Nat.le_of_ble_eq_true rfl, Nat.le_of_ble_eq_true rfl⟩ d_8_7_79) (fun u335 H locs hp336 V => ?_)
      obtain ⟨hI, hZ9⟩ := hp336
      obtain ⟨hu347, hZ9⟩ := hZ9
      obtain ⟨y338, hZ9⟩ := hZ9
      obtain ⟨y339, hZ9⟩ := hZ9
      obtain ⟨f340, hZ9⟩ := hZ9
      obtain ⟨hO337, hZ9⟩ := hZ9
      obtain ⟨hA341, hZ9⟩ := hZ9
      replace hZ9 := hZ9.2
      obtain ⟨b343, hZ9⟩ := hZ9
      replace hZ9 := hZ9.2
      obtain ⟨-, hE346⟩ := hZ9
      replace hO337 : u335[14]? = (some (q 14, .inr (2, [.ref (q 15), .int y338, .int y339])) : Option (Nat × va_E)) := hO337
      replace hA341 : u335[15]? = (some (q 15, .inl (g 0, (220 : Int32).toNatClampNeg, .inl f340)) : Option (Nat × va_E)) := hA341
      obtain ⟨p348, e349⟩ : ∃ z, z = (F_Big_product (220 : Int32) (220 : Int32) (220 : Int32) lx143 lx144 lx145 y251 y252 f253 t0_0 t0_1 t1_0) := ⟨_, rfl⟩
      have e350 : y338 = p348.1 := congrArg (fun z => z.1) (hE346.trans e349.symm)
      have e351 : y339 = p348.2.1 := congrArg (fun z => z.2.1) (hE346.trans e349.symm)
      have e352 : f340 = p348.2.2 := congrArg (fun z => z.2.2) (hE346.trans e349.symm)
      replace b343 : q_F (y339.toInt ≤ 1) := b343
      replace hO176 := (hu347 _ (by decide)).trans hO176
      replace hO177 := (hu347 _ (by decide)).trans hO177
      replace hO260 := (hu347 _ (by decide)).trans hO260
      replace hA264 := (hu347 _ (by decide)).trans hA264
      replace hO250 := (hu347 _ (by decide)).trans hO250
      replace hA254 := (hu347 _ (by decide)).trans hA254
      replace hO184 := (hu347 _ (by first | exact (q_nc ne_k2_14 (q_nc ne_k2_15 List.not_mem_nil)) | (have z0 := zk2; simp only [List.mem_cons, List.not_mem_nil, or_false, not_or]; omega))).trans hO184
      replace hO185 := (hu347 _ (by first | exact (q_nc (q_nt1 ne_k2_13) (q_nc (q_nt1 ne_k2_14) List.not_mem_nil)) | (have z0 := zk2; simp only [List.mem_cons, List.not_mem_nil, or_false, not_or]; omega))).trans hO185
      replace hO255 := (hu347 _ (by first | exact (q_nc ne_k3_14 (q_nc ne_k3_15 List.not_mem_nil)) | (have z0 := zk3; simp only [List.mem_cons, List.not_mem_nil, or_false, not_or]; omega))).trans hO255
      replace hA259 := (hu347 _ (by first | exact (q_nc (q_nt1 ne_k3_13) (q_nc (q_nt1 ne_k3_14) List.not_mem_nil)) | (have z0 := zk3; simp only [List.mem_cons, List.not_mem_nil, or_false, not_or]; omega))).trans hA259
      replace hO221 := (hu347 _ (by decide)).trans hO221
      replace hF := q_uc hF hu347 (by first | exact (q_sk (q_mi 4 rfl) (q_sk (q_mi 5 rfl) q_s0)) | simp)
      have hR353 := (show F_Mil_powerBelow_c79 (F_Mil_powerBelow_L27 R R2 t0_0 t0_1 t1_0 t2_0 t2_1 t3_0 t4_0 t4_1 t5_0 t6_0 t6_1 t7_0 t8_0 t8_1 t9_0 t10_0 t10_1 t11_0 p64 p111 fm192) R R2 t0_0 t0_1 t1_0 t2_0 t2_1 t3_0 t4_0 t4_1 t5_0 t6_0 t6_1 t7_0 t8_0 t8_1 t9_0 t10_0 t10_1 t11_0 p64 p111 lx139 lx140 lx141 lx142 lx143 lx144 lx145 lx146 lx147 lx148 lx149 lx150 lx151 p235 p282 y261 y262 f263 y251 y252 f253 y256 y257 f258 p348 = (F_Mil_powerBelow R R2 t0_0 t0_1 t1_0 t2_0 t2_1 t3_0 t4_0 t4_1 t5_0 t6_0 t6_1 t7_0 t8_0 t8_1 t9_0 t10_0 t10_1 t11_0) from Eq.trans (by have c305x := c305; rw [e304] at c305x; rw [e349, e292, e291, e290, e289, e288, e287, e286, e285, e284, F_Mil_powerBelow_c55.eq_1, if_pos c305x]) hR293)
      have hS354 := (show True ∧ S_Mil_powerBelow_c79 (S_Mil_powerBelow_L27 R R2 t0_0 t0_1 t1_0 t2_0 t2_1 t3_0 t4_0 t4_1 t5_0 t6_0 t6_1 t7_0 t8_0 t8_1 t9_0 t10_0 t10_1 t11_0 p64 p111 fm192) R R2 t0_0 t0_1 t1_0 t2_0 t2_1 t3_0 t4_0 t4_1 t5_0 t6_0 t6_1 t7_0 t8_0 t8_1 t9_0 t10_0 t10_1 t11_0 p64 p111 lx139 lx140 lx141 lx142 lx143 lx144 lx145 lx146 lx147 lx148 lx149 lx150 lx151 p235 p282 y261 y262 f263 y251 y252 f253 y256 y257 f258 p348 from (by rw [e349, e292, e291, e290, e289, e288, e287, e286, e285, e284]; have h := hS294; rw [S_Mil_powerBelow_c55.eq_1] at h; have c305x := c305; rw [e304] at c305x; rw [if_pos c305x] at h; with_reducible exact h))
      refine lv_aload_n hx hb d_8_7_82 rfl (lv_at hl 1 rfl) ?_
      refine q_get (ci := 4) (j := 2) (v := .ref (q 14)) C0 V i_Mil rfl rfl hO221 (by decide) w_117 rfl d_8_7_83 ?_
      refine lv_aload_n hx hb d_8_7_86 rfl (lv_at hl 3 rfl) ?_
      refine lv_aload_n hx hb d_8_7_87 rfl (lv_at hl 1 rfl) ?_
      refine q_get (ci := 4) (j := 1) (v := .ref (q 12)) C0 V i_Mil rfl rfl hO221 (by decide) w_114 rfl d_8_7_88 ?_
      have ne358 := q_df hO185 hO255
      have ne359 := q_df hA259 hO184
      have ob360 : True ∧ S_Big_divideBy (220 : Int32) R2 (220 : Int32) y338 y339 f340 y256 y257 f258 y261 y262 f263 := (by rw [e352, e351, e350]; have h := hS354; rw [S_Mil_powerBelow_c79.eq_1] at h; with_reducible exact h.2.1)
      refine q_gov V (q_runV (As := [.ref (q k3), .ref (q 12)]) (rest := []) (d := 4) (mc := 0) (ms := 0) (ci := 2) C0 V rfl LV_Mil_59 (X_Big_divideBy l D g q u335 14 220 (n_b14 g q) (by decide) k3 R2 hB3 zk3 12 220 (n_b12 g q) (by decide)  (by have z := ne_k3_14; omega) (by decide) (by have z := ne_k3_12; omega) hI y338 y339 hO337 f340 hA341 y256 y257 hO255 f258 hA259 y261 y262 hO260 f263 hA264 ob360 _) rfl rfl hO337 rfl hl.1 rfl (Nat.le_of_ble_eq_true rfl) ⟨by decide, by decide⟩ ⟨Nat.le_of_ble_eq_true rfl, Nat.le_of_ble_eq_true rfl⟩ d_8_7_91) (fun u361 H locs hp362 V => ?_)
      obtain ⟨hI, hZ9⟩ := hp362
      obtain ⟨hu394, hZ9⟩ := hZ9
      obtain ⟨y364, hZ9⟩ := hZ9
      obtain ⟨y365, hZ9⟩ := hZ9
      obtain ⟨f366, hZ9⟩ := hZ9
      obtain ⟨y369, hZ9⟩ := hZ9
      obtain ⟨y370, hZ9⟩ := hZ9
      obtain ⟨f371, hZ9⟩ := hZ9
      obtain ⟨y374, hZ9⟩ := hZ9
      obtain ⟨y375, hZ9⟩ := hZ9
      obtain ⟨f376, hZ9⟩ := hZ9
      obtain ⟨hO363, hZ9⟩ := hZ9
      obtain ⟨hA367, hZ9⟩ := hZ9
      obtain ⟨hO368, hZ9⟩ := hZ9
      obtain ⟨hA372, hZ9⟩ := hZ9
      obtain ⟨hO373, hZ9⟩ := hZ9
      obtain ⟨hA377, hZ9⟩ := hZ9
      obtain ⟨b378, hZ9⟩ := hZ9
      obtain ⟨b379, hZ9⟩ := hZ9
      obtain ⟨b380, hZ9⟩ := hZ9
      obtain ⟨b381, hZ9⟩ := hZ9
      replace hZ9 := hZ9.2
      obtain ⟨b383, hZ9⟩ := hZ9
      obtain ⟨b384, hZ9⟩ := hZ9
      replace hZ9 := hZ9.2.2
      obtain ⟨b387, hZ9⟩ := hZ9
      obtain ⟨b388, hZ9⟩ := hZ9
      obtain ⟨b389, hZ9⟩ := hZ9
      obtain ⟨b390, hZ9⟩ := hZ9
      obtain ⟨b391, hZ9⟩ := hZ9
      obtain ⟨b392, hE393⟩ := hZ9
      replace hO363 : u361[14]? = (some (q 14, .inr (2, [.ref (q 15), .int y364, .int y365])) : Option (Nat × va_E)) := hO363
      replace hA367 : u361[15]? = (some (q 15, .inl (g 0, (220 : Int32).toNatClampNeg, .inl f366)) : Option (Nat × va_E)) := hA367
      replace hO368 : u361[k3]? = (some (q k3, .inr (2, [.ref (q (k3 + 1)), .int y369, .int y370])) : Option (Nat × va_E)) := hO368
      replace hA372 : u361[k3 + 1]? = (some (q (k3 + 1), .inl (g 0, R2.toNatClampNeg, .inl f371)) : Option (Nat × va_E)) := hA372
      replace hO373 : u361[12]? = (some (q 12, .inr (2, [.ref (q 13), .int y374, .int y375])) : Option (Nat × va_E)) := hO373
      replace hA377 : u361[13]? = (some (q 13, .inl (g 0, (220 : Int32).toNatClampNeg, .inl f376)) : Option (Nat × va_E)) := hA377
      obtain ⟨p395, e396⟩ : ∃ z, z = (F_Big_divideBy (220 : Int32) R2 (220 : Int32) y338 y339 f340 y256 y257 f258 y261 y262 f263) := ⟨_, rfl⟩
      have e397 : y364 = p395.1 := congrArg (fun z => z.1) (hE393.trans e396.symm)
      have e398 : y365 = p395.2.1 := congrArg (fun z => z.2.1) (hE393.trans e396.symm)
      have e399 : f366 = p395.2.2.1 := congrArg (fun z => z.2.2.1) (hE393.trans e396.symm)
      have e400 : y369 = p395.2.2.2.1 := congrArg (fun z => z.2.2.2.1) (hE393.trans e396.symm)
      have e401 : y370 = p395.2.2.2.2.1 := congrArg (fun z => z.2.2.2.2.1) (hE393.trans e396.symm)
      have e402 : f371 = p395.2.2.2.2.2.1 := congrArg (fun z => z.2.2.2.2.2.1) (hE393.trans e396.symm)
      have e403 : y374 = p395.2.2.2.2.2.2.1 := congrArg (fun z => z.2.2.2.2.2.2.1) (hE393.trans e396.symm)
      have e404 : y375 = p395.2.2.2.2.2.2.2.1 := congrArg (fun z => z.2.2.2.2.2.2.2.1) (hE393.trans e396.symm)
      have e405 : f376 = p395.2.2.2.2.2.2.2.2 := congrArg (fun z => z.2.2.2.2.2.2.2.2) (hE393.trans e396.symm)
      replace b378 : q_F (0 ≤ y375.toInt) := b378
      replace b379 : q_F (y375.toInt ≤ 0) := b379
      replace b380 : q_F (y364.toInt ≤ 220) := b380
      replace b381 : q_F (y365.toInt ≤ y339.toInt) := b381
      replace b383 : q_F (y369.toInt ≤ R2.toInt) := b383
      replace b384 : q_F (y370.toInt ≤ y257.toInt) := b384
      replace b387 : q_F (y374.toInt ≤ 220) := b387
      replace b388 : q_F (y375.toInt ≤ y364.toInt) := b388
      replace b389 : q_F (y375.toInt ≤ y365.toInt) := b389
      replace b390 : q_F (y375.toInt ≤ y369.toInt) := b390
      replace b391 : q_F (y375.toInt ≤ y370.toInt) := b391
      replace b392 : q_F (y375.toInt ≤ y374.toInt) := b392
      replace hO176 := (hu394 _ (by first | exact (q_nc (Nat.ne_of_beq_eq_false rfl) (q_nc (Nat.ne_of_beq_eq_false rfl) (q_nc (Ne.symm ne_k3_10) (q_nc (q_ns1 ne_k3_9) (q_nc (Nat.ne_of_beq_eq_false rfl) (q_nc (Nat.ne_of_beq_eq_false rfl) List.not_mem_nil)))))) | (have z0 := zk3; simp only [List.mem_cons, List.not_mem_nil, or_false, not_or]; omega))).trans hO176
      replace hO177 := (hu394 _ (by first | exact (q_nc (Nat.ne_of_beq_eq_false rfl) (q_nc (Nat.ne_of_beq_eq_false rfl) (q_nc (Ne.symm ne_k3_11) (q_nc (q_ns1 ne_k3_10) (q_nc (Nat.ne_of_beq_eq_false rfl) (q_nc (Nat.ne_of_beq_eq_false rfl) List.not_mem_nil)))))) | (have z0 := zk3; simp only [List.mem_cons, List.not_mem_nil, or_false, not_or]; omega))).trans hO177
      replace hO250 := (hu394 _ (by first | exact (q_nc (Nat.ne_of_beq_eq_false rfl) (q_nc (Nat.ne_of_beq_eq_false rfl) (q_nc (Ne.symm ne_k3_18) (q_nc (q_ns1 ne_k3_17) (q_nc (Nat.ne_of_beq_eq_false rfl) (q_nc (Nat.ne_of_beq_eq_false rfl) List.not_mem_nil)))))) | (have z0 := zk3; simp only [List.mem_cons, List.not_mem_nil, or_false, not_or]; omega))).trans hO250
      replace hA254 := (hu394 _ (by first | exact (q_nc (Nat.ne_of_beq_eq_false rfl) (q_nc (Nat.ne_of_beq_eq_false rfl) (q_nc (Ne.symm ne_k3_19) (q_nc (q_ns1 ne_k3_18) (q_nc (Nat.ne_of_beq_eq_false rfl) (q_nc (Nat.ne_of_beq_eq_false rfl) List.not_mem_nil)))))) | (have z0 := zk3; simp only [List.mem_cons, List.not_mem_nil, or_false, not_or]; omega))).trans hA254
      replace hO184 := (hu394 _ (q_nc (by have z := ne_k2_14; omega) (q_nc (by have z := ne_k2_15; omega) (q_nc (by have z := ne_k2_k3; omega) (q_nc (Ne.symm ne359) (q_nc (by have z := ne_k2_12; omega) (q_nc (by have z := ne_k2_13; omega) List.not_mem_nil))))))).trans hO184
      replace hO185 := (hu394 _ (q_nc (by have z := ne_k2_13; omega) (q_nc (by have z := ne_k2_14; omega) (q_nc ne358 (q_nc (by have z := ne_k2_k3; omega) (q_nc (by have z := ne_k2_11; omega) (q_nc (by have z := ne_k2_12; omega) List.not_mem_nil))))))).trans hO185
      replace hF := q_uc hF hu394 (by first | exact (q_sk (q_mi 4 rfl) (q_sk (q_mi 5 rfl) (q_sk (q_mi 8 rfl) (q_sk (q_mi 9 rfl) (q_sk (q_mi 2 rfl) (q_sk (q_mi 3 rfl) q_s0)))))) | simp)
      have hR406 := (show F_Mil_powerBelow_c91 (F_Mil_powerBelow_L27 R R2 t0_0 t0_1 t1_0 t2_0 t2_1 t3_0 t4_0 t4_1 t5_0 t6_0 t6_1 t7_0 t8_0 t8_1 t9_0 t10_0 t10_1 t11_0 p64 p111 fm192) R R2 t0_0 t0_1 t1_0 t2_0 t2_1 t3_0 t4_0 t4_1 t5_0 t6_0 t6_1 t7_0 t8_0 t8_1 t9_0 t10_0 t10_1 t11_0 p64 p111 lx139 lx140 lx141 lx142 lx143 lx144 lx145 lx146 lx147 lx148 lx149 lx150 lx151 p235 p282 y261 y262 f263 y251 y252 f253 y256 y257 f258 p348 p395 = (F_Mil_powerBelow R R2 t0_0 t0_1 t1_0 t2_0 t2_1 t3_0 t4_0 t4_1 t5_0 t6_0 t6_1 t7_0 t8_0 t8_1 t9_0 t10_0 t10_1 t11_0) from Eq.trans (by rw [e396, e352, e351, e350, F_Mil_powerBelow_c79.eq_1]) hR353)
      have hS407 := (show True ∧ S_Mil_powerBelow_c91 (S_Mil_powerBelow_L27 R R2 t0_0 t0_1 t1_0 t2_0 t2_1 t3_0 t4_0 t4_1 t5_0 t6_0 t6_1 t7_0 t8_0 t8_1 t9_0 t10_0 t10_1 t11_0 p64 p111 fm192) R R2 t0_0 t0_1 t1_0 t2_0 t2_1 t3_0 t4_0 t4_1 t5_0 t6_0 t6_1 t7_0 t8_0 t8_1 t9_0 t10_0 t10_1 t11_0 p64 p111 lx139 lx140 lx141 lx142 lx143 lx144 lx145 lx146 lx147 lx148 lx149 lx150 lx151 p235 p282 y261 y262 f263 y251 y252 f253 y256 y257 f258 p348 p395 from (by rw [e396, e352, e351, e350]; have h := hS354; rw [S_Mil_powerBelow_c79.eq_1] at h; replace h := q_s2 h; with_reducible exact h))
      refine lv_goto (tgt := 108) hx hb d_8_7_94 (by decide) ?_
      obtain ⟨a411, e412⟩ := q_nm (lx139 + (-1) : Int32)
      have b413 : q_F (a411.toInt = lx139.toInt + (-1)) := (by rw [← e412]; exact q_addI (y := (-1)) rfl (by decide) (by have t1 : 0 ≤ lx139.toInt + 1 := i152; have t2 : lx139.toInt + lx144.toInt ≤ a135.toInt + y81.toInt := i169; have t3 : lx139.toInt + y81.toInt ≤ lx144.toInt + a135.toInt := i170; have _ := q_lo32 (x := a135); have _ := q_hi32 (x := a135); omega) (by have t1 : 0 ≤ lx139.toInt + 1 := i152; have t2 : lx139.toInt + lx144.toInt ≤ a135.toInt + y81.toInt := i169; have t3 : lx139.toInt + y81.toInt ≤ lx144.toInt + a135.toInt := i170; have _ := q_lo32 (x := a135); have _ := q_hi32 (x := a135); omega))
      refine lv_iinc (v := a411) (lv' := [(3, .int a411), (0, .ref (q 9)), (1, .ref (q k2)), (2, .ref (q k3))]) hx hb d_8_7_108 hl (k := 0) rfl (e412) (by decide) rfl (fun ls hl => ?_)
      refine lv_goto (tgt := 27) hx hb d_8_7_111 (by decide) ?_
      exact ih174 ((a411 : Int32), (y374 : Int32), (y375 : Int32), (f376 : (Nat → Int32)), (y364 : Int32), (y365 : Int32), (f366 : (Nat → Int32)), (y251 : Int32), (y252 : Int32), (f253 : (Nat → Int32)), (y369 : Int32), (y370 : Int32), (f371 : (Nat → Int32))) _ _ _ _ (show (a411.toInt - ((-1))).toNat < (lx139.toInt - ((-1))).toNat from by have t1 : a411.toInt = lx139.toInt + (-1) := b413; have t2 : 0 ≤ lx139.toInt + 1 := i152; have t3 : 0 ≤ lx139.toInt := b220; omega) ⟨(show q_F (0 ≤ a411.toInt + 1) from (show 0 ≤ a411.toInt + 1 from by have t1 : 0 ≤ lx139.toInt := b220; have t2 : a411.toInt = lx139.toInt + (-1) := b413; omega)), (show q_F (0 ≤ y374.toInt) from (show 0 ≤ y374.toInt from by have t1 : 0 ≤ y375.toInt := b378; have t2 : y375.toInt ≤ y374.toInt := b392; omega)), (show q_F (y374.toInt ≤ 220) from (show y374.toInt ≤ 220 from by have t1 : y374.toInt ≤ 220 := b387; omega)), (show q_F (0 ≤ y364.toInt) from (show 0 ≤ y364.toInt from by have t1 : 0 ≤ y375.toInt := b378; have t2 : y375.toInt ≤ y364.toInt := b388; omega)), (show q_F (y364.toInt ≤ 220) from (show y364.toInt ≤ 220 from by have t1 : y364.toInt ≤ 220 := b380; omega)), (show q_F (0 ≤ y365.toInt) from (show 0 ≤ y365.toInt from by have t1 : 0 ≤ y375.toInt := b378; have t2 : y375.toInt ≤ y365.toInt := b389; omega)), (show q_F (y365.toInt ≤ 1) from (show y365.toInt ≤ 1 from by have t1 : y339.toInt ≤ 1 := b343; have t2 : y365.toInt ≤ y339.toInt := b381; omega)), (show q_F (0 ≤ y251.toInt) from (show 0 ≤ y251.toInt from by have t1 : 0 ≤ y262.toInt := b265; have t2 : y262.toInt ≤ y251.toInt := b275; omega)), (show q_F (y251.toInt ≤ 220) from (show y251.toInt ≤ 220 from by have t1 : y251.toInt ≤ 220 := b267; omega)), (show q_F (0 ≤ y252.toInt) from (show 0 ≤ y252.toInt from by have t1 : 0 ≤ y262.toInt := b265; have t2 : y262.toInt ≤ y252.toInt := b276; omega)), (show q_F (y252.toInt ≤ 1) from (show y252.toInt ≤ 1 from by have t1 : y226.toInt ≤ 1 := b230; have t2 : y252.toInt ≤ y226.toInt := b268; omega)), (show q_F (0 ≤ y369.toInt) from (show 0 ≤ y369.toInt from by have t1 : 0 ≤ y375.toInt := b378; have t2 : y375.toInt ≤ y369.toInt := b390; omega)), (show q_F (y369.toInt ≤ 220) from (show y369.toInt ≤ 220 from by have t1 : 0 ≤ R2.toInt ∧ R2.toInt ≤ 220 := hfk30; have t2 : y369.toInt ≤ R2.toInt := b383; omega)), (show q_F (0 ≤ y370.toInt) from (show 0 ≤ y370.toInt from by have t1 : 0 ≤ y375.toInt := b378; have t2 : y375.toInt ≤ y370.toInt := b391; omega)), (show q_F (y91.toInt ≤ y375.toInt) from (show y91.toInt ≤ y375.toInt from by have t1 : y91.toInt ≤ 0 := b95; have t2 : 0 ≤ y375.toInt := b378; omega)), (show q_F (y375.toInt ≤ y91.toInt) from (show y375.toInt ≤ y91.toInt from by have t1 : 0 ≤ y91.toInt := b94; have t2 : y375.toInt ≤ 0 := b379; omega)), (show q_F (y370.toInt ≤ y86.toInt) from (show y370.toInt ≤ y86.toInt from by have t1 : lx150.toInt ≤ y86.toInt := i168; have t2 : y257.toInt ≤ lx150.toInt := b271; have t3 : y370.toInt ≤ y257.toInt := b384; omega)), (show q_F (a411.toInt + y365.toInt ≤ a135.toInt + y81.toInt) from (show a411.toInt + y365.toInt ≤ a135.toInt + y81.toInt from by have t1 : 0 ≤ lx144.toInt := i157; have t2 : lx139.toInt + lx144.toInt ≤ a135.toInt + y81.toInt := i169; have t3 : y339.toInt ≤ 1 := b343; have t4 : y365.toInt ≤ y339.toInt := b381; have t5 : a411.toInt = lx139.toInt + (-1) := b413; omega)), (show q_F (a411.toInt + y81.toInt ≤ y365.toInt + a135.toInt) from (show a411.toInt + y81.toInt ≤ y365.toInt + a135.toInt from by have t1 : lx144.toInt ≤ 1 := i158; have t2 : lx139.toInt + y81.toInt ≤ lx144.toInt + a135.toInt := i170; have t3 : 0 ≤ y375.toInt := b378; have t4 : y375.toInt ≤ y365.toInt := b389; have t5 : a411.toInt = lx139.toInt + (-1) := b413; omega)), (show q_F (a411.toInt + y252.toInt ≤ a135.toInt + t6_1.toInt) from (show a411.toInt + y252.toInt ≤ a135.toInt + t6_1.toInt from by have t1 : 0 ≤ t6_1.toInt ∧ t6_1.toInt ≤ 1 := btt6_1; have t2 : lx139.toInt + lx144.toInt ≤ a135.toInt + y81.toInt := i169; have t3 : lx139.toInt + y81.toInt ≤ lx144.toInt + a135.toInt := i170; have t4 : y226.toInt ≤ 1 := b230; have t5 : y252.toInt ≤ y226.toInt := b268; have t6 : a411.toInt = lx139.toInt + (-1) := b413; omega)), (show q_F (a411.toInt + t6_1.toInt ≤ y252.toInt + a135.toInt) from (show a411.toInt + t6_1.toInt ≤ y252.toInt + a135.toInt from by have t1 : 0 ≤ t6_1.toInt ∧ t6_1.toInt ≤ 1 := btt6_1; have t2 : lx139.toInt + lx144.toInt ≤ a135.toInt + y81.toInt := i169; have t3 : lx139.toInt + y81.toInt ≤ lx144.toInt + a135.toInt := i170; have t4 : 0 ≤ y262.toInt := b265; have t5 : y262.toInt ≤ y252.toInt := b276; have t6 : a411.toInt = lx139.toInt + (-1) := b413; omega)), (show q_F (a411.toInt + y86.toInt ≤ y370.toInt + a135.toInt) from (show a411.toInt + y86.toInt ≤ y370.toInt + a135.toInt from by have t1 : 0 ≤ t10_1.toInt ∧ t10_1.toInt ≤ 1 := btt10_1; have t2 : y86.toInt ≤ t10_1.toInt := b100; have t3 : lx139.toInt + lx144.toInt ≤ a135.toInt + y81.toInt := i169; have t4 : lx139.toInt + y81.toInt ≤ lx144.toInt + a135.toInt := i170; have t5 : 0 ≤ y375.toInt := b378; have t6 : y375.toInt ≤ y370.toInt := b391; have t7 : a411.toInt = lx139.toInt + (-1) := b413; omega)), V, q_lw hl (q_lw1 0 rfl (q_lw1 1 rfl (q_lw1 2 rfl (q_lw1 3 rfl q_lw0)))), hI, hF, hO176, hO177, hO373, hA377, hO363, hA367, hO250, hA254, hO184, hO185, hO368, hA372, ⟨fm192, Nat.lt_of_lt_of_le (show (a411.toInt - ((-1))).toNat < (lx139.toInt - ((-1))).toNat from by have t1 : a411.toInt = lx139.toInt + (-1) := b413; have t2 : 0 ≤ lx139.toInt + 1 := i152; have t3 : 0 ≤ lx139.toInt := b220; omega) (Nat.le_of_lt_succ hf191), (show F_Mil_powerBelow_L27 R R2 t0_0 t0_1 t1_0 t2_0 t2_1 t3_0 t4_0 t4_1 t5_0 t6_0 t6_1 t7_0 t8_0 t8_1 t9_0 t10_0 t10_1 t11_0 p64 p111 fm192 a411 y374 y375 f376 y364 y365 f366 y251 y252 f253 y369 y370 f371 = (F_Mil_powerBelow R R2 t0_0 t0_1 t1_0 t2_0 t2_1 t3_0 t4_0 t4_1 t5_0 t6_0 t6_1 t7_0 t8_0 t8_1 t9_0 t10_0 t10_1 t11_0) from Eq.trans (by rw [← e412, e405, e404, e403, e402, e401, e400, e399, e398, e397, F_Mil_powerBelow_c91.eq_1]) hR406), (show True ∧ S_Mil_powerBelow_L27 R R2 t0_0 t0_1 t1_0 t2_0 t2_1 t3_0 t4_0 t4_1 t5_0 t6_0 t6_1 t7_0 t8_0 t8_1 t9_0 t10_0 t10_1 t11_0 p64 p111 fm192 a411 y374 y375 f376 y364 y365 f366 y251 y252 f253 y369 y370 f371 from (by rw [← e412, e405, e404, e403, e402, e401, e400, e399, e398, e397]; have h := hS407; rw [S_Mil_powerBelow_c91.eq_1] at h; with_reducible exact h))⟩⟩

