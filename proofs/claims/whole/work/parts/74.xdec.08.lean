theorem d_4_14_0 : decode prog_4_method_14_code 0 = .ok (.aload_n 0, 1) := by decide +kernel
theorem d_4_14_1 : decode prog_4_method_14_code 1 = .ok (.getfield 20, 3) := by decide +kernel
theorem d_4_14_4 : decode prog_4_method_14_code 4 = .ok (.getfield 55, 3) := by decide +kernel
theorem d_4_14_7 : decode prog_4_method_14_code 7 = .ok (.aload_n 1, 1) := by decide +kernel
theorem d_4_14_8 : decode prog_4_method_14_code 8 = .ok (.getfield 24, 3) := by decide +kernel
theorem d_4_14_11 : decode prog_4_method_14_code 11 = .ok (.invokevirtual 44, 3) := by decide +kernel
theorem d_4_14_14 : decode prog_4_method_14_code 14 = .ok (.aload_n 1, 1) := by decide +kernel
theorem d_4_14_15 : decode prog_4_method_14_code 15 = .ok (.getfield 24, 3) := by decide +kernel
theorem d_4_14_18 : decode prog_4_method_14_code 18 = .ok (.getfield 63, 3) := by decide +kernel
theorem d_4_14_41 : decode prog_4_method_14_code 41 = .ok (.aload_n 1, 1) := by decide +kernel
theorem d_4_14_42 : decode prog_4_method_14_code 42 = .ok (.getfield 24, 3) := by decide +kernel
theorem d_4_14_45 : decode prog_4_method_14_code 45 = .ok (.getfield 63, 3) := by decide +kernel
theorem d_4_14_48 : decode prog_4_method_14_code 48 = .ok (.ifCond .le 33, 3) := by decide +kernel
theorem d_4_14_81 : decode prog_4_method_14_code 81 = .ok (.iconst 1, 1) := by decide +kernel
theorem d_4_14_82 : decode prog_4_method_14_code 82 = .ok (.ireturn, 1) := by decide +kernel
theorem d_4_14_51 : decode prog_4_method_14_code 51 = .ok (.aload_n 0, 1) := by decide +kernel
theorem d_4_14_52 : decode prog_4_method_14_code 52 = .ok (.getfield 20, 3) := by decide +kernel
theorem d_4_14_55 : decode prog_4_method_14_code 55 = .ok (.getfield 55, 3) := by decide +kernel
theorem d_4_14_58 : decode prog_4_method_14_code 58 = .ok (.aload_n 1, 1) := by decide +kernel
theorem d_4_14_59 : decode prog_4_method_14_code 59 = .ok (.getfield 48, 3) := by decide +kernel
theorem d_4_14_62 : decode prog_4_method_14_code 62 = .ok (.ineg, 1) := by decide +kernel
theorem d_4_14_63 : decode prog_4_method_14_code 63 = .ok (.invokevirtual 77, 3) := by decide +kernel
theorem d_4_14_66 : decode prog_4_method_14_code 66 = .ok (.aload_n 0, 1) := by decide +kernel
theorem d_4_14_67 : decode prog_4_method_14_code 67 = .ok (.getfield 20, 3) := by decide +kernel
theorem d_4_14_70 : decode prog_4_method_14_code 70 = .ok (.getfield 55, 3) := by decide +kernel
theorem d_4_14_73 : decode prog_4_method_14_code 73 = .ok (.aload_n 1, 1) := by decide +kernel
theorem d_4_14_74 : decode prog_4_method_14_code 74 = .ok (.getfield 48, 3) := by decide +kernel
theorem d_4_14_77 : decode prog_4_method_14_code 77 = .ok (.invokevirtual 149, 3) := by decide +kernel
theorem d_4_14_80 : decode prog_4_method_14_code 80 = .ok (.pop, 1) := by decide +kernel
theorem d_4_14_21 : decode prog_4_method_14_code 21 = .ok (.ifCond .le 20, 3) := by decide +kernel
theorem d_4_14_24 : decode prog_4_method_14_code 24 = .ok (.aload_n 1, 1) := by decide +kernel
theorem d_4_14_25 : decode prog_4_method_14_code 25 = .ok (.getfield 52, 3) := by decide +kernel
theorem d_4_14_28 : decode prog_4_method_14_code 28 = .ok (.aload_n 1, 1) := by decide +kernel
theorem d_4_14_29 : decode prog_4_method_14_code 29 = .ok (.getfield 48, 3) := by decide +kernel
theorem d_4_14_32 : decode prog_4_method_14_code 32 = .ok (.isub, 1) := by decide +kernel
theorem d_4_14_33 : decode prog_4_method_14_code 33 = .ok (.sipush 1000, 3) := by decide +kernel
theorem d_4_14_36 : decode prog_4_method_14_code 36 = .ok (.if_icmp .le 5, 3) := by decide +kernel
theorem d_4_14_39 : decode prog_4_method_14_code 39 = .ok (.iconst 0, 1) := by decide +kernel
theorem d_4_14_40 : decode prog_4_method_14_code 40 = .ok (.ireturn, 1) := by decide +kernel
def y_DW_towardsZero : MethodName := ⟨"NumberHouse$DecimalWork", "towardsZero", "(LNumberHouse$Dec;)Z"⟩
def F_DW_towardsZero_c77 (R : Int32) (t0_0 : Int64) (t0_1 : Int32) (t1_0 : Int32) (t1_1 : Int32) (t2_0 : (Nat → Int32)) (t3_0 : Int32) (t3_1 : Int32) (t4_0 : Int32) (t4_1 : Int32) (t5_0 : (Nat → Int32)) (p41 : (Int32 × Int32 × (Nat → Int32))) (y30 : Int32) (y31 : Int32) (f32 : (Nat → Int32)) (p82 : (Int32 × Int32 × (Nat → Int32))) (p109 : (Int32 × Int32 × Int32 × (Nat → Int32))) : Int32 × Int32 × Int32 × (Nat → Int32) := ((1 : Int32), (p109.2.1 : Int32), (p109.2.2.1 : Int32), (p109.2.2.2 : (Nat → Int32)))
def F_DW_towardsZero_c63 (R : Int32) (t0_0 : Int64) (t0_1 : Int32) (t1_0 : Int32) (t1_1 : Int32) (t2_0 : (Nat → Int32)) (t3_0 : Int32) (t3_1 : Int32) (t4_0 : Int32) (t4_1 : Int32) (t5_0 : (Nat → Int32)) (p41 : (Int32 × Int32 × (Nat → Int32))) (y30 : Int32) (y31 : Int32) (f32 : (Nat → Int32)) (p82 : (Int32 × Int32 × (Nat → Int32))) : Int32 × Int32 × Int32 × (Nat → Int32) := F_DW_towardsZero_c77 R t0_0 t0_1 t1_0 t1_1 t2_0 t3_0 t3_1 t4_0 t4_1 t5_0 p41 y30 y31 f32 p82 ((F_Big_dropFigures (220 : Int32) t3_0 (p82.1 : Int32) (p82.2.1 : Int32) (p82.2.2 : (Nat → Int32))) : (Int32 × Int32 × Int32 × (Nat → Int32)))
def F_DW_towardsZero_J41 (R : Int32) (t0_0 : Int64) (t0_1 : Int32) (t1_0 : Int32) (t1_1 : Int32) (t2_0 : (Nat → Int32)) (t3_0 : Int32) (t3_1 : Int32) (t4_0 : Int32) (t4_1 : Int32) (t5_0 : (Nat → Int32)) (p41 : (Int32 × Int32 × (Nat → Int32))) (y30 : Int32) (y31 : Int32) (f32 : (Nat → Int32)) : Int32 × Int32 × Int32 × (Nat → Int32) := if t4_0 ≤ (0 : Int32) then (((1 : Int32), y30, y31, f32)) else (F_DW_towardsZero_c63 R t0_0 t0_1 t1_0 t1_1 t2_0 t3_0 t3_1 t4_0 t4_1 t5_0 p41 y30 y31 f32 ((F_Big_timesTen (220 : Int32) (-t3_0 : Int32) y30 y31 f32) : (Int32 × Int32 × (Nat → Int32))))
def F_DW_towardsZero_c11 (R : Int32) (t0_0 : Int64) (t0_1 : Int32) (t1_0 : Int32) (t1_1 : Int32) (t2_0 : (Nat → Int32)) (t3_0 : Int32) (t3_1 : Int32) (t4_0 : Int32) (t4_1 : Int32) (t5_0 : (Nat → Int32)) (p41 : (Int32 × Int32 × (Nat → Int32))) : Int32 × Int32 × Int32 × (Nat → Int32) := if t4_0 ≤ (0 : Int32) then (F_DW_towardsZero_J41 R t0_0 t0_1 t1_0 t1_1 t2_0 t3_0 t3_1 t4_0 t4_1 t5_0 p41 (p41.1 : Int32) (p41.2.1 : Int32) (p41.2.2 : (Nat → Int32))) else (if (t3_1 - t3_0 : Int32) ≤ (1000 : Int32) then (F_DW_towardsZero_J41 R t0_0 t0_1 t1_0 t1_1 t2_0 t3_0 t3_1 t4_0 t4_1 t5_0 p41 (p41.1 : Int32) (p41.2.1 : Int32) (p41.2.2 : (Nat → Int32))) else (((0 : Int32), (p41.1 : Int32), (p41.2.1 : Int32), (p41.2.2 : (Nat → Int32)))))
def F_DW_towardsZero (R : Int32) (t0_0 : Int64) (t0_1 : Int32) (t1_0 : Int32) (t1_1 : Int32) (t2_0 : (Nat → Int32)) (t3_0 : Int32) (t3_1 : Int32) (t4_0 : Int32) (t4_1 : Int32) (t5_0 : (Nat → Int32)) : Int32 × Int32 × Int32 × (Nat → Int32) := F_DW_towardsZero_c11 R t0_0 t0_1 t1_0 t1_1 t2_0 t3_0 t3_1 t4_0 t4_1 t5_0 ((F_Big_copy (220 : Int32) R t1_0 t1_1 t2_0 t4_0 t4_1 t5_0) : (Int32 × Int32 × (Nat → Int32)))
set_option maxRecDepth 100000 in
set_option maxHeartbeats 4000000 in
theorem X_DW_towardsZero (l : Launch) (D : va_G) (g : Nat → ClassId) (q : Nat → Nat) (ws : va_W) (k2 : Nat) (R : Int32) (hB2 : q_isDec (nsh g q) g q k2 R) (zk2 : (10 ≤ k2 ∧ k2 ≤ 31) ∨ 66 ≤ k2) (ne_k2_10 : k2 ≠ 10) (ne_k2_11 : k2 ≠ 11) (ne_k2_9 : k2 ≠ 9) (ne_k2_8 : k2 ≠ 8) (ne_k2_30 : k2 ≠ 30) (ne_k2_31 : k2 ≠ 31) (ne_k2_29 : k2 ≠ 29) (ne_k2_28 : k2 ≠ 28) (hI : q_I (nsh g q) q ws) (t0_0 : Int64) (t0_1 : Int32) (hT0 : ws[30]? = (some (q 30, .inr (5, [.ref (q 31), .long t0_0, .ref (q 9), .int t0_1])) : Option (Nat × va_E))) (t1_0 : Int32) (t1_1 : Int32) (hT1 : ws[10]? = (some (q 10, .inr (2, [.ref (q 11), .int t1_0, .int t1_1])) : Option (Nat × va_E))) (t2_0 : (Nat → Int32)) (hT2 : ws[11]? = (some (q 11, .inl (g 0, (220 : Int32).toNatClampNeg, .inl t2_0)) : Option (Nat × va_E))) (t3_0 : Int32) (t3_1 : Int32) (hT3 : ws[k2]? = (some (q k2, .inr (3, [.ref (q (k2 + 1)), .int t3_0, .int t3_1])) : Option (Nat × va_E))) (t4_0 : Int32) (t4_1 : Int32) (hT4 : ws[k2 + 1]? = (some (q (k2 + 1), .inr (2, [.ref (q (k2 + 2)), .int t4_0, .int t4_1])) : Option (Nat × va_E))) (t5_0 : (Nat → Int32)) (hT5 : ws[k2 + 2]? = (some (q (k2 + 2), .inl (g 0, R.toNatClampNeg, .inl t5_0)) : Option (Nat × va_E))) : q_mI l y_DW_towardsZero prog_4_method_14_code 2 (.boolean) 4 0 0 D g [.ref (q 30), .ref (q k2)] ws (fun r u => q_I (nsh g q) q u ∧ q_un ws u [10, 11] ∧ ∃ (u1_0 : Int32) (u1_1 : Int32) (u2_0 : (Nat → Int32)), u[10]? = (some (q 10, .inr (2, [.ref (q 11), .int u1_0, .int u1_1])) : Option (Nat × va_E)) ∧ u[11]? = (some (q 11, .inl (g 0, (220 : Int32).toNatClampNeg, .inl u2_0)) : Option (Nat × va_E)) ∧ (0 ≤ r.toInt) ∧ (r.toInt ≤ 1) ∧ (0 ≤ u1_0.toInt) ∧ (u1_0.toInt ≤ 220) ∧ (0 ≤ u1_1.toInt) ∧ (t3_0.toInt ≤ r.toInt + 9999) ∧ (u1_0.toInt ≤ t4_0.toInt + 219) ∧ (u1_1.toInt ≤ t4_1.toInt) ∧ (r, u1_0, u1_1, u2_0) = (F_DW_towardsZero R t0_0 t0_1 t1_0 t1_1 t2_0 t3_0 t3_1 t4_0 t4_1 t5_0)) := by
  intro sz
  refine q_into (by decide) (Nat.le_of_ble_eq_true rfl) ?_
  intro p e s m below meth c ls hsz C0 V hl
  have hx := C0.1
  have hb := C0.2.1
  have hfk20 : q_F (0 ≤ R.toInt ∧ R.toInt ≤ 220) := hB2.2.2.2
  obtain ⟨yy0_0, yy0_1, hh0, btt0_1⟩ := n_o30 hI
  obtain ⟨rfl, rfl⟩ : t0_0 = yy0_0 ∧ t0_1 = yy0_1 := by have z := Option.some.inj (hT0.symm.trans hh0); simpa using z
  replace btt0_1 : q_F (0 ≤ t0_1.toInt ∧ t0_1.toInt ≤ 1) := btt0_1
  obtain ⟨yy1_0, yy1_1, hh1, btt1_0, btt1_1⟩ := q_bigO hI (n_b10 g q)
  obtain ⟨rfl, rfl⟩ : t1_0 = yy1_0 ∧ t1_1 = yy1_1 := by have z := Option.some.inj (hT1.symm.trans hh1); simpa using z
  replace btt1_0 : q_F (0 ≤ t1_0.toInt ∧ t1_0.toInt ≤ 220) := btt1_0
  replace btt1_1 : q_F (0 ≤ t1_1.toInt ∧ t1_1.toInt ≤ 1) := btt1_1
  obtain ⟨yy3_0, yy3_1, hh3, btt3_0, btt3_1⟩ := n_deO hI hB2
  obtain ⟨rfl, rfl⟩ : t3_0 = yy3_0 ∧ t3_1 = yy3_1 := by have z := Option.some.inj (hT3.symm.trans hh3); simpa using z
  replace btt3_0 : q_F (-10000 ≤ t3_0.toInt ∧ t3_0.toInt ≤ 10000) := btt3_0
  replace btt3_1 : q_F (1 ≤ t3_1.toInt ∧ t3_1.toInt ≤ 1000) := btt3_1
  obtain ⟨yy4_0, yy4_1, hh4, btt4_0, btt4_1⟩ := q_bigO hI hB2.2
  obtain ⟨rfl, rfl⟩ : t4_0 = yy4_0 ∧ t4_1 = yy4_1 := by have z := Option.some.inj (hT4.symm.trans hh4); simpa using z
  replace btt4_0 : q_F (0 ≤ t4_0.toInt ∧ t4_0.toInt ≤ R.toInt) := btt4_0
  replace btt4_1 : q_F (0 ≤ t4_1.toInt ∧ t4_1.toInt ≤ 1) := btt4_1
  have hF : q_un ws ws [10, 11] := q_u0
  have hl : lv_has ls 2 [(0, .ref (q 30)), (1, .ref (q k2))] := hl
  refine lv_aload_n hx hb d_4_14_0 rfl (lv_at hl 0 rfl) ?_
  refine q_get (ci := 5) (j := 2) (v := .ref (q 9)) C0 V i_DW rfl rfl hT0 (by decide) w_214 rfl d_4_14_1 ?_
  have hO26 := n_o9 hI
  refine q_get (ci := 4) (j := 0) (v := .ref (q 10)) C0 V i_Mil rfl rfl hO26 (by decide) w_111 rfl d_4_14_4 ?_
  refine lv_aload_n hx hb d_4_14_7 rfl (lv_at hl 1 rfl) ?_
  refine q_get (ci := 3) (j := 0) (v := .ref (q (k2 + 1))) C0 V i_Dec rfl rfl hT3 (by decide) w_171 rfl d_4_14_8 ?_
  refine q_gov V (q_runV (As := [.ref (q (k2 + 1))]) (rest := []) (d := 2) (mc := 0) (ms := 0) (ci := 2) C0 V rfl LV_DW_44 (X_Big_copy l D g q ws 10 220 (n_b10 g q) (by decide) (k2 + 1) R hB2.2 (by have z := zk2; omega)  (by have z := ne_k2_9; omega) hI t1_0 t1_1 hT1 t2_0 hT2 t4_0 t4_1 hT4 t5_0 hT5  _) rfl rfl hT1 rfl hl.1 rfl (Nat.le_of_ble_eq_true rfl) ⟨by decide, by decide⟩ ⟨Nat.le_of_ble_eq_true rfl, Nat.le_of_ble_eq_true rfl⟩ d_4_14_11) (fun u27 H locs hp28 V => ?_)
  obtain ⟨hI, hu40, y30, y31, f32, hO29, hA33, b34, b35, b36, b37, b38, hE39⟩ := hp28
  replace hO29 : u27[10]? = (some (q 10, .inr (2, [.ref (q 11), .int y30, .int y31])) : Option (Nat × va_E)) := hO29
  replace hA33 : u27[11]? = (some (q 11, .inl (g 0, (220 : Int32).toNatClampNeg, .inl f32)) : Option (Nat × va_E)) := hA33
  obtain ⟨p41, e42⟩ : ∃ z, z = (F_Big_copy (220 : Int32) R t1_0 t1_1 t2_0 t4_0 t4_1 t5_0) := ⟨_, rfl⟩
  have e43 : y30 = p41.1 := congrArg (fun z => z.1) (hE39.trans e42.symm)
  have e44 : y31 = p41.2.1 := congrArg (fun z => z.2.1) (hE39.trans e42.symm)
  have e45 : f32 = p41.2.2 := congrArg (fun z => z.2.2) (hE39.trans e42.symm)
  replace b34 : q_F (0 ≤ y30.toInt) := b34
  replace b35 : q_F (y30.toInt ≤ t4_0.toInt) := b35
  replace b36 : q_F (y30.toInt ≤ 220) := b36
  replace b37 : q_F (t4_1.toInt ≤ y31.toInt) := b37
  replace b38 : q_F (y31.toInt ≤ t4_1.toInt) := b38
  replace hT0 := (hu40 _ (by decide)).trans hT0
  replace hT3 := (hu40 _ (by have z0 := zk2; simp only [List.mem_cons, List.not_mem_nil, or_false, not_or]; omega)).trans hT3
  replace hT4 := (hu40 _ (by have z0 := zk2; simp only [List.mem_cons, List.not_mem_nil, or_false, not_or]; omega)).trans hT4
  replace hT5 := (hu40 _ (by have z0 := zk2; simp only [List.mem_cons, List.not_mem_nil, or_false, not_or]; omega)).trans hT5
  replace hO26 := (hu40 _ (by decide)).trans hO26
  replace hF := q_uc hF hu40 (by simp)
  have hR46 := (show F_DW_towardsZero_c11 R t0_0 t0_1 t1_0 t1_1 t2_0 t3_0 t3_1 t4_0 t4_1 t5_0 p41 = (F_DW_towardsZero R t0_0 t0_1 t1_0 t1_1 t2_0 t3_0 t3_1 t4_0 t4_1 t5_0) from (by rw [e42, F_DW_towardsZero.eq_1]))
  refine lv_aload_n hx hb d_4_14_14 rfl (lv_at hl 1 rfl) ?_
  refine q_get (ci := 3) (j := 0) (v := .ref (q (k2 + 1))) C0 V i_Dec rfl rfl hT3 (by decide) w_171 rfl d_4_14_15 ?_
  refine q_get (ci := 2) (j := 1) (v := .int t4_0) C0 V i_Big rfl rfl hT4 (by decide) w_90 rfl d_4_14_18 ?_
  refine q_join (X := Unit) (fun z H locs ls _ => q_Wd D g (va_A ws sz) s u27 H locs ∧ lv_has ls 2 [(0, .ref (q 30)), (1, .ref (q k2))] ∧ F_DW_towardsZero_J41 R t0_0 t0_1 t1_0 t1_1 t2_0 t3_0 t3_1 t4_0 t4_1 t5_0 p41 y30 y31 f32 = (F_DW_towardsZero R t0_0 t0_1 t1_0 t1_1 t2_0 t3_0 t3_1 t4_0 t4_1 t5_0)) (fun z => []) 41 0 0 ?_ ?_
  ·
    rintro _ H locs ls _ ⟨V, hl, hR58⟩
    replace hl : lv_has ls 2 [(0, .ref (q 30)), (1, .ref (q k2))] := hl
    refine lv_aload_n hx hb d_4_14_41 rfl (lv_at hl 1 rfl) ?_
    refine q_get (ci := 3) (j := 0) (v := .ref (q (k2 + 1))) C0 V i_Dec rfl rfl hT3 (by decide) w_171 rfl d_4_14_42 ?_
    refine q_get (ci := 2) (j := 1) (v := .int t4_0) C0 V i_Big rfl rfl hT4 (by decide) w_90 rfl d_4_14_45 ?_
    refine lv_if_le (tgt := 81) hx hb d_4_14_48 (by decide) (fun c63 => ?_) (fun c63 => ?_)
    ·
      have b64 : q_F (t4_0.toInt ≤ 0) := (q_leI c63)
      refine lv_iconst (v := 1) hx hb d_4_14_81 (by decide) ?_
      exact q_retz C0 V (by decide) (⟨hI, hF, y30, y31, f32, hO29, hA33, (show 0 ≤ (1 : Int32).toInt from (by have z11 : (1 : Int32).toInt = 1 := rfl; omega)), (show (1 : Int32).toInt ≤ 1 from (by have z11 : (1 : Int32).toInt = 1 := rfl; omega)), (show 0 ≤ y30.toInt from (by have z11 : (1 : Int32).toInt = 1 := rfl; have t1 : 0 ≤ y30.toInt := b34; omega)), (show y30.toInt ≤ 220 from (by have z11 : (1 : Int32).toInt = 1 := rfl; have t1 : y30.toInt ≤ 220 := b36; omega)), (show 0 ≤ y31.toInt from (by have z11 : (1 : Int32).toInt = 1 := rfl; have t1 : 0 ≤ t4_1.toInt ∧ t4_1.toInt ≤ 1 := btt4_1; have t2 : t4_1.toInt ≤ y31.toInt := b37; omega)), (show t3_0.toInt ≤ (1 : Int32).toInt + 9999 from (by have z11 : (1 : Int32).toInt = 1 := rfl; have t1 : -10000 ≤ t3_0.toInt ∧ t3_0.toInt ≤ 10000 := btt3_0; omega)), (show y30.toInt ≤ t4_0.toInt + 219 from (by have z11 : (1 : Int32).toInt = 1 := rfl; have t1 : y30.toInt ≤ t4_0.toInt := b35; omega)), (show y31.toInt ≤ t4_1.toInt from (by have z11 : (1 : Int32).toInt = 1 := rfl; have t1 : y31.toInt ≤ t4_1.toInt := b38; omega)), (show ((1 : Int32), y30, y31, f32) = (F_DW_towardsZero R t0_0 t0_1 t1_0 t1_1 t2_0 t3_0 t3_1 t4_0 t4_1 t5_0) from Eq.trans (by rw [F_DW_towardsZero_J41.eq_1, if_pos c63]) hR58)⟩) d_4_14_82
    ·
      have b65 : q_F (0 < t4_0.toInt) := (q_nleI c63)
      refine lv_aload_n hx hb d_4_14_51 rfl (lv_at hl 0 rfl) ?_
      refine q_get (ci := 5) (j := 2) (v := .ref (q 9)) C0 V i_DW rfl rfl hT0 (by decide) w_214 rfl d_4_14_52 ?_
      refine q_get (ci := 4) (j := 0) (v := .ref (q 10)) C0 V i_Mil rfl rfl hO26 (by decide) w_111 rfl d_4_14_55 ?_
      refine lv_aload_n hx hb d_4_14_58 rfl (lv_at hl 1 rfl) ?_
      refine q_get (ci := 3) (j := 1) (v := .int t3_0) C0 V i_Dec rfl rfl hT3 (by decide) w_176 rfl d_4_14_59 ?_
      refine lv_ineg hx hb d_4_14_62 ?_
      obtain ⟨a66, e67⟩ := q_nm (-t3_0 : Int32)
      refine q_ti (v := a66) e67 ?_
      have b68 : q_F (a66.toInt = -t3_0.toInt) := (by rw [← e67]; show (-t3_0 : Int32).toInt = -t3_0.toInt; exact q_negI rfl (by have t1 : -10000 ≤ t3_0.toInt ∧ t3_0.toInt ≤ 10000 := btt3_0; omega))
      refine q_gov V (q_runV (As := [.int a66]) (rest := []) (d := 2) (mc := 0) (ms := 0) (ci := 2) C0 V rfl LV_DW_77 (X_Big_timesTen l D g q u27 10 220 (n_b10 g q) (by decide) a66 hI y30 y31 hO29 f32 hA33  _) rfl rfl hO29 rfl hl.1 rfl (Nat.le_of_ble_eq_true rfl) ⟨by decide, by decide⟩ ⟨Nat.le_of_ble_eq_true rfl, Nat.le_of_ble_eq_true rfl⟩ d_4_14_63) (fun u69 H locs hp70 V => ?_)
      obtain ⟨hI, hu81, y72, y73, f74, hO71, hA75, b76, b77, b78, b79, hE80⟩ := hp70
      replace hO71 : u69[10]? = (some (q 10, .inr (2, [.ref (q 11), .int y72, .int y73])) : Option (Nat × va_E)) := hO71
      replace hA75 : u69[11]? = (some (q 11, .inl (g 0, (220 : Int32).toNatClampNeg, .inl f74)) : Option (Nat × va_E)) := hA75
      obtain ⟨p82, e83⟩ : ∃ z, z = (F_Big_timesTen (220 : Int32) a66 y30 y31 f32) := ⟨_, rfl⟩
      have e84 : y72 = p82.1 := congrArg (fun z => z.1) (hE80.trans e83.symm)
      have e85 : y73 = p82.2.1 := congrArg (fun z => z.2.1) (hE80.trans e83.symm)
      have e86 : f74 = p82.2.2 := congrArg (fun z => z.2.2) (hE80.trans e83.symm)
      replace b76 : q_F (y30.toInt ≤ y72.toInt) := b76
      replace b77 : q_F (y72.toInt ≤ 220) := b77
      replace b78 : q_F (y31.toInt ≤ y73.toInt) := b78
      replace b79 : q_F (y73.toInt ≤ y31.toInt) := b79
      replace hT0 := (hu81 _ (by decide)).trans hT0
      replace hT3 := (hu81 _ (by have z0 := zk2; simp only [List.mem_cons, List.not_mem_nil, or_false, not_or]; omega)).trans hT3
      replace hT4 := (hu81 _ (by have z0 := zk2; simp only [List.mem_cons, List.not_mem_nil, or_false, not_or]; omega)).trans hT4
      replace hT5 := (hu81 _ (by have z0 := zk2; simp only [List.mem_cons, List.not_mem_nil, or_false, not_or]; omega)).trans hT5
      replace hO26 := (hu81 _ (by decide)).trans hO26
      replace hF := q_uc hF hu81 (by simp)
      have hR87 := (show F_DW_towardsZero_c63 R t0_0 t0_1 t1_0 t1_1 t2_0 t3_0 t3_1 t4_0 t4_1 t5_0 p41 y30 y31 f32 p82 = (F_DW_towardsZero R t0_0 t0_1 t1_0 t1_1 t2_0 t3_0 t3_1 t4_0 t4_1 t5_0) from Eq.trans (by rw [e83, ← e67, F_DW_towardsZero_J41.eq_1, if_neg c63]) hR58)
      refine lv_aload_n hx hb d_4_14_66 rfl (lv_at hl 0 rfl) ?_
      refine q_get (ci := 5) (j := 2) (v := .ref (q 9)) C0 V i_DW rfl rfl hT0 (by decide) w_214 rfl d_4_14_67 ?_
      refine q_get (ci := 4) (j := 0) (v := .ref (q 10)) C0 V i_Mil rfl rfl hO26 (by decide) w_111 rfl d_4_14_70 ?_
      refine lv_aload_n hx hb d_4_14_73 rfl (lv_at hl 1 rfl) ?_
      refine q_get (ci := 3) (j := 1) (v := .int t3_0) C0 V i_Dec rfl rfl hT3 (by decide) w_176 rfl d_4_14_74 ?_
      refine q_goi V (q_runV (As := [.int t3_0]) (rest := []) (d := 3) (mc := 0) (ms := 0) (ci := 2) C0 V rfl LV_DW_149 (X_Big_dropFigures l D g q u69 10 220 (n_b10 g q) (by decide) t3_0 hI y72 y73 hO71 f74 hA75  _) rfl rfl hO71 rfl hl.1 rfl (Nat.le_of_ble_eq_true rfl) ⟨by decide, by decide⟩ ⟨Nat.le_of_ble_eq_true rfl, Nat.le_of_ble_eq_true rfl⟩ d_4_14_77) (fun a94 u92 H locs hp93 V => ?_)
      obtain ⟨hI, hu108, y96, y97, f98, hO95, hA99, b100, b101, b102, b103, b104, b105, b106, hE107⟩ := hp93
      replace hO95 : u92[10]? = (some (q 10, .inr (2, [.ref (q 11), .int y96, .int y97])) : Option (Nat × va_E)) := hO95
      replace hA99 : u92[11]? = (some (q 11, .inl (g 0, (220 : Int32).toNatClampNeg, .inl f98)) : Option (Nat × va_E)) := hA99
      obtain ⟨p109, e110⟩ : ∃ z, z = (F_Big_dropFigures (220 : Int32) t3_0 y72 y73 f74) := ⟨_, rfl⟩
      have e111 : a94 = p109.1 := congrArg (fun z => z.1) (hE107.trans e110.symm)
      have e112 : y96 = p109.2.1 := congrArg (fun z => z.2.1) (hE107.trans e110.symm)
      have e113 : y97 = p109.2.2.1 := congrArg (fun z => z.2.2.1) (hE107.trans e110.symm)
      have e114 : f98 = p109.2.2.2 := congrArg (fun z => z.2.2.2) (hE107.trans e110.symm)
      replace b100 : q_F (0 ≤ a94.toInt) := b100
      replace b101 : q_F (a94.toInt ≤ 1) := b101
      replace b102 : q_F (0 ≤ y96.toInt) := b102
      replace b103 : q_F (0 ≤ y97.toInt) := b103
      replace b104 : q_F (a94.toInt ≤ y72.toInt) := b104
      replace b105 : q_F (y96.toInt ≤ y72.toInt) := b105
      replace b106 : q_F (y97.toInt ≤ y73.toInt) := b106
      replace hT0 := (hu108 _ (by decide)).trans hT0
      replace hT3 := (hu108 _ (by have z0 := zk2; simp only [List.mem_cons, List.not_mem_nil, or_false, not_or]; omega)).trans hT3
      replace hT4 := (hu108 _ (by have z0 := zk2; simp only [List.mem_cons, List.not_mem_nil, or_false, not_or]; omega)).trans hT4
      replace hT5 := (hu108 _ (by have z0 := zk2; simp only [List.mem_cons, List.not_mem_nil, or_false, not_or]; omega)).trans hT5
      replace hO26 := (hu108 _ (by decide)).trans hO26
      replace hF := q_uc hF hu108 (by simp)
      have hR115 := (show F_DW_towardsZero_c77 R t0_0 t0_1 t1_0 t1_1 t2_0 t3_0 t3_1 t4_0 t4_1 t5_0 p41 y30 y31 f32 p82 p109 = (F_DW_towardsZero R t0_0 t0_1 t1_0 t1_1 t2_0 t3_0 t3_1 t4_0 t4_1 t5_0) from Eq.trans (by rw [e110, e86, e85, e84, F_DW_towardsZero_c63.eq_1]) hR87)
      refine lv_pop hx hb d_4_14_80 rfl ?_
      refine lv_iconst (v := 1) hx hb d_4_14_81 (by decide) ?_
      exact q_retz C0 V (by decide) (⟨hI, hF, y96, y97, f98, hO95, hA99, (show 0 ≤ (1 : Int32).toInt from (by have z11 : (1 : Int32).toInt = 1 := rfl; omega)), (show (1 : Int32).toInt ≤ 1 from (by have z11 : (1 : Int32).toInt = 1 := rfl; omega)), (show 0 ≤ y96.toInt from (by have z11 : (1 : Int32).toInt = 1 := rfl; have t1 : 0 ≤ y96.toInt := b102; omega)), (show y96.toInt ≤ 220 from (by have z11 : (1 : Int32).toInt = 1 := rfl; have t1 : y72.toInt ≤ 220 := b77; have t2 : y96.toInt ≤ y72.toInt := b105; omega)), (show 0 ≤ y97.toInt from (by have z11 : (1 : Int32).toInt = 1 := rfl; have t1 : 0 ≤ y97.toInt := b103; omega)), (show t3_0.toInt ≤ (1 : Int32).toInt + 9999 from (by have z11 : (1 : Int32).toInt = 1 := rfl; have t1 : -10000 ≤ t3_0.toInt ∧ t3_0.toInt ≤ 10000 := btt3_0; omega)), (show y96.toInt ≤ t4_0.toInt + 219 from (by have z11 : (1 : Int32).toInt = 1 := rfl; have t1 : 0 < t4_0.toInt := b65; have t2 : y72.toInt ≤ 220 := b77; have t3 : y96.toInt ≤ y72.toInt := b105; omega)), (show y97.toInt ≤ t4_1.toInt from (by have z11 : (1 : Int32).toInt = 1 := rfl; have t1 : y31.toInt ≤ t4_1.toInt := b38; have t2 : y73.toInt ≤ y31.toInt := b79; have t3 : y97.toInt ≤ y73.toInt := b106; omega)), (show ((1 : Int32), y96, y97, f98) = (F_DW_towardsZero R t0_0 t0_1 t1_0 t1_1 t2_0 t3_0 t3_1 t4_0 t4_1 t5_0) from Eq.trans (by rw [e114, e113, e112, F_DW_towardsZero_c77.eq_1]) hR115)⟩) d_4_14_82
  ·
    intro J57
    refine lv_if_le (tgt := 41) hx hb d_4_14_21 (by decide) (fun c120 => ?_) (fun c120 => ?_)
    ·
      have b121 : q_F (t4_0.toInt ≤ 0) := (q_leI c120)
      exact J57 (()) _ _ _ u27 ⟨V, q_lw hl (q_lw1 0 rfl (q_lw1 1 rfl q_lw0)), (show F_DW_towardsZero_J41 R t0_0 t0_1 t1_0 t1_1 t2_0 t3_0 t3_1 t4_0 t4_1 t5_0 p41 y30 y31 f32 = (F_DW_towardsZero R t0_0 t0_1 t1_0 t1_1 t2_0 t3_0 t3_1 t4_0 t4_1 t5_0) from Eq.trans (by rw [e45, e44, e43, F_DW_towardsZero_c11.eq_1, if_pos c120]) hR46)⟩
    ·
      have b122 : q_F (0 < t4_0.toInt) := (q_nleI c120)
      refine lv_aload_n hx hb d_4_14_24 rfl (lv_at hl 1 rfl) ?_
      refine q_get (ci := 3) (j := 2) (v := .int t3_1) C0 V i_Dec rfl rfl hT3 (by decide) w_180 rfl d_4_14_25 ?_
      refine lv_aload_n hx hb d_4_14_28 rfl (lv_at hl 1 rfl) ?_
      refine q_get (ci := 3) (j := 1) (v := .int t3_0) C0 V i_Dec rfl rfl hT3 (by decide) w_176 rfl d_4_14_29 ?_
      refine lv_isub hx hb d_4_14_32 ?_
      obtain ⟨a123, e124⟩ := q_nm (t3_1 - t3_0 : Int32)
      refine q_ti (v := a123) e124 ?_
      have b125 : q_F (a123.toInt = t3_1.toInt - t3_0.toInt) := (by rw [← e124]; show (t3_1 - t3_0 : Int32).toInt = t3_1.toInt - t3_0.toInt; exact q_subI (x := t3_1.toInt) (y := t3_0.toInt) rfl rfl (by have t1 : -10000 ≤ t3_0.toInt ∧ t3_0.toInt ≤ 10000 := btt3_0; have t2 : 1 ≤ t3_1.toInt ∧ t3_1.toInt ≤ 1000 := btt3_1; omega) (by have t1 : -10000 ≤ t3_0.toInt ∧ t3_0.toInt ≤ 10000 := btt3_0; have t2 : 1 ≤ t3_1.toInt ∧ t3_1.toInt ≤ 1000 := btt3_1; omega))
      refine lv_sipush (v := 1000) hx hb d_4_14_33 (by decide) ?_
      refine lv_icmp_le (tgt := 41) hx hb d_4_14_36 (by decide) (fun c126 => ?_) (fun c126 => ?_)
      ·
        have b127 : q_F (a123.toInt ≤ 1000) := (q_leI c126)
        exact J57 (()) _ _ _ u27 ⟨V, q_lw hl (q_lw1 0 rfl (q_lw1 1 rfl q_lw0)), (show F_DW_towardsZero_J41 R t0_0 t0_1 t1_0 t1_1 t2_0 t3_0 t3_1 t4_0 t4_1 t5_0 p41 y30 y31 f32 = (F_DW_towardsZero R t0_0 t0_1 t1_0 t1_1 t2_0 t3_0 t3_1 t4_0 t4_1 t5_0) from Eq.trans (by have c126x := c126; rw [← e124] at c126x; rw [e45, e44, e43, F_DW_towardsZero_c11.eq_1, if_neg c120, if_pos c126x]) hR46)⟩
      ·
        have b128 : q_F (1000 < a123.toInt) := (q_nleI c126)
        refine lv_iconst (v := 0) hx hb d_4_14_39 (by decide) ?_
        exact q_retz C0 V (by decide) (⟨hI, hF, y30, y31, f32, hO29, hA33, (show 0 ≤ (0 : Int32).toInt from (by have z11 : (0 : Int32).toInt = 0 := rfl; omega)), (show (0 : Int32).toInt ≤ 1 from (by have z11 : (0 : Int32).toInt = 0 := rfl; omega)), (show 0 ≤ y30.toInt from (by have z11 : (0 : Int32).toInt = 0 := rfl; have t1 : 0 ≤ y30.toInt := b34; omega)), (show y30.toInt ≤ 220 from (by have z11 : (0 : Int32).toInt = 0 := rfl; have t1 : y30.toInt ≤ 220 := b36; omega)), (show 0 ≤ y31.toInt from (by have z11 : (0 : Int32).toInt = 0 := rfl; have t1 : 0 ≤ t4_1.toInt ∧ t4_1.toInt ≤ 1 := btt4_1; have t2 : t4_1.toInt ≤ y31.toInt := b37; omega)), (show t3_0.toInt ≤ (0 : Int32).toInt + 9999 from (by have z11 : (0 : Int32).toInt = 0 := rfl; have t1 : 1 ≤ t3_1.toInt ∧ t3_1.toInt ≤ 1000 := btt3_1; have t2 : a123.toInt = t3_1.toInt - t3_0.toInt := b125; have t3 : 1000 < a123.toInt := b128; omega)), (show y30.toInt ≤ t4_0.toInt + 219 from (by have z11 : (0 : Int32).toInt = 0 := rfl; have t1 : y30.toInt ≤ t4_0.toInt := b35; omega)), (show y31.toInt ≤ t4_1.toInt from (by have z11 : (0 : Int32).toInt = 0 := rfl; have t1 : y31.toInt ≤ t4_1.toInt := b38; omega)), (show ((0 : Int32), y30, y31, f32) = (F_DW_towardsZero R t0_0 t0_1 t1_0 t1_1 t2_0 t3_0 t3_1 t4_0 t4_1 t5_0) from Eq.trans (by have c126x := c126; rw [← e124] at c126x; rw [e45, e44, e43, F_DW_towardsZero_c11.eq_1, if_neg c120, if_neg c126x]) hR46)⟩) d_4_14_40
