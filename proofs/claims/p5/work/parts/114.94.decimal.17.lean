theorem d_15_49_0 : decode prog_15_method_49_code 0 = .ok (.aload_n 0, 1) := by decide +kernel
theorem d_15_49_1 : decode prog_15_method_49_code 1 = .ok (.getfield 38, 3) := by decide +kernel
theorem d_15_49_4 : decode prog_15_method_49_code 4 = .ok (.aload_n 0, 1) := by decide +kernel
theorem d_15_49_5 : decode prog_15_method_49_code 5 = .ok (.getfield 186, 3) := by decide +kernel
set_option maxRecDepth 100000 in
theorem w_2023 : (Cond.fieldLink "NumberHouseModel$DecimalRows" (186 : Nat) "NumberHouseModel$DecimalRows" "printed" "I") ∈ q_tbl := q_of9 103 rfl (by decide +kernel)
theorem d_15_49_8 : decode prog_15_method_49_code 8 = .ok (.iload_n 1, 1) := by decide +kernel
theorem d_15_49_9 : decode prog_15_method_49_code 9 = .ok (.iastore, 1) := by decide +kernel
theorem d_15_49_10 : decode prog_15_method_49_code 10 = .ok (.aload_n 0, 1) := by decide +kernel
theorem d_15_49_11 : decode prog_15_method_49_code 11 = .ok (.dup, 1) := by decide +kernel
theorem d_15_49_12 : decode prog_15_method_49_code 12 = .ok (.getfield 186, 3) := by decide +kernel
theorem d_15_49_15 : decode prog_15_method_49_code 15 = .ok (.iconst 1, 1) := by decide +kernel
theorem d_15_49_16 : decode prog_15_method_49_code 16 = .ok (.iadd, 1) := by decide +kernel
theorem d_15_49_17 : decode prog_15_method_49_code 17 = .ok (.putfield 186, 3) := by decide +kernel
theorem d_15_49_20 : decode prog_15_method_49_code 20 = .ok (.return_, 1) := by decide +kernel
def y_DR_print : MethodName := ⟨"NumberHouseModel$DecimalRows", "print", "(I)V"⟩
def F_DR_print (x2 : Int32) (t0_0 : Int32) (t0_1 : Int32) (t0_2 : Int32) (t0_3 : Int64) (t0_4 : Int32) (t0_5 : Int32) (t0_6 : Int32) (t0_7 : Int32) (t0_8 : Int32) (t0_9 : Int32) (t0_10 : Int32) (t1_0 : (Nat → Int32)) : Int32 × Int32 × Int32 × Int64 × Int32 × Int32 × Int32 × Int32 × Int32 × Int32 × Int32 × (Nat → Int32) := (t0_0, t0_1, t0_2, t0_3, t0_4, t0_5, t0_6, t0_7, t0_8, (t0_9 + 1 : Int32), t0_10, (upd t1_0 t0_9.toNatClampNeg x2 : (Nat → Int32)))
def S_DR_print (x2 : Int32) (t0_0 : Int32) (t0_1 : Int32) (t0_2 : Int32) (t0_3 : Int64) (t0_4 : Int32) (t0_5 : Int32) (t0_6 : Int32) (t0_7 : Int32) (t0_8 : Int32) (t0_9 : Int32) (t0_10 : Int32) (t1_0 : (Nat → Int32)) : Prop := (t0_9.toInt ≤ 12199) ∧ (True)
set_option maxRecDepth 100000 in
set_option maxHeartbeats 4000000 in
theorem X_DR_print (l : Launch) (D : va_G) (g : Nat → ClassId) (q : Nat → Nat) (ws : va_W) (x2 : Int32) (hI : q_I (msh g q) q ws) (t0_0 : Int32) (t0_1 : Int32) (t0_2 : Int32) (t0_3 : Int64) (t0_4 : Int32) (t0_5 : Int32) (t0_6 : Int32) (t0_7 : Int32) (t0_8 : Int32) (t0_9 : Int32) (t0_10 : Int32) (hT0 : ws[134]? = (some (q 134, .inr (14, [.int t0_0, .ref (q 135), .int t0_1, .ref (q 136), .ref (q 137), .ref (q 138), .ref (q 139), .ref (q 140), .int t0_2, .long t0_3, .int t0_4, .int t0_5, .ref (q 141), .int t0_6, .ref (q 142), .int t0_7, .ref (q 143), .int t0_8, .ref (q 144), .int t0_9, .int t0_10])) : Option (Nat × va_E))) (t1_0 : (Nat → Int32)) (hT1 : ws[144]? = (some (q 144, .inl (g 0, (12200 : Int32).toNatClampNeg, .inl t1_0)) : Option (Nat × va_E))) (hS : True ∧ S_DR_print x2 t0_0 t0_1 t0_2 t0_3 t0_4 t0_5 t0_6 t0_7 t0_8 t0_9 t0_10 t1_0) : q_mV l y_DR_print prog_15_method_49_code 2 1 0 0 D g [.ref (q 134), .int x2] ws (fun u => q_I (msh g q) q u ∧ q_un ws u [134, 144] ∧ ∃ (u0_0 : Int32) (u0_1 : Int32) (u0_2 : Int32) (u0_3 : Int64) (u0_4 : Int32) (u0_5 : Int32) (u0_6 : Int32) (u0_7 : Int32) (u0_8 : Int32) (u0_9 : Int32) (u0_10 : Int32) (u1_0 : (Nat → Int32)), u[134]? = (some (q 134, .inr (14, [.int u0_0, .ref (q 135), .int u0_1, .ref (q 136), .ref (q 137), .ref (q 138), .ref (q 139), .ref (q 140), .int u0_2, .long u0_3, .int u0_4, .int u0_5, .ref (q 141), .int u0_6, .ref (q 142), .int u0_7, .ref (q 143), .int u0_8, .ref (q 144), .int u0_9, .int u0_10])) : Option (Nat × va_E)) ∧ u[144]? = (some (q 144, .inl (g 0, (12200 : Int32).toNatClampNeg, .inl u1_0)) : Option (Nat × va_E)) ∧ (u0_9.toInt ≤ 12200) ∧ (t0_0.toInt ≤ u0_0.toInt) ∧ (u0_0.toInt ≤ t0_0.toInt) ∧ (t0_1.toInt ≤ u0_1.toInt) ∧ (u0_1.toInt ≤ t0_1.toInt) ∧ (t0_2.toInt ≤ u0_2.toInt) ∧ (u0_2.toInt ≤ t0_2.toInt) ∧ (t0_3.toInt ≤ u0_3.toInt) ∧ (u0_3.toInt ≤ t0_3.toInt) ∧ (t0_4.toInt ≤ u0_4.toInt) ∧ (u0_4.toInt ≤ t0_4.toInt) ∧ (t0_5.toInt ≤ u0_5.toInt) ∧ (u0_5.toInt ≤ t0_5.toInt) ∧ (t0_6.toInt ≤ u0_6.toInt) ∧ (u0_6.toInt ≤ t0_6.toInt) ∧ (t0_7.toInt ≤ u0_7.toInt) ∧ (u0_7.toInt ≤ t0_7.toInt) ∧ (t0_8.toInt ≤ u0_8.toInt) ∧ (u0_8.toInt ≤ t0_8.toInt) ∧ (t0_9.toInt + 1 ≤ u0_9.toInt) ∧ (u0_9.toInt ≤ t0_9.toInt + 1) ∧ (t0_10.toInt ≤ u0_10.toInt) ∧ (u0_10.toInt ≤ t0_10.toInt) ∧ (u0_0, u0_1, u0_2, u0_3, u0_4, u0_5, u0_6, u0_7, u0_8, u0_9, u0_10, u1_0) = (F_DR_print x2 t0_0 t0_1 t0_2 t0_3 t0_4 t0_5 t0_6 t0_7 t0_8 t0_9 t0_10 t1_0)) := by
  intro sz
  refine q_into (by decide) (Nat.le_of_ble_eq_true rfl) ?_
  intro p e s m below meth c ls hsz C0 V hl
  have hx := C0.1
  have hb := C0.2.1
  obtain ⟨btt0_1, hZ9⟩ := n_w134 hI hT0
  obtain ⟨btt0_4, hZ9⟩ := hZ9
  obtain ⟨btt0_5, btt0_9⟩ := hZ9
  replace btt0_1 : q_F (0 ≤ t0_1.toInt ∧ t0_1.toInt ≤ 4100) := btt0_1
  replace btt0_4 : q_F (0 ≤ t0_4.toInt ∧ t0_4.toInt ≤ 1) := btt0_4
  replace btt0_5 : q_F (0 ≤ t0_5.toInt ∧ t0_5.toInt ≤ 1) := btt0_5
  replace btt0_9 : q_F (0 ≤ t0_9.toInt ∧ t0_9.toInt ≤ 12200) := btt0_9
  have hF : q_un ws ws [134, 144] := q_u0
  have hl : lv_has ls 2 [(0, .ref (q 134)), (1, .int x2)] := hl
  refine lv_aload_n hx hb d_15_49_0 rfl (lv_at hl 0 rfl) ?_
  refine q_get (ci := 14) (j := 18) (v := .ref (q 144)) C0 V i_DR rfl rfl hT0 (by decide) w_2021 rfl d_15_49_1 ?_
  refine lv_aload_n hx hb d_15_49_4 rfl (lv_at hl 0 rfl) ?_
  refine q_get (ci := 14) (j := 19) (v := .int t0_9) C0 V i_DR rfl rfl hT0 (by decide) w_2023 rfl d_15_49_5 ?_
  refine lv_iload_n hx hb d_15_49_8 rfl (lv_at hl 1 rfl) ?_
  have ob20 : q_F (t0_9.toInt ≤ 12199) := (by have h := hS; rw [S_DR_print.eq_1] at h; exact h.2.1)
  refine q_iast C0 V hT1 (q_ix (x := t0_9.toInt) rfl (by first | with_reducible exact (q_fe btt0_9).2 | with_reducible exact (q_fe btt0_9).1 | (have t1 : 0 ≤ t0_9.toInt ∧ t0_9.toInt ≤ 12200 := btt0_9; omega)) (by have t1 : 0 ≤ t0_9.toInt ∧ t0_9.toInt ≤ 12200 := btt0_9; have t2 : t0_9.toInt ≤ 12199 := ob20; have e9 : (((12200 : Int32).toNatClampNeg : Nat) : Int) = 12200 := (by decide); omega)) d_15_49_9 (fun H locs w21 hu22 hT1 V => ?_)
  replace hI := n_ai' hI (n_r144 g q).1 hu22 hT1 (q_updB (fun _ => s_bnd) s_bnd)
  replace hT0 := (hu22 _ (by decide)).trans hT0
  replace hF := q_us hF hu22 (by simp)
  obtain ⟨f23, e24⟩ := q_nm (upd t1_0 t0_9.toNatClampNeg x2 : (Nat → Int32))
  rw [e24] at hT1
  refine lv_aload_n hx hb d_15_49_10 rfl (lv_at hl 0 rfl) ?_
  refine lv_dup hx hb d_15_49_11 rfl ?_
  refine q_get (ci := 14) (j := 19) (v := .int t0_9) C0 V i_DR rfl rfl hT0 (by decide) w_2023 rfl d_15_49_12 ?_
  refine lv_iconst (v := 1) hx hb d_15_49_15 (by decide) ?_
  refine lv_iadd hx hb d_15_49_16 ?_
  obtain ⟨a25, e26⟩ := q_nm (t0_9 + 1 : Int32)
  refine q_ti (v := a25) e26 ?_
  have b27 : q_F (a25.toInt = t0_9.toInt + 1) := (by rw [← e26]; show (t0_9 + 1 : Int32).toInt = t0_9.toInt + 1; exact q_addI (x := t0_9.toInt) (y := 1) rfl (by decide) (by first | with_reducible exact (q_fe btt0_9).2 | with_reducible exact (q_fe btt0_9).1 | (have t1 : 0 ≤ t0_9.toInt ∧ t0_9.toInt ≤ 12200 := btt0_9; omega)) (by first | with_reducible exact (q_fe btt0_9).2 | with_reducible exact (q_fe btt0_9).1 | (have t1 : 0 ≤ t0_9.toInt ∧ t0_9.toInt ≤ 12200 := btt0_9; omega)))
  refine q_put (ci := 14) (j := 19) (v := .int a25) (ty := .int) C0 V i_DR o_DR n_DR rfl rfl hT0 (by decide) w_2023 rfl rfl rfl rfl (Nat.le_of_ble_eq_true rfl) d_15_49_17 (fun H locs w28 hu29 hT0 V => ?_)
  replace hT0 : w28[134]? = (some (q 134, .inr (14, [.int t0_0, .ref (q 135), .int t0_1, .ref (q 136), .ref (q 137), .ref (q 138), .ref (q 139), .ref (q 140), .int t0_2, .long t0_3, .int t0_4, .int t0_5, .ref (q 141), .int t0_6, .ref (q 142), .int t0_7, .ref (q 143), .int t0_8, .ref (q 144), .int a25, .int t0_10])) : Option (Nat × va_E)) := hT0
  replace hI := n_p134 hI hu29 hT0 (by first | with_reducible exact q_fe btt0_1 | exact ⟨(by have t1 : 0 ≤ t0_1.toInt ∧ t0_1.toInt ≤ 4100 := btt0_1; omega), (by have t1 : 0 ≤ t0_1.toInt ∧ t0_1.toInt ≤ 4100 := btt0_1; omega)⟩) (by first | with_reducible exact q_fe btt0_4 | exact ⟨(by have t1 : 0 ≤ t0_4.toInt ∧ t0_4.toInt ≤ 1 := btt0_4; omega), (by have t1 : 0 ≤ t0_4.toInt ∧ t0_4.toInt ≤ 1 := btt0_4; omega)⟩) (by first | with_reducible exact q_fe btt0_5 | exact ⟨(by have t1 : 0 ≤ t0_5.toInt ∧ t0_5.toInt ≤ 1 := btt0_5; omega), (by have t1 : 0 ≤ t0_5.toInt ∧ t0_5.toInt ≤ 1 := btt0_5; omega)⟩) ⟨(by have t1 : 0 ≤ t0_9.toInt ∧ t0_9.toInt ≤ 12200 := btt0_9; have t2 : a25.toInt = t0_9.toInt + 1 := b27; omega), (by have t1 : t0_9.toInt ≤ 12199 := ob20; have t2 : a25.toInt = t0_9.toInt + 1 := b27; omega)⟩
  replace hT1 := (hu29 _ (by decide)).trans hT1
  replace hF := q_us hF hu29 (by simp)
  exact q_retv C0 V (⟨hI, hF, t0_0, t0_1, t0_2, t0_3, t0_4, t0_5, t0_6, t0_7, t0_8, a25, t0_10, f23, hT0, hT1, (show a25.toInt ≤ 12200 from (by have t1 : t0_9.toInt ≤ 12199 := ob20; have t2 : a25.toInt = t0_9.toInt + 1 := b27; omega)), (show t0_0.toInt ≤ t0_0.toInt from (by omega)), (show t0_0.toInt ≤ t0_0.toInt from (by omega)), (show t0_1.toInt ≤ t0_1.toInt from (by omega)), (show t0_1.toInt ≤ t0_1.toInt from (by omega)), (show t0_2.toInt ≤ t0_2.toInt from (by omega)), (show t0_2.toInt ≤ t0_2.toInt from (by omega)), (show t0_3.toInt ≤ t0_3.toInt from (by omega)), (show t0_3.toInt ≤ t0_3.toInt from (by omega)), (show t0_4.toInt ≤ t0_4.toInt from (by omega)), (show t0_4.toInt ≤ t0_4.toInt from (by omega)), (show t0_5.toInt ≤ t0_5.toInt from (by omega)), (show t0_5.toInt ≤ t0_5.toInt from (by omega)), (show t0_6.toInt ≤ t0_6.toInt from (by omega)), (show t0_6.toInt ≤ t0_6.toInt from (by omega)), (show t0_7.toInt ≤ t0_7.toInt from (by omega)), (show t0_7.toInt ≤ t0_7.toInt from (by omega)), (show t0_8.toInt ≤ t0_8.toInt from (by omega)), (show t0_8.toInt ≤ t0_8.toInt from (by omega)), (show t0_9.toInt + 1 ≤ a25.toInt from (by first | with_reducible exact q_fe b27 | (have t1 : a25.toInt = t0_9.toInt + 1 := b27; omega))), (show a25.toInt ≤ t0_9.toInt + 1 from (by first | with_reducible exact q_fe b27 | (have t1 : a25.toInt = t0_9.toInt + 1 := b27; omega))), (show t0_10.toInt ≤ t0_10.toInt from (by omega)), (show t0_10.toInt ≤ t0_10.toInt from (by omega)), (show (t0_0, t0_1, t0_2, t0_3, t0_4, t0_5, t0_6, t0_7, t0_8, a25, t0_10, f23) = (F_DR_print x2 t0_0 t0_1 t0_2 t0_3 t0_4 t0_5 t0_6 t0_7 t0_8 t0_9 t0_10 t1_0) from (by rw [← e26, ← e24, F_DR_print.eq_1]))⟩) d_15_49_20
theorem d_15_50_0 : decode prog_15_method_50_code 0 = .ok (.iload_n 2, 1) := by decide +kernel
theorem d_15_50_1 : decode prog_15_method_50_code 1 = .ok (.istore 5, 2) := by decide +kernel
theorem d_15_50_3 : decode prog_15_method_50_code 3 = .ok (.iload 5, 2) := by decide +kernel
theorem d_15_50_5 : decode prog_15_method_50_code 5 = .ok (.iload_n 3, 1) := by decide +kernel
theorem d_15_50_6 : decode prog_15_method_50_code 6 = .ok (.if_icmp .ge 62, 3) := by decide +kernel
theorem d_15_50_68 : decode prog_15_method_50_code 68 = .ok (.return_, 1) := by decide +kernel
theorem d_15_50_9 : decode prog_15_method_50_code 9 = .ok (.iload 5, 2) := by decide +kernel
theorem d_15_50_11 : decode prog_15_method_50_code 11 = .ok (.iload 4, 2) := by decide +kernel
theorem d_15_50_22 : decode prog_15_method_50_code 22 = .ok (.aload_n 0, 1) := by decide +kernel
theorem d_15_50_23 : decode prog_15_method_50_code 23 = .ok (.bipush 48, 2) := by decide +kernel
theorem d_15_50_25 : decode prog_15_method_50_code 25 = .ok (.iload 5, 2) := by decide +kernel
theorem d_15_50_27 : decode prog_15_method_50_code 27 = .ok (.ifCond .lt 30, 3) := by decide +kernel
theorem d_15_50_57 : decode prog_15_method_50_code 57 = .ok (.iconst 0, 1) := by decide +kernel
theorem d_15_50_58 : decode prog_15_method_50_code 58 = .ok (.iadd, 1) := by decide +kernel
theorem d_15_50_59 : decode prog_15_method_50_code 59 = .ok (.invokevirtual 189, 3) := by decide +kernel
set_option maxRecDepth 100000 in
theorem w_2961 : (Cond.code ({ cls := "NumberHouseModel$DecimalRows", name := "print", desc := "(I)V" } : MethodName) prog_15_method_49_code (2 : Nat) (none : Option ClassFile.FieldType)) ∈ q_tbl := q_of13 81 rfl (by decide +kernel)
set_option maxRecDepth 100000 in
theorem w_2958 : (Cond.methodLink "NumberHouseModel$DecimalRows" (189 : Nat) ({ cls := "NumberHouseModel$DecimalRows", name := "print", desc := "(I)V" } : MethodName)) ∈ q_tbl := q_of13 78 rfl (by decide +kernel)
set_option maxRecDepth 100000 in
theorem w_2960 : (Cond.instanceMethod ({ cls := "NumberHouseModel$DecimalRows", name := "print", desc := "(I)V" } : MethodName)) ∈ q_tbl := q_of13 80 rfl (by decide +kernel)
theorem ws_130 : Cond.selects "NumberHouseModel$DecimalRows" (⟨"NumberHouseModel$DecimalRows", "print", "(I)V"⟩ : MethodName) (⟨"NumberHouseModel$DecimalRows", "print", "(I)V"⟩ : MethodName) ∈ q_tbl := q_ofs 130 (by decide +kernel) (by decide +kernel)
theorem LV_DR_189 : q_LV "NumberHouseModel$DecimalRows" 189 y_DR_print prog_15_method_49_code 2 none 1 := ⟨w_2961, w_16, w_2958, w_2960, ws_130, ⟨by decide, by decide, by decide +kernel⟩⟩
theorem d_15_50_62 : decode prog_15_method_50_code 62 = .ok (.iinc 5 1, 3) := by decide +kernel
theorem d_15_50_65 : decode prog_15_method_50_code 65 = .ok (.goto (-62), 3) := by decide +kernel
theorem d_15_50_30 : decode prog_15_method_50_code 30 = .ok (.iload 5, 2) := by decide +kernel
theorem d_15_50_32 : decode prog_15_method_50_code 32 = .ok (.aload_n 0, 1) := by decide +kernel
theorem d_15_50_33 : decode prog_15_method_50_code 33 = .ok (.getfield 16, 3) := by decide +kernel
theorem d_15_50_36 : decode prog_15_method_50_code 36 = .ok (.iload_n 1, 1) := by decide +kernel
theorem d_15_50_37 : decode prog_15_method_50_code 37 = .ok (.iaload, 1) := by decide +kernel
theorem d_15_50_38 : decode prog_15_method_50_code 38 = .ok (.if_icmp .ge 19, 3) := by decide +kernel
theorem d_15_50_41 : decode prog_15_method_50_code 41 = .ok (.aload_n 0, 1) := by decide +kernel
theorem d_15_50_42 : decode prog_15_method_50_code 42 = .ok (.getfield 13, 3) := by decide +kernel
theorem d_15_50_45 : decode prog_15_method_50_code 45 = .ok (.sipush 1000, 3) := by decide +kernel
theorem d_15_50_48 : decode prog_15_method_50_code 48 = .ok (.iload_n 1, 1) := by decide +kernel
theorem d_15_50_49 : decode prog_15_method_50_code 49 = .ok (.imul, 1) := by decide +kernel
theorem d_15_50_50 : decode prog_15_method_50_code 50 = .ok (.iload 5, 2) := by decide +kernel
theorem d_15_50_52 : decode prog_15_method_50_code 52 = .ok (.iadd, 1) := by decide +kernel
theorem d_15_50_53 : decode prog_15_method_50_code 53 = .ok (.iaload, 1) := by decide +kernel
theorem d_15_50_54 : decode prog_15_method_50_code 54 = .ok (.goto 4, 3) := by decide +kernel
theorem d_15_50_13 : decode prog_15_method_50_code 13 = .ok (.if_icmp .ne 9, 3) := by decide +kernel
theorem d_15_50_16 : decode prog_15_method_50_code 16 = .ok (.aload_n 0, 1) := by decide +kernel
theorem d_15_50_17 : decode prog_15_method_50_code 17 = .ok (.bipush 46, 2) := by decide +kernel
theorem d_15_50_19 : decode prog_15_method_50_code 19 = .ok (.invokevirtual 189, 3) := by decide +kernel
def y_DR_figures : MethodName := ⟨"NumberHouseModel$DecimalRows", "figures", "(IIII)V"⟩
def F_DR_figures_c59 (K_F_DR_figures_L3 : Int32 → Int32 → Int32 → Int32 → Int64 → Int32 → Int32 → Int32 → Int32 → Int32 → Int32 → Int32 → (Nat → Int32) → (Int32 × Int32 × Int32 × Int64 × Int32 × Int32 × Int32 × Int32 × Int32 × Int32 × Int32 × (Nat → Int32))) (x2 : Int32) (x3 : Int32) (x4 : Int32) (x5 : Int32) (t0_0 : Int32) (t0_1 : Int32) (t0_2 : Int32) (t0_3 : Int64) (t0_4 : Int32) (t0_5 : Int32) (t0_6 : Int32) (t0_7 : Int32) (t0_8 : Int32) (t0_9 : Int32) (t0_10 : Int32) (t1_0 : (Nat → Int32)) (t2_0 : (Nat → Int32)) (t3_0 : (Nat → Int32)) (lx40 : Int32) (lx41 : Int32) (lx42 : Int32) (lx43 : Int32) (lx44 : Int64) (lx45 : Int32) (lx46 : Int32) (lx47 : Int32) (lx48 : Int32) (lx49 : Int32) (lx50 : Int32) (lx51 : Int32) (lx52 : (Nat → Int32)) (lx90 : Int32) (lx91 : Int32) (lx92 : Int32) (lx93 : Int64) (lx94 : Int32) (lx95 : Int32) (lx96 : Int32) (lx97 : Int32) (lx98 : Int32) (lx99 : Int32) (lx100 : Int32) (lx101 : (Nat → Int32)) (p180 : (Int32 × Int32 × Int32 × Int64 × Int32 × Int32 × Int32 × Int32 × Int32 × Int32 × Int32 × (Nat → Int32))) : Int32 × Int32 × Int32 × Int64 × Int32 × Int32 × Int32 × Int32 × Int32 × Int32 × Int32 × (Nat → Int32) := K_F_DR_figures_L3 (lx40 + 1 : Int32) (p180.1 : Int32) (p180.2.1 : Int32) (p180.2.2.1 : Int32) (p180.2.2.2.1 : Int64) (p180.2.2.2.2.1 : Int32) (p180.2.2.2.2.2.1 : Int32) (p180.2.2.2.2.2.2.1 : Int32) (p180.2.2.2.2.2.2.2.1 : Int32) (p180.2.2.2.2.2.2.2.2.1 : Int32) (p180.2.2.2.2.2.2.2.2.2.1 : Int32) (p180.2.2.2.2.2.2.2.2.2.2.1 : Int32) (p180.2.2.2.2.2.2.2.2.2.2.2 : (Nat → Int32))
def F_DR_figures_c59_4 (K_F_DR_figures_L3 : Int32 → Int32 → Int32 → Int32 → Int64 → Int32 → Int32 → Int32 → Int32 → Int32 → Int32 → Int32 → (Nat → Int32) → (Int32 × Int32 × Int32 × Int64 × Int32 × Int32 × Int32 × Int32 × Int32 × Int32 × Int32 × (Nat → Int32))) (x2 : Int32) (x3 : Int32) (x4 : Int32) (x5 : Int32) (t0_0 : Int32) (t0_1 : Int32) (t0_2 : Int32) (t0_3 : Int64) (t0_4 : Int32) (t0_5 : Int32) (t0_6 : Int32) (t0_7 : Int32) (t0_8 : Int32) (t0_9 : Int32) (t0_10 : Int32) (t1_0 : (Nat → Int32)) (t2_0 : (Nat → Int32)) (t3_0 : (Nat → Int32)) (lx40 : Int32) (lx41 : Int32) (lx42 : Int32) (lx43 : Int32) (lx44 : Int64) (lx45 : Int32) (lx46 : Int32) (lx47 : Int32) (lx48 : Int32) (lx49 : Int32) (lx50 : Int32) (lx51 : Int32) (lx52 : (Nat → Int32)) (lx90 : Int32) (lx91 : Int32) (lx92 : Int32) (lx93 : Int64) (lx94 : Int32) (lx95 : Int32) (lx96 : Int32) (lx97 : Int32) (lx98 : Int32) (lx99 : Int32) (lx100 : Int32) (lx101 : (Nat → Int32)) (p251 : (Int32 × Int32 × Int32 × Int64 × Int32 × Int32 × Int32 × Int32 × Int32 × Int32 × Int32 × (Nat → Int32))) : Int32 × Int32 × Int32 × Int64 × Int32 × Int32 × Int32 × Int32 × Int32 × Int32 × Int32 × (Nat → Int32) := K_F_DR_figures_L3 (lx40 + 1 : Int32) (p251.1 : Int32) (p251.2.1 : Int32) (p251.2.2.1 : Int32) (p251.2.2.2.1 : Int64) (p251.2.2.2.2.1 : Int32) (p251.2.2.2.2.2.1 : Int32) (p251.2.2.2.2.2.2.1 : Int32) (p251.2.2.2.2.2.2.2.1 : Int32) (p251.2.2.2.2.2.2.2.2.1 : Int32) (p251.2.2.2.2.2.2.2.2.2.1 : Int32) (p251.2.2.2.2.2.2.2.2.2.2.1 : Int32) (p251.2.2.2.2.2.2.2.2.2.2.2 : (Nat → Int32))
def F_DR_figures_c59_5 (K_F_DR_figures_L3 : Int32 → Int32 → Int32 → Int32 → Int64 → Int32 → Int32 → Int32 → Int32 → Int32 → Int32 → Int32 → (Nat → Int32) → (Int32 × Int32 × Int32 × Int64 × Int32 × Int32 × Int32 × Int32 × Int32 × Int32 × Int32 × (Nat → Int32))) (x2 : Int32) (x3 : Int32) (x4 : Int32) (x5 : Int32) (t0_0 : Int32) (t0_1 : Int32) (t0_2 : Int32) (t0_3 : Int64) (t0_4 : Int32) (t0_5 : Int32) (t0_6 : Int32) (t0_7 : Int32) (t0_8 : Int32) (t0_9 : Int32) (t0_10 : Int32) (t1_0 : (Nat → Int32)) (t2_0 : (Nat → Int32)) (t3_0 : (Nat → Int32)) (lx40 : Int32) (lx41 : Int32) (lx42 : Int32) (lx43 : Int32) (lx44 : Int64) (lx45 : Int32) (lx46 : Int32) (lx47 : Int32) (lx48 : Int32) (lx49 : Int32) (lx50 : Int32) (lx51 : Int32) (lx52 : (Nat → Int32)) (lx90 : Int32) (lx91 : Int32) (lx92 : Int32) (lx93 : Int64) (lx94 : Int32) (lx95 : Int32) (lx96 : Int32) (lx97 : Int32) (lx98 : Int32) (lx99 : Int32) (lx100 : Int32) (lx101 : (Nat → Int32)) (p327 : (Int32 × Int32 × Int32 × Int64 × Int32 × Int32 × Int32 × Int32 × Int32 × Int32 × Int32 × (Nat → Int32))) : Int32 × Int32 × Int32 × Int64 × Int32 × Int32 × Int32 × Int32 × Int32 × Int32 × Int32 × (Nat → Int32) := K_F_DR_figures_L3 (lx40 + 1 : Int32) (p327.1 : Int32) (p327.2.1 : Int32) (p327.2.2.1 : Int32) (p327.2.2.2.1 : Int64) (p327.2.2.2.2.1 : Int32) (p327.2.2.2.2.2.1 : Int32) (p327.2.2.2.2.2.2.1 : Int32) (p327.2.2.2.2.2.2.2.1 : Int32) (p327.2.2.2.2.2.2.2.2.1 : Int32) (p327.2.2.2.2.2.2.2.2.2.1 : Int32) (p327.2.2.2.2.2.2.2.2.2.2.1 : Int32) (p327.2.2.2.2.2.2.2.2.2.2.2 : (Nat → Int32))
def F_DR_figures_J22 (K_F_DR_figures_L3 : Int32 → Int32 → Int32 → Int32 → Int64 → Int32 → Int32 → Int32 → Int32 → Int32 → Int32 → Int32 → (Nat → Int32) → (Int32 × Int32 × Int32 × Int64 × Int32 × Int32 × Int32 × Int32 × Int32 × Int32 × Int32 × (Nat → Int32))) (x2 : Int32) (x3 : Int32) (x4 : Int32) (x5 : Int32) (t0_0 : Int32) (t0_1 : Int32) (t0_2 : Int32) (t0_3 : Int64) (t0_4 : Int32) (t0_5 : Int32) (t0_6 : Int32) (t0_7 : Int32) (t0_8 : Int32) (t0_9 : Int32) (t0_10 : Int32) (t1_0 : (Nat → Int32)) (t2_0 : (Nat → Int32)) (t3_0 : (Nat → Int32)) (lx40 : Int32) (lx41 : Int32) (lx42 : Int32) (lx43 : Int32) (lx44 : Int64) (lx45 : Int32) (lx46 : Int32) (lx47 : Int32) (lx48 : Int32) (lx49 : Int32) (lx50 : Int32) (lx51 : Int32) (lx52 : (Nat → Int32)) (lx90 : Int32) (lx91 : Int32) (lx92 : Int32) (lx93 : Int64) (lx94 : Int32) (lx95 : Int32) (lx96 : Int32) (lx97 : Int32) (lx98 : Int32) (lx99 : Int32) (lx100 : Int32) (lx101 : (Nat → Int32)) : Int32 × Int32 × Int32 × Int64 × Int32 × Int32 × Int32 × Int32 × Int32 × Int32 × Int32 × (Nat → Int32) := if lx40 < (0 : Int32) then (F_DR_figures_c59 K_F_DR_figures_L3 x2 x3 x4 x5 t0_0 t0_1 t0_2 t0_3 t0_4 t0_5 t0_6 t0_7 t0_8 t0_9 t0_10 t1_0 t2_0 t3_0 lx40 lx41 lx42 lx43 lx44 lx45 lx46 lx47 lx48 lx49 lx50 lx51 lx52 lx90 lx91 lx92 lx93 lx94 lx95 lx96 lx97 lx98 lx99 lx100 lx101 ((F_DR_print (48 : Int32) lx90 lx91 lx92 lx93 lx94 lx95 lx96 lx97 lx98 lx99 lx100 lx101) : (Int32 × Int32 × Int32 × Int64 × Int32 × Int32 × Int32 × Int32 × Int32 × Int32 × Int32 × (Nat → Int32)))) else (if (t2_0 x2.toNatClampNeg : Int32) ≤ lx40 then (F_DR_figures_c59_4 K_F_DR_figures_L3 x2 x3 x4 x5 t0_0 t0_1 t0_2 t0_3 t0_4 t0_5 t0_6 t0_7 t0_8 t0_9 t0_10 t1_0 t2_0 t3_0 lx40 lx41 lx42 lx43 lx44 lx45 lx46 lx47 lx48 lx49 lx50 lx51 lx52 lx90 lx91 lx92 lx93 lx94 lx95 lx96 lx97 lx98 lx99 lx100 lx101 ((F_DR_print (48 : Int32) lx90 lx91 lx92 lx93 lx94 lx95 lx96 lx97 lx98 lx99 lx100 lx101) : (Int32 × Int32 × Int32 × Int64 × Int32 × Int32 × Int32 × Int32 × Int32 × Int32 × Int32 × (Nat → Int32)))) else (F_DR_figures_c59_5 K_F_DR_figures_L3 x2 x3 x4 x5 t0_0 t0_1 t0_2 t0_3 t0_4 t0_5 t0_6 t0_7 t0_8 t0_9 t0_10 t1_0 t2_0 t3_0 lx40 lx41 lx42 lx43 lx44 lx45 lx46 lx47 lx48 lx49 lx50 lx51 lx52 lx90 lx91 lx92 lx93 lx94 lx95 lx96 lx97 lx98 lx99 lx100 lx101 ((F_DR_print (48 + (t1_0 ((1000 * x2 : Int32) + lx40 : Int32).toNatClampNeg : Int32) : Int32) lx90 lx91 lx92 lx93 lx94 lx95 lx96 lx97 lx98 lx99 lx100 lx101) : (Int32 × Int32 × Int32 × Int64 × Int32 × Int32 × Int32 × Int32 × Int32 × Int32 × Int32 × (Nat → Int32)))))
def F_DR_figures_c19 (K_F_DR_figures_L3 : Int32 → Int32 → Int32 → Int32 → Int64 → Int32 → Int32 → Int32 → Int32 → Int32 → Int32 → Int32 → (Nat → Int32) → (Int32 × Int32 × Int32 × Int64 × Int32 × Int32 × Int32 × Int32 × Int32 × Int32 × Int32 × (Nat → Int32))) (x2 : Int32) (x3 : Int32) (x4 : Int32) (x5 : Int32) (t0_0 : Int32) (t0_1 : Int32) (t0_2 : Int32) (t0_3 : Int64) (t0_4 : Int32) (t0_5 : Int32) (t0_6 : Int32) (t0_7 : Int32) (t0_8 : Int32) (t0_9 : Int32) (t0_10 : Int32) (t1_0 : (Nat → Int32)) (t2_0 : (Nat → Int32)) (t3_0 : (Nat → Int32)) (lx40 : Int32) (lx41 : Int32) (lx42 : Int32) (lx43 : Int32) (lx44 : Int64) (lx45 : Int32) (lx46 : Int32) (lx47 : Int32) (lx48 : Int32) (lx49 : Int32) (lx50 : Int32) (lx51 : Int32) (lx52 : (Nat → Int32)) (p394 : (Int32 × Int32 × Int32 × Int64 × Int32 × Int32 × Int32 × Int32 × Int32 × Int32 × Int32 × (Nat → Int32))) : Int32 × Int32 × Int32 × Int64 × Int32 × Int32 × Int32 × Int32 × Int32 × Int32 × Int32 × (Nat → Int32) := F_DR_figures_J22 K_F_DR_figures_L3 x2 x3 x4 x5 t0_0 t0_1 t0_2 t0_3 t0_4 t0_5 t0_6 t0_7 t0_8 t0_9 t0_10 t1_0 t2_0 t3_0 lx40 lx41 lx42 lx43 lx44 lx45 lx46 lx47 lx48 lx49 lx50 lx51 lx52 (p394.1 : Int32) (p394.2.1 : Int32) (p394.2.2.1 : Int32) (p394.2.2.2.1 : Int64) (p394.2.2.2.2.1 : Int32) (p394.2.2.2.2.2.1 : Int32) (p394.2.2.2.2.2.2.1 : Int32) (p394.2.2.2.2.2.2.2.1 : Int32) (p394.2.2.2.2.2.2.2.2.1 : Int32) (p394.2.2.2.2.2.2.2.2.2.1 : Int32) (p394.2.2.2.2.2.2.2.2.2.2.1 : Int32) (p394.2.2.2.2.2.2.2.2.2.2.2 : (Nat → Int32))
def F_DR_figures_L3 (x2 : Int32) (x3 : Int32) (x4 : Int32) (x5 : Int32) (t0_0 : Int32) (t0_1 : Int32) (t0_2 : Int32) (t0_3 : Int64) (t0_4 : Int32) (t0_5 : Int32) (t0_6 : Int32) (t0_7 : Int32) (t0_8 : Int32) (t0_9 : Int32) (t0_10 : Int32) (t1_0 : (Nat → Int32)) (t2_0 : (Nat → Int32)) (t3_0 : (Nat → Int32)) : Nat → Int32 → Int32 → Int32 → Int32 → Int64 → Int32 → Int32 → Int32 → Int32 → Int32 → Int32 → Int32 → (Nat → Int32) → (Int32 × Int32 × Int32 × Int64 × Int32 × Int32 × Int32 × Int32 × Int32 × Int32 × Int32 × (Nat → Int32))
  | 0, _, _, _, _, _, _, _, _, _, _, _, _, _ => default
  | fm + 1, lx40, lx41, lx42, lx43, lx44, lx45, lx46, lx47, lx48, lx49, lx50, lx51, lx52 => if x4 ≤ lx40 then ((lx41, lx42, lx43, lx44, lx45, lx46, lx47, lx48, lx49, lx50, lx51, lx52)) else (if lx40 = x5 then (F_DR_figures_c19 (F_DR_figures_L3 x2 x3 x4 x5 t0_0 t0_1 t0_2 t0_3 t0_4 t0_5 t0_6 t0_7 t0_8 t0_9 t0_10 t1_0 t2_0 t3_0 fm) x2 x3 x4 x5 t0_0 t0_1 t0_2 t0_3 t0_4 t0_5 t0_6 t0_7 t0_8 t0_9 t0_10 t1_0 t2_0 t3_0 lx40 lx41 lx42 lx43 lx44 lx45 lx46 lx47 lx48 lx49 lx50 lx51 lx52 ((F_DR_print (46 : Int32) lx41 lx42 lx43 lx44 lx45 lx46 lx47 lx48 lx49 lx50 lx51 lx52) : (Int32 × Int32 × Int32 × Int64 × Int32 × Int32 × Int32 × Int32 × Int32 × Int32 × Int32 × (Nat → Int32)))) else (F_DR_figures_J22 (F_DR_figures_L3 x2 x3 x4 x5 t0_0 t0_1 t0_2 t0_3 t0_4 t0_5 t0_6 t0_7 t0_8 t0_9 t0_10 t1_0 t2_0 t3_0 fm) x2 x3 x4 x5 t0_0 t0_1 t0_2 t0_3 t0_4 t0_5 t0_6 t0_7 t0_8 t0_9 t0_10 t1_0 t2_0 t3_0 lx40 lx41 lx42 lx43 lx44 lx45 lx46 lx47 lx48 lx49 lx50 lx51 lx52 lx41 lx42 lx43 lx44 lx45 lx46 lx47 lx48 lx49 lx50 lx51 lx52))
def F_DR_figures (x2 : Int32) (x3 : Int32) (x4 : Int32) (x5 : Int32) (t0_0 : Int32) (t0_1 : Int32) (t0_2 : Int32) (t0_3 : Int64) (t0_4 : Int32) (t0_5 : Int32) (t0_6 : Int32) (t0_7 : Int32) (t0_8 : Int32) (t0_9 : Int32) (t0_10 : Int32) (t1_0 : (Nat → Int32)) (t2_0 : (Nat → Int32)) (t3_0 : (Nat → Int32)) : Int32 × Int32 × Int32 × Int64 × Int32 × Int32 × Int32 × Int32 × Int32 × Int32 × Int32 × (Nat → Int32) := F_DR_figures_L3 x2 x3 x4 x5 t0_0 t0_1 t0_2 t0_3 t0_4 t0_5 t0_6 t0_7 t0_8 t0_9 t0_10 t1_0 t2_0 t3_0 ((x4.toInt - x3.toInt).toNat + 1) x3 t0_0 t0_1 t0_2 t0_3 t0_4 t0_5 t0_6 t0_7 t0_8 t0_9 t0_10 t3_0
def S_DR_figures_c59 (K_S_DR_figures_L3 : Int32 → Int32 → Int32 → Int32 → Int64 → Int32 → Int32 → Int32 → Int32 → Int32 → Int32 → Int32 → (Nat → Int32) → Prop) (x2 : Int32) (x3 : Int32) (x4 : Int32) (x5 : Int32) (t0_0 : Int32) (t0_1 : Int32) (t0_2 : Int32) (t0_3 : Int64) (t0_4 : Int32) (t0_5 : Int32) (t0_6 : Int32) (t0_7 : Int32) (t0_8 : Int32) (t0_9 : Int32) (t0_10 : Int32) (t1_0 : (Nat → Int32)) (t2_0 : (Nat → Int32)) (t3_0 : (Nat → Int32)) (lx40 : Int32) (lx41 : Int32) (lx42 : Int32) (lx43 : Int32) (lx44 : Int64) (lx45 : Int32) (lx46 : Int32) (lx47 : Int32) (lx48 : Int32) (lx49 : Int32) (lx50 : Int32) (lx51 : Int32) (lx52 : (Nat → Int32)) (lx90 : Int32) (lx91 : Int32) (lx92 : Int32) (lx93 : Int64) (lx94 : Int32) (lx95 : Int32) (lx96 : Int32) (lx97 : Int32) (lx98 : Int32) (lx99 : Int32) (lx100 : Int32) (lx101 : (Nat → Int32)) (p180 : (Int32 × Int32 × Int32 × Int64 × Int32 × Int32 × Int32 × Int32 × Int32 × Int32 × Int32 × (Nat → Int32))) : Prop := K_S_DR_figures_L3 (lx40 + 1 : Int32) (p180.1 : Int32) (p180.2.1 : Int32) (p180.2.2.1 : Int32) (p180.2.2.2.1 : Int64) (p180.2.2.2.2.1 : Int32) (p180.2.2.2.2.2.1 : Int32) (p180.2.2.2.2.2.2.1 : Int32) (p180.2.2.2.2.2.2.2.1 : Int32) (p180.2.2.2.2.2.2.2.2.1 : Int32) (p180.2.2.2.2.2.2.2.2.2.1 : Int32) (p180.2.2.2.2.2.2.2.2.2.2.1 : Int32) (p180.2.2.2.2.2.2.2.2.2.2.2 : (Nat → Int32))
def S_DR_figures_c59_4 (K_S_DR_figures_L3 : Int32 → Int32 → Int32 → Int32 → Int64 → Int32 → Int32 → Int32 → Int32 → Int32 → Int32 → Int32 → (Nat → Int32) → Prop) (x2 : Int32) (x3 : Int32) (x4 : Int32) (x5 : Int32) (t0_0 : Int32) (t0_1 : Int32) (t0_2 : Int32) (t0_3 : Int64) (t0_4 : Int32) (t0_5 : Int32) (t0_6 : Int32) (t0_7 : Int32) (t0_8 : Int32) (t0_9 : Int32) (t0_10 : Int32) (t1_0 : (Nat → Int32)) (t2_0 : (Nat → Int32)) (t3_0 : (Nat → Int32)) (lx40 : Int32) (lx41 : Int32) (lx42 : Int32) (lx43 : Int32) (lx44 : Int64) (lx45 : Int32) (lx46 : Int32) (lx47 : Int32) (lx48 : Int32) (lx49 : Int32) (lx50 : Int32) (lx51 : Int32) (lx52 : (Nat → Int32)) (lx90 : Int32) (lx91 : Int32) (lx92 : Int32) (lx93 : Int64) (lx94 : Int32) (lx95 : Int32) (lx96 : Int32) (lx97 : Int32) (lx98 : Int32) (lx99 : Int32) (lx100 : Int32) (lx101 : (Nat → Int32)) (p251 : (Int32 × Int32 × Int32 × Int64 × Int32 × Int32 × Int32 × Int32 × Int32 × Int32 × Int32 × (Nat → Int32))) : Prop := K_S_DR_figures_L3 (lx40 + 1 : Int32) (p251.1 : Int32) (p251.2.1 : Int32) (p251.2.2.1 : Int32) (p251.2.2.2.1 : Int64) (p251.2.2.2.2.1 : Int32) (p251.2.2.2.2.2.1 : Int32) (p251.2.2.2.2.2.2.1 : Int32) (p251.2.2.2.2.2.2.2.1 : Int32) (p251.2.2.2.2.2.2.2.2.1 : Int32) (p251.2.2.2.2.2.2.2.2.2.1 : Int32) (p251.2.2.2.2.2.2.2.2.2.2.1 : Int32) (p251.2.2.2.2.2.2.2.2.2.2.2 : (Nat → Int32))
def S_DR_figures_c59_5 (K_S_DR_figures_L3 : Int32 → Int32 → Int32 → Int32 → Int64 → Int32 → Int32 → Int32 → Int32 → Int32 → Int32 → Int32 → (Nat → Int32) → Prop) (x2 : Int32) (x3 : Int32) (x4 : Int32) (x5 : Int32) (t0_0 : Int32) (t0_1 : Int32) (t0_2 : Int32) (t0_3 : Int64) (t0_4 : Int32) (t0_5 : Int32) (t0_6 : Int32) (t0_7 : Int32) (t0_8 : Int32) (t0_9 : Int32) (t0_10 : Int32) (t1_0 : (Nat → Int32)) (t2_0 : (Nat → Int32)) (t3_0 : (Nat → Int32)) (lx40 : Int32) (lx41 : Int32) (lx42 : Int32) (lx43 : Int32) (lx44 : Int64) (lx45 : Int32) (lx46 : Int32) (lx47 : Int32) (lx48 : Int32) (lx49 : Int32) (lx50 : Int32) (lx51 : Int32) (lx52 : (Nat → Int32)) (lx90 : Int32) (lx91 : Int32) (lx92 : Int32) (lx93 : Int64) (lx94 : Int32) (lx95 : Int32) (lx96 : Int32) (lx97 : Int32) (lx98 : Int32) (lx99 : Int32) (lx100 : Int32) (lx101 : (Nat → Int32)) (p327 : (Int32 × Int32 × Int32 × Int64 × Int32 × Int32 × Int32 × Int32 × Int32 × Int32 × Int32 × (Nat → Int32))) : Prop := K_S_DR_figures_L3 (lx40 + 1 : Int32) (p327.1 : Int32) (p327.2.1 : Int32) (p327.2.2.1 : Int32) (p327.2.2.2.1 : Int64) (p327.2.2.2.2.1 : Int32) (p327.2.2.2.2.2.1 : Int32) (p327.2.2.2.2.2.2.1 : Int32) (p327.2.2.2.2.2.2.2.1 : Int32) (p327.2.2.2.2.2.2.2.2.1 : Int32) (p327.2.2.2.2.2.2.2.2.2.1 : Int32) (p327.2.2.2.2.2.2.2.2.2.2.1 : Int32) (p327.2.2.2.2.2.2.2.2.2.2.2 : (Nat → Int32))
def S_DR_figures_J22 (K_S_DR_figures_L3 : Int32 → Int32 → Int32 → Int32 → Int64 → Int32 → Int32 → Int32 → Int32 → Int32 → Int32 → Int32 → (Nat → Int32) → Prop) (x2 : Int32) (x3 : Int32) (x4 : Int32) (x5 : Int32) (t0_0 : Int32) (t0_1 : Int32) (t0_2 : Int32) (t0_3 : Int64) (t0_4 : Int32) (t0_5 : Int32) (t0_6 : Int32) (t0_7 : Int32) (t0_8 : Int32) (t0_9 : Int32) (t0_10 : Int32) (t1_0 : (Nat → Int32)) (t2_0 : (Nat → Int32)) (t3_0 : (Nat → Int32)) (lx40 : Int32) (lx41 : Int32) (lx42 : Int32) (lx43 : Int32) (lx44 : Int64) (lx45 : Int32) (lx46 : Int32) (lx47 : Int32) (lx48 : Int32) (lx49 : Int32) (lx50 : Int32) (lx51 : Int32) (lx52 : (Nat → Int32)) (lx90 : Int32) (lx91 : Int32) (lx92 : Int32) (lx93 : Int64) (lx94 : Int32) (lx95 : Int32) (lx96 : Int32) (lx97 : Int32) (lx98 : Int32) (lx99 : Int32) (lx100 : Int32) (lx101 : (Nat → Int32)) : Prop := if lx40 < (0 : Int32) then ((True ∧ S_DR_print (48 : Int32) lx90 lx91 lx92 lx93 lx94 lx95 lx96 lx97 lx98 lx99 lx100 lx101) ∧ (S_DR_figures_c59 K_S_DR_figures_L3 x2 x3 x4 x5 t0_0 t0_1 t0_2 t0_3 t0_4 t0_5 t0_6 t0_7 t0_8 t0_9 t0_10 t1_0 t2_0 t3_0 lx40 lx41 lx42 lx43 lx44 lx45 lx46 lx47 lx48 lx49 lx50 lx51 lx52 lx90 lx91 lx92 lx93 lx94 lx95 lx96 lx97 lx98 lx99 lx100 lx101 ((F_DR_print (48 : Int32) lx90 lx91 lx92 lx93 lx94 lx95 lx96 lx97 lx98 lx99 lx100 lx101) : (Int32 × Int32 × Int32 × Int64 × Int32 × Int32 × Int32 × Int32 × Int32 × Int32 × Int32 × (Nat → Int32))))) else ((0 ≤ x2.toInt) ∧ ((x2.toInt ≤ 9) ∧ (if (t2_0 x2.toNatClampNeg : Int32) ≤ lx40 then ((True ∧ S_DR_print (48 : Int32) lx90 lx91 lx92 lx93 lx94 lx95 lx96 lx97 lx98 lx99 lx100 lx101) ∧ (S_DR_figures_c59_4 K_S_DR_figures_L3 x2 x3 x4 x5 t0_0 t0_1 t0_2 t0_3 t0_4 t0_5 t0_6 t0_7 t0_8 t0_9 t0_10 t1_0 t2_0 t3_0 lx40 lx41 lx42 lx43 lx44 lx45 lx46 lx47 lx48 lx49 lx50 lx51 lx52 lx90 lx91 lx92 lx93 lx94 lx95 lx96 lx97 lx98 lx99 lx100 lx101 ((F_DR_print (48 : Int32) lx90 lx91 lx92 lx93 lx94 lx95 lx96 lx97 lx98 lx99 lx100 lx101) : (Int32 × Int32 × Int32 × Int64 × Int32 × Int32 × Int32 × Int32 × Int32 × Int32 × Int32 × (Nat → Int32))))) else ((0 ≤ ((1000 * x2 : Int32) + lx40 : Int32).toInt) ∧ ((((1000 * x2 : Int32) + lx40 : Int32).toInt ≤ 9999) ∧ ((True ∧ S_DR_print (48 + (t1_0 ((1000 * x2 : Int32) + lx40 : Int32).toNatClampNeg : Int32) : Int32) lx90 lx91 lx92 lx93 lx94 lx95 lx96 lx97 lx98 lx99 lx100 lx101) ∧ (S_DR_figures_c59_5 K_S_DR_figures_L3 x2 x3 x4 x5 t0_0 t0_1 t0_2 t0_3 t0_4 t0_5 t0_6 t0_7 t0_8 t0_9 t0_10 t1_0 t2_0 t3_0 lx40 lx41 lx42 lx43 lx44 lx45 lx46 lx47 lx48 lx49 lx50 lx51 lx52 lx90 lx91 lx92 lx93 lx94 lx95 lx96 lx97 lx98 lx99 lx100 lx101 ((F_DR_print (48 + (t1_0 ((1000 * x2 : Int32) + lx40 : Int32).toNatClampNeg : Int32) : Int32) lx90 lx91 lx92 lx93 lx94 lx95 lx96 lx97 lx98 lx99 lx100 lx101) : (Int32 × Int32 × Int32 × Int64 × Int32 × Int32 × Int32 × Int32 × Int32 × Int32 × Int32 × (Nat → Int32))))))))))
def S_DR_figures_c19 (K_S_DR_figures_L3 : Int32 → Int32 → Int32 → Int32 → Int64 → Int32 → Int32 → Int32 → Int32 → Int32 → Int32 → Int32 → (Nat → Int32) → Prop) (x2 : Int32) (x3 : Int32) (x4 : Int32) (x5 : Int32) (t0_0 : Int32) (t0_1 : Int32) (t0_2 : Int32) (t0_3 : Int64) (t0_4 : Int32) (t0_5 : Int32) (t0_6 : Int32) (t0_7 : Int32) (t0_8 : Int32) (t0_9 : Int32) (t0_10 : Int32) (t1_0 : (Nat → Int32)) (t2_0 : (Nat → Int32)) (t3_0 : (Nat → Int32)) (lx40 : Int32) (lx41 : Int32) (lx42 : Int32) (lx43 : Int32) (lx44 : Int64) (lx45 : Int32) (lx46 : Int32) (lx47 : Int32) (lx48 : Int32) (lx49 : Int32) (lx50 : Int32) (lx51 : Int32) (lx52 : (Nat → Int32)) (p394 : (Int32 × Int32 × Int32 × Int64 × Int32 × Int32 × Int32 × Int32 × Int32 × Int32 × Int32 × (Nat → Int32))) : Prop := S_DR_figures_J22 K_S_DR_figures_L3 x2 x3 x4 x5 t0_0 t0_1 t0_2 t0_3 t0_4 t0_5 t0_6 t0_7 t0_8 t0_9 t0_10 t1_0 t2_0 t3_0 lx40 lx41 lx42 lx43 lx44 lx45 lx46 lx47 lx48 lx49 lx50 lx51 lx52 (p394.1 : Int32) (p394.2.1 : Int32) (p394.2.2.1 : Int32) (p394.2.2.2.1 : Int64) (p394.2.2.2.2.1 : Int32) (p394.2.2.2.2.2.1 : Int32) (p394.2.2.2.2.2.2.1 : Int32) (p394.2.2.2.2.2.2.2.1 : Int32) (p394.2.2.2.2.2.2.2.2.1 : Int32) (p394.2.2.2.2.2.2.2.2.2.1 : Int32) (p394.2.2.2.2.2.2.2.2.2.2.1 : Int32) (p394.2.2.2.2.2.2.2.2.2.2.2 : (Nat → Int32))
def S_DR_figures_L3 (x2 : Int32) (x3 : Int32) (x4 : Int32) (x5 : Int32) (t0_0 : Int32) (t0_1 : Int32) (t0_2 : Int32) (t0_3 : Int64) (t0_4 : Int32) (t0_5 : Int32) (t0_6 : Int32) (t0_7 : Int32) (t0_8 : Int32) (t0_9 : Int32) (t0_10 : Int32) (t1_0 : (Nat → Int32)) (t2_0 : (Nat → Int32)) (t3_0 : (Nat → Int32)) : Nat → Int32 → Int32 → Int32 → Int32 → Int64 → Int32 → Int32 → Int32 → Int32 → Int32 → Int32 → Int32 → (Nat → Int32) → Prop
  | 0, _, _, _, _, _, _, _, _, _, _, _, _, _ => False
  | fm + 1, lx40, lx41, lx42, lx43, lx44, lx45, lx46, lx47, lx48, lx49, lx50, lx51, lx52 => if x4 ≤ lx40 then (True) else (if lx40 = x5 then ((True ∧ S_DR_print (46 : Int32) lx41 lx42 lx43 lx44 lx45 lx46 lx47 lx48 lx49 lx50 lx51 lx52) ∧ (S_DR_figures_c19 (S_DR_figures_L3 x2 x3 x4 x5 t0_0 t0_1 t0_2 t0_3 t0_4 t0_5 t0_6 t0_7 t0_8 t0_9 t0_10 t1_0 t2_0 t3_0 fm) x2 x3 x4 x5 t0_0 t0_1 t0_2 t0_3 t0_4 t0_5 t0_6 t0_7 t0_8 t0_9 t0_10 t1_0 t2_0 t3_0 lx40 lx41 lx42 lx43 lx44 lx45 lx46 lx47 lx48 lx49 lx50 lx51 lx52 ((F_DR_print (46 : Int32) lx41 lx42 lx43 lx44 lx45 lx46 lx47 lx48 lx49 lx50 lx51 lx52) : (Int32 × Int32 × Int32 × Int64 × Int32 × Int32 × Int32 × Int32 × Int32 × Int32 × Int32 × (Nat → Int32))))) else (S_DR_figures_J22 (S_DR_figures_L3 x2 x3 x4 x5 t0_0 t0_1 t0_2 t0_3 t0_4 t0_5 t0_6 t0_7 t0_8 t0_9 t0_10 t1_0 t2_0 t3_0 fm) x2 x3 x4 x5 t0_0 t0_1 t0_2 t0_3 t0_4 t0_5 t0_6 t0_7 t0_8 t0_9 t0_10 t1_0 t2_0 t3_0 lx40 lx41 lx42 lx43 lx44 lx45 lx46 lx47 lx48 lx49 lx50 lx51 lx52 lx41 lx42 lx43 lx44 lx45 lx46 lx47 lx48 lx49 lx50 lx51 lx52))
def S_DR_figures (x2 : Int32) (x3 : Int32) (x4 : Int32) (x5 : Int32) (t0_0 : Int32) (t0_1 : Int32) (t0_2 : Int32) (t0_3 : Int64) (t0_4 : Int32) (t0_5 : Int32) (t0_6 : Int32) (t0_7 : Int32) (t0_8 : Int32) (t0_9 : Int32) (t0_10 : Int32) (t1_0 : (Nat → Int32)) (t2_0 : (Nat → Int32)) (t3_0 : (Nat → Int32)) : Prop := S_DR_figures_L3 x2 x3 x4 x5 t0_0 t0_1 t0_2 t0_3 t0_4 t0_5 t0_6 t0_7 t0_8 t0_9 t0_10 t1_0 t2_0 t3_0 ((x4.toInt - x3.toInt).toNat + 1) x3 t0_0 t0_1 t0_2 t0_3 t0_4 t0_5 t0_6 t0_7 t0_8 t0_9 t0_10 t3_0
set_option maxRecDepth 100000 in
set_option maxHeartbeats 4000000 in
theorem X_DR_figures (l : Launch) (D : va_G) (g : Nat → ClassId) (q : Nat → Nat) (ws : va_W) (x2 : Int32) (x3 : Int32) (x4 : Int32) (x5 : Int32) (hI : q_I (msh g q) q ws) (t0_0 : Int32) (t0_1 : Int32) (t0_2 : Int32) (t0_3 : Int64) (t0_4 : Int32) (t0_5 : Int32) (t0_6 : Int32) (t0_7 : Int32) (t0_8 : Int32) (t0_9 : Int32) (t0_10 : Int32) (hT0 : ws[134]? = (some (q 134, .inr (14, [.int t0_0, .ref (q 135), .int t0_1, .ref (q 136), .ref (q 137), .ref (q 138), .ref (q 139), .ref (q 140), .int t0_2, .long t0_3, .int t0_4, .int t0_5, .ref (q 141), .int t0_6, .ref (q 142), .int t0_7, .ref (q 143), .int t0_8, .ref (q 144), .int t0_9, .int t0_10])) : Option (Nat × va_E))) (t1_0 : (Nat → Int32)) (hT1 : ws[136]? = (some (q 136, .inl (g 0, (10000 : Int32).toNatClampNeg, .inl t1_0)) : Option (Nat × va_E))) (t2_0 : (Nat → Int32)) (hT2 : ws[137]? = (some (q 137, .inl (g 0, (10 : Int32).toNatClampNeg, .inl t2_0)) : Option (Nat × va_E))) (t3_0 : (Nat → Int32)) (hT3 : ws[144]? = (some (q 144, .inl (g 0, (12200 : Int32).toNatClampNeg, .inl t3_0)) : Option (Nat × va_E))) (hS : True ∧ S_DR_figures x2 x3 x4 x5 t0_0 t0_1 t0_2 t0_3 t0_4 t0_5 t0_6 t0_7 t0_8 t0_9 t0_10 t1_0 t2_0 t3_0) : q_mV l y_DR_figures prog_15_method_50_code 6 2 0 0 D g [.ref (q 134), .int x2, .int x3, .int x4, .int x5] ws (fun u => q_I (msh g q) q u ∧ q_un ws u [134, 144] ∧ ∃ (u0_0 : Int32) (u0_1 : Int32) (u0_2 : Int32) (u0_3 : Int64) (u0_4 : Int32) (u0_5 : Int32) (u0_6 : Int32) (u0_7 : Int32) (u0_8 : Int32) (u0_9 : Int32) (u0_10 : Int32) (u3_0 : (Nat → Int32)), u[134]? = (some (q 134, .inr (14, [.int u0_0, .ref (q 135), .int u0_1, .ref (q 136), .ref (q 137), .ref (q 138), .ref (q 139), .ref (q 140), .int u0_2, .long u0_3, .int u0_4, .int u0_5, .ref (q 141), .int u0_6, .ref (q 142), .int u0_7, .ref (q 143), .int u0_8, .ref (q 144), .int u0_9, .int u0_10])) : Option (Nat × va_E)) ∧ u[144]? = (some (q 144, .inl (g 0, (12200 : Int32).toNatClampNeg, .inl u3_0)) : Option (Nat × va_E)) ∧ (u0_9.toInt ≤ 12200) ∧ (t0_0.toInt ≤ u0_0.toInt) ∧ (u0_0.toInt ≤ t0_0.toInt) ∧ (t0_1.toInt ≤ u0_1.toInt) ∧ (u0_1.toInt ≤ t0_1.toInt) ∧ (t0_2.toInt ≤ u0_2.toInt) ∧ (u0_2.toInt ≤ t0_2.toInt) ∧ (t0_3.toInt ≤ u0_3.toInt) ∧ (u0_3.toInt ≤ t0_3.toInt) ∧ (t0_4.toInt ≤ u0_4.toInt) ∧ (u0_4.toInt ≤ t0_4.toInt) ∧ (t0_5.toInt ≤ u0_5.toInt) ∧ (u0_5.toInt ≤ t0_5.toInt) ∧ (t0_6.toInt ≤ u0_6.toInt) ∧ (u0_6.toInt ≤ t0_6.toInt) ∧ (t0_7.toInt ≤ u0_7.toInt) ∧ (u0_7.toInt ≤ t0_7.toInt) ∧ (t0_8.toInt ≤ u0_8.toInt) ∧ (u0_8.toInt ≤ t0_8.toInt) ∧ (t0_9.toInt ≤ u0_9.toInt) ∧ (t0_10.toInt ≤ u0_10.toInt) ∧ (u0_10.toInt ≤ t0_10.toInt) ∧ (u0_0, u0_1, u0_2, u0_3, u0_4, u0_5, u0_6, u0_7, u0_8, u0_9, u0_10, u3_0) = (F_DR_figures x2 x3 x4 x5 t0_0 t0_1 t0_2 t0_3 t0_4 t0_5 t0_6 t0_7 t0_8 t0_9 t0_10 t1_0 t2_0 t3_0)) := by
  intro sz
  refine q_into (by decide) (Nat.le_of_ble_eq_true rfl) ?_
  intro p e s m below meth c ls hsz C0 V hl
  have hx := C0.1
  have hb := C0.2.1
  have hZ9 := (n_w134 hI hT0).2.2
  obtain ⟨-, btt0_9⟩ := hZ9
  replace btt0_9 : q_F (0 ≤ t0_9.toInt ∧ t0_9.toInt ≤ 12200) := btt0_9
  have hF : q_un ws ws [134, 144] := q_u0
  have hl : lv_has ls 6 [(0, .ref (q 134)), (1, .int x2), (2, .int x3), (3, .int x4), (4, .int x5)] := hl
  refine lv_iload_n hx hb d_15_50_0 rfl (lv_at hl 2 rfl) ?_
  refine lv_istore (lv' := [(5, .int x3), (0, .ref (q 134)), (1, .int x2), (2, .int x3), (3, .int x4), (4, .int x5)]) hx hb d_15_50_1 hl (by decide) rfl (fun ls hl => ?_)
  refine q_loop (X := Int32 × Int32 × Int32 × Int32 × Int64 × Int32 × Int32 × Int32 × Int32 × Int32 × Int32 × Int32 × (Nat → Int32)) (fun z H locs ls w77 => q_F (z.2.2.2.2.2.2.2.2.2.2.1.toInt ≤ 12200) ∧ q_F (t0_0.toInt ≤ z.2.1.toInt) ∧ q_F (z.2.1.toInt ≤ t0_0.toInt) ∧ q_F (t0_1.toInt ≤ z.2.2.1.toInt) ∧ q_F (z.2.2.1.toInt ≤ t0_1.toInt) ∧ q_F (t0_2.toInt ≤ z.2.2.2.1.toInt) ∧ q_F (z.2.2.2.1.toInt ≤ t0_2.toInt) ∧ q_F (t0_3.toInt ≤ z.2.2.2.2.1.toInt) ∧ q_F (z.2.2.2.2.1.toInt ≤ t0_3.toInt) ∧ q_F (t0_4.toInt ≤ z.2.2.2.2.2.1.toInt) ∧ q_F (z.2.2.2.2.2.1.toInt ≤ t0_4.toInt) ∧ q_F (t0_5.toInt ≤ z.2.2.2.2.2.2.1.toInt) ∧ q_F (z.2.2.2.2.2.2.1.toInt ≤ t0_5.toInt) ∧ q_F (t0_6.toInt ≤ z.2.2.2.2.2.2.2.1.toInt) ∧ q_F (z.2.2.2.2.2.2.2.1.toInt ≤ t0_6.toInt) ∧ q_F (t0_7.toInt ≤ z.2.2.2.2.2.2.2.2.1.toInt) ∧ q_F (z.2.2.2.2.2.2.2.2.1.toInt ≤ t0_7.toInt) ∧ q_F (t0_8.toInt ≤ z.2.2.2.2.2.2.2.2.2.1.toInt) ∧ q_F (z.2.2.2.2.2.2.2.2.2.1.toInt ≤ t0_8.toInt) ∧ q_F (t0_10.toInt ≤ z.2.2.2.2.2.2.2.2.2.2.2.1.toInt) ∧ q_F (z.2.2.2.2.2.2.2.2.2.2.2.1.toInt ≤ t0_10.toInt) ∧ q_F (z.1.toInt + t0_9.toInt ≤ z.2.2.2.2.2.2.2.2.2.2.1.toInt + x3.toInt) ∧ q_F (z.2.2.2.2.2.2.2.2.2.2.1.toInt + 2 * x3.toInt ≤ 2 * z.1.toInt + t0_9.toInt) ∧ q_Wd D g (va_A ws sz) s w77 H locs ∧ lv_has ls 6 [(5, .int z.1), (0, .ref (q 134)), (1, .int x2), (3, .int x4), (4, .int x5)] ∧ q_I (msh g q) q w77 ∧ q_un ws w77 [134, 144] ∧ w77[134]? = (some (q 134, .inr (14, [.int z.2.1, .ref (q 135), .int z.2.2.1, .ref (q 136), .ref (q 137), .ref (q 138), .ref (q 139), .ref (q 140), .int z.2.2.2.1, .long z.2.2.2.2.1, .int z.2.2.2.2.2.1, .int z.2.2.2.2.2.2.1, .ref (q 141), .int z.2.2.2.2.2.2.2.1, .ref (q 142), .int z.2.2.2.2.2.2.2.2.1, .ref (q 143), .int z.2.2.2.2.2.2.2.2.2.1, .ref (q 144), .int z.2.2.2.2.2.2.2.2.2.2.1, .int z.2.2.2.2.2.2.2.2.2.2.2.1])) : Option (Nat × va_E)) ∧ w77[136]? = (some (q 136, .inl (g 0, (10000 : Int32).toNatClampNeg, .inl t1_0)) : Option (Nat × va_E)) ∧ w77[137]? = (some (q 137, .inl (g 0, (10 : Int32).toNatClampNeg, .inl t2_0)) : Option (Nat × va_E)) ∧ w77[144]? = (some (q 144, .inl (g 0, (12200 : Int32).toNatClampNeg, .inl z.2.2.2.2.2.2.2.2.2.2.2.2)) : Option (Nat × va_E)) ∧ (∃ n, (x4.toInt - z.1.toInt).toNat < n ∧ F_DR_figures_L3 x2 x3 x4 x5 t0_0 t0_1 t0_2 t0_3 t0_4 t0_5 t0_6 t0_7 t0_8 t0_9 t0_10 t1_0 t2_0 t3_0 n z.1 z.2.1 z.2.2.1 z.2.2.2.1 z.2.2.2.2.1 z.2.2.2.2.2.1 z.2.2.2.2.2.2.1 z.2.2.2.2.2.2.2.1 z.2.2.2.2.2.2.2.2.1 z.2.2.2.2.2.2.2.2.2.1 z.2.2.2.2.2.2.2.2.2.2.1 z.2.2.2.2.2.2.2.2.2.2.2.1 z.2.2.2.2.2.2.2.2.2.2.2.2 = (F_DR_figures x2 x3 x4 x5 t0_0 t0_1 t0_2 t0_3 t0_4 t0_5 t0_6 t0_7 t0_8 t0_9 t0_10 t1_0 t2_0 t3_0) ∧ True ∧ S_DR_figures_L3 x2 x3 x4 x5 t0_0 t0_1 t0_2 t0_3 t0_4 t0_5 t0_6 t0_7 t0_8 t0_9 t0_10 t1_0 t2_0 t3_0 n z.1 z.2.1 z.2.2.1 z.2.2.2.1 z.2.2.2.2.1 z.2.2.2.2.2.1 z.2.2.2.2.2.2.1 z.2.2.2.2.2.2.2.1 z.2.2.2.2.2.2.2.2.1 z.2.2.2.2.2.2.2.2.2.1 z.2.2.2.2.2.2.2.2.2.2.1 z.2.2.2.2.2.2.2.2.2.2.2.1 z.2.2.2.2.2.2.2.2.2.2.2.2)) (fun z => (x4.toInt - z.1.toInt).toNat) ?_ ((x3 : Int32), (t0_0 : Int32), (t0_1 : Int32), (t0_2 : Int32), (t0_3 : Int64), (t0_4 : Int32), (t0_5 : Int32), (t0_6 : Int32), (t0_7 : Int32), (t0_8 : Int32), (t0_9 : Int32), (t0_10 : Int32), (t3_0 : (Nat → Int32))) _ _ _ ws ⟨(show q_F (t0_9.toInt ≤ 12200) from (show t0_9.toInt ≤ 12200 from by have t1 : 0 ≤ t0_9.toInt ∧ t0_9.toInt ≤ 12200 := btt0_9; omega)), (show q_F (t0_0.toInt ≤ t0_0.toInt) from (show t0_0.toInt ≤ t0_0.toInt from by omega)), (show q_F (t0_0.toInt ≤ t0_0.toInt) from (show t0_0.toInt ≤ t0_0.toInt from by omega)), (show q_F (t0_1.toInt ≤ t0_1.toInt) from (show t0_1.toInt ≤ t0_1.toInt from by omega)), (show q_F (t0_1.toInt ≤ t0_1.toInt) from (show t0_1.toInt ≤ t0_1.toInt from by omega)), (show q_F (t0_2.toInt ≤ t0_2.toInt) from (show t0_2.toInt ≤ t0_2.toInt from by omega)), (show q_F (t0_2.toInt ≤ t0_2.toInt) from (show t0_2.toInt ≤ t0_2.toInt from by omega)), (show q_F (t0_3.toInt ≤ t0_3.toInt) from (show t0_3.toInt ≤ t0_3.toInt from by omega)), (show q_F (t0_3.toInt ≤ t0_3.toInt) from (show t0_3.toInt ≤ t0_3.toInt from by omega)), (show q_F (t0_4.toInt ≤ t0_4.toInt) from (show t0_4.toInt ≤ t0_4.toInt from by omega)), (show q_F (t0_4.toInt ≤ t0_4.toInt) from (show t0_4.toInt ≤ t0_4.toInt from by omega)), (show q_F (t0_5.toInt ≤ t0_5.toInt) from (show t0_5.toInt ≤ t0_5.toInt from by omega)), (show q_F (t0_5.toInt ≤ t0_5.toInt) from (show t0_5.toInt ≤ t0_5.toInt from by omega)), (show q_F (t0_6.toInt ≤ t0_6.toInt) from (show t0_6.toInt ≤ t0_6.toInt from by omega)), (show q_F (t0_6.toInt ≤ t0_6.toInt) from (show t0_6.toInt ≤ t0_6.toInt from by omega)), (show q_F (t0_7.toInt ≤ t0_7.toInt) from (show t0_7.toInt ≤ t0_7.toInt from by omega)), (show q_F (t0_7.toInt ≤ t0_7.toInt) from (show t0_7.toInt ≤ t0_7.toInt from by omega)), (show q_F (t0_8.toInt ≤ t0_8.toInt) from (show t0_8.toInt ≤ t0_8.toInt from by omega)), (show q_F (t0_8.toInt ≤ t0_8.toInt) from (show t0_8.toInt ≤ t0_8.toInt from by omega)), (show q_F (t0_10.toInt ≤ t0_10.toInt) from (show t0_10.toInt ≤ t0_10.toInt from by omega)), (show q_F (t0_10.toInt ≤ t0_10.toInt) from (show t0_10.toInt ≤ t0_10.toInt from by omega)), (show q_F (x3.toInt + t0_9.toInt ≤ t0_9.toInt + x3.toInt) from (show x3.toInt + t0_9.toInt ≤ t0_9.toInt + x3.toInt from by omega)), (show q_F (t0_9.toInt + 2 * x3.toInt ≤ 2 * x3.toInt + t0_9.toInt) from (show t0_9.toInt + 2 * x3.toInt ≤ 2 * x3.toInt + t0_9.toInt from by omega)), V, q_lw hl (q_lw1 0 rfl (q_lw1 1 rfl (q_lw1 2 rfl (q_lw1 4 rfl (q_lw1 5 rfl q_lw0))))), hI, hF, hT0, hT1, hT2, hT3, ⟨((x4.toInt - x3.toInt).toNat + 1), Nat.lt_succ_self _, (show F_DR_figures_L3 x2 x3 x4 x5 t0_0 t0_1 t0_2 t0_3 t0_4 t0_5 t0_6 t0_7 t0_8 t0_9 t0_10 t1_0 t2_0 t3_0 ((x4.toInt - x3.toInt).toNat + 1) x3 t0_0 t0_1 t0_2 t0_3 t0_4 t0_5 t0_6 t0_7 t0_8 t0_9 t0_10 t3_0 = (F_DR_figures x2 x3 x4 x5 t0_0 t0_1 t0_2 t0_3 t0_4 t0_5 t0_6 t0_7 t0_8 t0_9 t0_10 t1_0 t2_0 t3_0) from (by rw [F_DR_figures.eq_1])), (show True ∧ S_DR_figures_L3 x2 x3 x4 x5 t0_0 t0_1 t0_2 t0_3 t0_4 t0_5 t0_6 t0_7 t0_8 t0_9 t0_10 t1_0 t2_0 t3_0 ((x4.toInt - x3.toInt).toNat + 1) x3 t0_0 t0_1 t0_2 t0_3 t0_4 t0_5 t0_6 t0_7 t0_8 t0_9 t0_10 t3_0 from (by have h := hS; rw [S_DR_figures.eq_1] at h; with_reducible exact h))⟩⟩
  rintro ⟨lx40, lx41, lx42, lx43, lx44, lx45, lx46, lx47, lx48, lx49, lx50, lx51, lx52⟩ H locs ls w77 ⟨i53, i54, i55, i56, i57, i58, i59, i60, i61, i62, i63, i64, i65, i66, i67, i68, i69, i70, i71, i72, i73, i74, i75, V, hl, hI, hF, hO78, hO79, hO80, hO81, ⟨fu84, hf85, hR82, hS83⟩⟩ ih76
  obtain ⟨fm86, rfl⟩ : ∃ m, fu84 = m + 1 := ⟨fu84 - 1, by omega⟩
  replace i53 : q_F (lx50.toInt ≤ 12200) := i53
  replace i54 : q_F (t0_0.toInt ≤ lx41.toInt) := i54
  replace i55 : q_F (lx41.toInt ≤ t0_0.toInt) := i55
  replace i56 : q_F (t0_1.toInt ≤ lx42.toInt) := i56
  replace i57 : q_F (lx42.toInt ≤ t0_1.toInt) := i57
  replace i58 : q_F (t0_2.toInt ≤ lx43.toInt) := i58
  replace i59 : q_F (lx43.toInt ≤ t0_2.toInt) := i59
  replace i60 : q_F (t0_3.toInt ≤ lx44.toInt) := i60
  replace i61 : q_F (lx44.toInt ≤ t0_3.toInt) := i61
  replace i62 : q_F (t0_4.toInt ≤ lx45.toInt) := i62
  replace i63 : q_F (lx45.toInt ≤ t0_4.toInt) := i63
  replace i64 : q_F (t0_5.toInt ≤ lx46.toInt) := i64
  replace i65 : q_F (lx46.toInt ≤ t0_5.toInt) := i65
  replace i66 : q_F (t0_6.toInt ≤ lx47.toInt) := i66
  replace i67 : q_F (lx47.toInt ≤ t0_6.toInt) := i67
  replace i68 : q_F (t0_7.toInt ≤ lx48.toInt) := i68
  replace i69 : q_F (lx48.toInt ≤ t0_7.toInt) := i69
  replace i70 : q_F (t0_8.toInt ≤ lx49.toInt) := i70
  replace i71 : q_F (lx49.toInt ≤ t0_8.toInt) := i71
  replace i72 : q_F (t0_10.toInt ≤ lx51.toInt) := i72
  replace i73 : q_F (lx51.toInt ≤ t0_10.toInt) := i73
  replace i74 : q_F (lx40.toInt + t0_9.toInt ≤ lx50.toInt + x3.toInt) := i74
  replace i75 : q_F (lx50.toInt + 2 * x3.toInt ≤ 2 * lx40.toInt + t0_9.toInt) := i75
  replace hl : lv_has ls 6 [(5, .int lx40), (0, .ref (q 134)), (1, .int x2), (3, .int x4), (4, .int x5)] := hl
  replace hO78 : w77[134]? = (some (q 134, .inr (14, [.int lx41, .ref (q 135), .int lx42, .ref (q 136), .ref (q 137), .ref (q 138), .ref (q 139), .ref (q 140), .int lx43, .long lx44, .int lx45, .int lx46, .ref (q 141), .int lx47, .ref (q 142), .int lx48, .ref (q 143), .int lx49, .ref (q 144), .int lx50, .int lx51])) : Option (Nat × va_E)) := hO78
  replace hO79 : w77[136]? = (some (q 136, .inl (g 0, (10000 : Int32).toNatClampNeg, .inl t1_0)) : Option (Nat × va_E)) := hO79
  replace hO80 : w77[137]? = (some (q 137, .inl (g 0, (10 : Int32).toNatClampNeg, .inl t2_0)) : Option (Nat × va_E)) := hO80
  replace hO81 : w77[144]? = (some (q 144, .inl (g 0, (12200 : Int32).toNatClampNeg, .inl lx52)) : Option (Nat × va_E)) := hO81
  refine lv_iload hx hb d_15_50_3 (lv_at hl 0 rfl) ?_
  refine lv_iload_n hx hb d_15_50_5 rfl (lv_at hl 3 rfl) ?_
  refine lv_icmp_ge (tgt := 68) hx hb d_15_50_6 (by decide) (fun c87 => ?_) (fun c87 => ?_)
  ·
    exact q_retv C0 V (⟨hI, hF, lx41, lx42, lx43, lx44, lx45, lx46, lx47, lx48, lx49, lx50, lx51, lx52, hO78, hO81, (show lx50.toInt ≤ 12200 from (by first | with_reducible exact q_fe i53 | (have t1 : lx50.toInt ≤ 12200 := i53; omega))), (show t0_0.toInt ≤ lx41.toInt from (by first | with_reducible exact q_fe i54 | (have t1 : t0_0.toInt ≤ lx41.toInt := i54; omega))), (show lx41.toInt ≤ t0_0.toInt from (by first | with_reducible exact q_fe i55 | (have t1 : lx41.toInt ≤ t0_0.toInt := i55; omega))), (show t0_1.toInt ≤ lx42.toInt from (by first | with_reducible exact q_fe i56 | (have t1 : t0_1.toInt ≤ lx42.toInt := i56; omega))), (show lx42.toInt ≤ t0_1.toInt from (by first | with_reducible exact q_fe i57 | (have t1 : lx42.toInt ≤ t0_1.toInt := i57; omega))), (show t0_2.toInt ≤ lx43.toInt from (by first | with_reducible exact q_fe i58 | (have t1 : t0_2.toInt ≤ lx43.toInt := i58; omega))), (show lx43.toInt ≤ t0_2.toInt from (by first | with_reducible exact q_fe i59 | (have t1 : lx43.toInt ≤ t0_2.toInt := i59; omega))), (show t0_3.toInt ≤ lx44.toInt from (by first | with_reducible exact q_fe i60 | (have t1 : t0_3.toInt ≤ lx44.toInt := i60; omega))), (show lx44.toInt ≤ t0_3.toInt from (by first | with_reducible exact q_fe i61 | (have t1 : lx44.toInt ≤ t0_3.toInt := i61; omega))), (show t0_4.toInt ≤ lx45.toInt from (by first | with_reducible exact q_fe i62 | (have t1 : t0_4.toInt ≤ lx45.toInt := i62; omega))), (show lx45.toInt ≤ t0_4.toInt from (by first | with_reducible exact q_fe i63 | (have t1 : lx45.toInt ≤ t0_4.toInt := i63; omega))), (show t0_5.toInt ≤ lx46.toInt from (by first | with_reducible exact q_fe i64 | (have t1 : t0_5.toInt ≤ lx46.toInt := i64; omega))), (show lx46.toInt ≤ t0_5.toInt from (by first | with_reducible exact q_fe i65 | (have t1 : lx46.toInt ≤ t0_5.toInt := i65; omega))), (show t0_6.toInt ≤ lx47.toInt from (by first | with_reducible exact q_fe i66 | (have t1 : t0_6.toInt ≤ lx47.toInt := i66; omega))), (show lx47.toInt ≤ t0_6.toInt from (by first | with_reducible exact q_fe i67 | (have t1 : lx47.toInt ≤ t0_6.toInt := i67; omega))), (show t0_7.toInt ≤ lx48.toInt from (by first | with_reducible exact q_fe i68 | (have t1 : t0_7.toInt ≤ lx48.toInt := i68; omega))), (show lx48.toInt ≤ t0_7.toInt from (by first | with_reducible exact q_fe i69 | (have t1 : lx48.toInt ≤ t0_7.toInt := i69; omega))), (show t0_8.toInt ≤ lx49.toInt from (by first | with_reducible exact q_fe i70 | (have t1 : t0_8.toInt ≤ lx49.toInt := i70; omega))), (show lx49.toInt ≤ t0_8.toInt from (by first | with_reducible exact q_fe i71 | (have t1 : lx49.toInt ≤ t0_8.toInt := i71; omega))), (show t0_9.toInt ≤ lx50.toInt from (by have t1 : lx40.toInt + t0_9.toInt ≤ lx50.toInt + x3.toInt := i74; have t2 : lx50.toInt + 2 * x3.toInt ≤ 2 * lx40.toInt + t0_9.toInt := i75; omega)), (show t0_10.toInt ≤ lx51.toInt from (by first | with_reducible exact q_fe i72 | (have t1 : t0_10.toInt ≤ lx51.toInt := i72; omega))), (show lx51.toInt ≤ t0_10.toInt from (by first | with_reducible exact q_fe i73 | (have t1 : lx51.toInt ≤ t0_10.toInt := i73; omega))), (show (lx41, lx42, lx43, lx44, lx45, lx46, lx47, lx48, lx49, lx50, lx51, lx52) = (F_DR_figures x2 x3 x4 x5 t0_0 t0_1 t0_2 t0_3 t0_4 t0_5 t0_6 t0_7 t0_8 t0_9 t0_10 t1_0 t2_0 t3_0) from Eq.trans (by rw [F_DR_figures_L3.eq_2, if_pos c87]) hR82)⟩) d_15_50_68
  ·
    have b89 : q_F (lx40.toInt < x4.toInt) := (q_nleI c87)
    refine lv_iload hx hb d_15_50_9 (lv_at hl 0 rfl) ?_
    refine lv_iload hx hb d_15_50_11 (lv_at hl 4 rfl) ?_
    refine q_join (X := Int32 × Int32 × Int32 × Int64 × Int32 × Int32 × Int32 × Int32 × Int32 × Int32 × Int32 × (Nat → Int32)) (fun z H locs ls w130 => q_F (z.2.2.2.2.2.2.2.2.2.1.toInt ≤ 12200) ∧ q_F (lx41.toInt ≤ z.1.toInt) ∧ q_F (z.1.toInt ≤ lx41.toInt) ∧ q_F (lx42.toInt ≤ z.2.1.toInt) ∧ q_F (z.2.1.toInt ≤ lx42.toInt) ∧ q_F (lx43.toInt ≤ z.2.2.1.toInt) ∧ q_F (z.2.2.1.toInt ≤ lx43.toInt) ∧ q_F (lx44.toInt ≤ z.2.2.2.1.toInt) ∧ q_F (z.2.2.2.1.toInt ≤ lx44.toInt) ∧ q_F (lx45.toInt ≤ z.2.2.2.2.1.toInt) ∧ q_F (z.2.2.2.2.1.toInt ≤ lx45.toInt) ∧ q_F (lx46.toInt ≤ z.2.2.2.2.2.1.toInt) ∧ q_F (z.2.2.2.2.2.1.toInt ≤ lx46.toInt) ∧ q_F (lx47.toInt ≤ z.2.2.2.2.2.2.1.toInt) ∧ q_F (z.2.2.2.2.2.2.1.toInt ≤ lx47.toInt) ∧ q_F (lx48.toInt ≤ z.2.2.2.2.2.2.2.1.toInt) ∧ q_F (z.2.2.2.2.2.2.2.1.toInt ≤ lx48.toInt) ∧ q_F (lx49.toInt ≤ z.2.2.2.2.2.2.2.2.1.toInt) ∧ q_F (z.2.2.2.2.2.2.2.2.1.toInt ≤ lx49.toInt) ∧ q_F (lx50.toInt ≤ z.2.2.2.2.2.2.2.2.2.1.toInt) ∧ q_F (z.2.2.2.2.2.2.2.2.2.1.toInt ≤ lx50.toInt + 1) ∧ q_F (lx51.toInt ≤ z.2.2.2.2.2.2.2.2.2.2.1.toInt) ∧ q_F (z.2.2.2.2.2.2.2.2.2.2.1.toInt ≤ lx51.toInt) ∧ q_Wd D g (va_A ws sz) s w130 H locs ∧ lv_has ls 6 [(5, .int lx40), (0, .ref (q 134)), (1, .int x2), (3, .int x4), (4, .int x5)] ∧ q_I (msh g q) q w130 ∧ q_un ws w130 [134, 144] ∧ w130[134]? = (some (q 134, .inr (14, [.int z.1, .ref (q 135), .int z.2.1, .ref (q 136), .ref (q 137), .ref (q 138), .ref (q 139), .ref (q 140), .int z.2.2.1, .long z.2.2.2.1, .int z.2.2.2.2.1, .int z.2.2.2.2.2.1, .ref (q 141), .int z.2.2.2.2.2.2.1, .ref (q 142), .int z.2.2.2.2.2.2.2.1, .ref (q 143), .int z.2.2.2.2.2.2.2.2.1, .ref (q 144), .int z.2.2.2.2.2.2.2.2.2.1, .int z.2.2.2.2.2.2.2.2.2.2.1])) : Option (Nat × va_E)) ∧ w130[136]? = (some (q 136, .inl (g 0, (10000 : Int32).toNatClampNeg, .inl t1_0)) : Option (Nat × va_E)) ∧ w130[137]? = (some (q 137, .inl (g 0, (10 : Int32).toNatClampNeg, .inl t2_0)) : Option (Nat × va_E)) ∧ w130[144]? = (some (q 144, .inl (g 0, (12200 : Int32).toNatClampNeg, .inl z.2.2.2.2.2.2.2.2.2.2.2)) : Option (Nat × va_E)) ∧ F_DR_figures_J22 (F_DR_figures_L3 x2 x3 x4 x5 t0_0 t0_1 t0_2 t0_3 t0_4 t0_5 t0_6 t0_7 t0_8 t0_9 t0_10 t1_0 t2_0 t3_0 fm86) x2 x3 x4 x5 t0_0 t0_1 t0_2 t0_3 t0_4 t0_5 t0_6 t0_7 t0_8 t0_9 t0_10 t1_0 t2_0 t3_0 lx40 lx41 lx42 lx43 lx44 lx45 lx46 lx47 lx48 lx49 lx50 lx51 lx52 z.1 z.2.1 z.2.2.1 z.2.2.2.1 z.2.2.2.2.1 z.2.2.2.2.2.1 z.2.2.2.2.2.2.1 z.2.2.2.2.2.2.2.1 z.2.2.2.2.2.2.2.2.1 z.2.2.2.2.2.2.2.2.2.1 z.2.2.2.2.2.2.2.2.2.2.1 z.2.2.2.2.2.2.2.2.2.2.2 = (F_DR_figures x2 x3 x4 x5 t0_0 t0_1 t0_2 t0_3 t0_4 t0_5 t0_6 t0_7 t0_8 t0_9 t0_10 t1_0 t2_0 t3_0) ∧ True ∧ S_DR_figures_J22 (S_DR_figures_L3 x2 x3 x4 x5 t0_0 t0_1 t0_2 t0_3 t0_4 t0_5 t0_6 t0_7 t0_8 t0_9 t0_10 t1_0 t2_0 t3_0 fm86) x2 x3 x4 x5 t0_0 t0_1 t0_2 t0_3 t0_4 t0_5 t0_6 t0_7 t0_8 t0_9 t0_10 t1_0 t2_0 t3_0 lx40 lx41 lx42 lx43 lx44 lx45 lx46 lx47 lx48 lx49 lx50 lx51 lx52 z.1 z.2.1 z.2.2.1 z.2.2.2.1 z.2.2.2.2.1 z.2.2.2.2.2.1 z.2.2.2.2.2.2.1 z.2.2.2.2.2.2.2.1 z.2.2.2.2.2.2.2.2.1 z.2.2.2.2.2.2.2.2.2.1 z.2.2.2.2.2.2.2.2.2.2.1 z.2.2.2.2.2.2.2.2.2.2.2) (fun z => []) 22 0 0 ?_ ?_
    ·
      rintro ⟨lx90, lx91, lx92, lx93, lx94, lx95, lx96, lx97, lx98, lx99, lx100, lx101⟩ H locs ls w130 ⟨i107, i108, i109, i110, i111, i112, i113, i114, i115, i116, i117, i118, i119, i120, i121, i122, i123, i124, i125, i126, i127, i128, i129, V, hl, hI, hF, hO102, hA103, hA104, hA105, hR131, hS132⟩
      clear i107
      replace i108 : q_F (lx41.toInt ≤ lx90.toInt) := i108
      replace i109 : q_F (lx90.toInt ≤ lx41.toInt) := i109
      replace i110 : q_F (lx42.toInt ≤ lx91.toInt) := i110
      replace i111 : q_F (lx91.toInt ≤ lx42.toInt) := i111
      replace i112 : q_F (lx43.toInt ≤ lx92.toInt) := i112
      replace i113 : q_F (lx92.toInt ≤ lx43.toInt) := i113
      replace i114 : q_F (lx44.toInt ≤ lx93.toInt) := i114
      replace i115 : q_F (lx93.toInt ≤ lx44.toInt) := i115
      replace i116 : q_F (lx45.toInt ≤ lx94.toInt) := i116
      replace i117 : q_F (lx94.toInt ≤ lx45.toInt) := i117
      replace i118 : q_F (lx46.toInt ≤ lx95.toInt) := i118
      replace i119 : q_F (lx95.toInt ≤ lx46.toInt) := i119
      replace i120 : q_F (lx47.toInt ≤ lx96.toInt) := i120
      replace i121 : q_F (lx96.toInt ≤ lx47.toInt) := i121
      replace i122 : q_F (lx48.toInt ≤ lx97.toInt) := i122
      replace i123 : q_F (lx97.toInt ≤ lx48.toInt) := i123
      replace i124 : q_F (lx49.toInt ≤ lx98.toInt) := i124
      replace i125 : q_F (lx98.toInt ≤ lx49.toInt) := i125
      replace i126 : q_F (lx50.toInt ≤ lx99.toInt) := i126
      replace i127 : q_F (lx99.toInt ≤ lx50.toInt + 1) := i127
      replace i128 : q_F (lx51.toInt ≤ lx100.toInt) := i128
      replace i129 : q_F (lx100.toInt ≤ lx51.toInt) := i129
      replace hl : lv_has ls 6 [(5, .int lx40), (0, .ref (q 134)), (1, .int x2), (3, .int x4), (4, .int x5)] := hl
      replace hO102 : w130[134]? = (some (q 134, .inr (14, [.int lx90, .ref (q 135), .int lx91, .ref (q 136), .ref (q 137), .ref (q 138), .ref (q 139), .ref (q 140), .int lx92, .long lx93, .int lx94, .int lx95, .ref (q 141), .int lx96, .ref (q 142), .int lx97, .ref (q 143), .int lx98, .ref (q 144), .int lx99, .int lx100])) : Option (Nat × va_E)) := hO102
      replace hA103 : w130[136]? = (some (q 136, .inl (g 0, (10000 : Int32).toNatClampNeg, .inl t1_0)) : Option (Nat × va_E)) := hA103
      replace hA104 : w130[137]? = (some (q 137, .inl (g 0, (10 : Int32).toNatClampNeg, .inl t2_0)) : Option (Nat × va_E)) := hA104
      replace hA105 : w130[144]? = (some (q 144, .inl (g 0, (12200 : Int32).toNatClampNeg, .inl lx101)) : Option (Nat × va_E)) := hA105
      refine lv_aload_n hx hb d_15_50_22 rfl (lv_at hl 1 rfl) ?_
      refine lv_bipush (v := 48) hx hb d_15_50_23 (by decide) ?_
      refine lv_iload hx hb d_15_50_25 (lv_at hl 0 rfl) ?_
      refine lv_if_lt (tgt := 57) hx hb d_15_50_27 (by decide) (fun c136 => ?_) (fun c136 => ?_)
      ·
        have b137 : q_F (lx40.toInt < 0) := (q_ltI c136)
        refine lv_iconst (v := 0) hx hb d_15_50_57 (by decide) ?_
        refine lv_iadd hx hb d_15_50_58 ?_
        refine q_ti (v := 48) (by decide) ?_
        have ob138 : True ∧ S_DR_print (48 : Int32) lx90 lx91 lx92 lx93 lx94 lx95 lx96 lx97 lx98 lx99 lx100 lx101 := (by have h := hS132; rw [S_DR_figures_J22.eq_1] at h; rw [if_pos c136] at h; with_reducible exact h.2.1)
        refine q_gov V (q_runV (As := [.int 48]) (rest := []) (d := 1) (mc := 0) (ms := 0) (ci := 14) C0 V rfl LV_DR_189 (X_DR_print l D g q w130  48 hI lx90 lx91 lx92 lx93 lx94 lx95 lx96 lx97 lx98 lx99 lx100 hO102 lx101 hA105 ob138 _) rfl rfl hO102 rfl hl.1 rfl (Nat.le_of_ble_eq_true rfl) ⟨by decide, by decide⟩ ⟨Nat.le_of_ble_eq_true rfl, Nat.le_of_ble_eq_true rfl⟩ d_15_50_59) (fun u139 H locs hp140 V => ?_)
        obtain ⟨hI, hZ9⟩ := hp140
        obtain ⟨hu179, hZ9⟩ := hZ9
        obtain ⟨y142, hZ9⟩ := hZ9
        obtain ⟨y143, hZ9⟩ := hZ9
        obtain ⟨y144, hZ9⟩ := hZ9
        obtain ⟨y145, hZ9⟩ := hZ9
        obtain ⟨y146, hZ9⟩ := hZ9
        obtain ⟨y147, hZ9⟩ := hZ9
        obtain ⟨y148, hZ9⟩ := hZ9
        obtain ⟨y149, hZ9⟩ := hZ9
        obtain ⟨y150, hZ9⟩ := hZ9
        obtain ⟨y151, hZ9⟩ := hZ9
        obtain ⟨y152, hZ9⟩ := hZ9
        obtain ⟨f153, hZ9⟩ := hZ9
        obtain ⟨hO141, hZ9⟩ := hZ9
        obtain ⟨hA154, hZ9⟩ := hZ9
        obtain ⟨b155, hZ9⟩ := hZ9
        obtain ⟨b156, hZ9⟩ := hZ9
        obtain ⟨b157, hZ9⟩ := hZ9
        obtain ⟨b158, hZ9⟩ := hZ9
        obtain ⟨b159, hZ9⟩ := hZ9
        obtain ⟨b160, hZ9⟩ := hZ9
        obtain ⟨b161, hZ9⟩ := hZ9
        obtain ⟨b162, hZ9⟩ := hZ9
        obtain ⟨b163, hZ9⟩ := hZ9
        obtain ⟨b164, hZ9⟩ := hZ9
        obtain ⟨b165, hZ9⟩ := hZ9
        obtain ⟨b166, hZ9⟩ := hZ9
        obtain ⟨b167, hZ9⟩ := hZ9
        obtain ⟨b168, hZ9⟩ := hZ9
        obtain ⟨b169, hZ9⟩ := hZ9
        obtain ⟨b170, hZ9⟩ := hZ9
        obtain ⟨b171, hZ9⟩ := hZ9
        obtain ⟨b172, hZ9⟩ := hZ9
        obtain ⟨b173, hZ9⟩ := hZ9
        obtain ⟨b174, hZ9⟩ := hZ9
        obtain ⟨b175, hZ9⟩ := hZ9
        obtain ⟨b176, hZ9⟩ := hZ9
        obtain ⟨b177, hE178⟩ := hZ9
        replace hO141 : u139[134]? = (some (q 134, .inr (14, [.int y142, .ref (q 135), .int y143, .ref (q 136), .ref (q 137), .ref (q 138), .ref (q 139), .ref (q 140), .int y144, .long y145, .int y146, .int y147, .ref (q 141), .int y148, .ref (q 142), .int y149, .ref (q 143), .int y150, .ref (q 144), .int y151, .int y152])) : Option (Nat × va_E)) := hO141
        replace hA154 : u139[144]? = (some (q 144, .inl (g 0, (12200 : Int32).toNatClampNeg, .inl f153)) : Option (Nat × va_E)) := hA154
        obtain ⟨p180, e181⟩ : ∃ z, z = (F_DR_print (48 : Int32) lx90 lx91 lx92 lx93 lx94 lx95 lx96 lx97 lx98 lx99 lx100 lx101) := ⟨_, rfl⟩
        have e182 : y142 = p180.1 := congrArg (fun z => z.1) (hE178.trans e181.symm)
        have e183 : y143 = p180.2.1 := congrArg (fun z => z.2.1) (hE178.trans e181.symm)
        have e184 : y144 = p180.2.2.1 := congrArg (fun z => z.2.2.1) (hE178.trans e181.symm)
        have e185 : y145 = p180.2.2.2.1 := congrArg (fun z => z.2.2.2.1) (hE178.trans e181.symm)
        have e186 : y146 = p180.2.2.2.2.1 := congrArg (fun z => z.2.2.2.2.1) (hE178.trans e181.symm)
        have e187 : y147 = p180.2.2.2.2.2.1 := congrArg (fun z => z.2.2.2.2.2.1) (hE178.trans e181.symm)
        have e188 : y148 = p180.2.2.2.2.2.2.1 := congrArg (fun z => z.2.2.2.2.2.2.1) (hE178.trans e181.symm)
        have e189 : y149 = p180.2.2.2.2.2.2.2.1 := congrArg (fun z => z.2.2.2.2.2.2.2.1) (hE178.trans e181.symm)
        have e190 : y150 = p180.2.2.2.2.2.2.2.2.1 := congrArg (fun z => z.2.2.2.2.2.2.2.2.1) (hE178.trans e181.symm)
        have e191 : y151 = p180.2.2.2.2.2.2.2.2.2.1 := congrArg (fun z => z.2.2.2.2.2.2.2.2.2.1) (hE178.trans e181.symm)
        have e192 : y152 = p180.2.2.2.2.2.2.2.2.2.2.1 := congrArg (fun z => z.2.2.2.2.2.2.2.2.2.2.1) (hE178.trans e181.symm)
        have e193 : f153 = p180.2.2.2.2.2.2.2.2.2.2.2 := congrArg (fun z => z.2.2.2.2.2.2.2.2.2.2.2) (hE178.trans e181.symm)
        replace b155 : q_F (y151.toInt ≤ 12200) := b155
        replace b156 : q_F (lx90.toInt ≤ y142.toInt) := b156
        replace b157 : q_F (y142.toInt ≤ lx90.toInt) := b157
        replace b158 : q_F (lx91.toInt ≤ y143.toInt) := b158
        replace b159 : q_F (y143.toInt ≤ lx91.toInt) := b159
        replace b160 : q_F (lx92.toInt ≤ y144.toInt) := b160
        replace b161 : q_F (y144.toInt ≤ lx92.toInt) := b161
        replace b162 : q_F (lx93.toInt ≤ y145.toInt) := b162
        replace b163 : q_F (y145.toInt ≤ lx93.toInt) := b163
        replace b164 : q_F (lx94.toInt ≤ y146.toInt) := b164
        replace b165 : q_F (y146.toInt ≤ lx94.toInt) := b165
        replace b166 : q_F (lx95.toInt ≤ y147.toInt) := b166
        replace b167 : q_F (y147.toInt ≤ lx95.toInt) := b167
        replace b168 : q_F (lx96.toInt ≤ y148.toInt) := b168
        replace b169 : q_F (y148.toInt ≤ lx96.toInt) := b169
        replace b170 : q_F (lx97.toInt ≤ y149.toInt) := b170
        replace b171 : q_F (y149.toInt ≤ lx97.toInt) := b171
        replace b172 : q_F (lx98.toInt ≤ y150.toInt) := b172
        replace b173 : q_F (y150.toInt ≤ lx98.toInt) := b173
        replace b174 : q_F (lx99.toInt + 1 ≤ y151.toInt) := b174
        replace b175 : q_F (y151.toInt ≤ lx99.toInt + 1) := b175
        replace b176 : q_F (lx100.toInt ≤ y152.toInt) := b176
        replace b177 : q_F (y152.toInt ≤ lx100.toInt) := b177
        replace hA103 := (hu179 _ (by decide)).trans hA103
        replace hA104 := (hu179 _ (by decide)).trans hA104
        replace hF := q_uc hF hu179 (by simp)
        have hR194 := (show F_DR_figures_c59 (F_DR_figures_L3 x2 x3 x4 x5 t0_0 t0_1 t0_2 t0_3 t0_4 t0_5 t0_6 t0_7 t0_8 t0_9 t0_10 t1_0 t2_0 t3_0 fm86) x2 x3 x4 x5 t0_0 t0_1 t0_2 t0_3 t0_4 t0_5 t0_6 t0_7 t0_8 t0_9 t0_10 t1_0 t2_0 t3_0 lx40 lx41 lx42 lx43 lx44 lx45 lx46 lx47 lx48 lx49 lx50 lx51 lx52 lx90 lx91 lx92 lx93 lx94 lx95 lx96 lx97 lx98 lx99 lx100 lx101 p180 = (F_DR_figures x2 x3 x4 x5 t0_0 t0_1 t0_2 t0_3 t0_4 t0_5 t0_6 t0_7 t0_8 t0_9 t0_10 t1_0 t2_0 t3_0) from Eq.trans (by rw [e181, F_DR_figures_J22.eq_1, if_pos c136]) hR131)
        have hS195 := (show True ∧ S_DR_figures_c59 (S_DR_figures_L3 x2 x3 x4 x5 t0_0 t0_1 t0_2 t0_3 t0_4 t0_5 t0_6 t0_7 t0_8 t0_9 t0_10 t1_0 t2_0 t3_0 fm86) x2 x3 x4 x5 t0_0 t0_1 t0_2 t0_3 t0_4 t0_5 t0_6 t0_7 t0_8 t0_9 t0_10 t1_0 t2_0 t3_0 lx40 lx41 lx42 lx43 lx44 lx45 lx46 lx47 lx48 lx49 lx50 lx51 lx52 lx90 lx91 lx92 lx93 lx94 lx95 lx96 lx97 lx98 lx99 lx100 lx101 p180 from (by rw [e181]; have h := hS132; rw [S_DR_figures_J22.eq_1] at h; rw [if_pos c136] at h; replace h := q_s2 h; with_reducible exact h))
        obtain ⟨a199, e200⟩ := q_nm (lx40 + 1 : Int32)
        have b201 : q_F (a199.toInt = lx40.toInt + 1) := (by rw [← e200]; exact q_addI (y := 1) rfl (by decide) (by have _ := q_lo32 (x := lx40); have _ := q_hi32 (x := lx40); have t1 : lx40.toInt < 0 := b137; omega) (by have _ := q_lo32 (x := lx40); have _ := q_hi32 (x := lx40); have t1 : lx40.toInt < 0 := b137; omega))
        refine lv_iinc (v := a199) (lv' := [(5, .int a199), (0, .ref (q 134)), (1, .int x2), (3, .int x4), (4, .int x5)]) hx hb d_15_50_62 hl (k := 0) rfl (e200) (by decide) rfl (fun ls hl => ?_)
        refine lv_goto (tgt := 3) hx hb d_15_50_65 (by decide) ?_
        exact ih76 ((a199 : Int32), (y142 : Int32), (y143 : Int32), (y144 : Int32), (y145 : Int64), (y146 : Int32), (y147 : Int32), (y148 : Int32), (y149 : Int32), (y150 : Int32), (y151 : Int32), (y152 : Int32), (f153 : (Nat → Int32))) _ _ _ _ (show (x4.toInt - a199.toInt).toNat < (x4.toInt - lx40.toInt).toNat from by have t1 : a199.toInt = lx40.toInt + 1 := b201; have t2 : lx40.toInt < x4.toInt := b89; omega) ⟨(show q_F (y151.toInt ≤ 12200) from (show y151.toInt ≤ 12200 from by have t1 : y151.toInt ≤ 12200 := b155; omega)), (show q_F (t0_0.toInt ≤ y142.toInt) from (show t0_0.toInt ≤ y142.toInt from by have t1 : t0_0.toInt ≤ lx41.toInt := i54; have t2 : lx41.toInt ≤ lx90.toInt := i108; have t3 : lx90.toInt ≤ y142.toInt := b156; omega)), (show q_F (y142.toInt ≤ t0_0.toInt) from (show y142.toInt ≤ t0_0.toInt from by have t1 : lx41.toInt ≤ t0_0.toInt := i55; have t2 : lx90.toInt ≤ lx41.toInt := i109; have t3 : y142.toInt ≤ lx90.toInt := b157; omega)), (show q_F (t0_1.toInt ≤ y143.toInt) from (show t0_1.toInt ≤ y143.toInt from by have t1 : t0_1.toInt ≤ lx42.toInt := i56; have t2 : lx42.toInt ≤ lx91.toInt := i110; have t3 : lx91.toInt ≤ y143.toInt := b158; omega)), (show q_F (y143.toInt ≤ t0_1.toInt) from (show y143.toInt ≤ t0_1.toInt from by have t1 : lx42.toInt ≤ t0_1.toInt := i57; have t2 : lx91.toInt ≤ lx42.toInt := i111; have t3 : y143.toInt ≤ lx91.toInt := b159; omega)), (show q_F (t0_2.toInt ≤ y144.toInt) from (show t0_2.toInt ≤ y144.toInt from by have t1 : t0_2.toInt ≤ lx43.toInt := i58; have t2 : lx43.toInt ≤ lx92.toInt := i112; have t3 : lx92.toInt ≤ y144.toInt := b160; omega)), (show q_F (y144.toInt ≤ t0_2.toInt) from (show y144.toInt ≤ t0_2.toInt from by have t1 : lx43.toInt ≤ t0_2.toInt := i59; have t2 : lx92.toInt ≤ lx43.toInt := i113; have t3 : y144.toInt ≤ lx92.toInt := b161; omega)), (show q_F (t0_3.toInt ≤ y145.toInt) from (show t0_3.toInt ≤ y145.toInt from by have t1 : t0_3.toInt ≤ lx44.toInt := i60; have t2 : lx44.toInt ≤ lx93.toInt := i114; have t3 : lx93.toInt ≤ y145.toInt := b162; omega)), (show q_F (y145.toInt ≤ t0_3.toInt) from (show y145.toInt ≤ t0_3.toInt from by have t1 : lx44.toInt ≤ t0_3.toInt := i61; have t2 : lx93.toInt ≤ lx44.toInt := i115; have t3 : y145.toInt ≤ lx93.toInt := b163; omega)), (show q_F (t0_4.toInt ≤ y146.toInt) from (show t0_4.toInt ≤ y146.toInt from by have t1 : t0_4.toInt ≤ lx45.toInt := i62; have t2 : lx45.toInt ≤ lx94.toInt := i116; have t3 : lx94.toInt ≤ y146.toInt := b164; omega)), (show q_F (y146.toInt ≤ t0_4.toInt) from (show y146.toInt ≤ t0_4.toInt from by have t1 : lx45.toInt ≤ t0_4.toInt := i63; have t2 : lx94.toInt ≤ lx45.toInt := i117; have t3 : y146.toInt ≤ lx94.toInt := b165; omega)), (show q_F (t0_5.toInt ≤ y147.toInt) from (show t0_5.toInt ≤ y147.toInt from by have t1 : t0_5.toInt ≤ lx46.toInt := i64; have t2 : lx46.toInt ≤ lx95.toInt := i118; have t3 : lx95.toInt ≤ y147.toInt := b166; omega)), (show q_F (y147.toInt ≤ t0_5.toInt) from (show y147.toInt ≤ t0_5.toInt from by have t1 : lx46.toInt ≤ t0_5.toInt := i65; have t2 : lx95.toInt ≤ lx46.toInt := i119; have t3 : y147.toInt ≤ lx95.toInt := b167; omega)), (show q_F (t0_6.toInt ≤ y148.toInt) from (show t0_6.toInt ≤ y148.toInt from by have t1 : t0_6.toInt ≤ lx47.toInt := i66; have t2 : lx47.toInt ≤ lx96.toInt := i120; have t3 : lx96.toInt ≤ y148.toInt := b168; omega)), (show q_F (y148.toInt ≤ t0_6.toInt) from (show y148.toInt ≤ t0_6.toInt from by have t1 : lx47.toInt ≤ t0_6.toInt := i67; have t2 : lx96.toInt ≤ lx47.toInt := i121; have t3 : y148.toInt ≤ lx96.toInt := b169; omega)), (show q_F (t0_7.toInt ≤ y149.toInt) from (show t0_7.toInt ≤ y149.toInt from by have t1 : t0_7.toInt ≤ lx48.toInt := i68; have t2 : lx48.toInt ≤ lx97.toInt := i122; have t3 : lx97.toInt ≤ y149.toInt := b170; omega)), (show q_F (y149.toInt ≤ t0_7.toInt) from (show y149.toInt ≤ t0_7.toInt from by have t1 : lx48.toInt ≤ t0_7.toInt := i69; have t2 : lx97.toInt ≤ lx48.toInt := i123; have t3 : y149.toInt ≤ lx97.toInt := b171; omega)), (show q_F (t0_8.toInt ≤ y150.toInt) from (show t0_8.toInt ≤ y150.toInt from by have t1 : t0_8.toInt ≤ lx49.toInt := i70; have t2 : lx49.toInt ≤ lx98.toInt := i124; have t3 : lx98.toInt ≤ y150.toInt := b172; omega)), (show q_F (y150.toInt ≤ t0_8.toInt) from (show y150.toInt ≤ t0_8.toInt from by have t1 : lx49.toInt ≤ t0_8.toInt := i71; have t2 : lx98.toInt ≤ lx49.toInt := i125; have t3 : y150.toInt ≤ lx98.toInt := b173; omega)), (show q_F (t0_10.toInt ≤ y152.toInt) from (show t0_10.toInt ≤ y152.toInt from by have t1 : t0_10.toInt ≤ lx51.toInt := i72; have t2 : lx51.toInt ≤ lx100.toInt := i128; have t3 : lx100.toInt ≤ y152.toInt := b176; omega)), (show q_F (y152.toInt ≤ t0_10.toInt) from (show y152.toInt ≤ t0_10.toInt from by have t1 : lx51.toInt ≤ t0_10.toInt := i73; have t2 : lx100.toInt ≤ lx51.toInt := i129; have t3 : y152.toInt ≤ lx100.toInt := b177; omega)), (show q_F (a199.toInt + t0_9.toInt ≤ y151.toInt + x3.toInt) from (show a199.toInt + t0_9.toInt ≤ y151.toInt + x3.toInt from by have t1 : lx40.toInt + t0_9.toInt ≤ lx50.toInt + x3.toInt := i74; have t2 : lx50.toInt ≤ lx99.toInt := i126; have t3 : lx99.toInt + 1 ≤ y151.toInt := b174; have t4 : a199.toInt = lx40.toInt + 1 := b201; omega)), (show q_F (y151.toInt + 2 * x3.toInt ≤ 2 * a199.toInt + t0_9.toInt) from (show y151.toInt + 2 * x3.toInt ≤ 2 * a199.toInt + t0_9.toInt from by have t1 : lx50.toInt + 2 * x3.toInt ≤ 2 * lx40.toInt + t0_9.toInt := i75; have t2 : lx99.toInt ≤ lx50.toInt + 1 := i127; have t3 : y151.toInt ≤ lx99.toInt + 1 := b175; have t4 : a199.toInt = lx40.toInt + 1 := b201; omega)), V, q_lw hl (q_lw1 0 rfl (q_lw1 1 rfl (q_lw1 2 rfl (q_lw1 3 rfl (q_lw1 4 rfl q_lw0))))), hI, hF, hO141, hA103, hA104, hA154, ⟨fm86, Nat.lt_of_lt_of_le (show (x4.toInt - a199.toInt).toNat < (x4.toInt - lx40.toInt).toNat from by have t1 : a199.toInt = lx40.toInt + 1 := b201; have t2 : lx40.toInt < x4.toInt := b89; omega) (Nat.le_of_lt_succ hf85), (show F_DR_figures_L3 x2 x3 x4 x5 t0_0 t0_1 t0_2 t0_3 t0_4 t0_5 t0_6 t0_7 t0_8 t0_9 t0_10 t1_0 t2_0 t3_0 fm86 a199 y142 y143 y144 y145 y146 y147 y148 y149 y150 y151 y152 f153 = (F_DR_figures x2 x3 x4 x5 t0_0 t0_1 t0_2 t0_3 t0_4 t0_5 t0_6 t0_7 t0_8 t0_9 t0_10 t1_0 t2_0 t3_0) from Eq.trans (by rw [← e200, e193, e192, e191, e190, e189, e188, e187, e186, e185, e184, e183, e182, F_DR_figures_c59.eq_1]) hR194), (show True ∧ S_DR_figures_L3 x2 x3 x4 x5 t0_0 t0_1 t0_2 t0_3 t0_4 t0_5 t0_6 t0_7 t0_8 t0_9 t0_10 t1_0 t2_0 t3_0 fm86 a199 y142 y143 y144 y145 y146 y147 y148 y149 y150 y151 y152 f153 from (by rw [← e200, e193, e192, e191, e190, e189, e188, e187, e186, e185, e184, e183, e182]; have h := hS195; rw [S_DR_figures_c59.eq_1] at h; with_reducible exact h))⟩⟩
      ·
        have b202 : q_F (0 ≤ lx40.toInt) := (q_nltI c136)
        refine lv_iload hx hb d_15_50_30 (lv_at hl 0 rfl) ?_
        refine lv_aload_n hx hb d_15_50_32 rfl (lv_at hl 1 rfl) ?_
        refine q_get (ci := 14) (j := 4) (v := .ref (q 137)) C0 V i_DR rfl rfl hO102 (by decide) w_2004 rfl d_15_50_33 ?_
        refine lv_iload_n hx hb d_15_50_36 rfl (lv_at hl 2 rfl) ?_
        have ob203 : q_F (0 ≤ x2.toInt) := (by have h := hS132; rw [S_DR_figures_J22.eq_1] at h; rw [if_neg c136] at h; exact h.2.1)
        have ob204 : q_F (x2.toInt ≤ 9) := (by have h := hS132; rw [S_DR_figures_J22.eq_1] at h; rw [if_neg c136] at h; replace h := q_s2 h; exact h.2.1)
        refine q_iald C0 V hA104 (q_ix (x := x2.toInt) rfl (by first | with_reducible exact q_fe ob203 | (have t1 : 0 ≤ x2.toInt := ob203; omega)) (by have t1 : 0 ≤ x2.toInt := ob203; have t2 : x2.toInt ≤ 9 := ob204; have e9 : (((10 : Int32).toNatClampNeg : Nat) : Int) = 10 := (by decide); omega)) d_15_50_37 ?_
        obtain ⟨a205, e206⟩ := q_nm (t2_0 x2.toNatClampNeg : Int32)
        refine q_ti (v := a205) e206 ?_
        refine lv_icmp_ge (tgt := 57) hx hb d_15_50_38 (by decide) (fun c207 => ?_) (fun c207 => ?_)
        ·
          refine lv_iconst (v := 0) hx hb d_15_50_57 (by decide) ?_
          refine lv_iadd hx hb d_15_50_58 ?_
          refine q_ti (v := 48) (by decide) ?_
          have ob209 : True ∧ S_DR_print (48 : Int32) lx90 lx91 lx92 lx93 lx94 lx95 lx96 lx97 lx98 lx99 lx100 lx101 := (by have h := hS132; rw [S_DR_figures_J22.eq_1] at h; rw [if_neg c136] at h; replace h := q_s2 h; replace h := q_s2 h; have c207x := c207; rw [← e206] at c207x; rw [if_pos c207x] at h; with_reducible exact h.2.1)
          refine q_gov V (q_runV (As := [.int 48]) (rest := []) (d := 1) (mc := 0) (ms := 0) (ci := 14) C0 V rfl LV_DR_189 (X_DR_print l D g q w130  48 hI lx90 lx91 lx92 lx93 lx94 lx95 lx96 lx97 lx98 lx99 lx100 hO102 lx101 hA105 ob209 _) rfl rfl hO102 rfl hl.1 rfl (Nat.le_of_ble_eq_true rfl) ⟨by decide, by decide⟩ ⟨Nat.le_of_ble_eq_true rfl, Nat.le_of_ble_eq_true rfl⟩ d_15_50_59) (fun u210 H locs hp211 V => ?_)
          obtain ⟨hI, hZ9⟩ := hp211
          obtain ⟨hu250, hZ9⟩ := hZ9
          obtain ⟨y213, hZ9⟩ := hZ9
          obtain ⟨y214, hZ9⟩ := hZ9
          obtain ⟨y215, hZ9⟩ := hZ9
          obtain ⟨y216, hZ9⟩ := hZ9
          obtain ⟨y217, hZ9⟩ := hZ9
          obtain ⟨y218, hZ9⟩ := hZ9
          obtain ⟨y219, hZ9⟩ := hZ9
          obtain ⟨y220, hZ9⟩ := hZ9
          obtain ⟨y221, hZ9⟩ := hZ9
          obtain ⟨y222, hZ9⟩ := hZ9
          obtain ⟨y223, hZ9⟩ := hZ9
          obtain ⟨f224, hZ9⟩ := hZ9
          obtain ⟨hO212, hZ9⟩ := hZ9
          obtain ⟨hA225, hZ9⟩ := hZ9
          obtain ⟨b226, hZ9⟩ := hZ9
          obtain ⟨b227, hZ9⟩ := hZ9
          obtain ⟨b228, hZ9⟩ := hZ9
          obtain ⟨b229, hZ9⟩ := hZ9
          obtain ⟨b230, hZ9⟩ := hZ9
          obtain ⟨b231, hZ9⟩ := hZ9
          obtain ⟨b232, hZ9⟩ := hZ9
          obtain ⟨b233, hZ9⟩ := hZ9
          obtain ⟨b234, hZ9⟩ := hZ9
          obtain ⟨b235, hZ9⟩ := hZ9
          obtain ⟨b236, hZ9⟩ := hZ9
          obtain ⟨b237, hZ9⟩ := hZ9
          obtain ⟨b238, hZ9⟩ := hZ9
          obtain ⟨b239, hZ9⟩ := hZ9
          obtain ⟨b240, hZ9⟩ := hZ9
          obtain ⟨b241, hZ9⟩ := hZ9
          obtain ⟨b242, hZ9⟩ := hZ9
          obtain ⟨b243, hZ9⟩ := hZ9
          obtain ⟨b244, hZ9⟩ := hZ9
          obtain ⟨b245, hZ9⟩ := hZ9
          obtain ⟨b246, hZ9⟩ := hZ9
          obtain ⟨b247, hZ9⟩ := hZ9
          obtain ⟨b248, hE249⟩ := hZ9
          replace hO212 : u210[134]? = (some (q 134, .inr (14, [.int y213, .ref (q 135), .int y214, .ref (q 136), .ref (q 137), .ref (q 138), .ref (q 139), .ref (q 140), .int y215, .long y216, .int y217, .int y218, .ref (q 141), .int y219, .ref (q 142), .int y220, .ref (q 143), .int y221, .ref (q 144), .int y222, .int y223])) : Option (Nat × va_E)) := hO212
          replace hA225 : u210[144]? = (some (q 144, .inl (g 0, (12200 : Int32).toNatClampNeg, .inl f224)) : Option (Nat × va_E)) := hA225
          obtain ⟨p251, e252⟩ : ∃ z, z = (F_DR_print (48 : Int32) lx90 lx91 lx92 lx93 lx94 lx95 lx96 lx97 lx98 lx99 lx100 lx101) := ⟨_, rfl⟩
          have e253 : y213 = p251.1 := congrArg (fun z => z.1) (hE249.trans e252.symm)
          have e254 : y214 = p251.2.1 := congrArg (fun z => z.2.1) (hE249.trans e252.symm)
          have e255 : y215 = p251.2.2.1 := congrArg (fun z => z.2.2.1) (hE249.trans e252.symm)
          have e256 : y216 = p251.2.2.2.1 := congrArg (fun z => z.2.2.2.1) (hE249.trans e252.symm)
          have e257 : y217 = p251.2.2.2.2.1 := congrArg (fun z => z.2.2.2.2.1) (hE249.trans e252.symm)
          have e258 : y218 = p251.2.2.2.2.2.1 := congrArg (fun z => z.2.2.2.2.2.1) (hE249.trans e252.symm)
          have e259 : y219 = p251.2.2.2.2.2.2.1 := congrArg (fun z => z.2.2.2.2.2.2.1) (hE249.trans e252.symm)
          have e260 : y220 = p251.2.2.2.2.2.2.2.1 := congrArg (fun z => z.2.2.2.2.2.2.2.1) (hE249.trans e252.symm)
          have e261 : y221 = p251.2.2.2.2.2.2.2.2.1 := congrArg (fun z => z.2.2.2.2.2.2.2.2.1) (hE249.trans e252.symm)
          have e262 : y222 = p251.2.2.2.2.2.2.2.2.2.1 := congrArg (fun z => z.2.2.2.2.2.2.2.2.2.1) (hE249.trans e252.symm)
          have e263 : y223 = p251.2.2.2.2.2.2.2.2.2.2.1 := congrArg (fun z => z.2.2.2.2.2.2.2.2.2.2.1) (hE249.trans e252.symm)
          have e264 : f224 = p251.2.2.2.2.2.2.2.2.2.2.2 := congrArg (fun z => z.2.2.2.2.2.2.2.2.2.2.2) (hE249.trans e252.symm)
          replace b226 : q_F (y222.toInt ≤ 12200) := b226
          replace b227 : q_F (lx90.toInt ≤ y213.toInt) := b227
          replace b228 : q_F (y213.toInt ≤ lx90.toInt) := b228
          replace b229 : q_F (lx91.toInt ≤ y214.toInt) := b229
          replace b230 : q_F (y214.toInt ≤ lx91.toInt) := b230
          replace b231 : q_F (lx92.toInt ≤ y215.toInt) := b231
          replace b232 : q_F (y215.toInt ≤ lx92.toInt) := b232
          replace b233 : q_F (lx93.toInt ≤ y216.toInt) := b233
          replace b234 : q_F (y216.toInt ≤ lx93.toInt) := b234
          replace b235 : q_F (lx94.toInt ≤ y217.toInt) := b235
          replace b236 : q_F (y217.toInt ≤ lx94.toInt) := b236
          replace b237 : q_F (lx95.toInt ≤ y218.toInt) := b237
          replace b238 : q_F (y218.toInt ≤ lx95.toInt) := b238
          replace b239 : q_F (lx96.toInt ≤ y219.toInt) := b239
          replace b240 : q_F (y219.toInt ≤ lx96.toInt) := b240
          replace b241 : q_F (lx97.toInt ≤ y220.toInt) := b241
          replace b242 : q_F (y220.toInt ≤ lx97.toInt) := b242
          replace b243 : q_F (lx98.toInt ≤ y221.toInt) := b243
          replace b244 : q_F (y221.toInt ≤ lx98.toInt) := b244
          replace b245 : q_F (lx99.toInt + 1 ≤ y222.toInt) := b245
          replace b246 : q_F (y222.toInt ≤ lx99.toInt + 1) := b246
          replace b247 : q_F (lx100.toInt ≤ y223.toInt) := b247
          replace b248 : q_F (y223.toInt ≤ lx100.toInt) := b248
          replace hA103 := (hu250 _ (by decide)).trans hA103
          replace hA104 := (hu250 _ (by decide)).trans hA104
          replace hF := q_uc hF hu250 (by simp)
          have hR265 := (show F_DR_figures_c59_4 (F_DR_figures_L3 x2 x3 x4 x5 t0_0 t0_1 t0_2 t0_3 t0_4 t0_5 t0_6 t0_7 t0_8 t0_9 t0_10 t1_0 t2_0 t3_0 fm86) x2 x3 x4 x5 t0_0 t0_1 t0_2 t0_3 t0_4 t0_5 t0_6 t0_7 t0_8 t0_9 t0_10 t1_0 t2_0 t3_0 lx40 lx41 lx42 lx43 lx44 lx45 lx46 lx47 lx48 lx49 lx50 lx51 lx52 lx90 lx91 lx92 lx93 lx94 lx95 lx96 lx97 lx98 lx99 lx100 lx101 p251 = (F_DR_figures x2 x3 x4 x5 t0_0 t0_1 t0_2 t0_3 t0_4 t0_5 t0_6 t0_7 t0_8 t0_9 t0_10 t1_0 t2_0 t3_0) from Eq.trans (by have c207x := c207; rw [← e206] at c207x; rw [e252, F_DR_figures_J22.eq_1, if_neg c136, if_pos c207x]) hR131)
          have hS266 := (show True ∧ S_DR_figures_c59_4 (S_DR_figures_L3 x2 x3 x4 x5 t0_0 t0_1 t0_2 t0_3 t0_4 t0_5 t0_6 t0_7 t0_8 t0_9 t0_10 t1_0 t2_0 t3_0 fm86) x2 x3 x4 x5 t0_0 t0_1 t0_2 t0_3 t0_4 t0_5 t0_6 t0_7 t0_8 t0_9 t0_10 t1_0 t2_0 t3_0 lx40 lx41 lx42 lx43 lx44 lx45 lx46 lx47 lx48 lx49 lx50 lx51 lx52 lx90 lx91 lx92 lx93 lx94 lx95 lx96 lx97 lx98 lx99 lx100 lx101 p251 from (by rw [e252]; have h := hS132; rw [S_DR_figures_J22.eq_1] at h; rw [if_neg c136] at h; replace h := q_s2 h; replace h := q_s2 h; have c207x := c207; rw [← e206] at c207x; rw [if_pos c207x] at h; replace h := q_s2 h; with_reducible exact h))
          obtain ⟨a270, e271⟩ := q_nm (lx40 + 1 : Int32)
          have b272 : q_F (a270.toInt = lx40.toInt + 1) := (by rw [← e271]; exact q_addI (y := 1) rfl (by decide) (by have t1 : 0 ≤ lx40.toInt := b202; have t2 : lx40.toInt < x4.toInt := b89; have _ := q_lo32 (x := x4); have _ := q_hi32 (x := x4); omega) (by have t1 : 0 ≤ lx40.toInt := b202; have t2 : lx40.toInt < x4.toInt := b89; have _ := q_lo32 (x := x4); have _ := q_hi32 (x := x4); omega))
          refine lv_iinc (v := a270) (lv' := [(5, .int a270), (0, .ref (q 134)), (1, .int x2), (3, .int x4), (4, .int x5)]) hx hb d_15_50_62 hl (k := 0) rfl (e271) (by decide) rfl (fun ls hl => ?_)
          refine lv_goto (tgt := 3) hx hb d_15_50_65 (by decide) ?_
          exact ih76 ((a270 : Int32), (y213 : Int32), (y214 : Int32), (y215 : Int32), (y216 : Int64), (y217 : Int32), (y218 : Int32), (y219 : Int32), (y220 : Int32), (y221 : Int32), (y222 : Int32), (y223 : Int32), (f224 : (Nat → Int32))) _ _ _ _ (show (x4.toInt - a270.toInt).toNat < (x4.toInt - lx40.toInt).toNat from by have t1 : a270.toInt = lx40.toInt + 1 := b272; have t2 : lx40.toInt < x4.toInt := b89; omega) ⟨(show q_F (y222.toInt ≤ 12200) from (show y222.toInt ≤ 12200 from by have t1 : y222.toInt ≤ 12200 := b226; omega)), (show q_F (t0_0.toInt ≤ y213.toInt) from (show t0_0.toInt ≤ y213.toInt from by have t1 : t0_0.toInt ≤ lx41.toInt := i54; have t2 : lx41.toInt ≤ lx90.toInt := i108; have t3 : lx90.toInt ≤ y213.toInt := b227; omega)), (show q_F (y213.toInt ≤ t0_0.toInt) from (show y213.toInt ≤ t0_0.toInt from by have t1 : lx41.toInt ≤ t0_0.toInt := i55; have t2 : lx90.toInt ≤ lx41.toInt := i109; have t3 : y213.toInt ≤ lx90.toInt := b228; omega)), (show q_F (t0_1.toInt ≤ y214.toInt) from (show t0_1.toInt ≤ y214.toInt from by have t1 : t0_1.toInt ≤ lx42.toInt := i56; have t2 : lx42.toInt ≤ lx91.toInt := i110; have t3 : lx91.toInt ≤ y214.toInt := b229; omega)), (show q_F (y214.toInt ≤ t0_1.toInt) from (show y214.toInt ≤ t0_1.toInt from by have t1 : lx42.toInt ≤ t0_1.toInt := i57; have t2 : lx91.toInt ≤ lx42.toInt := i111; have t3 : y214.toInt ≤ lx91.toInt := b230; omega)), (show q_F (t0_2.toInt ≤ y215.toInt) from (show t0_2.toInt ≤ y215.toInt from by have t1 : t0_2.toInt ≤ lx43.toInt := i58; have t2 : lx43.toInt ≤ lx92.toInt := i112; have t3 : lx92.toInt ≤ y215.toInt := b231; omega)), (show q_F (y215.toInt ≤ t0_2.toInt) from (show y215.toInt ≤ t0_2.toInt from by have t1 : lx43.toInt ≤ t0_2.toInt := i59; have t2 : lx92.toInt ≤ lx43.toInt := i113; have t3 : y215.toInt ≤ lx92.toInt := b232; omega)), (show q_F (t0_3.toInt ≤ y216.toInt) from (show t0_3.toInt ≤ y216.toInt from by have t1 : t0_3.toInt ≤ lx44.toInt := i60; have t2 : lx44.toInt ≤ lx93.toInt := i114; have t3 : lx93.toInt ≤ y216.toInt := b233; omega)), (show q_F (y216.toInt ≤ t0_3.toInt) from (show y216.toInt ≤ t0_3.toInt from by have t1 : lx44.toInt ≤ t0_3.toInt := i61; have t2 : lx93.toInt ≤ lx44.toInt := i115; have t3 : y216.toInt ≤ lx93.toInt := b234; omega)), (show q_F (t0_4.toInt ≤ y217.toInt) from (show t0_4.toInt ≤ y217.toInt from by have t1 : t0_4.toInt ≤ lx45.toInt := i62; have t2 : lx45.toInt ≤ lx94.toInt := i116; have t3 : lx94.toInt ≤ y217.toInt := b235; omega)), (show q_F (y217.toInt ≤ t0_4.toInt) from (show y217.toInt ≤ t0_4.toInt from by have t1 : lx45.toInt ≤ t0_4.toInt := i63; have t2 : lx94.toInt ≤ lx45.toInt := i117; have t3 : y217.toInt ≤ lx94.toInt := b236; omega)), (show q_F (t0_5.toInt ≤ y218.toInt) from (show t0_5.toInt ≤ y218.toInt from by have t1 : t0_5.toInt ≤ lx46.toInt := i64; have t2 : lx46.toInt ≤ lx95.toInt := i118; have t3 : lx95.toInt ≤ y218.toInt := b237; omega)), (show q_F (y218.toInt ≤ t0_5.toInt) from (show y218.toInt ≤ t0_5.toInt from by have t1 : lx46.toInt ≤ t0_5.toInt := i65; have t2 : lx95.toInt ≤ lx46.toInt := i119; have t3 : y218.toInt ≤ lx95.toInt := b238; omega)), (show q_F (t0_6.toInt ≤ y219.toInt) from (show t0_6.toInt ≤ y219.toInt from by have t1 : t0_6.toInt ≤ lx47.toInt := i66; have t2 : lx47.toInt ≤ lx96.toInt := i120; have t3 : lx96.toInt ≤ y219.toInt := b239; omega)), (show q_F (y219.toInt ≤ t0_6.toInt) from (show y219.toInt ≤ t0_6.toInt from by have t1 : lx47.toInt ≤ t0_6.toInt := i67; have t2 : lx96.toInt ≤ lx47.toInt := i121; have t3 : y219.toInt ≤ lx96.toInt := b240; omega)), (show q_F (t0_7.toInt ≤ y220.toInt) from (show t0_7.toInt ≤ y220.toInt from by have t1 : t0_7.toInt ≤ lx48.toInt := i68; have t2 : lx48.toInt ≤ lx97.toInt := i122; have t3 : lx97.toInt ≤ y220.toInt := b241; omega)), (show q_F (y220.toInt ≤ t0_7.toInt) from (show y220.toInt ≤ t0_7.toInt from by have t1 : lx48.toInt ≤ t0_7.toInt := i69; have t2 : lx97.toInt ≤ lx48.toInt := i123; have t3 : y220.toInt ≤ lx97.toInt := b242; omega)), (show q_F (t0_8.toInt ≤ y221.toInt) from (show t0_8.toInt ≤ y221.toInt from by have t1 : t0_8.toInt ≤ lx49.toInt := i70; have t2 : lx49.toInt ≤ lx98.toInt := i124; have t3 : lx98.toInt ≤ y221.toInt := b243; omega)), (show q_F (y221.toInt ≤ t0_8.toInt) from (show y221.toInt ≤ t0_8.toInt from by have t1 : lx49.toInt ≤ t0_8.toInt := i71; have t2 : lx98.toInt ≤ lx49.toInt := i125; have t3 : y221.toInt ≤ lx98.toInt := b244; omega)), (show q_F (t0_10.toInt ≤ y223.toInt) from (show t0_10.toInt ≤ y223.toInt from by have t1 : t0_10.toInt ≤ lx51.toInt := i72; have t2 : lx51.toInt ≤ lx100.toInt := i128; have t3 : lx100.toInt ≤ y223.toInt := b247; omega)), (show q_F (y223.toInt ≤ t0_10.toInt) from (show y223.toInt ≤ t0_10.toInt from by have t1 : lx51.toInt ≤ t0_10.toInt := i73; have t2 : lx100.toInt ≤ lx51.toInt := i129; have t3 : y223.toInt ≤ lx100.toInt := b248; omega)), (show q_F (a270.toInt + t0_9.toInt ≤ y222.toInt + x3.toInt) from (show a270.toInt + t0_9.toInt ≤ y222.toInt + x3.toInt from by have t1 : lx40.toInt + t0_9.toInt ≤ lx50.toInt + x3.toInt := i74; have t2 : lx50.toInt ≤ lx99.toInt := i126; have t3 : lx99.toInt + 1 ≤ y222.toInt := b245; have t4 : a270.toInt = lx40.toInt + 1 := b272; omega)), (show q_F (y222.toInt + 2 * x3.toInt ≤ 2 * a270.toInt + t0_9.toInt) from (show y222.toInt + 2 * x3.toInt ≤ 2 * a270.toInt + t0_9.toInt from by have t1 : lx50.toInt + 2 * x3.toInt ≤ 2 * lx40.toInt + t0_9.toInt := i75; have t2 : lx99.toInt ≤ lx50.toInt + 1 := i127; have t3 : y222.toInt ≤ lx99.toInt + 1 := b246; have t4 : a270.toInt = lx40.toInt + 1 := b272; omega)), V, q_lw hl (q_lw1 0 rfl (q_lw1 1 rfl (q_lw1 2 rfl (q_lw1 3 rfl (q_lw1 4 rfl q_lw0))))), hI, hF, hO212, hA103, hA104, hA225, ⟨fm86, Nat.lt_of_lt_of_le (show (x4.toInt - a270.toInt).toNat < (x4.toInt - lx40.toInt).toNat from by have t1 : a270.toInt = lx40.toInt + 1 := b272; have t2 : lx40.toInt < x4.toInt := b89; omega) (Nat.le_of_lt_succ hf85), (show F_DR_figures_L3 x2 x3 x4 x5 t0_0 t0_1 t0_2 t0_3 t0_4 t0_5 t0_6 t0_7 t0_8 t0_9 t0_10 t1_0 t2_0 t3_0 fm86 a270 y213 y214 y215 y216 y217 y218 y219 y220 y221 y222 y223 f224 = (F_DR_figures x2 x3 x4 x5 t0_0 t0_1 t0_2 t0_3 t0_4 t0_5 t0_6 t0_7 t0_8 t0_9 t0_10 t1_0 t2_0 t3_0) from Eq.trans (by rw [← e271, e264, e263, e262, e261, e260, e259, e258, e257, e256, e255, e254, e253, F_DR_figures_c59_4.eq_1]) hR265), (show True ∧ S_DR_figures_L3 x2 x3 x4 x5 t0_0 t0_1 t0_2 t0_3 t0_4 t0_5 t0_6 t0_7 t0_8 t0_9 t0_10 t1_0 t2_0 t3_0 fm86 a270 y213 y214 y215 y216 y217 y218 y219 y220 y221 y222 y223 f224 from (by rw [← e271, e264, e263, e262, e261, e260, e259, e258, e257, e256, e255, e254, e253]; have h := hS266; rw [S_DR_figures_c59_4.eq_1] at h; with_reducible exact h))⟩⟩
        ·
          have b273 : q_F (lx40.toInt < a205.toInt) := (q_nleI c207)
          refine lv_aload_n hx hb d_15_50_41 rfl (lv_at hl 1 rfl) ?_
          refine q_get (ci := 14) (j := 3) (v := .ref (q 136)) C0 V i_DR rfl rfl hO102 (by decide) w_2002 rfl d_15_50_42 ?_
          refine lv_sipush (v := 1000) hx hb d_15_50_45 (by decide) ?_
          refine lv_iload_n hx hb d_15_50_48 rfl (lv_at hl 2 rfl) ?_
          refine lv_imul hx hb d_15_50_49 ?_
          obtain ⟨a274, e275⟩ := q_nm (1000 * x2 : Int32)
          refine q_ti (v := a274) e275 ?_
          refine lv_iload hx hb d_15_50_50 (lv_at hl 0 rfl) ?_
          refine lv_iadd hx hb d_15_50_52 ?_
          obtain ⟨a277, e278⟩ := q_nm (a274 + lx40 : Int32)
          refine q_ti (v := a277) e278 ?_
          have ob279 : q_F (0 ≤ a277.toInt) := (by rw [← e278, ← e275]; have h := hS132; rw [S_DR_figures_J22.eq_1] at h; rw [if_neg c136] at h; replace h := q_s2 h; replace h := q_s2 h; have c207x := c207; rw [← e206] at c207x; rw [if_neg c207x] at h; exact h.2.1)
          have ob280 : q_F (a277.toInt ≤ 9999) := (by rw [← e278, ← e275]; have h := hS132; rw [S_DR_figures_J22.eq_1] at h; rw [if_neg c136] at h; replace h := q_s2 h; replace h := q_s2 h; have c207x := c207; rw [← e206] at c207x; rw [if_neg c207x] at h; replace h := q_s2 h; exact h.2.1)
          refine q_iald C0 V hA103 (q_ix (x := a277.toInt) rfl (by first | with_reducible exact q_fe ob279 | (have t1 : 0 ≤ a277.toInt := ob279; omega)) (by have t1 : 0 ≤ a277.toInt := ob279; have t2 : a277.toInt ≤ 9999 := ob280; have e9 : (((10000 : Int32).toNatClampNeg : Nat) : Int) = 10000 := (by decide); omega)) d_15_50_53 ?_
          obtain ⟨a281, e282⟩ := q_nm (t1_0 a277.toNatClampNeg : Int32)
          refine q_ti (v := a281) e282 ?_
          refine lv_goto (tgt := 58) hx hb d_15_50_54 (by decide) ?_
          refine lv_iadd hx hb d_15_50_58 ?_
          obtain ⟨a283, e284⟩ := q_nm (48 + a281 : Int32)
          refine q_ti (v := a283) e284 ?_
          have ob285 : True ∧ S_DR_print a283 lx90 lx91 lx92 lx93 lx94 lx95 lx96 lx97 lx98 lx99 lx100 lx101 := (by rw [← e284, ← e282, ← e278, ← e275]; have h := hS132; rw [S_DR_figures_J22.eq_1] at h; rw [if_neg c136] at h; replace h := q_s2 h; replace h := q_s2 h; have c207x := c207; rw [← e206] at c207x; rw [if_neg c207x] at h; replace h := q_s2 h; replace h := q_s2 h; with_reducible exact h.2.1)
          refine q_gov V (q_runV (As := [.int a283]) (rest := []) (d := 1) (mc := 0) (ms := 0) (ci := 14) C0 V rfl LV_DR_189 (X_DR_print l D g q w130  a283 hI lx90 lx91 lx92 lx93 lx94 lx95 lx96 lx97 lx98 lx99 lx100 hO102 lx101 hA105 ob285 _) rfl rfl hO102 rfl hl.1 rfl (Nat.le_of_ble_eq_true rfl) ⟨by decide, by decide⟩ ⟨Nat.le_of_ble_eq_true rfl, Nat.le_of_ble_eq_true rfl⟩ d_15_50_59) (fun u286 H locs hp287 V => ?_)
          obtain ⟨hI, hZ9⟩ := hp287
          obtain ⟨hu326, hZ9⟩ := hZ9
          obtain ⟨y289, hZ9⟩ := hZ9
          obtain ⟨y290, hZ9⟩ := hZ9
          obtain ⟨y291, hZ9⟩ := hZ9
          obtain ⟨y292, hZ9⟩ := hZ9
          obtain ⟨y293, hZ9⟩ := hZ9
          obtain ⟨y294, hZ9⟩ := hZ9
          obtain ⟨y295, hZ9⟩ := hZ9
          obtain ⟨y296, hZ9⟩ := hZ9
          obtain ⟨y297, hZ9⟩ := hZ9
          obtain ⟨y298, hZ9⟩ := hZ9
          obtain ⟨y299, hZ9⟩ := hZ9
          obtain ⟨f300, hZ9⟩ := hZ9
          obtain ⟨hO288, hZ9⟩ := hZ9
          obtain ⟨hA301, hZ9⟩ := hZ9
          obtain ⟨b302, hZ9⟩ := hZ9
          obtain ⟨b303, hZ9⟩ := hZ9
          obtain ⟨b304, hZ9⟩ := hZ9
          obtain ⟨b305, hZ9⟩ := hZ9
          obtain ⟨b306, hZ9⟩ := hZ9
          obtain ⟨b307, hZ9⟩ := hZ9
          obtain ⟨b308, hZ9⟩ := hZ9
          obtain ⟨b309, hZ9⟩ := hZ9
          obtain ⟨b310, hZ9⟩ := hZ9
          obtain ⟨b311, hZ9⟩ := hZ9
          obtain ⟨b312, hZ9⟩ := hZ9
          obtain ⟨b313, hZ9⟩ := hZ9
          obtain ⟨b314, hZ9⟩ := hZ9
          obtain ⟨b315, hZ9⟩ := hZ9
          obtain ⟨b316, hZ9⟩ := hZ9
          obtain ⟨b317, hZ9⟩ := hZ9
          obtain ⟨b318, hZ9⟩ := hZ9
          obtain ⟨b319, hZ9⟩ := hZ9
          obtain ⟨b320, hZ9⟩ := hZ9
          obtain ⟨b321, hZ9⟩ := hZ9
          obtain ⟨b322, hZ9⟩ := hZ9
          obtain ⟨b323, hZ9⟩ := hZ9
          obtain ⟨b324, hE325⟩ := hZ9
          replace hO288 : u286[134]? = (some (q 134, .inr (14, [.int y289, .ref (q 135), .int y290, .ref (q 136), .ref (q 137), .ref (q 138), .ref (q 139), .ref (q 140), .int y291, .long y292, .int y293, .int y294, .ref (q 141), .int y295, .ref (q 142), .int y296, .ref (q 143), .int y297, .ref (q 144), .int y298, .int y299])) : Option (Nat × va_E)) := hO288
          replace hA301 : u286[144]? = (some (q 144, .inl (g 0, (12200 : Int32).toNatClampNeg, .inl f300)) : Option (Nat × va_E)) := hA301
          obtain ⟨p327, e328⟩ : ∃ z, z = (F_DR_print a283 lx90 lx91 lx92 lx93 lx94 lx95 lx96 lx97 lx98 lx99 lx100 lx101) := ⟨_, rfl⟩
          have e329 : y289 = p327.1 := congrArg (fun z => z.1) (hE325.trans e328.symm)
          have e330 : y290 = p327.2.1 := congrArg (fun z => z.2.1) (hE325.trans e328.symm)
          have e331 : y291 = p327.2.2.1 := congrArg (fun z => z.2.2.1) (hE325.trans e328.symm)
          have e332 : y292 = p327.2.2.2.1 := congrArg (fun z => z.2.2.2.1) (hE325.trans e328.symm)
          have e333 : y293 = p327.2.2.2.2.1 := congrArg (fun z => z.2.2.2.2.1) (hE325.trans e328.symm)
          have e334 : y294 = p327.2.2.2.2.2.1 := congrArg (fun z => z.2.2.2.2.2.1) (hE325.trans e328.symm)
          have e335 : y295 = p327.2.2.2.2.2.2.1 := congrArg (fun z => z.2.2.2.2.2.2.1) (hE325.trans e328.symm)
          have e336 : y296 = p327.2.2.2.2.2.2.2.1 := congrArg (fun z => z.2.2.2.2.2.2.2.1) (hE325.trans e328.symm)
          have e337 : y297 = p327.2.2.2.2.2.2.2.2.1 := congrArg (fun z => z.2.2.2.2.2.2.2.2.1) (hE325.trans e328.symm)
          have e338 : y298 = p327.2.2.2.2.2.2.2.2.2.1 := congrArg (fun z => z.2.2.2.2.2.2.2.2.2.1) (hE325.trans e328.symm)
          have e339 : y299 = p327.2.2.2.2.2.2.2.2.2.2.1 := congrArg (fun z => z.2.2.2.2.2.2.2.2.2.2.1) (hE325.trans e328.symm)
          have e340 : f300 = p327.2.2.2.2.2.2.2.2.2.2.2 := congrArg (fun z => z.2.2.2.2.2.2.2.2.2.2.2) (hE325.trans e328.symm)
          replace b302 : q_F (y298.toInt ≤ 12200) := b302
          replace b303 : q_F (lx90.toInt ≤ y289.toInt) := b303
          replace b304 : q_F (y289.toInt ≤ lx90.toInt) := b304
          replace b305 : q_F (lx91.toInt ≤ y290.toInt) := b305
          replace b306 : q_F (y290.toInt ≤ lx91.toInt) := b306
          replace b307 : q_F (lx92.toInt ≤ y291.toInt) := b307
          replace b308 : q_F (y291.toInt ≤ lx92.toInt) := b308
          replace b309 : q_F (lx93.toInt ≤ y292.toInt) := b309
          replace b310 : q_F (y292.toInt ≤ lx93.toInt) := b310
          replace b311 : q_F (lx94.toInt ≤ y293.toInt) := b311
          replace b312 : q_F (y293.toInt ≤ lx94.toInt) := b312
          replace b313 : q_F (lx95.toInt ≤ y294.toInt) := b313
          replace b314 : q_F (y294.toInt ≤ lx95.toInt) := b314
          replace b315 : q_F (lx96.toInt ≤ y295.toInt) := b315
          replace b316 : q_F (y295.toInt ≤ lx96.toInt) := b316
          replace b317 : q_F (lx97.toInt ≤ y296.toInt) := b317
          replace b318 : q_F (y296.toInt ≤ lx97.toInt) := b318
          replace b319 : q_F (lx98.toInt ≤ y297.toInt) := b319
          replace b320 : q_F (y297.toInt ≤ lx98.toInt) := b320
          replace b321 : q_F (lx99.toInt + 1 ≤ y298.toInt) := b321
          replace b322 : q_F (y298.toInt ≤ lx99.toInt + 1) := b322
          replace b323 : q_F (lx100.toInt ≤ y299.toInt) := b323
          replace b324 : q_F (y299.toInt ≤ lx100.toInt) := b324
          replace hA103 := (hu326 _ (by decide)).trans hA103
          replace hA104 := (hu326 _ (by decide)).trans hA104
          replace hF := q_uc hF hu326 (by simp)
          have hR341 := (show F_DR_figures_c59_5 (F_DR_figures_L3 x2 x3 x4 x5 t0_0 t0_1 t0_2 t0_3 t0_4 t0_5 t0_6 t0_7 t0_8 t0_9 t0_10 t1_0 t2_0 t3_0 fm86) x2 x3 x4 x5 t0_0 t0_1 t0_2 t0_3 t0_4 t0_5 t0_6 t0_7 t0_8 t0_9 t0_10 t1_0 t2_0 t3_0 lx40 lx41 lx42 lx43 lx44 lx45 lx46 lx47 lx48 lx49 lx50 lx51 lx52 lx90 lx91 lx92 lx93 lx94 lx95 lx96 lx97 lx98 lx99 lx100 lx101 p327 = (F_DR_figures x2 x3 x4 x5 t0_0 t0_1 t0_2 t0_3 t0_4 t0_5 t0_6 t0_7 t0_8 t0_9 t0_10 t1_0 t2_0 t3_0) from Eq.trans (by have c207x := c207; rw [← e206] at c207x; rw [e328, ← e284, ← e282, ← e278, ← e275, F_DR_figures_J22.eq_1, if_neg c136, if_neg c207x]) hR131)
          have hS342 := (show True ∧ S_DR_figures_c59_5 (S_DR_figures_L3 x2 x3 x4 x5 t0_0 t0_1 t0_2 t0_3 t0_4 t0_5 t0_6 t0_7 t0_8 t0_9 t0_10 t1_0 t2_0 t3_0 fm86) x2 x3 x4 x5 t0_0 t0_1 t0_2 t0_3 t0_4 t0_5 t0_6 t0_7 t0_8 t0_9 t0_10 t1_0 t2_0 t3_0 lx40 lx41 lx42 lx43 lx44 lx45 lx46 lx47 lx48 lx49 lx50 lx51 lx52 lx90 lx91 lx92 lx93 lx94 lx95 lx96 lx97 lx98 lx99 lx100 lx101 p327 from (by rw [e328, ← e284, ← e282, ← e278, ← e275]; have h := hS132; rw [S_DR_figures_J22.eq_1] at h; rw [if_neg c136] at h; replace h := q_s2 h; replace h := q_s2 h; have c207x := c207; rw [← e206] at c207x; rw [if_neg c207x] at h; replace h := q_s2 h; replace h := q_s2 h; replace h := q_s2 h; with_reducible exact h))
          obtain ⟨a346, e347⟩ := q_nm (lx40 + 1 : Int32)
          have b348 : q_F (a346.toInt = lx40.toInt + 1) := (by rw [← e347]; exact q_addI (y := 1) rfl (by decide) (by have t1 : 0 ≤ lx40.toInt := b202; have t2 : lx40.toInt < a205.toInt := b273; have _ := q_lo32 (x := a205); have _ := q_hi32 (x := a205); omega) (by have t1 : 0 ≤ lx40.toInt := b202; have t2 : lx40.toInt < a205.toInt := b273; have _ := q_lo32 (x := a205); have _ := q_hi32 (x := a205); omega))
          refine lv_iinc (v := a346) (lv' := [(5, .int a346), (0, .ref (q 134)), (1, .int x2), (3, .int x4), (4, .int x5)]) hx hb d_15_50_62 hl (k := 0) rfl (e347) (by decide) rfl (fun ls hl => ?_)
          refine lv_goto (tgt := 3) hx hb d_15_50_65 (by decide) ?_
          exact ih76 ((a346 : Int32), (y289 : Int32), (y290 : Int32), (y291 : Int32), (y292 : Int64), (y293 : Int32), (y294 : Int32), (y295 : Int32), (y296 : Int32), (y297 : Int32), (y298 : Int32), (y299 : Int32), (f300 : (Nat → Int32))) _ _ _ _ (show (x4.toInt - a346.toInt).toNat < (x4.toInt - lx40.toInt).toNat from by have t1 : a346.toInt = lx40.toInt + 1 := b348; have t2 : lx40.toInt < x4.toInt := b89; omega) ⟨(show q_F (y298.toInt ≤ 12200) from (show y298.toInt ≤ 12200 from by have t1 : y298.toInt ≤ 12200 := b302; omega)), (show q_F (t0_0.toInt ≤ y289.toInt) from (show t0_0.toInt ≤ y289.toInt from by have t1 : t0_0.toInt ≤ lx41.toInt := i54; have t2 : lx41.toInt ≤ lx90.toInt := i108; have t3 : lx90.toInt ≤ y289.toInt := b303; omega)), (show q_F (y289.toInt ≤ t0_0.toInt) from (show y289.toInt ≤ t0_0.toInt from by have t1 : lx41.toInt ≤ t0_0.toInt := i55; have t2 : lx90.toInt ≤ lx41.toInt := i109; have t3 : y289.toInt ≤ lx90.toInt := b304; omega)), (show q_F (t0_1.toInt ≤ y290.toInt) from (show t0_1.toInt ≤ y290.toInt from by have t1 : t0_1.toInt ≤ lx42.toInt := i56; have t2 : lx42.toInt ≤ lx91.toInt := i110; have t3 : lx91.toInt ≤ y290.toInt := b305; omega)), (show q_F (y290.toInt ≤ t0_1.toInt) from (show y290.toInt ≤ t0_1.toInt from by have t1 : lx42.toInt ≤ t0_1.toInt := i57; have t2 : lx91.toInt ≤ lx42.toInt := i111; have t3 : y290.toInt ≤ lx91.toInt := b306; omega)), (show q_F (t0_2.toInt ≤ y291.toInt) from (show t0_2.toInt ≤ y291.toInt from by have t1 : t0_2.toInt ≤ lx43.toInt := i58; have t2 : lx43.toInt ≤ lx92.toInt := i112; have t3 : lx92.toInt ≤ y291.toInt := b307; omega)), (show q_F (y291.toInt ≤ t0_2.toInt) from (show y291.toInt ≤ t0_2.toInt from by have t1 : lx43.toInt ≤ t0_2.toInt := i59; have t2 : lx92.toInt ≤ lx43.toInt := i113; have t3 : y291.toInt ≤ lx92.toInt := b308; omega)), (show q_F (t0_3.toInt ≤ y292.toInt) from (show t0_3.toInt ≤ y292.toInt from by have t1 : t0_3.toInt ≤ lx44.toInt := i60; have t2 : lx44.toInt ≤ lx93.toInt := i114; have t3 : lx93.toInt ≤ y292.toInt := b309; omega)), (show q_F (y292.toInt ≤ t0_3.toInt) from (show y292.toInt ≤ t0_3.toInt from by have t1 : lx44.toInt ≤ t0_3.toInt := i61; have t2 : lx93.toInt ≤ lx44.toInt := i115; have t3 : y292.toInt ≤ lx93.toInt := b310; omega)), (show q_F (t0_4.toInt ≤ y293.toInt) from (show t0_4.toInt ≤ y293.toInt from by have t1 : t0_4.toInt ≤ lx45.toInt := i62; have t2 : lx45.toInt ≤ lx94.toInt := i116; have t3 : lx94.toInt ≤ y293.toInt := b311; omega)), (show q_F (y293.toInt ≤ t0_4.toInt) from (show y293.toInt ≤ t0_4.toInt from by have t1 : lx45.toInt ≤ t0_4.toInt := i63; have t2 : lx94.toInt ≤ lx45.toInt := i117; have t3 : y293.toInt ≤ lx94.toInt := b312; omega)), (show q_F (t0_5.toInt ≤ y294.toInt) from (show t0_5.toInt ≤ y294.toInt from by have t1 : t0_5.toInt ≤ lx46.toInt := i64; have t2 : lx46.toInt ≤ lx95.toInt := i118; have t3 : lx95.toInt ≤ y294.toInt := b313; omega)), (show q_F (y294.toInt ≤ t0_5.toInt) from (show y294.toInt ≤ t0_5.toInt from by have t1 : lx46.toInt ≤ t0_5.toInt := i65; have t2 : lx95.toInt ≤ lx46.toInt := i119; have t3 : y294.toInt ≤ lx95.toInt := b314; omega)), (show q_F (t0_6.toInt ≤ y295.toInt) from (show t0_6.toInt ≤ y295.toInt from by have t1 : t0_6.toInt ≤ lx47.toInt := i66; have t2 : lx47.toInt ≤ lx96.toInt := i120; have t3 : lx96.toInt ≤ y295.toInt := b315; omega)), (show q_F (y295.toInt ≤ t0_6.toInt) from (show y295.toInt ≤ t0_6.toInt from by have t1 : lx47.toInt ≤ t0_6.toInt := i67; have t2 : lx96.toInt ≤ lx47.toInt := i121; have t3 : y295.toInt ≤ lx96.toInt := b316; omega)), (show q_F (t0_7.toInt ≤ y296.toInt) from (show t0_7.toInt ≤ y296.toInt from by have t1 : t0_7.toInt ≤ lx48.toInt := i68; have t2 : lx48.toInt ≤ lx97.toInt := i122; have t3 : lx97.toInt ≤ y296.toInt := b317; omega)), (show q_F (y296.toInt ≤ t0_7.toInt) from (show y296.toInt ≤ t0_7.toInt from by have t1 : lx48.toInt ≤ t0_7.toInt := i69; have t2 : lx97.toInt ≤ lx48.toInt := i123; have t3 : y296.toInt ≤ lx97.toInt := b318; omega)), (show q_F (t0_8.toInt ≤ y297.toInt) from (show t0_8.toInt ≤ y297.toInt from by have t1 : t0_8.toInt ≤ lx49.toInt := i70; have t2 : lx49.toInt ≤ lx98.toInt := i124; have t3 : lx98.toInt ≤ y297.toInt := b319; omega)), (show q_F (y297.toInt ≤ t0_8.toInt) from (show y297.toInt ≤ t0_8.toInt from by have t1 : lx49.toInt ≤ t0_8.toInt := i71; have t2 : lx98.toInt ≤ lx49.toInt := i125; have t3 : y297.toInt ≤ lx98.toInt := b320; omega)), (show q_F (t0_10.toInt ≤ y299.toInt) from (show t0_10.toInt ≤ y299.toInt from by have t1 : t0_10.toInt ≤ lx51.toInt := i72; have t2 : lx51.toInt ≤ lx100.toInt := i128; have t3 : lx100.toInt ≤ y299.toInt := b323; omega)), (show q_F (y299.toInt ≤ t0_10.toInt) from (show y299.toInt ≤ t0_10.toInt from by have t1 : lx51.toInt ≤ t0_10.toInt := i73; have t2 : lx100.toInt ≤ lx51.toInt := i129; have t3 : y299.toInt ≤ lx100.toInt := b324; omega)), (show q_F (a346.toInt + t0_9.toInt ≤ y298.toInt + x3.toInt) from (show a346.toInt + t0_9.toInt ≤ y298.toInt + x3.toInt from by have t1 : lx40.toInt + t0_9.toInt ≤ lx50.toInt + x3.toInt := i74; have t2 : lx50.toInt ≤ lx99.toInt := i126; have t3 : lx99.toInt + 1 ≤ y298.toInt := b321; have t4 : a346.toInt = lx40.toInt + 1 := b348; omega)), (show q_F (y298.toInt + 2 * x3.toInt ≤ 2 * a346.toInt + t0_9.toInt) from (show y298.toInt + 2 * x3.toInt ≤ 2 * a346.toInt + t0_9.toInt from by have t1 : lx50.toInt + 2 * x3.toInt ≤ 2 * lx40.toInt + t0_9.toInt := i75; have t2 : lx99.toInt ≤ lx50.toInt + 1 := i127; have t3 : y298.toInt ≤ lx99.toInt + 1 := b322; have t4 : a346.toInt = lx40.toInt + 1 := b348; omega)), V, q_lw hl (q_lw1 0 rfl (q_lw1 1 rfl (q_lw1 2 rfl (q_lw1 3 rfl (q_lw1 4 rfl q_lw0))))), hI, hF, hO288, hA103, hA104, hA301, ⟨fm86, Nat.lt_of_lt_of_le (show (x4.toInt - a346.toInt).toNat < (x4.toInt - lx40.toInt).toNat from by have t1 : a346.toInt = lx40.toInt + 1 := b348; have t2 : lx40.toInt < x4.toInt := b89; omega) (Nat.le_of_lt_succ hf85), (show F_DR_figures_L3 x2 x3 x4 x5 t0_0 t0_1 t0_2 t0_3 t0_4 t0_5 t0_6 t0_7 t0_8 t0_9 t0_10 t1_0 t2_0 t3_0 fm86 a346 y289 y290 y291 y292 y293 y294 y295 y296 y297 y298 y299 f300 = (F_DR_figures x2 x3 x4 x5 t0_0 t0_1 t0_2 t0_3 t0_4 t0_5 t0_6 t0_7 t0_8 t0_9 t0_10 t1_0 t2_0 t3_0) from Eq.trans (by rw [← e347, e340, e339, e338, e337, e336, e335, e334, e333, e332, e331, e330, e329, F_DR_figures_c59_5.eq_1]) hR341), (show True ∧ S_DR_figures_L3 x2 x3 x4 x5 t0_0 t0_1 t0_2 t0_3 t0_4 t0_5 t0_6 t0_7 t0_8 t0_9 t0_10 t1_0 t2_0 t3_0 fm86 a346 y289 y290 y291 y292 y293 y294 y295 y296 y297 y298 y299 f300 from (by rw [← e347, e340, e339, e338, e337, e336, e335, e334, e333, e332, e331, e330, e329]; have h := hS342; rw [S_DR_figures_c59_5.eq_1] at h; with_reducible exact h))⟩⟩
    ·
      intro J106
      refine lv_icmp_ne (tgt := 22) hx hb d_15_50_13 (by decide) (fun c349 => ?_) (fun c349 => ?_)
      ·
        exact J106 ((lx41 : Int32), (lx42 : Int32), (lx43 : Int32), (lx44 : Int64), (lx45 : Int32), (lx46 : Int32), (lx47 : Int32), (lx48 : Int32), (lx49 : Int32), (lx50 : Int32), (lx51 : Int32), (lx52 : (Nat → Int32))) _ _ _ _ ⟨(show q_F (lx50.toInt ≤ 12200) from (show lx50.toInt ≤ 12200 from by have t1 : lx50.toInt ≤ 12200 := i53; omega)), (show q_F (lx41.toInt ≤ lx41.toInt) from (show lx41.toInt ≤ lx41.toInt from by omega)), (show q_F (lx41.toInt ≤ lx41.toInt) from (show lx41.toInt ≤ lx41.toInt from by omega)), (show q_F (lx42.toInt ≤ lx42.toInt) from (show lx42.toInt ≤ lx42.toInt from by omega)), (show q_F (lx42.toInt ≤ lx42.toInt) from (show lx42.toInt ≤ lx42.toInt from by omega)), (show q_F (lx43.toInt ≤ lx43.toInt) from (show lx43.toInt ≤ lx43.toInt from by omega)), (show q_F (lx43.toInt ≤ lx43.toInt) from (show lx43.toInt ≤ lx43.toInt from by omega)), (show q_F (lx44.toInt ≤ lx44.toInt) from (show lx44.toInt ≤ lx44.toInt from by omega)), (show q_F (lx44.toInt ≤ lx44.toInt) from (show lx44.toInt ≤ lx44.toInt from by omega)), (show q_F (lx45.toInt ≤ lx45.toInt) from (show lx45.toInt ≤ lx45.toInt from by omega)), (show q_F (lx45.toInt ≤ lx45.toInt) from (show lx45.toInt ≤ lx45.toInt from by omega)), (show q_F (lx46.toInt ≤ lx46.toInt) from (show lx46.toInt ≤ lx46.toInt from by omega)), (show q_F (lx46.toInt ≤ lx46.toInt) from (show lx46.toInt ≤ lx46.toInt from by omega)), (show q_F (lx47.toInt ≤ lx47.toInt) from (show lx47.toInt ≤ lx47.toInt from by omega)), (show q_F (lx47.toInt ≤ lx47.toInt) from (show lx47.toInt ≤ lx47.toInt from by omega)), (show q_F (lx48.toInt ≤ lx48.toInt) from (show lx48.toInt ≤ lx48.toInt from by omega)), (show q_F (lx48.toInt ≤ lx48.toInt) from (show lx48.toInt ≤ lx48.toInt from by omega)), (show q_F (lx49.toInt ≤ lx49.toInt) from (show lx49.toInt ≤ lx49.toInt from by omega)), (show q_F (lx49.toInt ≤ lx49.toInt) from (show lx49.toInt ≤ lx49.toInt from by omega)), (show q_F (lx50.toInt ≤ lx50.toInt) from (show lx50.toInt ≤ lx50.toInt from by omega)), (show q_F (lx50.toInt ≤ lx50.toInt + 1) from (show lx50.toInt ≤ lx50.toInt + 1 from by omega)), (show q_F (lx51.toInt ≤ lx51.toInt) from (show lx51.toInt ≤ lx51.toInt from by omega)), (show q_F (lx51.toInt ≤ lx51.toInt) from (show lx51.toInt ≤ lx51.toInt from by omega)), V, q_lw hl (q_lw1 0 rfl (q_lw1 1 rfl (q_lw1 2 rfl (q_lw1 3 rfl (q_lw1 4 rfl q_lw0))))), hI, hF, hO78, hO79, hO80, hO81, (show F_DR_figures_J22 (F_DR_figures_L3 x2 x3 x4 x5 t0_0 t0_1 t0_2 t0_3 t0_4 t0_5 t0_6 t0_7 t0_8 t0_9 t0_10 t1_0 t2_0 t3_0 fm86) x2 x3 x4 x5 t0_0 t0_1 t0_2 t0_3 t0_4 t0_5 t0_6 t0_7 t0_8 t0_9 t0_10 t1_0 t2_0 t3_0 lx40 lx41 lx42 lx43 lx44 lx45 lx46 lx47 lx48 lx49 lx50 lx51 lx52 lx41 lx42 lx43 lx44 lx45 lx46 lx47 lx48 lx49 lx50 lx51 lx52 = (F_DR_figures x2 x3 x4 x5 t0_0 t0_1 t0_2 t0_3 t0_4 t0_5 t0_6 t0_7 t0_8 t0_9 t0_10 t1_0 t2_0 t3_0) from Eq.trans (by rw [F_DR_figures_L3.eq_2, if_neg c87, if_neg c349]) hR82), (show True ∧ S_DR_figures_J22 (S_DR_figures_L3 x2 x3 x4 x5 t0_0 t0_1 t0_2 t0_3 t0_4 t0_5 t0_6 t0_7 t0_8 t0_9 t0_10 t1_0 t2_0 t3_0 fm86) x2 x3 x4 x5 t0_0 t0_1 t0_2 t0_3 t0_4 t0_5 t0_6 t0_7 t0_8 t0_9 t0_10 t1_0 t2_0 t3_0 lx40 lx41 lx42 lx43 lx44 lx45 lx46 lx47 lx48 lx49 lx50 lx51 lx52 lx41 lx42 lx43 lx44 lx45 lx46 lx47 lx48 lx49 lx50 lx51 lx52 from (by have h := hS83; rw [S_DR_figures_L3.eq_2] at h; rw [if_neg c87] at h; rw [if_neg c349] at h; with_reducible exact h))⟩
      ·
        refine lv_aload_n hx hb d_15_50_16 rfl (lv_at hl 1 rfl) ?_
        refine lv_bipush (v := 46) hx hb d_15_50_17 (by decide) ?_
        have ob352 : True ∧ S_DR_print (46 : Int32) lx41 lx42 lx43 lx44 lx45 lx46 lx47 lx48 lx49 lx50 lx51 lx52 := (by have h := hS83; rw [S_DR_figures_L3.eq_2] at h; rw [if_neg c87] at h; rw [if_pos c349] at h; with_reducible exact h.2.1)
        refine q_gov V (q_runV (As := [.int 46]) (rest := []) (d := 1) (mc := 0) (ms := 0) (ci := 14) C0 V rfl LV_DR_189 (X_DR_print l D g q w77  46 hI lx41 lx42 lx43 lx44 lx45 lx46 lx47 lx48 lx49 lx50 lx51 hO78 lx52 hO81 ob352 _) rfl rfl hO78 rfl hl.1 rfl (Nat.le_of_ble_eq_true rfl) ⟨by decide, by decide⟩ ⟨Nat.le_of_ble_eq_true rfl, Nat.le_of_ble_eq_true rfl⟩ d_15_50_19) (fun u353 H locs hp354 V => ?_)
        obtain ⟨hI, hZ9⟩ := hp354
        obtain ⟨hu393, hZ9⟩ := hZ9
        obtain ⟨y356, hZ9⟩ := hZ9
        obtain ⟨y357, hZ9⟩ := hZ9
        obtain ⟨y358, hZ9⟩ := hZ9
        obtain ⟨y359, hZ9⟩ := hZ9
        obtain ⟨y360, hZ9⟩ := hZ9
        obtain ⟨y361, hZ9⟩ := hZ9
        obtain ⟨y362, hZ9⟩ := hZ9
        obtain ⟨y363, hZ9⟩ := hZ9
        obtain ⟨y364, hZ9⟩ := hZ9
        obtain ⟨y365, hZ9⟩ := hZ9
        obtain ⟨y366, hZ9⟩ := hZ9
        obtain ⟨f367, hZ9⟩ := hZ9
        obtain ⟨hO355, hZ9⟩ := hZ9
        obtain ⟨hA368, hZ9⟩ := hZ9
        obtain ⟨b369, hZ9⟩ := hZ9
        obtain ⟨b370, hZ9⟩ := hZ9
        obtain ⟨b371, hZ9⟩ := hZ9
        obtain ⟨b372, hZ9⟩ := hZ9
        obtain ⟨b373, hZ9⟩ := hZ9
        obtain ⟨b374, hZ9⟩ := hZ9
        obtain ⟨b375, hZ9⟩ := hZ9
        obtain ⟨b376, hZ9⟩ := hZ9
        obtain ⟨b377, hZ9⟩ := hZ9
        obtain ⟨b378, hZ9⟩ := hZ9
        obtain ⟨b379, hZ9⟩ := hZ9
        obtain ⟨b380, hZ9⟩ := hZ9
        obtain ⟨b381, hZ9⟩ := hZ9
        obtain ⟨b382, hZ9⟩ := hZ9
        obtain ⟨b383, hZ9⟩ := hZ9
        obtain ⟨b384, hZ9⟩ := hZ9
        obtain ⟨b385, hZ9⟩ := hZ9
        obtain ⟨b386, hZ9⟩ := hZ9
        obtain ⟨b387, hZ9⟩ := hZ9
        obtain ⟨b388, hZ9⟩ := hZ9
        obtain ⟨b389, hZ9⟩ := hZ9
        obtain ⟨b390, hZ9⟩ := hZ9
        obtain ⟨b391, hE392⟩ := hZ9
        replace hO355 : u353[134]? = (some (q 134, .inr (14, [.int y356, .ref (q 135), .int y357, .ref (q 136), .ref (q 137), .ref (q 138), .ref (q 139), .ref (q 140), .int y358, .long y359, .int y360, .int y361, .ref (q 141), .int y362, .ref (q 142), .int y363, .ref (q 143), .int y364, .ref (q 144), .int y365, .int y366])) : Option (Nat × va_E)) := hO355
        replace hA368 : u353[144]? = (some (q 144, .inl (g 0, (12200 : Int32).toNatClampNeg, .inl f367)) : Option (Nat × va_E)) := hA368
        obtain ⟨p394, e395⟩ : ∃ z, z = (F_DR_print (46 : Int32) lx41 lx42 lx43 lx44 lx45 lx46 lx47 lx48 lx49 lx50 lx51 lx52) := ⟨_, rfl⟩
        have e396 : y356 = p394.1 := congrArg (fun z => z.1) (hE392.trans e395.symm)
        have e397 : y357 = p394.2.1 := congrArg (fun z => z.2.1) (hE392.trans e395.symm)
        have e398 : y358 = p394.2.2.1 := congrArg (fun z => z.2.2.1) (hE392.trans e395.symm)
        have e399 : y359 = p394.2.2.2.1 := congrArg (fun z => z.2.2.2.1) (hE392.trans e395.symm)
        have e400 : y360 = p394.2.2.2.2.1 := congrArg (fun z => z.2.2.2.2.1) (hE392.trans e395.symm)
        have e401 : y361 = p394.2.2.2.2.2.1 := congrArg (fun z => z.2.2.2.2.2.1) (hE392.trans e395.symm)
        have e402 : y362 = p394.2.2.2.2.2.2.1 := congrArg (fun z => z.2.2.2.2.2.2.1) (hE392.trans e395.symm)
        have e403 : y363 = p394.2.2.2.2.2.2.2.1 := congrArg (fun z => z.2.2.2.2.2.2.2.1) (hE392.trans e395.symm)
        have e404 : y364 = p394.2.2.2.2.2.2.2.2.1 := congrArg (fun z => z.2.2.2.2.2.2.2.2.1) (hE392.trans e395.symm)
        have e405 : y365 = p394.2.2.2.2.2.2.2.2.2.1 := congrArg (fun z => z.2.2.2.2.2.2.2.2.2.1) (hE392.trans e395.symm)
        have e406 : y366 = p394.2.2.2.2.2.2.2.2.2.2.1 := congrArg (fun z => z.2.2.2.2.2.2.2.2.2.2.1) (hE392.trans e395.symm)
        have e407 : f367 = p394.2.2.2.2.2.2.2.2.2.2.2 := congrArg (fun z => z.2.2.2.2.2.2.2.2.2.2.2) (hE392.trans e395.symm)
        replace b369 : q_F (y365.toInt ≤ 12200) := b369
        replace b370 : q_F (lx41.toInt ≤ y356.toInt) := b370
        replace b371 : q_F (y356.toInt ≤ lx41.toInt) := b371
        replace b372 : q_F (lx42.toInt ≤ y357.toInt) := b372
        replace b373 : q_F (y357.toInt ≤ lx42.toInt) := b373
        replace b374 : q_F (lx43.toInt ≤ y358.toInt) := b374
        replace b375 : q_F (y358.toInt ≤ lx43.toInt) := b375
        replace b376 : q_F (lx44.toInt ≤ y359.toInt) := b376
        replace b377 : q_F (y359.toInt ≤ lx44.toInt) := b377
        replace b378 : q_F (lx45.toInt ≤ y360.toInt) := b378
        replace b379 : q_F (y360.toInt ≤ lx45.toInt) := b379
        replace b380 : q_F (lx46.toInt ≤ y361.toInt) := b380
        replace b381 : q_F (y361.toInt ≤ lx46.toInt) := b381
        replace b382 : q_F (lx47.toInt ≤ y362.toInt) := b382
        replace b383 : q_F (y362.toInt ≤ lx47.toInt) := b383
        replace b384 : q_F (lx48.toInt ≤ y363.toInt) := b384
        replace b385 : q_F (y363.toInt ≤ lx48.toInt) := b385
        replace b386 : q_F (lx49.toInt ≤ y364.toInt) := b386
        replace b387 : q_F (y364.toInt ≤ lx49.toInt) := b387
        replace b388 : q_F (lx50.toInt + 1 ≤ y365.toInt) := b388
        replace b389 : q_F (y365.toInt ≤ lx50.toInt + 1) := b389
        replace b390 : q_F (lx51.toInt ≤ y366.toInt) := b390
        replace b391 : q_F (y366.toInt ≤ lx51.toInt) := b391
        replace hO79 := (hu393 _ (by decide)).trans hO79
        replace hO80 := (hu393 _ (by decide)).trans hO80
        replace hF := q_uc hF hu393 (by simp)
        have hR408 := (show F_DR_figures_c19 (F_DR_figures_L3 x2 x3 x4 x5 t0_0 t0_1 t0_2 t0_3 t0_4 t0_5 t0_6 t0_7 t0_8 t0_9 t0_10 t1_0 t2_0 t3_0 fm86) x2 x3 x4 x5 t0_0 t0_1 t0_2 t0_3 t0_4 t0_5 t0_6 t0_7 t0_8 t0_9 t0_10 t1_0 t2_0 t3_0 lx40 lx41 lx42 lx43 lx44 lx45 lx46 lx47 lx48 lx49 lx50 lx51 lx52 p394 = (F_DR_figures x2 x3 x4 x5 t0_0 t0_1 t0_2 t0_3 t0_4 t0_5 t0_6 t0_7 t0_8 t0_9 t0_10 t1_0 t2_0 t3_0) from Eq.trans (by rw [e395, F_DR_figures_L3.eq_2, if_neg c87, if_pos c349]) hR82)
        have hS409 := (show True ∧ S_DR_figures_c19 (S_DR_figures_L3 x2 x3 x4 x5 t0_0 t0_1 t0_2 t0_3 t0_4 t0_5 t0_6 t0_7 t0_8 t0_9 t0_10 t1_0 t2_0 t3_0 fm86) x2 x3 x4 x5 t0_0 t0_1 t0_2 t0_3 t0_4 t0_5 t0_6 t0_7 t0_8 t0_9 t0_10 t1_0 t2_0 t3_0 lx40 lx41 lx42 lx43 lx44 lx45 lx46 lx47 lx48 lx49 lx50 lx51 lx52 p394 from (by rw [e395]; have h := hS83; rw [S_DR_figures_L3.eq_2] at h; rw [if_neg c87] at h; rw [if_pos c349] at h; replace h := q_s2 h; with_reducible exact h))
        exact J106 ((y356 : Int32), (y357 : Int32), (y358 : Int32), (y359 : Int64), (y360 : Int32), (y361 : Int32), (y362 : Int32), (y363 : Int32), (y364 : Int32), (y365 : Int32), (y366 : Int32), (f367 : (Nat → Int32))) _ _ _ _ ⟨(show q_F (y365.toInt ≤ 12200) from (show y365.toInt ≤ 12200 from by have t1 : y365.toInt ≤ 12200 := b369; omega)), (show q_F (lx41.toInt ≤ y356.toInt) from (show lx41.toInt ≤ y356.toInt from by have t1 : lx41.toInt ≤ y356.toInt := b370; omega)), (show q_F (y356.toInt ≤ lx41.toInt) from (show y356.toInt ≤ lx41.toInt from by have t1 : y356.toInt ≤ lx41.toInt := b371; omega)), (show q_F (lx42.toInt ≤ y357.toInt) from (show lx42.toInt ≤ y357.toInt from by have t1 : lx42.toInt ≤ y357.toInt := b372; omega)), (show q_F (y357.toInt ≤ lx42.toInt) from (show y357.toInt ≤ lx42.toInt from by have t1 : y357.toInt ≤ lx42.toInt := b373; omega)), (show q_F (lx43.toInt ≤ y358.toInt) from (show lx43.toInt ≤ y358.toInt from by have t1 : lx43.toInt ≤ y358.toInt := b374; omega)), (show q_F (y358.toInt ≤ lx43.toInt) from (show y358.toInt ≤ lx43.toInt from by have t1 : y358.toInt ≤ lx43.toInt := b375; omega)), (show q_F (lx44.toInt ≤ y359.toInt) from (show lx44.toInt ≤ y359.toInt from by have t1 : lx44.toInt ≤ y359.toInt := b376; omega)), (show q_F (y359.toInt ≤ lx44.toInt) from (show y359.toInt ≤ lx44.toInt from by have t1 : y359.toInt ≤ lx44.toInt := b377; omega)), (show q_F (lx45.toInt ≤ y360.toInt) from (show lx45.toInt ≤ y360.toInt from by have t1 : lx45.toInt ≤ y360.toInt := b378; omega)), (show q_F (y360.toInt ≤ lx45.toInt) from (show y360.toInt ≤ lx45.toInt from by have t1 : y360.toInt ≤ lx45.toInt := b379; omega)), (show q_F (lx46.toInt ≤ y361.toInt) from (show lx46.toInt ≤ y361.toInt from by have t1 : lx46.toInt ≤ y361.toInt := b380; omega)), (show q_F (y361.toInt ≤ lx46.toInt) from (show y361.toInt ≤ lx46.toInt from by have t1 : y361.toInt ≤ lx46.toInt := b381; omega)), (show q_F (lx47.toInt ≤ y362.toInt) from (show lx47.toInt ≤ y362.toInt from by have t1 : lx47.toInt ≤ y362.toInt := b382; omega)), (show q_F (y362.toInt ≤ lx47.toInt) from (show y362.toInt ≤ lx47.toInt from by have t1 : y362.toInt ≤ lx47.toInt := b383; omega)), (show q_F (lx48.toInt ≤ y363.toInt) from (show lx48.toInt ≤ y363.toInt from by have t1 : lx48.toInt ≤ y363.toInt := b384; omega)), (show q_F (y363.toInt ≤ lx48.toInt) from (show y363.toInt ≤ lx48.toInt from by have t1 : y363.toInt ≤ lx48.toInt := b385; omega)), (show q_F (lx49.toInt ≤ y364.toInt) from (show lx49.toInt ≤ y364.toInt from by have t1 : lx49.toInt ≤ y364.toInt := b386; omega)), (show q_F (y364.toInt ≤ lx49.toInt) from (show y364.toInt ≤ lx49.toInt from by have t1 : y364.toInt ≤ lx49.toInt := b387; omega)), (show q_F (lx50.toInt ≤ y365.toInt) from (show lx50.toInt ≤ y365.toInt from by have t1 : lx50.toInt + 1 ≤ y365.toInt := b388; omega)), (show q_F (y365.toInt ≤ lx50.toInt + 1) from (show y365.toInt ≤ lx50.toInt + 1 from by have t1 : y365.toInt ≤ lx50.toInt + 1 := b389; omega)), (show q_F (lx51.toInt ≤ y366.toInt) from (show lx51.toInt ≤ y366.toInt from by have t1 : lx51.toInt ≤ y366.toInt := b390; omega)), (show q_F (y366.toInt ≤ lx51.toInt) from (show y366.toInt ≤ lx51.toInt from by have t1 : y366.toInt ≤ lx51.toInt := b391; omega)), V, q_lw hl (q_lw1 0 rfl (q_lw1 1 rfl (q_lw1 2 rfl (q_lw1 3 rfl (q_lw1 4 rfl q_lw0))))), hI, hF, hO355, hO79, hO80, hA368, (show F_DR_figures_J22 (F_DR_figures_L3 x2 x3 x4 x5 t0_0 t0_1 t0_2 t0_3 t0_4 t0_5 t0_6 t0_7 t0_8 t0_9 t0_10 t1_0 t2_0 t3_0 fm86) x2 x3 x4 x5 t0_0 t0_1 t0_2 t0_3 t0_4 t0_5 t0_6 t0_7 t0_8 t0_9 t0_10 t1_0 t2_0 t3_0 lx40 lx41 lx42 lx43 lx44 lx45 lx46 lx47 lx48 lx49 lx50 lx51 lx52 y356 y357 y358 y359 y360 y361 y362 y363 y364 y365 y366 f367 = (F_DR_figures x2 x3 x4 x5 t0_0 t0_1 t0_2 t0_3 t0_4 t0_5 t0_6 t0_7 t0_8 t0_9 t0_10 t1_0 t2_0 t3_0) from Eq.trans (by rw [e407, e406, e405, e404, e403, e402, e401, e400, e399, e398, e397, e396, F_DR_figures_c19.eq_1]) hR408), (show True ∧ S_DR_figures_J22 (S_DR_figures_L3 x2 x3 x4 x5 t0_0 t0_1 t0_2 t0_3 t0_4 t0_5 t0_6 t0_7 t0_8 t0_9 t0_10 t1_0 t2_0 t3_0 fm86) x2 x3 x4 x5 t0_0 t0_1 t0_2 t0_3 t0_4 t0_5 t0_6 t0_7 t0_8 t0_9 t0_10 t1_0 t2_0 t3_0 lx40 lx41 lx42 lx43 lx44 lx45 lx46 lx47 lx48 lx49 lx50 lx51 lx52 y356 y357 y358 y359 y360 y361 y362 y363 y364 y365 y366 f367 from (by rw [e407, e406, e405, e404, e403, e402, e401, e400, e399, e398, e397, e396]; have h := hS409; rw [S_DR_figures_c19.eq_1] at h; with_reducible exact h))⟩

