/-! the reference on a fresh object: format -/
theorem d_14_7_0 : decode prog_14_method_7_code 0 = .ok (.iconst 0, 1) := by decide +kernel
theorem d_14_7_1 : decode prog_14_method_7_code 1 = .ok (.istore_n 3, 1) := by decide +kernel
theorem d_14_7_2 : decode prog_14_method_7_code 2 = .ok (.iload_n 3, 1) := by decide +kernel
theorem d_14_7_3 : decode prog_14_method_7_code 3 = .ok (.iload_n 1, 1) := by decide +kernel
theorem d_14_7_4 : decode prog_14_method_7_code 4 = .ok (.if_icmp .ge 15, 3) := by decide +kernel
theorem d_14_7_19 : decode prog_14_method_7_code 19 = .ok (.iload_n 1, 1) := by decide +kernel
theorem d_14_7_20 : decode prog_14_method_7_code 20 = .ok (.ireturn, 1) := by decide +kernel
def y_NM_load : MethodName := ⟨"NumberHouseModel", "load", "([II[I)I"⟩
set_option maxRecDepth 100000 in
set_option maxHeartbeats 4000000 in
theorem c_NM_load (l : Launch) (D : va_G) (g : Nat → ClassId) (ws : va_W) ( qA0 qA1 : Nat) : q_mI l y_NM_load prog_14_method_7_code 4 (.int) 1 0 0 D g [.ref qA0, .int 0, .ref qA1] ws (fun r u => 0 = r ∧ ws = u) := by
  intro sz
  refine q_into (by decide) (Nat.le_of_ble_eq_true rfl) ?_
  intro p e s m below meth c ls hsz C0 V hl
  have hx := C0.1
  have hb := C0.2.1
  have hl : lv_has ls 4 [(0, .ref qA0), (1, .int 0), (2, .ref qA1)] := hl
  refine lv_iconst (v := 0) hx hb d_14_7_0 (by decide) ?_
  refine lv_istore_n (lv' := [(3, .int 0), (0, .ref qA0), (1, .int 0), (2, .ref qA1)]) hx hb d_14_7_1 rfl hl (by decide) rfl (fun ls hl => ?_)
  refine lv_iload_n hx hb d_14_7_2 rfl (lv_at hl 0 rfl) ?_
  refine lv_iload_n hx hb d_14_7_3 rfl (lv_at hl 2 rfl) ?_
  refine lv_icmp_ge (tgt := 19) hx hb d_14_7_4 (by decide) (fun c1 => ?_) (fun c1 => absurd (by decide) c1)
  refine lv_iload_n hx hb d_14_7_19 rfl (lv_at hl 2 rfl) ?_
  exact q_reti C0 V (⟨rfl, rfl⟩) d_14_7_20
theorem d_16_40_0 : decode prog_16_method_40_code 0 = .ok (.aload_n 0, 1) := by decide +kernel
theorem d_16_40_1 : decode prog_16_method_40_code 1 = .ok (.iconst 0, 1) := by decide +kernel
theorem d_16_40_2 : decode prog_16_method_40_code 2 = .ok (.putfield 57, 3) := by decide +kernel
theorem w_2218 : (Cond.fieldLink "NumberHouseModel$DirectiveRows" (57 : Nat) "NumberHouseModel$DirectiveRows" "at" "I") ∈ q_tbl := q_of 2218 (by decide +kernel) (by decide +kernel)
theorem d_16_40_5 : decode prog_16_method_40_code 5 = .ok (.aload_n 0, 1) := by decide +kernel
theorem d_16_40_6 : decode prog_16_method_40_code 6 = .ok (.iconst 0, 1) := by decide +kernel
theorem d_16_40_7 : decode prog_16_method_40_code 7 = .ok (.putfield 116, 3) := by decide +kernel
theorem w_2226 : (Cond.fieldLink "NumberHouseModel$DirectiveRows" (116 : Nat) "NumberHouseModel$DirectiveRows" "next" "I") ∈ q_tbl := q_of 2226 (by decide +kernel) (by decide +kernel)
theorem d_16_40_10 : decode prog_16_method_40_code 10 = .ok (.aload_n 0, 1) := by decide +kernel
theorem d_16_40_11 : decode prog_16_method_40_code 11 = .ok (.iconst (-1), 1) := by decide +kernel
theorem d_16_40_12 : decode prog_16_method_40_code 12 = .ok (.putfield 110, 3) := by decide +kernel
theorem w_2227 : (Cond.fieldLink "NumberHouseModel$DirectiveRows" (110 : Nat) "NumberHouseModel$DirectiveRows" "latest" "I") ∈ q_tbl := q_of 2227 (by decide +kernel) (by decide +kernel)
theorem d_16_40_15 : decode prog_16_method_40_code 15 = .ok (.aload_n 0, 1) := by decide +kernel
theorem d_16_40_16 : decode prog_16_method_40_code 16 = .ok (.iconst 0, 1) := by decide +kernel
theorem d_16_40_17 : decode prog_16_method_40_code 17 = .ok (.putfield 195, 3) := by decide +kernel
theorem w_2213 : (Cond.fieldLink "NumberHouseModel$DirectiveRows" (195 : Nat) "NumberHouseModel$DirectiveRows" "drawn" "I") ∈ q_tbl := q_of 2213 (by decide +kernel) (by decide +kernel)
theorem d_16_40_20 : decode prog_16_method_40_code 20 = .ok (.aload_n 0, 1) := by decide +kernel
theorem d_16_40_21 : decode prog_16_method_40_code 21 = .ok (.iconst 0, 1) := by decide +kernel
theorem d_16_40_22 : decode prog_16_method_40_code 22 = .ok (.putfield 198, 3) := by decide +kernel
theorem w_2215 : (Cond.fieldLink "NumberHouseModel$DirectiveRows" (198 : Nat) "NumberHouseModel$DirectiveRows" "fault" "I") ∈ q_tbl := q_of 2215 (by decide +kernel) (by decide +kernel)
theorem d_16_40_25 : decode prog_16_method_40_code 25 = .ok (.iconst (-1), 1) := by decide +kernel
theorem d_16_40_26 : decode prog_16_method_40_code 26 = .ok (.istore_n 1, 1) := by decide +kernel
theorem d_16_40_27 : decode prog_16_method_40_code 27 = .ok (.aload_n 0, 1) := by decide +kernel
theorem d_16_40_28 : decode prog_16_method_40_code 28 = .ok (.getfield 57, 3) := by decide +kernel
theorem d_16_40_31 : decode prog_16_method_40_code 31 = .ok (.aload_n 0, 1) := by decide +kernel
theorem d_16_40_32 : decode prog_16_method_40_code 32 = .ok (.getfield 45, 3) := by decide +kernel
theorem w_2201 : (Cond.fieldLink "NumberHouseModel$DirectiveRows" (45 : Nat) "NumberHouseModel$DirectiveRows" "length" "I") ∈ q_tbl := q_of 2201 (by decide +kernel) (by decide +kernel)
theorem d_16_40_35 : decode prog_16_method_40_code 35 = .ok (.if_icmp .ge 152, 3) := by decide +kernel
theorem d_16_40_187 : decode prog_16_method_40_code 187 = .ok (.iconst (-1), 1) := by decide +kernel
theorem d_16_40_188 : decode prog_16_method_40_code 188 = .ok (.ireturn, 1) := by decide +kernel
def y_VR_run : MethodName := ⟨"NumberHouseModel$DirectiveRows", "run", "()I"⟩
set_option maxRecDepth 100000 in
set_option maxHeartbeats 4000000 in
theorem c_VR_run (l : Launch) (D : va_G) (g : Nat → ClassId) (ws : va_W) (kO0 qO0 qA1 qA2 qA3 qA4 qA5 qA6 qA7 qA8 qA9 : Nat) (hO0 : ws[kO0]? = (some (qO0, .inr (17, [.int 0, .ref qA1, .int 0, .int 0, .ref qA2, .ref qA3, .ref qA4, .ref qA5, .ref qA6, .int 0, .ref qA7, .int 0, .int 0, .int (-1), .int 0, .int 0, .int 0, .int 0, .int 0, .int 0, .int 0, .int 0, .int 0, .int 0, .ref qA8, .int 0, .int 0, .int 0, .ref qA9, .int 0, .int 0])) : Option (Nat × va_E))) : q_mI l y_VR_run prog_16_method_40_code 3 (.int) 1 0 0 D g [.ref qO0] ws (fun r u => (-1) = r ∧ q_un ws u [kO0] ∧ u[kO0]? = (some (qO0, .inr (17, [.int 0, .ref qA1, .int 0, .int 0, .ref qA2, .ref qA3, .ref qA4, .ref qA5, .ref qA6, .int 0, .ref qA7, .int 0, .int 0, .int (-1), .int 0, .int 0, .int 0, .int 0, .int 0, .int 0, .int 0, .int 0, .int 0, .int (-1), .ref qA8, .int 0, .int 0, .int 0, .ref qA9, .int 0, .int 0])) : Option (Nat × va_E))) := by
  intro sz
  refine q_into (by decide) (Nat.le_of_ble_eq_true rfl) ?_
  intro p e s m below meth c ls hsz C0 V hl
  have hx := C0.1
  have hb := C0.2.1
  have hl : lv_has ls 3 [(0, .ref qO0)] := hl
  have hF : q_un ws ws [kO0] := q_u0
  refine lv_aload_n hx hb d_16_40_0 rfl (lv_at hl 0 rfl) ?_
  refine lv_iconst (v := 0) hx hb d_16_40_1 (by decide) ?_
  refine q_put (ci := 17) (j := 14) (v := .int 0) (ty := .int) C0 V i_VR o_VR n_VR rfl rfl hO0 (by decide) w_2218 rfl rfl rfl rfl (Nat.le_of_ble_eq_true rfl) d_16_40_2 (fun H locs w1 hu2 hO0 V => ?_)
  replace hO0 : w1[kO0]? = (some (qO0, .inr (17, [.int 0, .ref qA1, .int 0, .int 0, .ref qA2, .ref qA3, .ref qA4, .ref qA5, .ref qA6, .int 0, .ref qA7, .int 0, .int 0, .int (-1), .int 0, .int 0, .int 0, .int 0, .int 0, .int 0, .int 0, .int 0, .int 0, .int 0, .ref qA8, .int 0, .int 0, .int 0, .ref qA9, .int 0, .int 0])) : Option (Nat × va_E)) := hO0
  replace hF := q_us hF hu2 (.head _)
  refine lv_aload_n hx hb d_16_40_5 rfl (lv_at hl 0 rfl) ?_
  refine lv_iconst (v := 0) hx hb d_16_40_6 (by decide) ?_
  refine q_put (ci := 17) (j := 22) (v := .int 0) (ty := .int) C0 V i_VR o_VR n_VR rfl rfl hO0 (by decide) w_2226 rfl rfl rfl rfl (Nat.le_of_ble_eq_true rfl) d_16_40_7 (fun H locs w3 hu4 hO0 V => ?_)
  replace hO0 : w3[kO0]? = (some (qO0, .inr (17, [.int 0, .ref qA1, .int 0, .int 0, .ref qA2, .ref qA3, .ref qA4, .ref qA5, .ref qA6, .int 0, .ref qA7, .int 0, .int 0, .int (-1), .int 0, .int 0, .int 0, .int 0, .int 0, .int 0, .int 0, .int 0, .int 0, .int 0, .ref qA8, .int 0, .int 0, .int 0, .ref qA9, .int 0, .int 0])) : Option (Nat × va_E)) := hO0
  replace hF := q_us hF hu4 (.head _)
  refine lv_aload_n hx hb d_16_40_10 rfl (lv_at hl 0 rfl) ?_
  refine lv_iconst (v := (-1)) hx hb d_16_40_11 (by decide) ?_
  refine q_put (ci := 17) (j := 23) (v := .int (-1)) (ty := .int) C0 V i_VR o_VR n_VR rfl rfl hO0 (by decide) w_2227 rfl rfl rfl rfl (Nat.le_of_ble_eq_true rfl) d_16_40_12 (fun H locs w5 hu6 hO0 V => ?_)
  replace hO0 : w5[kO0]? = (some (qO0, .inr (17, [.int 0, .ref qA1, .int 0, .int 0, .ref qA2, .ref qA3, .ref qA4, .ref qA5, .ref qA6, .int 0, .ref qA7, .int 0, .int 0, .int (-1), .int 0, .int 0, .int 0, .int 0, .int 0, .int 0, .int 0, .int 0, .int 0, .int (-1), .ref qA8, .int 0, .int 0, .int 0, .ref qA9, .int 0, .int 0])) : Option (Nat × va_E)) := hO0
  replace hF := q_us hF hu6 (.head _)
  refine lv_aload_n hx hb d_16_40_15 rfl (lv_at hl 0 rfl) ?_
  refine lv_iconst (v := 0) hx hb d_16_40_16 (by decide) ?_
  refine q_put (ci := 17) (j := 11) (v := .int 0) (ty := .int) C0 V i_VR o_VR n_VR rfl rfl hO0 (by decide) w_2213 rfl rfl rfl rfl (Nat.le_of_ble_eq_true rfl) d_16_40_17 (fun H locs w7 hu8 hO0 V => ?_)
  replace hO0 : w7[kO0]? = (some (qO0, .inr (17, [.int 0, .ref qA1, .int 0, .int 0, .ref qA2, .ref qA3, .ref qA4, .ref qA5, .ref qA6, .int 0, .ref qA7, .int 0, .int 0, .int (-1), .int 0, .int 0, .int 0, .int 0, .int 0, .int 0, .int 0, .int 0, .int 0, .int (-1), .ref qA8, .int 0, .int 0, .int 0, .ref qA9, .int 0, .int 0])) : Option (Nat × va_E)) := hO0
  replace hF := q_us hF hu8 (.head _)
  refine lv_aload_n hx hb d_16_40_20 rfl (lv_at hl 0 rfl) ?_
  refine lv_iconst (v := 0) hx hb d_16_40_21 (by decide) ?_
  refine q_put (ci := 17) (j := 12) (v := .int 0) (ty := .int) C0 V i_VR o_VR n_VR rfl rfl hO0 (by decide) w_2215 rfl rfl rfl rfl (Nat.le_of_ble_eq_true rfl) d_16_40_22 (fun H locs w9 hu10 hO0 V => ?_)
  replace hO0 : w9[kO0]? = (some (qO0, .inr (17, [.int 0, .ref qA1, .int 0, .int 0, .ref qA2, .ref qA3, .ref qA4, .ref qA5, .ref qA6, .int 0, .ref qA7, .int 0, .int 0, .int (-1), .int 0, .int 0, .int 0, .int 0, .int 0, .int 0, .int 0, .int 0, .int 0, .int (-1), .ref qA8, .int 0, .int 0, .int 0, .ref qA9, .int 0, .int 0])) : Option (Nat × va_E)) := hO0
  replace hF := q_us hF hu10 (.head _)
  refine lv_iconst (v := (-1)) hx hb d_16_40_25 (by decide) ?_
  refine lv_istore_n (lv' := [(1, .int (-1)), (0, .ref qO0)]) hx hb d_16_40_26 rfl hl (by decide) rfl (fun ls hl => ?_)
  refine lv_aload_n hx hb d_16_40_27 rfl (lv_at hl 1 rfl) ?_
  refine q_get (ci := 17) (j := 14) (v := .int 0) C0 V i_VR rfl rfl hO0 (by decide) w_2218 rfl d_16_40_28 ?_
  refine lv_aload_n hx hb d_16_40_31 rfl (lv_at hl 1 rfl) ?_
  refine q_get (ci := 17) (j := 2) (v := .int 0) C0 V i_VR rfl rfl hO0 (by decide) w_2201 rfl d_16_40_32 ?_
  refine lv_icmp_ge (tgt := 187) hx hb d_16_40_35 (by decide) (fun c11 => ?_) (fun c11 => absurd (by decide) c11)
  refine lv_iconst (v := (-1)) hx hb d_16_40_187 (by decide) ?_
  exact q_reti C0 V (⟨rfl, hF, hO0⟩) d_16_40_188
theorem d_16_41_0 : decode prog_16_method_41_code 0 = .ok (.aload_n 0, 1) := by decide +kernel
theorem d_16_41_1 : decode prog_16_method_41_code 1 = .ok (.iconst 0, 1) := by decide +kernel
theorem d_16_41_2 : decode prog_16_method_41_code 2 = .ok (.putfield 42, 3) := by decide +kernel
theorem w_2198 : (Cond.fieldLink "NumberHouseModel$DirectiveRows" (42 : Nat) "NumberHouseModel$DirectiveRows" "thrown" "I") ∈ q_tbl := q_of 2198 (by decide +kernel) (by decide +kernel)
theorem d_16_41_5 : decode prog_16_method_41_code 5 = .ok (.aload_n 0, 1) := by decide +kernel
theorem d_16_41_6 : decode prog_16_method_41_code 6 = .ok (.aload_n 0, 1) := by decide +kernel
theorem d_16_41_7 : decode prog_16_method_41_code 7 = .ok (.invokevirtual 210, 3) := by decide +kernel
theorem w_3119 : (Cond.code ({ cls := "NumberHouseModel$DirectiveRows", name := "run", desc := "()I" } : MethodName) prog_16_method_40_code (3 : Nat) (some .int)) ∈ q_tbl := q_of 3119 (by decide +kernel) (by decide +kernel)
theorem w_3116 : (Cond.methodLink "NumberHouseModel$DirectiveRows" (210 : Nat) ({ cls := "NumberHouseModel$DirectiveRows", name := "run", desc := "()I" } : MethodName)) ∈ q_tbl := q_of 3116 (by decide +kernel) (by decide +kernel)
theorem w_3118 : (Cond.instanceMethod ({ cls := "NumberHouseModel$DirectiveRows", name := "run", desc := "()I" } : MethodName)) ∈ q_tbl := q_of 3118 (by decide +kernel) (by decide +kernel)
theorem ws_151 : Cond.selects "NumberHouseModel$DirectiveRows" (⟨"NumberHouseModel$DirectiveRows", "run", "()I"⟩ : MethodName) (⟨"NumberHouseModel$DirectiveRows", "run", "()I"⟩ : MethodName) ∈ q_tbl := q_ofs 151 (by decide +kernel) (by decide +kernel)
theorem LV_VR_210 : q_LV "NumberHouseModel$DirectiveRows" 210 y_VR_run prog_16_method_40_code 3 (some .int) 0 := ⟨w_3119, w_19, w_3116, w_3118, ws_151, ⟨by decide, by decide, by decide +kernel⟩⟩
theorem d_16_41_10 : decode prog_16_method_41_code 10 = .ok (.putfield 32, 3) := by decide +kernel
theorem d_16_41_13 : decode prog_16_method_41_code 13 = .ok (.aload_n 0, 1) := by decide +kernel
theorem d_16_41_14 : decode prog_16_method_41_code 14 = .ok (.aload_n 0, 1) := by decide +kernel
theorem d_16_41_15 : decode prog_16_method_41_code 15 = .ok (.getfield 198, 3) := by decide +kernel
theorem d_16_41_18 : decode prog_16_method_41_code 18 = .ok (.ifCond .le 7, 3) := by decide +kernel
theorem d_16_41_25 : decode prog_16_method_41_code 25 = .ok (.aload_n 0, 1) := by decide +kernel
theorem d_16_41_26 : decode prog_16_method_41_code 26 = .ok (.getfield 195, 3) := by decide +kernel
theorem d_16_41_29 : decode prog_16_method_41_code 29 = .ok (.putfield 213, 3) := by decide +kernel
theorem w_2211 : (Cond.fieldLink "NumberHouseModel$DirectiveRows" (213 : Nat) "NumberHouseModel$DirectiveRows" "printed" "I") ∈ q_tbl := q_of 2211 (by decide +kernel) (by decide +kernel)
theorem d_16_41_32 : decode prog_16_method_41_code 32 = .ok (.aload_n 0, 1) := by decide +kernel
theorem d_16_41_33 : decode prog_16_method_41_code 33 = .ok (.getfield 198, 3) := by decide +kernel
theorem d_16_41_36 : decode prog_16_method_41_code 36 = .ok (.ifCond .le 5, 3) := by decide +kernel
theorem d_16_41_41 : decode prog_16_method_41_code 41 = .ok (.iconst 0, 1) := by decide +kernel
theorem d_16_41_42 : decode prog_16_method_41_code 42 = .ok (.istore_n 1, 1) := by decide +kernel
theorem d_16_41_43 : decode prog_16_method_41_code 43 = .ok (.iload_n 1, 1) := by decide +kernel
theorem d_16_41_44 : decode prog_16_method_41_code 44 = .ok (.aload_n 0, 1) := by decide +kernel
theorem d_16_41_45 : decode prog_16_method_41_code 45 = .ok (.getfield 195, 3) := by decide +kernel
theorem d_16_41_48 : decode prog_16_method_41_code 48 = .ok (.if_icmp .ge 21, 3) := by decide +kernel
theorem d_16_41_69 : decode prog_16_method_41_code 69 = .ok (.aload_n 0, 1) := by decide +kernel
theorem d_16_41_70 : decode prog_16_method_41_code 70 = .ok (.getfield 213, 3) := by decide +kernel
theorem d_16_41_73 : decode prog_16_method_41_code 73 = .ok (.ireturn, 1) := by decide +kernel
def y_VR_print : MethodName := ⟨"NumberHouseModel$DirectiveRows", "print", "()I"⟩
set_option maxRecDepth 100000 in
set_option maxHeartbeats 4000000 in
theorem c_VR_print (l : Launch) (D : va_G) (g : Nat → ClassId) (ws : va_W) (kO0 qO0 qA1 qA2 qA3 qA4 qA5 qA6 qA7 qA8 qA9 : Nat) (hO0 : ws[kO0]? = (some (qO0, .inr (17, [.int 0, .ref qA1, .int 0, .int 0, .ref qA2, .ref qA3, .ref qA4, .ref qA5, .ref qA6, .int 0, .ref qA7, .int 0, .int 0, .int (-1), .int 0, .int 0, .int 0, .int 0, .int 0, .int 0, .int 0, .int 0, .int 0, .int 0, .ref qA8, .int 0, .int 0, .int 0, .ref qA9, .int 0, .int 0])) : Option (Nat × va_E))) : q_mI l y_VR_print prog_16_method_41_code 2 (.int) 2 0 0 D g [.ref qO0] ws (fun r u => 0 = r ∧ q_un ws u [kO0] ∧ u[kO0]? = (some (qO0, .inr (17, [.int 0, .ref qA1, .int 0, .int 0, .ref qA2, .ref qA3, .ref qA4, .ref qA5, .ref qA6, .int 0, .ref qA7, .int 0, .int 0, .int (-1), .int 0, .int 0, .int 0, .int 0, .int 0, .int 0, .int 0, .int 0, .int 0, .int (-1), .ref qA8, .int 0, .int 0, .int 0, .ref qA9, .int 0, .int 0])) : Option (Nat × va_E))) := by
  intro sz
  refine q_into (by decide) (Nat.le_of_ble_eq_true rfl) ?_
  intro p e s m below meth c ls hsz C0 V hl
  have hx := C0.1
  have hb := C0.2.1
  have hl : lv_has ls 2 [(0, .ref qO0)] := hl
  have hF : q_un ws ws [kO0] := q_u0
  refine lv_aload_n hx hb d_16_41_0 rfl (lv_at hl 0 rfl) ?_
  refine lv_iconst (v := 0) hx hb d_16_41_1 (by decide) ?_
  refine q_put (ci := 17) (j := 0) (v := .int 0) (ty := .int) C0 V i_VR o_VR n_VR rfl rfl hO0 (by decide) w_2198 rfl rfl rfl rfl (Nat.le_of_ble_eq_true rfl) d_16_41_2 (fun H locs w1 hu2 hO0 V => ?_)
  replace hO0 : w1[kO0]? = (some (qO0, .inr (17, [.int 0, .ref qA1, .int 0, .int 0, .ref qA2, .ref qA3, .ref qA4, .ref qA5, .ref qA6, .int 0, .ref qA7, .int 0, .int 0, .int (-1), .int 0, .int 0, .int 0, .int 0, .int 0, .int 0, .int 0, .int 0, .int 0, .int 0, .ref qA8, .int 0, .int 0, .int 0, .ref qA9, .int 0, .int 0])) : Option (Nat × va_E)) := hO0
  replace hF := q_us hF hu2 (.head _)
  refine lv_aload_n hx hb d_16_41_5 rfl (lv_at hl 0 rfl) ?_
  refine lv_aload_n hx hb d_16_41_6 rfl (lv_at hl 0 rfl) ?_
  refine q_goi V (q_runV (As := []) (rest := [.ref qO0]) (d := 1) (mc := 0) (ms := 0) (ci := 17) C0 V rfl LV_VR_210 (c_VR_run l D g w1 kO0 qO0 qA1 qA2 qA3 qA4 qA5 qA6 qA7 qA8 qA9 hO0 _) rfl rfl hO0 rfl hl.1 rfl (Nat.le_of_ble_eq_true rfl) ⟨by decide, by decide⟩ ⟨Nat.le_of_ble_eq_true rfl, Nat.le_of_ble_eq_true rfl⟩ d_16_41_7) (fun v5 u4 H locs hp3 V => ?_)
  obtain ⟨rfl, hg6, hO0⟩ := hp3
  replace hF := q_uc hF hg6 (q_sc (.head _) (fun _ h => absurd h List.not_mem_nil))
  refine q_put (ci := 17) (j := 13) (v := .int (-1)) (ty := .int) C0 V i_VR o_VR n_VR rfl rfl hO0 (by decide) w_2216 rfl rfl rfl rfl (Nat.le_of_ble_eq_true rfl) d_16_41_10 (fun H locs w7 hu8 hO0 V => ?_)
  replace hO0 : w7[kO0]? = (some (qO0, .inr (17, [.int 0, .ref qA1, .int 0, .int 0, .ref qA2, .ref qA3, .ref qA4, .ref qA5, .ref qA6, .int 0, .ref qA7, .int 0, .int 0, .int (-1), .int 0, .int 0, .int 0, .int 0, .int 0, .int 0, .int 0, .int 0, .int 0, .int (-1), .ref qA8, .int 0, .int 0, .int 0, .ref qA9, .int 0, .int 0])) : Option (Nat × va_E)) := hO0
  replace hF := q_us hF hu8 (.head _)
  refine lv_aload_n hx hb d_16_41_13 rfl (lv_at hl 0 rfl) ?_
  refine lv_aload_n hx hb d_16_41_14 rfl (lv_at hl 0 rfl) ?_
  refine q_get (ci := 17) (j := 12) (v := .int 0) C0 V i_VR rfl rfl hO0 (by decide) w_2215 rfl d_16_41_15 ?_
  refine lv_if_le (tgt := 25) hx hb d_16_41_18 (by decide) (fun c9 => ?_) (fun c9 => absurd (by decide) c9)
  refine lv_aload_n hx hb d_16_41_25 rfl (lv_at hl 0 rfl) ?_
  refine q_get (ci := 17) (j := 11) (v := .int 0) C0 V i_VR rfl rfl hO0 (by decide) w_2213 rfl d_16_41_26 ?_
  refine q_put (ci := 17) (j := 9) (v := .int 0) (ty := .int) C0 V i_VR o_VR n_VR rfl rfl hO0 (by decide) w_2211 rfl rfl rfl rfl (Nat.le_of_ble_eq_true rfl) d_16_41_29 (fun H locs w10 hu11 hO0 V => ?_)
  replace hO0 : w10[kO0]? = (some (qO0, .inr (17, [.int 0, .ref qA1, .int 0, .int 0, .ref qA2, .ref qA3, .ref qA4, .ref qA5, .ref qA6, .int 0, .ref qA7, .int 0, .int 0, .int (-1), .int 0, .int 0, .int 0, .int 0, .int 0, .int 0, .int 0, .int 0, .int 0, .int (-1), .ref qA8, .int 0, .int 0, .int 0, .ref qA9, .int 0, .int 0])) : Option (Nat × va_E)) := hO0
  replace hF := q_us hF hu11 (.head _)
  refine lv_aload_n hx hb d_16_41_32 rfl (lv_at hl 0 rfl) ?_
  refine q_get (ci := 17) (j := 12) (v := .int 0) C0 V i_VR rfl rfl hO0 (by decide) w_2215 rfl d_16_41_33 ?_
  refine lv_if_le (tgt := 41) hx hb d_16_41_36 (by decide) (fun c12 => ?_) (fun c12 => absurd (by decide) c12)
  refine lv_iconst (v := 0) hx hb d_16_41_41 (by decide) ?_
  refine lv_istore_n (lv' := [(1, .int 0), (0, .ref qO0)]) hx hb d_16_41_42 rfl hl (by decide) rfl (fun ls hl => ?_)
  refine lv_iload_n hx hb d_16_41_43 rfl (lv_at hl 0 rfl) ?_
  refine lv_aload_n hx hb d_16_41_44 rfl (lv_at hl 1 rfl) ?_
  refine q_get (ci := 17) (j := 11) (v := .int 0) C0 V i_VR rfl rfl hO0 (by decide) w_2213 rfl d_16_41_45 ?_
  refine lv_icmp_ge (tgt := 69) hx hb d_16_41_48 (by decide) (fun c13 => ?_) (fun c13 => absurd (by decide) c13)
  refine lv_aload_n hx hb d_16_41_69 rfl (lv_at hl 1 rfl) ?_
  refine q_get (ci := 17) (j := 9) (v := .int 0) C0 V i_VR rfl rfl hO0 (by decide) w_2211 rfl d_16_41_70 ?_
  exact q_reti C0 V (⟨rfl, hF, hO0⟩) d_16_41_73
theorem d_14_5_0 : decode prog_14_method_5_code 0 = .ok (.iconst 0, 1) := by decide +kernel
theorem d_14_5_1 : decode prog_14_method_5_code 1 = .ok (.istore_n 3, 1) := by decide +kernel
theorem d_14_5_2 : decode prog_14_method_5_code 2 = .ok (.iload_n 3, 1) := by decide +kernel
theorem d_14_5_3 : decode prog_14_method_5_code 3 = .ok (.iload_n 2, 1) := by decide +kernel
theorem d_14_5_4 : decode prog_14_method_5_code 4 = .ok (.if_icmp .ge 18, 3) := by decide +kernel
theorem d_14_5_22 : decode prog_14_method_5_code 22 = .ok (.aload_n 0, 1) := by decide +kernel
theorem d_14_5_23 : decode prog_14_method_5_code 23 = .ok (.iload_n 2, 1) := by decide +kernel
theorem d_14_5_24 : decode prog_14_method_5_code 24 = .ok (.putfield 67, 3) := by decide +kernel
theorem d_14_5_27 : decode prog_14_method_5_code 27 = .ok (.iload_n 2, 1) := by decide +kernel
theorem d_14_5_28 : decode prog_14_method_5_code 28 = .ok (.ireturn, 1) := by decide +kernel
def y_NM_show : MethodName := ⟨"NumberHouseModel", "show", "([II)I"⟩
set_option maxRecDepth 100000 in
set_option maxHeartbeats 4000000 in
theorem c_NM_show (l : Launch) (D : va_G) (g : Nat → ClassId) (ws : va_W) ( qO0 qA1 qA2 qA3 qO4 qO5 qO6 qO7 qO8 qA9 qA10 : Nat) (hO0 : ws[116]? = (some (qO0, .inr (12, [.int 0, .ref qA2, .int 0, .ref qA3, .int 0, .ref qO4, .ref qO5, .ref qO6, .ref qO7, .ref qO8, .ref qA9, .ref qA10])) : Option (Nat × va_E))) : q_mI l y_NM_show prog_14_method_5_code 4 (.int) 1 0 0 D g [.ref qO0, .ref qA1, .int 0] ws (fun r u => 0 = r ∧ q_un ws u [116] ∧ u[116]? = (some (qO0, .inr (12, [.int 0, .ref qA2, .int 0, .ref qA3, .int 0, .ref qO4, .ref qO5, .ref qO6, .ref qO7, .ref qO8, .ref qA9, .ref qA10])) : Option (Nat × va_E))) := by
  intro sz
  refine q_into (by decide) (Nat.le_of_ble_eq_true rfl) ?_
  intro p e s m below meth c ls hsz C0 V hl
  have hx := C0.1
  have hb := C0.2.1
  have hl : lv_has ls 4 [(0, .ref qO0), (1, .ref qA1), (2, .int 0)] := hl
  have hF : q_un ws ws [116] := q_u0
  refine lv_iconst (v := 0) hx hb d_14_5_0 (by decide) ?_
  refine lv_istore_n (lv' := [(3, .int 0), (0, .ref qO0), (1, .ref qA1), (2, .int 0)]) hx hb d_14_5_1 rfl hl (by decide) rfl (fun ls hl => ?_)
  refine lv_iload_n hx hb d_14_5_2 rfl (lv_at hl 0 rfl) ?_
  refine lv_iload_n hx hb d_14_5_3 rfl (lv_at hl 3 rfl) ?_
  refine lv_icmp_ge (tgt := 22) hx hb d_14_5_4 (by decide) (fun c1 => ?_) (fun c1 => absurd (by decide) c1)
  refine lv_aload_n hx hb d_14_5_22 rfl (lv_at hl 1 rfl) ?_
  refine lv_iload_n hx hb d_14_5_23 rfl (lv_at hl 3 rfl) ?_
  refine q_put (ci := 12) (j := 4) (v := .int 0) (ty := .int) C0 V i_NM o_NM n_NM rfl rfl hO0 (by decide) w_2302 rfl rfl rfl rfl (Nat.le_of_ble_eq_true rfl) d_14_5_24 (fun H locs w2 hu3 hO0 V => ?_)
  replace hO0 : w2[116]? = (some (qO0, .inr (12, [.int 0, .ref qA2, .int 0, .ref qA3, .int 0, .ref qO4, .ref qO5, .ref qO6, .ref qO7, .ref qO8, .ref qA9, .ref qA10])) : Option (Nat × va_E)) := hO0
  replace hF := q_us hF hu3 (.head _)
  refine lv_iload_n hx hb d_14_5_27 rfl (lv_at hl 3 rfl) ?_
  exact q_reti C0 V (⟨rfl, hF, hO0⟩) d_14_5_28
theorem d_14_38_0 : decode prog_14_method_38_code 0 = .ok (.aload_n 0, 1) := by decide +kernel
theorem d_14_38_1 : decode prog_14_method_38_code 1 = .ok (.aload_n 0, 1) := by decide +kernel
theorem d_14_38_2 : decode prog_14_method_38_code 2 = .ok (.getfield 62, 3) := by decide +kernel
theorem d_14_38_5 : decode prog_14_method_38_code 5 = .ok (.sipush 256, 3) := by decide +kernel
theorem d_14_38_8 : decode prog_14_method_38_code 8 = .ok (.if_icmp .le 7, 3) := by decide +kernel
theorem d_14_38_15 : decode prog_14_method_38_code 15 = .ok (.iconst 0, 1) := by decide +kernel
theorem d_14_38_16 : decode prog_14_method_38_code 16 = .ok (.putfield 58, 3) := by decide +kernel
theorem d_14_38_19 : decode prog_14_method_38_code 19 = .ok (.aload_n 0, 1) := by decide +kernel
theorem d_14_38_20 : decode prog_14_method_38_code 20 = .ok (.getfield 58, 3) := by decide +kernel
theorem d_14_38_23 : decode prog_14_method_38_code 23 = .ok (.ifCond .le 5, 3) := by decide +kernel
theorem d_14_38_28 : decode prog_14_method_38_code 28 = .ok (.aload_n 0, 1) := by decide +kernel
theorem d_14_38_29 : decode prog_14_method_38_code 29 = .ok (.getfield 47, 3) := by decide +kernel
theorem d_14_38_32 : decode prog_14_method_38_code 32 = .ok (.aload_n 0, 1) := by decide +kernel
theorem d_14_38_33 : decode prog_14_method_38_code 33 = .ok (.getfield 7, 3) := by decide +kernel
theorem d_14_38_36 : decode prog_14_method_38_code 36 = .ok (.aload_n 0, 1) := by decide +kernel
theorem d_14_38_37 : decode prog_14_method_38_code 37 = .ok (.getfield 62, 3) := by decide +kernel
theorem d_14_38_40 : decode prog_14_method_38_code 40 = .ok (.aload_n 0, 1) := by decide +kernel
theorem d_14_38_41 : decode prog_14_method_38_code 41 = .ok (.getfield 47, 3) := by decide +kernel
theorem d_14_38_44 : decode prog_14_method_38_code 44 = .ok (.getfield 325, 3) := by decide +kernel
theorem wo_2200 : (Cond.fieldLinkNest "NumberHouseModel" (325 : Nat) "NumberHouseModel$DirectiveRows" "format" "[I" "NumberHouseModel") ∈ q_odd := q_oo 2200 (by decide +kernel) (by decide +kernel)
theorem d_14_38_47 : decode prog_14_method_38_code 47 = .ok (.invokestatic 90, 3) := by decide +kernel
theorem w_2364 : (Cond.code ({ cls := "NumberHouseModel", name := "load", desc := "([II[I)I" } : MethodName) prog_14_method_7_code (4 : Nat) (some .int)) ∈ q_tbl := q_of 2364 (by decide +kernel) (by decide +kernel)
theorem w_14 : (Cond.initialized "NumberHouseModel") ∈ q_tbl := q_of 14 (by decide +kernel) (by decide +kernel)
theorem w_2362 : (Cond.methodLink "NumberHouseModel" (90 : Nat) ({ cls := "NumberHouseModel", name := "load", desc := "([II[I)I" } : MethodName)) ∈ q_tbl := q_of 2362 (by decide +kernel) (by decide +kernel)
theorem w_2363 : (Cond.static ({ cls := "NumberHouseModel", name := "load", desc := "([II[I)I" } : MethodName)) ∈ q_tbl := q_of 2363 (by decide +kernel) (by decide +kernel)
theorem LS_NM_90 : q_LS "NumberHouseModel" 90 y_NM_load prog_14_method_7_code 4 (some .int) 3 := ⟨w_2364, w_14, w_2362, w_2363, ⟨by decide, by decide, by decide +kernel⟩⟩
theorem d_14_38_50 : decode prog_14_method_38_code 50 = .ok (.putfield 328, 3) := by decide +kernel
theorem wo_2202 : (Cond.fieldLinkNest "NumberHouseModel" (328 : Nat) "NumberHouseModel$DirectiveRows" "length" "I" "NumberHouseModel") ∈ q_odd := q_oo 2202 (by decide +kernel) (by decide +kernel)
theorem d_14_38_53 : decode prog_14_method_38_code 53 = .ok (.aload_n 0, 1) := by decide +kernel
theorem d_14_38_54 : decode prog_14_method_38_code 54 = .ok (.getfield 47, 3) := by decide +kernel
theorem d_14_38_57 : decode prog_14_method_38_code 57 = .ok (.invokevirtual 334, 3) := by decide +kernel
theorem w_3115 : (Cond.code ({ cls := "NumberHouseModel$DirectiveRows", name := "print", desc := "()I" } : MethodName) prog_16_method_41_code (2 : Nat) (some .int)) ∈ q_tbl := q_of 3115 (by decide +kernel) (by decide +kernel)
theorem w_3112 : (Cond.methodLink "NumberHouseModel" (334 : Nat) ({ cls := "NumberHouseModel$DirectiveRows", name := "print", desc := "()I" } : MethodName)) ∈ q_tbl := q_of 3112 (by decide +kernel) (by decide +kernel)
theorem w_3113 : (Cond.instanceMethod ({ cls := "NumberHouseModel$DirectiveRows", name := "print", desc := "()I" } : MethodName)) ∈ q_tbl := q_of 3113 (by decide +kernel) (by decide +kernel)
theorem w_3114 : (Cond.selects "NumberHouseModel$DirectiveRows" ({ cls := "NumberHouseModel$DirectiveRows", name := "print", desc := "()I" } : MethodName) ({ cls := "NumberHouseModel$DirectiveRows", name := "print", desc := "()I" } : MethodName)) ∈ q_tbl := q_of 3114 (by decide +kernel) (by decide +kernel)
theorem LV_NM_334 : q_LV "NumberHouseModel" 334 y_VR_print prog_16_method_41_code 2 (some .int) 0 := ⟨w_3115, w_19, w_3112, w_3113, w_3114, ⟨by decide, by decide, by decide +kernel⟩⟩
theorem d_14_38_60 : decode prog_14_method_38_code 60 = .ok (.istore_n 1, 1) := by decide +kernel
theorem d_14_38_61 : decode prog_14_method_38_code 61 = .ok (.aload_n 0, 1) := by decide +kernel
theorem d_14_38_62 : decode prog_14_method_38_code 62 = .ok (.getfield 47, 3) := by decide +kernel
theorem d_14_38_65 : decode prog_14_method_38_code 65 = .ok (.iconst 0, 1) := by decide +kernel
theorem d_14_38_66 : decode prog_14_method_38_code 66 = .ok (.putfield 328, 3) := by decide +kernel
theorem d_14_38_69 : decode prog_14_method_38_code 69 = .ok (.iload_n 1, 1) := by decide +kernel
theorem d_14_38_70 : decode prog_14_method_38_code 70 = .ok (.ifCond .ge 28, 3) := by decide +kernel
theorem d_14_38_98 : decode prog_14_method_38_code 98 = .ok (.aload_n 0, 1) := by decide +kernel
theorem d_14_38_99 : decode prog_14_method_38_code 99 = .ok (.iconst 0, 1) := by decide +kernel
theorem d_14_38_100 : decode prog_14_method_38_code 100 = .ok (.putfield 62, 3) := by decide +kernel
theorem d_14_38_103 : decode prog_14_method_38_code 103 = .ok (.aload_n 0, 1) := by decide +kernel
theorem d_14_38_104 : decode prog_14_method_38_code 104 = .ok (.aload_n 0, 1) := by decide +kernel
theorem d_14_38_105 : decode prog_14_method_38_code 105 = .ok (.getfield 47, 3) := by decide +kernel
theorem d_14_38_108 : decode prog_14_method_38_code 108 = .ok (.getfield 342, 3) := by decide +kernel
theorem wo_2210 : (Cond.fieldLinkNest "NumberHouseModel" (342 : Nat) "NumberHouseModel$DirectiveRows" "paper" "[I" "NumberHouseModel") ∈ q_odd := q_oo 2210 (by decide +kernel) (by decide +kernel)
theorem d_14_38_111 : decode prog_14_method_38_code 111 = .ok (.iload_n 1, 1) := by decide +kernel
theorem d_14_38_112 : decode prog_14_method_38_code 112 = .ok (.invokevirtual 269, 3) := by decide +kernel
theorem w_3018 : (Cond.code ({ cls := "NumberHouseModel", name := "show", desc := "([II)I" } : MethodName) prog_14_method_5_code (4 : Nat) (some .int)) ∈ q_tbl := q_of 3018 (by decide +kernel) (by decide +kernel)
theorem w_3015 : (Cond.methodLink "NumberHouseModel" (269 : Nat) ({ cls := "NumberHouseModel", name := "show", desc := "([II)I" } : MethodName)) ∈ q_tbl := q_of 3015 (by decide +kernel) (by decide +kernel)
theorem w_3017 : (Cond.instanceMethod ({ cls := "NumberHouseModel", name := "show", desc := "([II)I" } : MethodName)) ∈ q_tbl := q_of 3017 (by decide +kernel) (by decide +kernel)
theorem ws_141 : Cond.selects "NumberHouseModel" (⟨"NumberHouseModel", "show", "([II)I"⟩ : MethodName) (⟨"NumberHouseModel", "show", "([II)I"⟩ : MethodName) ∈ q_tbl := q_ofs 141 (by decide +kernel) (by decide +kernel)
theorem LV_NM_269 : q_LV "NumberHouseModel" 269 y_NM_show prog_14_method_5_code 4 (some .int) 2 := ⟨w_3018, w_14, w_3015, w_3017, ws_141, ⟨by decide, by decide, by decide +kernel⟩⟩
theorem d_14_38_115 : decode prog_14_method_38_code 115 = .ok (.ireturn, 1) := by decide +kernel
def y_NM_format : MethodName := ⟨"NumberHouseModel", "format", "()I"⟩
set_option maxRecDepth 100000 in
set_option maxHeartbeats 4000000 in
/-- format on a fresh object -/
theorem c_NM_format (l : Launch) (D : va_G) (g : Nat → ClassId) (ws : va_W) ( qO0 qA1 qA2 qO3 qO4 qO5 qO6 qO7 qA8 qA9 qA44 qA45 qA46 qA47 qA48 qA49 qA50 qA51 qA52 : Nat) (hO0 : ws[116]? = (some (qO0, .inr (12, [.int 0, .ref qA1, .int 0, .ref qA2, .int 0, .ref qO3, .ref qO4, .ref qO5, .ref qO6, .ref qO7, .ref qA8, .ref qA9])) : Option (Nat × va_E))) (hO7 : ws[157]? = (some (qO7, .inr (17, [.int 0, .ref qA44, .int 0, .int 0, .ref qA45, .ref qA46, .ref qA47, .ref qA48, .ref qA49, .int 0, .ref qA50, .int 0, .int 0, .int (-1), .int 0, .int 0, .int 0, .int 0, .int 0, .int 0, .int 0, .int 0, .int 0, .int 0, .ref qA51, .int 0, .int 0, .int 0, .ref qA52, .int 0, .int 0])) : Option (Nat × va_E))) : q_mI l y_NM_format prog_14_method_38_code 2 (.int) 3 0 0 D g [.ref qO0] ws (fun r u => ∃ (t0 z2 z4 : Int32), u[116]? = (some (qO0, .inr (12, [.int t0, .ref qA1, .int z2, .ref qA2, .int z4, .ref qO3, .ref qO4, .ref qO5, .ref qO6, .ref qO7, .ref qA8, .ref qA9])) : Option (Nat × va_E)) ∧ ((t0.toInt = 0 ∧ r.toInt = 0)) ∧ q_ge 169 ws u) := by
  intro sz
  refine q_into (by decide) (Nat.le_of_ble_eq_true rfl) ?_
  intro p e s m below meth c ls hsz C0 V hl
  have hx := C0.1
  have hb := C0.2.1
  have hl : lv_has ls 2 [(0, .ref qO0)] := hl
  have hF : q_ge 169 ws ws := q_g0
  refine lv_aload_n hx hb d_14_38_0 rfl (lv_at hl 0 rfl) ?_
  refine lv_aload_n hx hb d_14_38_1 rfl (lv_at hl 0 rfl) ?_
  refine q_get (ci := 12) (j := 2) (v := .int 0) C0 V i_NM rfl rfl hO0 (by decide) w_2300 rfl d_14_38_2 ?_
  refine lv_sipush (v := 256) hx hb d_14_38_5 (by decide) ?_
  refine lv_icmp_le (tgt := 15) hx hb d_14_38_8 (by decide) (fun c1 => ?_) (fun c1 => absurd (by decide) c1)
  refine lv_iconst (v := 0) hx hb d_14_38_15 (by decide) ?_
  refine q_put (ci := 12) (j := 0) (v := .int 0) (ty := .int) C0 V i_NM o_NM n_NM rfl rfl hO0 (by decide) w_2298 rfl rfl rfl rfl (Nat.le_of_ble_eq_true rfl) d_14_38_16 (fun H locs w2 hu3 hO0 V => ?_)
  replace hO0 : w2[116]? = (some (qO0, .inr (12, [.int 0, .ref qA1, .int 0, .ref qA2, .int 0, .ref qO3, .ref qO4, .ref qO5, .ref qO6, .ref qO7, .ref qA8, .ref qA9])) : Option (Nat × va_E)) := hO0
  replace hF := q_gs hF hu3 (Nat.le_of_ble_eq_true rfl)
  refine lv_aload_n hx hb d_14_38_19 rfl (lv_at hl 0 rfl) ?_
  refine q_get (ci := 12) (j := 0) (v := .int 0) C0 V i_NM rfl rfl hO0 (by decide) w_2298 rfl d_14_38_20 ?_
  refine lv_if_le (tgt := 28) hx hb d_14_38_23 (by decide) (fun c4 => ?_) (fun c4 => absurd (by decide) c4)
  refine lv_aload_n hx hb d_14_38_28 rfl (lv_at hl 0 rfl) ?_
  refine q_get (ci := 12) (j := 9) (v := .ref qO7) C0 V i_NM rfl rfl hO0 (by decide) w_2307 rfl d_14_38_29 ?_
  refine lv_aload_n hx hb d_14_38_32 rfl (lv_at hl 0 rfl) ?_
  refine q_get (ci := 12) (j := 1) (v := .ref qA1) C0 V i_NM rfl rfl hO0 (by decide) w_2299 rfl d_14_38_33 ?_
  refine lv_aload_n hx hb d_14_38_36 rfl (lv_at hl 0 rfl) ?_
  refine q_get (ci := 12) (j := 2) (v := .int 0) C0 V i_NM rfl rfl hO0 (by decide) w_2300 rfl d_14_38_37 ?_
  refine lv_aload_n hx hb d_14_38_40 rfl (lv_at hl 0 rfl) ?_
  refine q_get (ci := 12) (j := 9) (v := .ref qO7) C0 V i_NM rfl rfl hO0 (by decide) w_2307 rfl d_14_38_41 ?_
  replace hO7 := (hu3 _ (q_pd 157 116 rfl)).trans (hO7)
  refine q_getN (ci := 17) (j := 1) (v := .ref qA44) C0 V i_VR rfl rfl hO7 (by decide) wo_2200 rfl d_14_38_44 ?_
  refine q_goi V (q_runS (As := [.ref qA1, .int 0, .ref qA44]) (rest := [.ref qO7]) (d := 1) (mc := 0) (ms := 0) C0 V rfl LS_NM_90 (c_NM_load l D g w2 qA1 qA44 _) rfl hl.1 rfl (Nat.le_of_ble_eq_true rfl) ⟨by decide, by decide⟩ ⟨Nat.le_of_ble_eq_true rfl, Nat.le_of_ble_eq_true rfl⟩ d_14_38_47) (fun v7 u6 H locs hp5 V => ?_)
  obtain ⟨rfl, rfl⟩ := hp5
  refine q_putN (ci := 17) (j := 2) (v := .int 0) (ty := .int) C0 V i_VR o_VR n_VR rfl rfl hO7 (by decide) wo_2202 rfl rfl rfl rfl (Nat.le_of_ble_eq_true rfl) d_14_38_50 (fun H locs w9 hu10 hO7 V => ?_)
  replace hO7 : w9[157]? = (some (qO7, .inr (17, [.int 0, .ref qA44, .int 0, .int 0, .ref qA45, .ref qA46, .ref qA47, .ref qA48, .ref qA49, .int 0, .ref qA50, .int 0, .int 0, .int (-1), .int 0, .int 0, .int 0, .int 0, .int 0, .int 0, .int 0, .int 0, .int 0, .int 0, .ref qA51, .int 0, .int 0, .int 0, .ref qA52, .int 0, .int 0])) : Option (Nat × va_E)) := hO7
  replace hF := q_gs hF hu10 (Nat.le_of_ble_eq_true rfl)
  refine lv_aload_n hx hb d_14_38_53 rfl (lv_at hl 0 rfl) ?_
  replace hO0 := (hu10 _ (q_pd 116 157 rfl)).trans (hO0)
  refine q_get (ci := 12) (j := 9) (v := .ref qO7) C0 V i_NM rfl rfl hO0 (by decide) w_2307 rfl d_14_38_54 ?_
  refine q_goi V (q_runV (As := []) (rest := []) (d := 2) (mc := 0) (ms := 0) (ci := 17) C0 V rfl LV_NM_334 (c_VR_print l D g w9 157 qO7 qA44 qA45 qA46 qA47 qA48 qA49 qA50 qA51 qA52 hO7 _) rfl rfl hO7 rfl hl.1 rfl (Nat.le_of_ble_eq_true rfl) ⟨by decide, by decide⟩ ⟨Nat.le_of_ble_eq_true rfl, Nat.le_of_ble_eq_true rfl⟩ d_14_38_57) (fun v13 u12 H locs hp11 V => ?_)
  obtain ⟨rfl, hg14, hO7⟩ := hp11
  replace hF := q_gc hF hg14 (q_al (Nat.le_of_ble_eq_true rfl) (fun _ h => absurd h List.not_mem_nil))
  refine lv_istore_n (lv' := [(1, .int 0), (0, .ref qO0)]) hx hb d_14_38_60 rfl hl (by decide) rfl (fun ls hl => ?_)
  refine lv_aload_n hx hb d_14_38_61 rfl (lv_at hl 1 rfl) ?_
  replace hO0 := (hg14 _ (q_nc (q_pd 116 157 rfl) List.not_mem_nil)).trans (hO0)
  refine q_get (ci := 12) (j := 9) (v := .ref qO7) C0 V i_NM rfl rfl hO0 (by decide) w_2307 rfl d_14_38_62 ?_
  refine lv_iconst (v := 0) hx hb d_14_38_65 (by decide) ?_
  refine q_putN (ci := 17) (j := 2) (v := .int 0) (ty := .int) C0 V i_VR o_VR n_VR rfl rfl hO7 (by decide) wo_2202 rfl rfl rfl rfl (Nat.le_of_ble_eq_true rfl) d_14_38_66 (fun H locs w15 hu16 hO7 V => ?_)
  replace hO7 : w15[157]? = (some (qO7, .inr (17, [.int 0, .ref qA44, .int 0, .int 0, .ref qA45, .ref qA46, .ref qA47, .ref qA48, .ref qA49, .int 0, .ref qA50, .int 0, .int 0, .int (-1), .int 0, .int 0, .int 0, .int 0, .int 0, .int 0, .int 0, .int 0, .int 0, .int (-1), .ref qA51, .int 0, .int 0, .int 0, .ref qA52, .int 0, .int 0])) : Option (Nat × va_E)) := hO7
  replace hF := q_gs hF hu16 (Nat.le_of_ble_eq_true rfl)
  refine lv_iload_n hx hb d_14_38_69 rfl (lv_at hl 0 rfl) ?_
  refine lv_if_ge (tgt := 98) hx hb d_14_38_70 (by decide) (fun c17 => ?_) (fun c17 => absurd (by decide) c17)
  refine lv_aload_n hx hb d_14_38_98 rfl (lv_at hl 1 rfl) ?_
  refine lv_iconst (v := 0) hx hb d_14_38_99 (by decide) ?_
  replace hO0 := (hu16 _ (q_pd 116 157 rfl)).trans (hO0)
  refine q_put (ci := 12) (j := 2) (v := .int 0) (ty := .int) C0 V i_NM o_NM n_NM rfl rfl hO0 (by decide) w_2300 rfl rfl rfl rfl (Nat.le_of_ble_eq_true rfl) d_14_38_100 (fun H locs w18 hu19 hO0 V => ?_)
  replace hO0 : w18[116]? = (some (qO0, .inr (12, [.int 0, .ref qA1, .int 0, .ref qA2, .int 0, .ref qO3, .ref qO4, .ref qO5, .ref qO6, .ref qO7, .ref qA8, .ref qA9])) : Option (Nat × va_E)) := hO0
  replace hF := q_gs hF hu19 (Nat.le_of_ble_eq_true rfl)
  refine lv_aload_n hx hb d_14_38_103 rfl (lv_at hl 1 rfl) ?_
  refine lv_aload_n hx hb d_14_38_104 rfl (lv_at hl 1 rfl) ?_
  refine q_get (ci := 12) (j := 9) (v := .ref qO7) C0 V i_NM rfl rfl hO0 (by decide) w_2307 rfl d_14_38_105 ?_
  replace hO7 := (hu19 _ (q_pd 157 116 rfl)).trans (hO7)
  refine q_getN (ci := 17) (j := 8) (v := .ref qA49) C0 V i_VR rfl rfl hO7 (by decide) wo_2210 rfl d_14_38_108 ?_
  refine lv_iload_n hx hb d_14_38_111 rfl (lv_at hl 0 rfl) ?_
  refine q_goi V (q_runV (As := [.ref qA49, .int 0]) (rest := []) (d := 1) (mc := 0) (ms := 0) (ci := 12) C0 V rfl LV_NM_269 (c_NM_show l D g w18 qO0 qA49 qA1 qA2 qO3 qO4 qO5 qO6 qO7 qA8 qA9 hO0 _) rfl rfl hO0 rfl hl.1 rfl (Nat.le_of_ble_eq_true rfl) ⟨by decide, by decide⟩ ⟨Nat.le_of_ble_eq_true rfl, Nat.le_of_ble_eq_true rfl⟩ d_14_38_112) (fun v22 u21 H locs hp20 V => ?_)
  obtain ⟨rfl, hg23, hO0⟩ := hp20
  replace hF := q_gc hF hg23 (q_al (Nat.le_of_ble_eq_true rfl) (fun _ h => absurd h List.not_mem_nil))
  exact q_reti C0 V (⟨0, 0, 0, hO0, (show ((0 : Int32).toInt = 0 ∧ (0 : Int32).toInt = 0) from by have e0 : (0 : Int32).toInt = 0 := (by decide); have e1 : (0 : Int32).toInt = 0 := (by decide); omega), hF⟩) d_14_38_115
