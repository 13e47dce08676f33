/-! the class on a fresh object: whole -/
theorem d_8_12_0 : decode prog_8_method_12_code 0 = .ok (.iload_n 0, 1) := by decide +kernel
theorem d_8_12_1 : decode prog_8_method_12_code 1 = .ok (.tableswitch 39 8 10 #[27, 31, 35], 27) := by decide +kernel
theorem d_8_12_28 : decode prog_8_method_12_code 28 = .ok (.iload_n 1, 1) := by decide +kernel
theorem d_8_12_29 : decode prog_8_method_12_code 29 = .ok (.iload_n 2, 1) := by decide +kernel
theorem d_8_12_30 : decode prog_8_method_12_code 30 = .ok (.iand, 1) := by decide +kernel
theorem d_8_12_31 : decode prog_8_method_12_code 31 = .ok (.ireturn, 1) := by decide +kernel
theorem d_8_12_32 : decode prog_8_method_12_code 32 = .ok (.iload_n 1, 1) := by decide +kernel
theorem d_8_12_33 : decode prog_8_method_12_code 33 = .ok (.iload_n 2, 1) := by decide +kernel
theorem d_8_12_34 : decode prog_8_method_12_code 34 = .ok (.ior, 1) := by decide +kernel
theorem d_8_12_35 : decode prog_8_method_12_code 35 = .ok (.ireturn, 1) := by decide +kernel
theorem d_8_12_36 : decode prog_8_method_12_code 36 = .ok (.iload_n 1, 1) := by decide +kernel
theorem d_8_12_37 : decode prog_8_method_12_code 37 = .ok (.iload_n 2, 1) := by decide +kernel
theorem d_8_12_38 : decode prog_8_method_12_code 38 = .ok (.ixor, 1) := by decide +kernel
theorem d_8_12_39 : decode prog_8_method_12_code 39 = .ok (.ireturn, 1) := by decide +kernel
theorem d_8_12_40 : decode prog_8_method_12_code 40 = .ok (.iload_n 1, 1) := by decide +kernel
theorem d_8_12_41 : decode prog_8_method_12_code 41 = .ok (.iload_n 2, 1) := by decide +kernel
theorem d_8_12_42 : decode prog_8_method_12_code 42 = .ok (.iconst (-1), 1) := by decide +kernel
theorem d_8_12_43 : decode prog_8_method_12_code 43 = .ok (.ixor, 1) := by decide +kernel
theorem d_8_12_44 : decode prog_8_method_12_code 44 = .ok (.iand, 1) := by decide +kernel
theorem d_8_12_45 : decode prog_8_method_12_code 45 = .ok (.ireturn, 1) := by decide +kernel
def y_Mil_mixed : MethodName := ⟨"NumberHouse$Mill", "mixed", "(III)I"⟩
set_option maxRecDepth 100000 in
set_option maxHeartbeats 4000000 in
theorem c_Mil_mixed (l : Launch) (D : va_G) (g : Nat → ClassId) (ws : va_W) (x1 : Int32) (x1lo : 8 ≤ x1) (x1hi : x1 ≤ 11) : q_mI l y_Mil_mixed prog_8_method_12_code 3 (.int) 1 0 0 D g [.int x1, .int 0, .int 0] ws (fun r u => (x1 = 8 ∧ 0 = r ∧ ws = u) ∨ (¬ x1 = 8 ∧ x1 = 9 ∧ 0 = r ∧ ws = u) ∨ (¬ x1 = 8 ∧ ¬ x1 = 9 ∧ 0 = r ∧ ws = u)) := by
  intro sz
  refine q_into (by decide) (Nat.le_of_ble_eq_true rfl) ?_
  intro p e s m below meth c ls hsz C0 V hl
  have hx := C0.1
  have hb := C0.2.1
  have hl : lv_has ls 3 [(0, .int x1), (1, .int 0), (2, .int 0)] := hl
  refine lv_iload_n hx hb d_8_12_0 rfl (lv_at hl 0 rfl) ?_
  by_cases c1 : x1 = 8
  ·
    refine q_ti (v := 8) c1 ?_
    refine lv_tableIn (tgt := 28) (off := 27) hx hb d_8_12_1 (by decide) (by decide) (by decide) (by decide) ?_
    refine lv_iload_n hx hb d_8_12_28 rfl (lv_at hl 1 rfl) ?_
    refine lv_iload_n hx hb d_8_12_29 rfl (lv_at hl 2 rfl) ?_
    refine lv_iand hx hb d_8_12_30 ?_
    refine q_ti (v := 0) (by decide) ?_
    exact q_reti C0 V (Or.inl ⟨c1, rfl, rfl⟩) d_8_12_31
  by_cases c2 : x1 = 9
  ·
    refine q_ti (v := 9) c2 ?_
    refine lv_tableIn (tgt := 32) (off := 31) hx hb d_8_12_1 (by decide) (by decide) (by decide) (by decide) ?_
    refine lv_iload_n hx hb d_8_12_32 rfl (lv_at hl 1 rfl) ?_
    refine lv_iload_n hx hb d_8_12_33 rfl (lv_at hl 2 rfl) ?_
    refine lv_ior hx hb d_8_12_34 ?_
    refine q_ti (v := 0) (by decide) ?_
    exact q_reti C0 V (Or.inr (Or.inl ⟨c1, c2, rfl, rfl⟩)) d_8_12_35
  by_cases c3 : x1 = 10
  ·
    refine q_ti (v := 10) c3 ?_
    refine lv_tableIn (tgt := 36) (off := 35) hx hb d_8_12_1 (by decide) (by decide) (by decide) (by decide) ?_
    refine lv_iload_n hx hb d_8_12_36 rfl (lv_at hl 1 rfl) ?_
    refine lv_iload_n hx hb d_8_12_37 rfl (lv_at hl 2 rfl) ?_
    refine lv_ixor hx hb d_8_12_38 ?_
    refine q_ti (v := 0) (by decide) ?_
    exact q_reti C0 V (Or.inr (Or.inr (⟨c1, c2, rfl, rfl⟩))) d_8_12_39
  refine lv_tableOut (tgt := 40) hx hb d_8_12_1 (by have z0 : x1.toInt ≠ 8 := q_neI c1; have z1 : x1.toInt ≠ 9 := q_neI c2; have z2 : x1.toInt ≠ 10 := q_neI c3; omega) (by decide) ?_
  refine lv_iload_n hx hb d_8_12_40 rfl (lv_at hl 1 rfl) ?_
  refine lv_iload_n hx hb d_8_12_41 rfl (lv_at hl 2 rfl) ?_
  refine lv_iconst (v := (-1)) hx hb d_8_12_42 (by decide) ?_
  refine lv_ixor hx hb d_8_12_43 ?_
  refine q_ti (v := (-1)) (by decide) ?_
  refine lv_iand hx hb d_8_12_44 ?_
  refine q_ti (v := 0) (by decide) ?_
  exact q_reti C0 V (Or.inr (Or.inr (⟨c1, c2, rfl, rfl⟩))) d_8_12_45
theorem d_2_19_0 : decode prog_2_method_19_code 0 = .ok (.aload_n 0, 1) := by decide +kernel
theorem d_2_19_1 : decode prog_2_method_19_code 1 = .ok (.getfield 17, 3) := by decide +kernel
theorem d_2_19_4 : decode prog_2_method_19_code 4 = .ok (.ifCond .ne 9, 3) := by decide +kernel
theorem d_2_19_7 : decode prog_2_method_19_code 7 = .ok (.aload_n 0, 1) := by decide +kernel
theorem d_2_19_8 : decode prog_2_method_19_code 8 = .ok (.iload_n 1, 1) := by decide +kernel
theorem d_2_19_9 : decode prog_2_method_19_code 9 = .ok (.invokevirtual 49, 3) := by decide +kernel
theorem d_2_19_12 : decode prog_2_method_19_code 12 = .ok (.ireturn, 1) := by decide +kernel
def y_Big_endlessLimb : MethodName := ⟨"NumberHouse$Big", "endlessLimb", "(II)I"⟩
set_option maxRecDepth 100000 in
set_option maxHeartbeats 4000000 in
theorem c_Big_endlessLimb (l : Launch) (D : va_G) (g : Nat → ClassId) (ws : va_W) (kO0 qO0 qA1 : Nat) (hO0 : ws[kO0]? = (some (qO0, .inr (2, [.ref qA1, .int 0, .int 0])) : Option (Nat × va_E))) : q_mI l y_Big_endlessLimb prog_2_method_19_code 3 (.int) 2 0 0 D g [.ref qO0, .int 0, .int 0] ws (fun r u => 0 = r ∧ ws = u) := by
  intro sz
  refine q_into (by decide) (Nat.le_of_ble_eq_true rfl) ?_
  intro p e s m below meth c ls hsz C0 V hl
  have hx := C0.1
  have hb := C0.2.1
  have hl : lv_has ls 3 [(0, .ref qO0), (1, .int 0), (2, .int 0)] := hl
  refine lv_aload_n hx hb d_2_19_0 rfl (lv_at hl 0 rfl) ?_
  refine q_get (ci := 2) (j := 2) (v := .int 0) C0 V i_Big rfl rfl hO0 (by decide) w_94 rfl d_2_19_1 ?_
  refine lv_if_ne (tgt := 13) hx hb d_2_19_4 (by decide) (fun c1 => absurd (by decide) c1) (fun c1 => ?_)
  refine lv_aload_n hx hb d_2_19_7 rfl (lv_at hl 0 rfl) ?_
  refine lv_iload_n hx hb d_2_19_8 rfl (lv_at hl 1 rfl) ?_
  refine q_goi V (q_runV (As := [.int 0]) (rest := []) (d := 1) (mc := 0) (ms := 0) (ci := 2) C0 V rfl LV_Big_49 (c_Big_limb l D g ws kO0 qO0 qA1 hO0 _) rfl rfl hO0 rfl hl.1 rfl (Nat.le_of_ble_eq_true rfl) ⟨by decide, by decide⟩ ⟨Nat.le_of_ble_eq_true rfl, Nat.le_of_ble_eq_true rfl⟩ d_2_19_9) (fun v4 u3 H locs hp2 V => ?_)
  obtain ⟨rfl, rfl⟩ := hp2
  exact q_reti C0 V (⟨rfl, rfl⟩) d_2_19_12
set_option maxRecDepth 100000 in
set_option maxHeartbeats 4000000 in
theorem c_Big_push_4 (l : Launch) (D : va_G) (g : Nat → ClassId) (ws : va_W) (kO0 kA1 qO0 qA1 : Nat) (hO0 : ws[kO0]? = (some (qO0, .inr (2, [.ref qA1, .int 0, .int 0])) : Option (Nat × va_E))) (hA1 : ws[kA1]? = (some (qA1, .inl (g 0, 220, .inl (fun _ => 0))) : Option (Nat × va_E))) : q_mV l y_Big_push prog_2_method_6_code 2 1 0 0 D g [.ref qO0, .int 0] ws (fun u => q_un ws u [kO0, kA1] ∧ u[kO0]? = (some (qO0, .inr (2, [.ref qA1, .int 1, .int 0])) : Option (Nat × va_E)) ∧ u[kA1]? = (some (qA1, .inl (g 0, 220, .inl (fun _ => 0))) : Option (Nat × va_E))) := by
  intro sz
  refine q_into (by decide) (Nat.le_of_ble_eq_true rfl) ?_
  intro p e s m below meth c ls hsz C0 V hl
  have hx := C0.1
  have hb := C0.2.1
  have hl : lv_has ls 2 [(0, .ref qO0), (1, .int 0)] := hl
  have n_A1_O0 := q_df hA1 hO0
  have n_O0_A1 := Ne.symm (q_df hA1 hO0)
  have hF : q_un ws ws [kO0, kA1] := q_u0
  refine lv_aload_n hx hb d_2_6_0 rfl (lv_at hl 0 rfl) ?_
  refine q_get (ci := 2) (j := 1) (v := .int 0) C0 V i_Big rfl rfl hO0 (by decide) w_85 rfl d_2_6_1 ?_
  refine lv_aload_n hx hb d_2_6_4 rfl (lv_at hl 0 rfl) ?_
  refine q_get (ci := 2) (j := 0) (v := .ref qA1) C0 V i_Big rfl rfl hO0 (by decide) w_84 rfl d_2_6_5 ?_
  refine q_alen (t := 0) (v := 220) C0 V hA1 rfl (by first | rfl | decide) d_2_6_8 ?_
  refine lv_icmp_ge (tgt := 32) hx hb d_2_6_9 (by decide) (fun c1 => absurd c1 (by decide)) (fun c1 => ?_)
  refine lv_aload_n hx hb d_2_6_12 rfl (lv_at hl 0 rfl) ?_
  refine q_get (ci := 2) (j := 0) (v := .ref qA1) C0 V i_Big rfl rfl hO0 (by decide) w_84 rfl d_2_6_13 ?_
  refine lv_aload_n hx hb d_2_6_16 rfl (lv_at hl 0 rfl) ?_
  refine q_get (ci := 2) (j := 1) (v := .int 0) C0 V i_Big rfl rfl hO0 (by decide) w_85 rfl d_2_6_17 ?_
  refine lv_iload_n hx hb d_2_6_20 rfl (lv_at hl 1 rfl) ?_
  refine q_iast C0 V hA1 (by unfold vp_in; decide) d_2_6_21 (fun H locs w2 hu3 hA1 V => ?_)
  replace hA1 := q_re (y := (qA1, .inl (g 0, 220, .inl (fun _ => 0)))) hA1 (q_eI q_upd0)
  replace hA1 : w2[kA1]? = (some (qA1, .inl (g 0, 220, .inl (fun _ => 0))) : Option (Nat × va_E)) := hA1
  replace hF := q_us hF hu3 (.tail _ (.head _))
  refine lv_aload_n hx hb d_2_6_22 rfl (lv_at hl 0 rfl) ?_
  refine lv_dup hx hb d_2_6_23 rfl ?_
  replace hO0 := (hu3 _ n_O0_A1).trans (hO0)
  refine q_get (ci := 2) (j := 1) (v := .int 0) C0 V i_Big rfl rfl hO0 (by decide) w_85 rfl d_2_6_24 ?_
  refine lv_iconst (v := 1) hx hb d_2_6_27 (by decide) ?_
  refine lv_iadd hx hb d_2_6_28 ?_
  refine q_ti (v := 1) (by decide) ?_
  refine q_put (ci := 2) (j := 1) (v := .int 1) (ty := .int) C0 V i_Big o_Big n_Big rfl rfl hO0 (by decide) w_85 rfl rfl rfl rfl (Nat.le_of_ble_eq_true rfl) d_2_6_29 (fun H locs w4 hu5 hO0 V => ?_)
  replace hO0 : w4[kO0]? = (some (qO0, .inr (2, [.ref qA1, .int 1, .int 0])) : Option (Nat × va_E)) := hO0
  replace hF := q_us hF hu5 (.head _)
  replace hA1 := (hu5 _ n_A1_O0).trans (hA1)
  exact q_retv C0 V (⟨hF, hO0, hA1⟩) d_2_6_32
set_option maxRecDepth 100000 in
set_option maxHeartbeats 4000000 in
theorem c_Big_trim_3 (l : Launch) (D : va_G) (g : Nat → ClassId) (ws : va_W) (kO0 kA1 qO0 qA1 : Nat) (hO0 : ws[kO0]? = (some (qO0, .inr (2, [.ref qA1, .int 1, .int 0])) : Option (Nat × va_E))) (hA1 : ws[kA1]? = (some (qA1, .inl (g 0, 220, .inl (fun _ => 0))) : Option (Nat × va_E))) : q_mV l y_Big_trim prog_2_method_7_code 2 1 0 0 D g [.ref qO0] ws (fun u => q_un ws u [kO0] ∧ u[kO0]? = (some (qO0, .inr (2, [.ref qA1, .int 0, .int 0])) : Option (Nat × va_E))) := by
  intro sz
  refine q_into (by decide) (Nat.le_of_ble_eq_true rfl) ?_
  intro p e s m below meth c ls hsz C0 V hl
  have hx := C0.1
  have hb := C0.2.1
  have hl : lv_has ls 2 [(0, .ref qO0)] := hl
  have n_A1_O0 := q_df hA1 hO0
  have hF : q_un ws ws [kO0] := q_u0
  refine lv_aload_n hx hb d_2_7_0 rfl (lv_at hl 0 rfl) ?_
  refine q_get (ci := 2) (j := 1) (v := .int 1) C0 V i_Big rfl rfl hO0 (by decide) w_85 rfl d_2_7_1 ?_
  refine lv_istore_n (lv' := [(1, .int 1), (0, .ref qO0)]) hx hb d_2_7_4 rfl hl (by decide) rfl (fun ls hl => ?_)
  refine lv_iload_n hx hb d_2_7_5 rfl (lv_at hl 0 rfl) ?_
  refine lv_if_le (tgt := 26) hx hb d_2_7_6 (by decide) (fun c1 => absurd c1 (by decide)) (fun c1 => ?_)
  refine lv_aload_n hx hb d_2_7_9 rfl (lv_at hl 1 rfl) ?_
  refine q_get (ci := 2) (j := 0) (v := .ref qA1) C0 V i_Big rfl rfl hO0 (by decide) w_84 rfl d_2_7_10 ?_
  refine lv_iload_n hx hb d_2_7_13 rfl (lv_at hl 0 rfl) ?_
  refine lv_iconst (v := 1) hx hb d_2_7_14 (by decide) ?_
  refine lv_isub hx hb d_2_7_15 ?_
  refine q_ti (v := 0) (by decide) ?_
  refine q_iald C0 V hA1 (by unfold vp_in; decide) d_2_7_16 ?_
  refine q_ti (v := 0) (by first | rfl | decide | simp [upd, vp_updL, sb_cl0]) ?_
  refine lv_if_ne (tgt := 26) hx hb d_2_7_17 (by decide) (fun c2 => absurd (by decide) c2) (fun c2 => ?_)
  refine lv_iinc (v := 0) (lv' := [(1, .int 0), (0, .ref qO0)]) hx hb d_2_7_20 hl (k := 0) rfl (by decide) (by decide) rfl (fun ls hl => ?_)
  refine lv_goto (tgt := 5) hx hb d_2_7_23 (by decide) ?_
  refine lv_iload_n hx hb d_2_7_5 rfl (lv_at hl 0 rfl) ?_
  refine lv_if_le (tgt := 26) hx hb d_2_7_6 (by decide) (fun c3 => ?_) (fun c3 => absurd (by decide) c3)
  refine lv_aload_n hx hb d_2_7_26 rfl (lv_at hl 1 rfl) ?_
  refine lv_iload_n hx hb d_2_7_27 rfl (lv_at hl 0 rfl) ?_
  refine q_put (ci := 2) (j := 1) (v := .int 0) (ty := .int) C0 V i_Big o_Big n_Big rfl rfl hO0 (by decide) w_85 rfl rfl rfl rfl (Nat.le_of_ble_eq_true rfl) d_2_7_28 (fun H locs w4 hu5 hO0 V => ?_)
  replace hO0 : w4[kO0]? = (some (qO0, .inr (2, [.ref qA1, .int 0, .int 0])) : Option (Nat × va_E)) := hO0
  replace hF := q_us hF hu5 (.head _)
  refine lv_aload_n hx hb d_2_7_31 rfl (lv_at hl 1 rfl) ?_
  refine lv_aload_n hx hb d_2_7_32 rfl (lv_at hl 1 rfl) ?_
  refine q_get (ci := 2) (j := 2) (v := .int 0) C0 V i_Big rfl rfl hO0 (by decide) w_94 rfl d_2_7_33 ?_
  refine lv_if_eq (tgt := 47) hx hb d_2_7_36 (by decide) (fun c6 => ?_) (fun c6 => absurd (by decide) c6)
  refine lv_iconst (v := 0) hx hb d_2_7_47 (by decide) ?_
  refine q_put (ci := 2) (j := 2) (v := .int 0) (ty := .boolean) C0 V i_Big o_Big n_Big rfl rfl hO0 (by decide) w_94 rfl rfl rfl rfl (Nat.le_of_ble_eq_true rfl) d_2_7_48 (fun H locs w7 hu8 hO0 V => ?_)
  replace hO0 : w7[kO0]? = (some (qO0, .inr (2, [.ref qA1, .int 0, .int 0])) : Option (Nat × va_E)) := hO0
  replace hF := q_us hF hu8 (.head _)
  exact q_retv C0 V (⟨hF, hO0⟩) d_2_7_51
theorem d_8_11_0 : decode prog_8_method_11_code 0 = .ok (.aload_n 2, 1) := by decide +kernel
theorem d_8_11_1 : decode prog_8_method_11_code 1 = .ok (.getfield 62, 3) := by decide +kernel
theorem w_89 : (Cond.fieldLink "NumberHouse$Mill" (62 : Nat) "NumberHouse$Big" "size" "I") ∈ q_tbl := q_of 89 (by decide +kernel) (by decide +kernel)
theorem d_8_11_4 : decode prog_8_method_11_code 4 = .ok (.aload_n 3, 1) := by decide +kernel
theorem d_8_11_5 : decode prog_8_method_11_code 5 = .ok (.getfield 62, 3) := by decide +kernel
theorem d_8_11_8 : decode prog_8_method_11_code 8 = .ok (.invokestatic 122, 3) := by decide +kernel
theorem w_1301 : (Cond.methodLink "NumberHouse$Mill" (122 : Nat) ({ cls := "java/lang/Math", name := "max", desc := "(II)I" } : MethodName)) ∈ q_tbl := q_of 1301 (by decide +kernel) (by decide +kernel)
theorem w_803 : (Cond.static ({ cls := "java/lang/Math", name := "max", desc := "(II)I" } : MethodName)) ∈ q_tbl := q_of 803 (by decide +kernel) (by decide +kernel)
theorem w_804 : (Cond.code ({ cls := "java/lang/Math", name := "max", desc := "(II)I" } : MethodName) prog_29_method_65_code (2 : Nat) (some .int)) ∈ q_tbl := q_of 804 (by decide +kernel) (by decide +kernel)
theorem d_8_11_11 : decode prog_8_method_11_code 11 = .ok (.iconst 1, 1) := by decide +kernel
theorem d_8_11_12 : decode prog_8_method_11_code 12 = .ok (.iadd, 1) := by decide +kernel
theorem d_8_11_13 : decode prog_8_method_11_code 13 = .ok (.istore 4, 2) := by decide +kernel
theorem d_8_11_15 : decode prog_8_method_11_code 15 = .ok (.aload_n 2, 1) := by decide +kernel
theorem d_8_11_16 : decode prog_8_method_11_code 16 = .ok (.invokevirtual 128, 3) := by decide +kernel
theorem w_1305 : (Cond.code ({ cls := "NumberHouse$Big", name := "lowestLimb", desc := "()I" } : MethodName) prog_2_method_18_code (2 : Nat) (some .int)) ∈ q_tbl := q_of 1305 (by decide +kernel) (by decide +kernel)
theorem w_1302 : (Cond.methodLink "NumberHouse$Mill" (128 : Nat) ({ cls := "NumberHouse$Big", name := "lowestLimb", desc := "()I" } : MethodName)) ∈ q_tbl := q_of 1302 (by decide +kernel) (by decide +kernel)
theorem w_1303 : (Cond.instanceMethod ({ cls := "NumberHouse$Big", name := "lowestLimb", desc := "()I" } : MethodName)) ∈ q_tbl := q_of 1303 (by decide +kernel) (by decide +kernel)
theorem w_1304 : (Cond.selects "NumberHouse$Big" ({ cls := "NumberHouse$Big", name := "lowestLimb", desc := "()I" } : MethodName) ({ cls := "NumberHouse$Big", name := "lowestLimb", desc := "()I" } : MethodName)) ∈ q_tbl := q_of 1304 (by decide +kernel) (by decide +kernel)
theorem LV_Mil_128 : q_LV "NumberHouse$Mill" 128 y_Big_lowestLimb prog_2_method_18_code 2 (some .int) 0 := ⟨w_1305, w_4, w_1302, w_1303, w_1304, ⟨by decide, by decide, by decide +kernel⟩⟩
theorem d_8_11_19 : decode prog_8_method_11_code 19 = .ok (.istore 5, 2) := by decide +kernel
theorem d_8_11_21 : decode prog_8_method_11_code 21 = .ok (.aload_n 3, 1) := by decide +kernel
theorem d_8_11_22 : decode prog_8_method_11_code 22 = .ok (.invokevirtual 128, 3) := by decide +kernel
theorem d_8_11_25 : decode prog_8_method_11_code 25 = .ok (.istore 6, 2) := by decide +kernel
theorem d_8_11_27 : decode prog_8_method_11_code 27 = .ok (.iload_n 1, 1) := by decide +kernel
theorem d_8_11_28 : decode prog_8_method_11_code 28 = .ok (.aload_n 2, 1) := by decide +kernel
theorem d_8_11_29 : decode prog_8_method_11_code 29 = .ok (.getfield 66, 3) := by decide +kernel
theorem w_96 : (Cond.fieldLink "NumberHouse$Mill" (66 : Nat) "NumberHouse$Big" "negative" "Z") ∈ q_tbl := q_of 96 (by decide +kernel) (by decide +kernel)
theorem d_8_11_32 : decode prog_8_method_11_code 32 = .ok (.ifCond .eq 7, 3) := by decide +kernel
theorem d_8_11_39 : decode prog_8_method_11_code 39 = .ok (.iconst 0, 1) := by decide +kernel
theorem d_8_11_40 : decode prog_8_method_11_code 40 = .ok (.aload_n 3, 1) := by decide +kernel
theorem d_8_11_41 : decode prog_8_method_11_code 41 = .ok (.getfield 66, 3) := by decide +kernel
theorem d_8_11_44 : decode prog_8_method_11_code 44 = .ok (.ifCond .eq 7, 3) := by decide +kernel
theorem d_8_11_51 : decode prog_8_method_11_code 51 = .ok (.iconst 0, 1) := by decide +kernel
theorem d_8_11_52 : decode prog_8_method_11_code 52 = .ok (.invokestatic 131, 3) := by decide +kernel
theorem w_1308 : (Cond.code ({ cls := "NumberHouse$Mill", name := "mixed", desc := "(III)I" } : MethodName) prog_8_method_12_code (3 : Nat) (some .int)) ∈ q_tbl := q_of 1308 (by decide +kernel) (by decide +kernel)
theorem w_1306 : (Cond.methodLink "NumberHouse$Mill" (131 : Nat) ({ cls := "NumberHouse$Mill", name := "mixed", desc := "(III)I" } : MethodName)) ∈ q_tbl := q_of 1306 (by decide +kernel) (by decide +kernel)
theorem w_1307 : (Cond.static ({ cls := "NumberHouse$Mill", name := "mixed", desc := "(III)I" } : MethodName)) ∈ q_tbl := q_of 1307 (by decide +kernel) (by decide +kernel)
theorem LS_Mil_131 : q_LS "NumberHouse$Mill" 131 y_Mil_mixed prog_8_method_12_code 3 (some .int) 3 := ⟨w_1308, w_3, w_1306, w_1307, ⟨by decide, by decide, by decide +kernel⟩⟩
theorem d_8_11_55 : decode prog_8_method_11_code 55 = .ok (.iconst 1, 1) := by decide +kernel
theorem d_8_11_56 : decode prog_8_method_11_code 56 = .ok (.if_icmp .ne 7, 3) := by decide +kernel
theorem d_8_11_63 : decode prog_8_method_11_code 63 = .ok (.iconst 0, 1) := by decide +kernel
theorem d_8_11_64 : decode prog_8_method_11_code 64 = .ok (.istore 7, 2) := by decide +kernel
theorem d_8_11_66 : decode prog_8_method_11_code 66 = .ok (.iload 7, 2) := by decide +kernel
theorem d_8_11_68 : decode prog_8_method_11_code 68 = .ok (.ifCond .eq 7, 3) := by decide +kernel
theorem d_8_11_75 : decode prog_8_method_11_code 75 = .ok (.iconst 0, 1) := by decide +kernel
theorem d_8_11_76 : decode prog_8_method_11_code 76 = .ok (.istore 8, 2) := by decide +kernel
theorem d_8_11_78 : decode prog_8_method_11_code 78 = .ok (.aload_n 0, 1) := by decide +kernel
theorem d_8_11_79 : decode prog_8_method_11_code 79 = .ok (.getfield 16, 3) := by decide +kernel
theorem d_8_11_82 : decode prog_8_method_11_code 82 = .ok (.invokevirtual 74, 3) := by decide +kernel
theorem w_1292 : (Cond.methodLink "NumberHouse$Mill" (74 : Nat) ({ cls := "NumberHouse$Big", name := "clear", desc := "()V" } : MethodName)) ∈ q_tbl := q_of 1292 (by decide +kernel) (by decide +kernel)
theorem LV_Mil_74 : q_LV "NumberHouse$Mill" 74 y_Big_clear prog_2_method_2_code 1 none 0 := ⟨w_197, w_4, w_1292, w_195, w_196, ⟨by decide, by decide, by decide +kernel⟩⟩
theorem d_8_11_85 : decode prog_8_method_11_code 85 = .ok (.iconst 0, 1) := by decide +kernel
theorem d_8_11_86 : decode prog_8_method_11_code 86 = .ok (.istore 9, 2) := by decide +kernel
theorem d_8_11_88 : decode prog_8_method_11_code 88 = .ok (.iload 9, 2) := by decide +kernel
theorem d_8_11_90 : decode prog_8_method_11_code 90 = .ok (.iload 4, 2) := by decide +kernel
theorem d_8_11_92 : decode prog_8_method_11_code 92 = .ok (.if_icmp .ge 72, 3) := by decide +kernel
theorem d_8_11_95 : decode prog_8_method_11_code 95 = .ok (.iload_n 1, 1) := by decide +kernel
theorem d_8_11_96 : decode prog_8_method_11_code 96 = .ok (.aload_n 2, 1) := by decide +kernel
theorem d_8_11_97 : decode prog_8_method_11_code 97 = .ok (.iload 9, 2) := by decide +kernel
theorem d_8_11_99 : decode prog_8_method_11_code 99 = .ok (.iload 5, 2) := by decide +kernel
theorem d_8_11_101 : decode prog_8_method_11_code 101 = .ok (.invokevirtual 135, 3) := by decide +kernel
theorem w_1312 : (Cond.code ({ cls := "NumberHouse$Big", name := "endlessLimb", desc := "(II)I" } : MethodName) prog_2_method_19_code (3 : Nat) (some .int)) ∈ q_tbl := q_of 1312 (by decide +kernel) (by decide +kernel)
theorem w_1309 : (Cond.methodLink "NumberHouse$Mill" (135 : Nat) ({ cls := "NumberHouse$Big", name := "endlessLimb", desc := "(II)I" } : MethodName)) ∈ q_tbl := q_of 1309 (by decide +kernel) (by decide +kernel)
theorem w_1310 : (Cond.instanceMethod ({ cls := "NumberHouse$Big", name := "endlessLimb", desc := "(II)I" } : MethodName)) ∈ q_tbl := q_of 1310 (by decide +kernel) (by decide +kernel)
theorem w_1311 : (Cond.selects "NumberHouse$Big" ({ cls := "NumberHouse$Big", name := "endlessLimb", desc := "(II)I" } : MethodName) ({ cls := "NumberHouse$Big", name := "endlessLimb", desc := "(II)I" } : MethodName)) ∈ q_tbl := q_of 1311 (by decide +kernel) (by decide +kernel)
theorem LV_Mil_135 : q_LV "NumberHouse$Mill" 135 y_Big_endlessLimb prog_2_method_19_code 3 (some .int) 2 := ⟨w_1312, w_4, w_1309, w_1310, w_1311, ⟨by decide, by decide, by decide +kernel⟩⟩
theorem d_8_11_104 : decode prog_8_method_11_code 104 = .ok (.aload_n 3, 1) := by decide +kernel
theorem d_8_11_105 : decode prog_8_method_11_code 105 = .ok (.iload 9, 2) := by decide +kernel
theorem d_8_11_107 : decode prog_8_method_11_code 107 = .ok (.iload 6, 2) := by decide +kernel
theorem d_8_11_109 : decode prog_8_method_11_code 109 = .ok (.invokevirtual 135, 3) := by decide +kernel
theorem d_8_11_112 : decode prog_8_method_11_code 112 = .ok (.invokestatic 131, 3) := by decide +kernel
theorem d_8_11_115 : decode prog_8_method_11_code 115 = .ok (.istore 10, 2) := by decide +kernel
theorem d_8_11_117 : decode prog_8_method_11_code 117 = .ok (.iload 7, 2) := by decide +kernel
theorem d_8_11_119 : decode prog_8_method_11_code 119 = .ok (.ifCond .eq 13, 3) := by decide +kernel
theorem d_8_11_132 : decode prog_8_method_11_code 132 = .ok (.iload 10, 2) := by decide +kernel
theorem d_8_11_134 : decode prog_8_method_11_code 134 = .ok (.iload 8, 2) := by decide +kernel
theorem d_8_11_136 : decode prog_8_method_11_code 136 = .ok (.iadd, 1) := by decide +kernel
theorem d_8_11_137 : decode prog_8_method_11_code 137 = .ok (.istore 11, 2) := by decide +kernel
theorem d_8_11_139 : decode prog_8_method_11_code 139 = .ok (.aload_n 0, 1) := by decide +kernel
theorem d_8_11_140 : decode prog_8_method_11_code 140 = .ok (.getfield 16, 3) := by decide +kernel
theorem d_8_11_143 : decode prog_8_method_11_code 143 = .ok (.iload 11, 2) := by decide +kernel
theorem d_8_11_145 : decode prog_8_method_11_code 145 = .ok (.ldc 138, 2) := by decide +kernel
theorem w_1313 : (Cond.constant "NumberHouse$Mill" (138 : Nat) (2147483647 : Int32)) ∈ q_tbl := q_of 1313 (by decide +kernel) (by decide +kernel)
theorem d_8_11_147 : decode prog_8_method_11_code 147 = .ok (.iand, 1) := by decide +kernel
theorem d_8_11_148 : decode prog_8_method_11_code 148 = .ok (.invokevirtual 139, 3) := by decide +kernel
theorem w_1314 : (Cond.methodLink "NumberHouse$Mill" (139 : Nat) ({ cls := "NumberHouse$Big", name := "push", desc := "(I)V" } : MethodName)) ∈ q_tbl := q_of 1314 (by decide +kernel) (by decide +kernel)
theorem LV_Mil_139 : q_LV "NumberHouse$Mill" 139 y_Big_push prog_2_method_6_code 2 none 1 := ⟨w_205, w_4, w_1314, w_203, w_204, ⟨by decide, by decide, by decide +kernel⟩⟩
theorem d_8_11_151 : decode prog_8_method_11_code 151 = .ok (.iload 11, 2) := by decide +kernel
theorem d_8_11_153 : decode prog_8_method_11_code 153 = .ok (.bipush 31, 2) := by decide +kernel
theorem d_8_11_155 : decode prog_8_method_11_code 155 = .ok (.iushr, 1) := by decide +kernel
theorem d_8_11_156 : decode prog_8_method_11_code 156 = .ok (.istore 8, 2) := by decide +kernel
theorem d_8_11_158 : decode prog_8_method_11_code 158 = .ok (.iinc 9 1, 3) := by decide +kernel
theorem d_8_11_161 : decode prog_8_method_11_code 161 = .ok (.goto (-73), 3) := by decide +kernel
theorem d_8_11_164 : decode prog_8_method_11_code 164 = .ok (.aload_n 0, 1) := by decide +kernel
theorem d_8_11_165 : decode prog_8_method_11_code 165 = .ok (.getfield 16, 3) := by decide +kernel
theorem d_8_11_168 : decode prog_8_method_11_code 168 = .ok (.invokevirtual 142, 3) := by decide +kernel
theorem w_1315 : (Cond.methodLink "NumberHouse$Mill" (142 : Nat) ({ cls := "NumberHouse$Big", name := "trim", desc := "()V" } : MethodName)) ∈ q_tbl := q_of 1315 (by decide +kernel) (by decide +kernel)
theorem LV_Mil_142 : q_LV "NumberHouse$Mill" 142 y_Big_trim prog_2_method_7_code 2 none 0 := ⟨w_209, w_4, w_1315, w_207, w_208, ⟨by decide, by decide, by decide +kernel⟩⟩
theorem d_8_11_171 : decode prog_8_method_11_code 171 = .ok (.aload_n 0, 1) := by decide +kernel
theorem d_8_11_172 : decode prog_8_method_11_code 172 = .ok (.getfield 16, 3) := by decide +kernel
theorem d_8_11_175 : decode prog_8_method_11_code 175 = .ok (.iload 7, 2) := by decide +kernel
theorem d_8_11_177 : decode prog_8_method_11_code 177 = .ok (.putfield 66, 3) := by decide +kernel
theorem d_8_11_180 : decode prog_8_method_11_code 180 = .ok (.return_, 1) := by decide +kernel
def y_Mil_mixBits : MethodName := ⟨"NumberHouse$Mill", "mixBits", "(ILNumberHouse$Big;LNumberHouse$Big;)V"⟩
set_option maxRecDepth 100000 in
set_option maxHeartbeats 4000000 in
theorem c_Mil_mixBits (l : Launch) (D : va_G) (g : Nat → ClassId) (ws : va_W) (kO0 kO1 kO2 kO3 kA15 qO0 qO1 qO2 qO3 qO4 qO5 qO6 qO7 qO8 qO9 qO10 qO11 qO12 qA13 qA14 qA15 : Nat) (x1 : Int32) (hO0 : ws[kO0]? = (some (qO0, .inr (4, [.ref qO3, .ref qO4, .ref qO5, .ref qO6, .ref qO7, .ref qO8, .ref qO9, .ref qO10, .ref qO11, .ref qO12])) : Option (Nat × va_E))) (hO1 : ws[kO1]? = (some (qO1, .inr (2, [.ref qA13, .int 0, .int 0])) : Option (Nat × va_E))) (hO2 : ws[kO2]? = (some (qO2, .inr (2, [.ref qA14, .int 0, .int 0])) : Option (Nat × va_E))) (hO3 : ws[kO3]? = (some (qO3, .inr (2, [.ref qA15, .int 0, .int 0])) : Option (Nat × va_E))) (hA15 : ws[kA15]? = (some (qA15, .inl (g 0, 220, .inl (fun _ => 0))) : Option (Nat × va_E))) (n_O1_O3 : kO1 ≠ kO3) (n_O2_O3 : kO2 ≠ kO3) (x1lo : 8 ≤ x1) (x1hi : x1 ≤ 11) : q_mV l y_Mil_mixBits prog_8_method_11_code 12 3 0 0 D g [.ref qO0, .int x1, .ref qO1, .ref qO2] ws (fun u => (x1 = 8 ∧ q_un ws u [kO3, kA15] ∧ u[kO3]? = (some (qO3, .inr (2, [.ref qA15, .int 0, .int 0])) : Option (Nat × va_E)) ∧ u[kA15]? = (some (qA15, .inl (g 0, 220, .inl (fun _ => 0))) : Option (Nat × va_E))) ∨ (¬ x1 = 8 ∧ q_un ws u [kO3, kA15] ∧ u[kO3]? = (some (qO3, .inr (2, [.ref qA15, .int 0, .int 0])) : Option (Nat × va_E)) ∧ u[kA15]? = (some (qA15, .inl (g 0, 220, .inl (fun _ => 0))) : Option (Nat × va_E)))) := by
  intro sz
  refine q_into (by decide) (Nat.le_of_ble_eq_true rfl) ?_
  intro p e s m below meth c ls hsz C0 V hl
  have hx := C0.1
  have hb := C0.2.1
  have hl : lv_has ls 12 [(0, .ref qO0), (1, .int x1), (2, .ref qO1), (3, .ref qO2)] := hl
  have n_A15_O3 := q_df hA15 hO3
  have n_O0_A15 := Ne.symm (q_df hA15 hO0)
  have n_O0_O3 := q_dc hO0 hO3 (q_pd 4 2 rfl)
  have n_O1_A15 := Ne.symm (q_df hA15 hO1)
  have n_O2_A15 := Ne.symm (q_df hA15 hO2)
  have hF : q_un ws ws [kO3, kA15] := q_u0
  refine lv_aload_n hx hb d_8_11_0 rfl (lv_at hl 2 rfl) ?_
  refine q_get (ci := 2) (j := 1) (v := .int 0) C0 V i_Big rfl rfl hO1 (by decide) w_89 rfl d_8_11_1 ?_
  refine lv_aload_n hx hb d_8_11_4 rfl (lv_at hl 3 rfl) ?_
  refine q_get (ci := 2) (j := 1) (v := .int 0) C0 V i_Big rfl rfl hO2 (by decide) w_89 rfl d_8_11_5 ?_
  refine q_max C0 hl.1 rfl w_1301 w_803 w_7 w_804 ⟨Nat.le_of_ble_eq_true rfl, Nat.le_of_ble_eq_true rfl⟩ ⟨Nat.le_of_ble_eq_true rfl, Nat.le_of_ble_eq_true rfl⟩ d_8_11_8 ?_
  refine q_ti (v := 0) (by decide) ?_
  refine lv_iconst (v := 1) hx hb d_8_11_11 (by decide) ?_
  refine lv_iadd hx hb d_8_11_12 ?_
  refine q_ti (v := 1) (by decide) ?_
  refine lv_istore (lv' := [(4, .int 1), (0, .ref qO0), (1, .int x1), (2, .ref qO1), (3, .ref qO2)]) hx hb d_8_11_13 hl (by decide) rfl (fun ls hl => ?_)
  refine lv_aload_n hx hb d_8_11_15 rfl (lv_at hl 3 rfl) ?_
  refine q_goi V (q_runV (As := []) (rest := []) (d := 1) (mc := 0) (ms := 0) (ci := 2) C0 V rfl LV_Mil_128 (c_Big_lowestLimb l D g ws kO1 qO1 qA13 hO1 _) rfl rfl hO1 rfl hl.1 rfl (Nat.le_of_ble_eq_true rfl) ⟨by decide, by decide⟩ ⟨Nat.le_of_ble_eq_true rfl, Nat.le_of_ble_eq_true rfl⟩ d_8_11_16) (fun v3 u2 H locs hp1 V => ?_)
  obtain ⟨rfl, rfl⟩ := hp1
  refine lv_istore (lv' := [(5, .int 0), (4, .int 1), (0, .ref qO0), (1, .int x1), (2, .ref qO1), (3, .ref qO2)]) hx hb d_8_11_19 hl (by decide) rfl (fun ls hl => ?_)
  refine lv_aload_n hx hb d_8_11_21 rfl (lv_at hl 5 rfl) ?_
  refine q_goi V (q_runV (As := []) (rest := []) (d := 1) (mc := 0) (ms := 0) (ci := 2) C0 V rfl LV_Mil_128 (c_Big_lowestLimb l D g ws kO2 qO2 qA14 hO2 _) rfl rfl hO2 rfl hl.1 rfl (Nat.le_of_ble_eq_true rfl) ⟨by decide, by decide⟩ ⟨Nat.le_of_ble_eq_true rfl, Nat.le_of_ble_eq_true rfl⟩ d_8_11_22) (fun v7 u6 H locs hp5 V => ?_)
  obtain ⟨rfl, rfl⟩ := hp5
  refine lv_istore (lv' := [(6, .int 0), (5, .int 0), (4, .int 1), (0, .ref qO0), (1, .int x1), (2, .ref qO1), (3, .ref qO2)]) hx hb d_8_11_25 hl (by decide) rfl (fun ls hl => ?_)
  refine lv_iload_n hx hb d_8_11_27 rfl (lv_at hl 4 rfl) ?_
  refine lv_aload_n hx hb d_8_11_28 rfl (lv_at hl 5 rfl) ?_
  refine q_get (ci := 2) (j := 2) (v := .int 0) C0 V i_Big rfl rfl hO1 (by decide) w_96 rfl d_8_11_29 ?_
  refine lv_if_eq (tgt := 39) hx hb d_8_11_32 (by decide) (fun c9 => ?_) (fun c9 => absurd (by decide) c9)
  refine lv_iconst (v := 0) hx hb d_8_11_39 (by decide) ?_
  refine lv_aload_n hx hb d_8_11_40 rfl (lv_at hl 6 rfl) ?_
  refine q_get (ci := 2) (j := 2) (v := .int 0) C0 V i_Big rfl rfl hO2 (by decide) w_96 rfl d_8_11_41 ?_
  refine lv_if_eq (tgt := 51) hx hb d_8_11_44 (by decide) (fun c10 => ?_) (fun c10 => absurd (by decide) c10)
  refine lv_iconst (v := 0) hx hb d_8_11_51 (by decide) ?_
  refine q_goi V (q_runS (As := [.int x1, .int 0, .int 0]) (rest := []) (d := 1) (mc := 0) (ms := 0) C0 V rfl LS_Mil_131 (c_Mil_mixed l D g ws x1 x1lo x1hi _) rfl hl.1 rfl (Nat.le_of_ble_eq_true rfl) ⟨by decide, by decide⟩ ⟨Nat.le_of_ble_eq_true rfl, Nat.le_of_ble_eq_true rfl⟩ d_8_11_52) (fun v13 u12 H locs hp11 V => ?_)
  rcases hp11 with ⟨c14, rfl, rfl⟩ | ⟨c16, c17, rfl, rfl⟩ | ⟨c19, c20, rfl, rfl⟩
  ·
    refine lv_iconst (v := 1) hx hb d_8_11_55 (by decide) ?_
    refine lv_icmp_ne (tgt := 63) hx hb d_8_11_56 (by decide) (fun c22 => ?_) (fun c22 => absurd c22 (by decide))
    refine lv_iconst (v := 0) hx hb d_8_11_63 (by decide) ?_
    refine lv_istore (lv' := [(7, .int 0), (6, .int 0), (5, .int 0), (4, .int 1), (0, .ref qO0), (1, .int x1), (2, .ref qO1), (3, .ref qO2)]) hx hb d_8_11_64 hl (by decide) rfl (fun ls hl => ?_)
    refine lv_iload hx hb d_8_11_66 (lv_at hl 0 rfl) ?_
    refine lv_if_eq (tgt := 75) hx hb d_8_11_68 (by decide) (fun c23 => ?_) (fun c23 => absurd (by decide) c23)
    refine lv_iconst (v := 0) hx hb d_8_11_75 (by decide) ?_
    refine lv_istore (lv' := [(8, .int 0), (7, .int 0), (6, .int 0), (5, .int 0), (4, .int 1), (0, .ref qO0), (1, .int x1), (2, .ref qO1), (3, .ref qO2)]) hx hb d_8_11_76 hl (by decide) rfl (fun ls hl => ?_)
    refine lv_aload_n hx hb d_8_11_78 rfl (lv_at hl 5 rfl) ?_
    refine q_get (ci := 4) (j := 0) (v := .ref qO3) C0 V i_Mil rfl rfl hO0 (by decide) w_108 rfl d_8_11_79 ?_
    refine q_gov V (q_runV (As := []) (rest := []) (d := 1) (mc := 0) (ms := 0) (ci := 2) C0 V rfl LV_Mil_74 (c_Big_clear l D g ws kO3 qO3 qA15 0 0 hO3 _) rfl rfl hO3 rfl hl.1 rfl (Nat.le_of_ble_eq_true rfl) ⟨by decide, by decide⟩ ⟨Nat.le_of_ble_eq_true rfl, Nat.le_of_ble_eq_true rfl⟩ d_8_11_82) (fun u25 H locs hp24 V => ?_)
    obtain ⟨hg26, hO3⟩ := hp24
    replace hF := q_uc hF hg26 (q_sc (.head _) (fun _ h => absurd h List.not_mem_nil))
    refine lv_iconst (v := 0) hx hb d_8_11_85 (by decide) ?_
    refine lv_istore (lv' := [(9, .int 0), (8, .int 0), (7, .int 0), (6, .int 0), (5, .int 0), (4, .int 1), (0, .ref qO0), (1, .int x1), (2, .ref qO1), (3, .ref qO2)]) hx hb d_8_11_86 hl (by decide) rfl (fun ls hl => ?_)
    refine lv_iload hx hb d_8_11_88 (lv_at hl 0 rfl) ?_
    refine lv_iload hx hb d_8_11_90 (lv_at hl 5 rfl) ?_
    refine lv_icmp_ge (tgt := 164) hx hb d_8_11_92 (by decide) (fun c27 => absurd c27 (by decide)) (fun c27 => ?_)
    refine lv_iload_n hx hb d_8_11_95 rfl (lv_at hl 7 rfl) ?_
    refine q_ti (v := 8) c14 ?_
    refine lv_aload_n hx hb d_8_11_96 rfl (lv_at hl 8 rfl) ?_
    refine lv_iload hx hb d_8_11_97 (lv_at hl 0 rfl) ?_
    refine lv_iload hx hb d_8_11_99 (lv_at hl 4 rfl) ?_
    replace hO1 := (hg26 _ (q_nc n_O1_O3 List.not_mem_nil)).trans (hO1)
    refine q_goi V (q_runV (As := [.int 0, .int 0]) (rest := [.int 8]) (d := 2) (mc := 0) (ms := 0) (ci := 2) C0 V rfl LV_Mil_135 (c_Big_endlessLimb l D g u25 kO1 qO1 qA13 hO1 _) rfl rfl hO1 rfl hl.1 rfl (Nat.le_of_ble_eq_true rfl) ⟨by decide, by decide⟩ ⟨Nat.le_of_ble_eq_true rfl, Nat.le_of_ble_eq_true rfl⟩ d_8_11_101) (fun v30 u29 H locs hp28 V => ?_)
    obtain ⟨rfl, rfl⟩ := hp28
    refine lv_aload_n hx hb d_8_11_104 rfl (lv_at hl 9 rfl) ?_
    refine lv_iload hx hb d_8_11_105 (lv_at hl 0 rfl) ?_
    refine lv_iload hx hb d_8_11_107 (lv_at hl 3 rfl) ?_
    replace hO2 := (hg26 _ (q_nc n_O2_O3 List.not_mem_nil)).trans (hO2)
    refine q_goi V (q_runV (As := [.int 0, .int 0]) (rest := [.int 0, .int 8]) (d := 2) (mc := 0) (ms := 0) (ci := 2) C0 V rfl LV_Mil_135 (c_Big_endlessLimb l D g u25 kO2 qO2 qA14 hO2 _) rfl rfl hO2 rfl hl.1 rfl (Nat.le_of_ble_eq_true rfl) ⟨by decide, by decide⟩ ⟨Nat.le_of_ble_eq_true rfl, Nat.le_of_ble_eq_true rfl⟩ d_8_11_109) (fun v34 u33 H locs hp32 V => ?_)
    obtain ⟨rfl, rfl⟩ := hp32
    refine q_goi V (q_runS (As := [.int 8, .int 0, .int 0]) (rest := []) (d := 1) (mc := 0) (ms := 0) C0 V rfl LS_Mil_131 (c_Mil_mixed l D g u25 8 (q_Ile (x := 8) (y := 8) (by decide) (by decide) (by omega)) (q_Ile (x := 8) (y := 11) (by decide) (by decide) (by omega)) _) rfl hl.1 rfl (Nat.le_of_ble_eq_true rfl) ⟨by decide, by decide⟩ ⟨Nat.le_of_ble_eq_true rfl, Nat.le_of_ble_eq_true rfl⟩ d_8_11_112) (fun v38 u37 H locs hp36 V => ?_)
    rcases hp36 with ⟨c39, rfl, rfl⟩ | ⟨c41, c42, rfl, rfl⟩ | ⟨c44, c45, rfl, rfl⟩
    ·
      refine lv_istore (lv' := [(10, .int 0), (9, .int 0), (8, .int 0), (7, .int 0), (6, .int 0), (5, .int 0), (4, .int 1), (0, .ref qO0), (1, .int x1), (2, .ref qO1), (3, .ref qO2)]) hx hb d_8_11_115 hl (by decide) rfl (fun ls hl => ?_)
      refine lv_iload hx hb d_8_11_117 (lv_at hl 3 rfl) ?_
      refine lv_if_eq (tgt := 132) hx hb d_8_11_119 (by decide) (fun c47 => ?_) (fun c47 => absurd (by decide) c47)
      refine lv_iload hx hb d_8_11_132 (lv_at hl 0 rfl) ?_
      refine lv_iload hx hb d_8_11_134 (lv_at hl 2 rfl) ?_
      refine lv_iadd hx hb d_8_11_136 ?_
      refine q_ti (v := 0) (by decide) ?_
      refine lv_istore (lv' := [(11, .int 0), (10, .int 0), (9, .int 0), (8, .int 0), (7, .int 0), (6, .int 0), (5, .int 0), (4, .int 1), (0, .ref qO0), (1, .int x1), (2, .ref qO1), (3, .ref qO2)]) hx hb d_8_11_137 hl (by decide) rfl (fun ls hl => ?_)
      refine lv_aload_n hx hb d_8_11_139 rfl (lv_at hl 8 rfl) ?_
      replace hO0 := (hg26 _ (q_nc n_O0_O3 List.not_mem_nil)).trans (hO0)
      refine q_get (ci := 4) (j := 0) (v := .ref qO3) C0 V i_Mil rfl rfl hO0 (by decide) w_108 rfl d_8_11_140 ?_
      refine lv_iload hx hb d_8_11_143 (lv_at hl 0 rfl) ?_
      refine q_ldc C0 rfl w_1313 d_8_11_145 ?_
      refine lv_iand hx hb d_8_11_147 ?_
      refine q_ti (v := 0) (by decide) ?_
      replace hA15 := (hg26 _ (q_nc n_A15_O3 List.not_mem_nil)).trans (hA15)
      refine q_gov V (q_runV (As := [.int 0]) (rest := []) (d := 1) (mc := 0) (ms := 0) (ci := 2) C0 V rfl LV_Mil_139 (c_Big_push_4 l D g u25 kO3 kA15 qO3 qA15 hO3 hA15 _) rfl rfl hO3 rfl hl.1 rfl (Nat.le_of_ble_eq_true rfl) ⟨by decide, by decide⟩ ⟨Nat.le_of_ble_eq_true rfl, Nat.le_of_ble_eq_true rfl⟩ d_8_11_148) (fun u49 H locs hp48 V => ?_)
      obtain ⟨hg50, hO3, hA15⟩ := hp48
      replace hF := q_uc hF hg50 (q_sc (.head _) (q_sc (.tail _ (.head _)) (fun _ h => absurd h List.not_mem_nil)))
      refine lv_iload hx hb d_8_11_151 (lv_at hl 0 rfl) ?_
      refine lv_bipush (v := 31) hx hb d_8_11_153 (by decide) ?_
      refine lv_iushr hx hb d_8_11_155 rfl ?_
      refine q_ti (v := 0) (by decide) ?_
      refine lv_istore (lv' := [(8, .int 0), (11, .int 0), (10, .int 0), (9, .int 0), (7, .int 0), (6, .int 0), (5, .int 0), (4, .int 1), (0, .ref qO0), (1, .int x1), (2, .ref qO1), (3, .ref qO2)]) hx hb d_8_11_156 hl (by decide) rfl (fun ls hl => ?_)
      refine lv_iinc (v := 1) (lv' := [(9, .int 1), (8, .int 0), (11, .int 0), (10, .int 0), (7, .int 0), (6, .int 0), (5, .int 0), (4, .int 1), (0, .ref qO0), (1, .int x1), (2, .ref qO1), (3, .ref qO2)]) hx hb d_8_11_158 hl (k := 3) rfl (by decide) (by decide) rfl (fun ls hl => ?_)
      refine lv_goto (tgt := 88) hx hb d_8_11_161 (by decide) ?_
      refine lv_iload hx hb d_8_11_88 (lv_at hl 0 rfl) ?_
      refine lv_iload hx hb d_8_11_90 (lv_at hl 7 rfl) ?_
      refine lv_icmp_ge (tgt := 164) hx hb d_8_11_92 (by decide) (fun c51 => ?_) (fun c51 => absurd (by decide) c51)
      refine lv_aload_n hx hb d_8_11_164 rfl (lv_at hl 8 rfl) ?_
      replace hO0 := (hg50 _ (q_nc n_O0_O3 (q_nc n_O0_A15 List.not_mem_nil))).trans (hO0)
      refine q_get (ci := 4) (j := 0) (v := .ref qO3) C0 V i_Mil rfl rfl hO0 (by decide) w_108 rfl d_8_11_165 ?_
      refine q_gov V (q_runV (As := []) (rest := []) (d := 1) (mc := 0) (ms := 0) (ci := 2) C0 V rfl LV_Mil_142 (c_Big_trim_3 l D g u49 kO3 kA15 qO3 qA15 hO3 hA15 _) rfl rfl hO3 rfl hl.1 rfl (Nat.le_of_ble_eq_true rfl) ⟨by decide, by decide⟩ ⟨Nat.le_of_ble_eq_true rfl, Nat.le_of_ble_eq_true rfl⟩ d_8_11_168) (fun u53 H locs hp52 V => ?_)
      obtain ⟨hg54, hO3⟩ := hp52
      replace hF := q_uc hF hg54 (q_sc (.head _) (fun _ h => absurd h List.not_mem_nil))
      refine lv_aload_n hx hb d_8_11_171 rfl (lv_at hl 8 rfl) ?_
      replace hO0 := (hg54 _ (q_nc n_O0_O3 List.not_mem_nil)).trans (hO0)
      refine q_get (ci := 4) (j := 0) (v := .ref qO3) C0 V i_Mil rfl rfl hO0 (by decide) w_108 rfl d_8_11_172 ?_
      refine lv_iload hx hb d_8_11_175 (lv_at hl 4 rfl) ?_
      refine q_put (ci := 2) (j := 2) (v := .int 0) (ty := .boolean) C0 V i_Big o_Big n_Big rfl rfl hO3 (by decide) w_96 rfl rfl rfl rfl (Nat.le_of_ble_eq_true rfl) d_8_11_177 (fun H locs w55 hu56 hO3 V => ?_)
      replace hO3 : w55[kO3]? = (some (qO3, .inr (2, [.ref qA15, .int 0, .int 0])) : Option (Nat × va_E)) := hO3
      replace hF := q_us hF hu56 (.head _)
      replace hA15 := (hu56 _ n_A15_O3).trans ((hg54 _ (q_nc n_A15_O3 List.not_mem_nil)).trans (hA15))
      exact q_retv C0 V (Or.inl ⟨c14, hF, hO3, hA15⟩) d_8_11_180
    ·
      exact absurd c41 (by decide)
    ·
      exact absurd c44 (by decide)
  ·
    refine lv_iconst (v := 1) hx hb d_8_11_55 (by decide) ?_
    refine lv_icmp_ne (tgt := 63) hx hb d_8_11_56 (by decide) (fun c57 => ?_) (fun c57 => absurd c57 (by decide))
    refine lv_iconst (v := 0) hx hb d_8_11_63 (by decide) ?_
    refine lv_istore (lv' := [(7, .int 0), (6, .int 0), (5, .int 0), (4, .int 1), (0, .ref qO0), (1, .int x1), (2, .ref qO1), (3, .ref qO2)]) hx hb d_8_11_64 hl (by decide) rfl (fun ls hl => ?_)
    refine lv_iload hx hb d_8_11_66 (lv_at hl 0 rfl) ?_
    refine lv_if_eq (tgt := 75) hx hb d_8_11_68 (by decide) (fun c58 => ?_) (fun c58 => absurd (by decide) c58)
    refine lv_iconst (v := 0) hx hb d_8_11_75 (by decide) ?_
    refine lv_istore (lv' := [(8, .int 0), (7, .int 0), (6, .int 0), (5, .int 0), (4, .int 1), (0, .ref qO0), (1, .int x1), (2, .ref qO1), (3, .ref qO2)]) hx hb d_8_11_76 hl (by decide) rfl (fun ls hl => ?_)
    refine lv_aload_n hx hb d_8_11_78 rfl (lv_at hl 5 rfl) ?_
    refine q_get (ci := 4) (j := 0) (v := .ref qO3) C0 V i_Mil rfl rfl hO0 (by decide) w_108 rfl d_8_11_79 ?_
    refine q_gov V (q_runV (As := []) (rest := []) (d := 1) (mc := 0) (ms := 0) (ci := 2) C0 V rfl LV_Mil_74 (c_Big_clear l D g ws kO3 qO3 qA15 0 0 hO3 _) rfl rfl hO3 rfl hl.1 rfl (Nat.le_of_ble_eq_true rfl) ⟨by decide, by decide⟩ ⟨Nat.le_of_ble_eq_true rfl, Nat.le_of_ble_eq_true rfl⟩ d_8_11_82) (fun u60 H locs hp59 V => ?_)
    obtain ⟨hg61, hO3⟩ := hp59
    replace hF := q_uc hF hg61 (q_sc (.head _) (fun _ h => absurd h List.not_mem_nil))
    refine lv_iconst (v := 0) hx hb d_8_11_85 (by decide) ?_
    refine lv_istore (lv' := [(9, .int 0), (8, .int 0), (7, .int 0), (6, .int 0), (5, .int 0), (4, .int 1), (0, .ref qO0), (1, .int x1), (2, .ref qO1), (3, .ref qO2)]) hx hb d_8_11_86 hl (by decide) rfl (fun ls hl => ?_)
    refine lv_iload hx hb d_8_11_88 (lv_at hl 0 rfl) ?_
    refine lv_iload hx hb d_8_11_90 (lv_at hl 5 rfl) ?_
    refine lv_icmp_ge (tgt := 164) hx hb d_8_11_92 (by decide) (fun c62 => absurd c62 (by decide)) (fun c62 => ?_)
    refine lv_iload_n hx hb d_8_11_95 rfl (lv_at hl 7 rfl) ?_
    refine q_ti (v := 9) c17 ?_
    refine lv_aload_n hx hb d_8_11_96 rfl (lv_at hl 8 rfl) ?_
    refine lv_iload hx hb d_8_11_97 (lv_at hl 0 rfl) ?_
    refine lv_iload hx hb d_8_11_99 (lv_at hl 4 rfl) ?_
    replace hO1 := (hg61 _ (q_nc n_O1_O3 List.not_mem_nil)).trans (hO1)
    refine q_goi V (q_runV (As := [.int 0, .int 0]) (rest := [.int 9]) (d := 2) (mc := 0) (ms := 0) (ci := 2) C0 V rfl LV_Mil_135 (c_Big_endlessLimb l D g u60 kO1 qO1 qA13 hO1 _) rfl rfl hO1 rfl hl.1 rfl (Nat.le_of_ble_eq_true rfl) ⟨by decide, by decide⟩ ⟨Nat.le_of_ble_eq_true rfl, Nat.le_of_ble_eq_true rfl⟩ d_8_11_101) (fun v65 u64 H locs hp63 V => ?_)
    obtain ⟨rfl, rfl⟩ := hp63
    refine lv_aload_n hx hb d_8_11_104 rfl (lv_at hl 9 rfl) ?_
    refine lv_iload hx hb d_8_11_105 (lv_at hl 0 rfl) ?_
    refine lv_iload hx hb d_8_11_107 (lv_at hl 3 rfl) ?_
    replace hO2 := (hg61 _ (q_nc n_O2_O3 List.not_mem_nil)).trans (hO2)
    refine q_goi V (q_runV (As := [.int 0, .int 0]) (rest := [.int 0, .int 9]) (d := 2) (mc := 0) (ms := 0) (ci := 2) C0 V rfl LV_Mil_135 (c_Big_endlessLimb l D g u60 kO2 qO2 qA14 hO2 _) rfl rfl hO2 rfl hl.1 rfl (Nat.le_of_ble_eq_true rfl) ⟨by decide, by decide⟩ ⟨Nat.le_of_ble_eq_true rfl, Nat.le_of_ble_eq_true rfl⟩ d_8_11_109) (fun v69 u68 H locs hp67 V => ?_)
    obtain ⟨rfl, rfl⟩ := hp67
    refine q_goi V (q_runS (As := [.int 9, .int 0, .int 0]) (rest := []) (d := 1) (mc := 0) (ms := 0) C0 V rfl LS_Mil_131 (c_Mil_mixed l D g u60 9 (q_Ile (x := 8) (y := 9) (by decide) (by decide) (by omega)) (q_Ile (x := 9) (y := 11) (by decide) (by decide) (by omega)) _) rfl hl.1 rfl (Nat.le_of_ble_eq_true rfl) ⟨by decide, by decide⟩ ⟨Nat.le_of_ble_eq_true rfl, Nat.le_of_ble_eq_true rfl⟩ d_8_11_112) (fun v73 u72 H locs hp71 V => ?_)
    rcases hp71 with ⟨c74, rfl, rfl⟩ | ⟨c76, c77, rfl, rfl⟩ | ⟨c79, c80, rfl, rfl⟩
    ·
      exact absurd c74 (by decide)
    ·
      refine lv_istore (lv' := [(10, .int 0), (9, .int 0), (8, .int 0), (7, .int 0), (6, .int 0), (5, .int 0), (4, .int 1), (0, .ref qO0), (1, .int x1), (2, .ref qO1), (3, .ref qO2)]) hx hb d_8_11_115 hl (by decide) rfl (fun ls hl => ?_)
      refine lv_iload hx hb d_8_11_117 (lv_at hl 3 rfl) ?_
      refine lv_if_eq (tgt := 132) hx hb d_8_11_119 (by decide) (fun c82 => ?_) (fun c82 => absurd (by decide) c82)
      refine lv_iload hx hb d_8_11_132 (lv_at hl 0 rfl) ?_
      refine lv_iload hx hb d_8_11_134 (lv_at hl 2 rfl) ?_
      refine lv_iadd hx hb d_8_11_136 ?_
      refine q_ti (v := 0) (by decide) ?_
      refine lv_istore (lv' := [(11, .int 0), (10, .int 0), (9, .int 0), (8, .int 0), (7, .int 0), (6, .int 0), (5, .int 0), (4, .int 1), (0, .ref qO0), (1, .int x1), (2, .ref qO1), (3, .ref qO2)]) hx hb d_8_11_137 hl (by decide) rfl (fun ls hl => ?_)
      refine lv_aload_n hx hb d_8_11_139 rfl (lv_at hl 8 rfl) ?_
      replace hO0 := (hg61 _ (q_nc n_O0_O3 List.not_mem_nil)).trans (hO0)
      refine q_get (ci := 4) (j := 0) (v := .ref qO3) C0 V i_Mil rfl rfl hO0 (by decide) w_108 rfl d_8_11_140 ?_
      refine lv_iload hx hb d_8_11_143 (lv_at hl 0 rfl) ?_
      refine q_ldc C0 rfl w_1313 d_8_11_145 ?_
      refine lv_iand hx hb d_8_11_147 ?_
      refine q_ti (v := 0) (by decide) ?_
      replace hA15 := (hg61 _ (q_nc n_A15_O3 List.not_mem_nil)).trans (hA15)
      refine q_gov V (q_runV (As := [.int 0]) (rest := []) (d := 1) (mc := 0) (ms := 0) (ci := 2) C0 V rfl LV_Mil_139 (c_Big_push_4 l D g u60 kO3 kA15 qO3 qA15 hO3 hA15 _) rfl rfl hO3 rfl hl.1 rfl (Nat.le_of_ble_eq_true rfl) ⟨by decide, by decide⟩ ⟨Nat.le_of_ble_eq_true rfl, Nat.le_of_ble_eq_true rfl⟩ d_8_11_148) (fun u84 H locs hp83 V => ?_)
      obtain ⟨hg85, hO3, hA15⟩ := hp83
      replace hF := q_uc hF hg85 (q_sc (.head _) (q_sc (.tail _ (.head _)) (fun _ h => absurd h List.not_mem_nil)))
      refine lv_iload hx hb d_8_11_151 (lv_at hl 0 rfl) ?_
      refine lv_bipush (v := 31) hx hb d_8_11_153 (by decide) ?_
      refine lv_iushr hx hb d_8_11_155 rfl ?_
      refine q_ti (v := 0) (by decide) ?_
      refine lv_istore (lv' := [(8, .int 0), (11, .int 0), (10, .int 0), (9, .int 0), (7, .int 0), (6, .int 0), (5, .int 0), (4, .int 1), (0, .ref qO0), (1, .int x1), (2, .ref qO1), (3, .ref qO2)]) hx hb d_8_11_156 hl (by decide) rfl (fun ls hl => ?_)
      refine lv_iinc (v := 1) (lv' := [(9, .int 1), (8, .int 0), (11, .int 0), (10, .int 0), (7, .int 0), (6, .int 0), (5, .int 0), (4, .int 1), (0, .ref qO0), (1, .int x1), (2, .ref qO1), (3, .ref qO2)]) hx hb d_8_11_158 hl (k := 3) rfl (by decide) (by decide) rfl (fun ls hl => ?_)
      refine lv_goto (tgt := 88) hx hb d_8_11_161 (by decide) ?_
      refine lv_iload hx hb d_8_11_88 (lv_at hl 0 rfl) ?_
      refine lv_iload hx hb d_8_11_90 (lv_at hl 7 rfl) ?_
      refine lv_icmp_ge (tgt := 164) hx hb d_8_11_92 (by decide) (fun c86 => ?_) (fun c86 => absurd (by decide) c86)
      refine lv_aload_n hx hb d_8_11_164 rfl (lv_at hl 8 rfl) ?_
      replace hO0 := (hg85 _ (q_nc n_O0_O3 (q_nc n_O0_A15 List.not_mem_nil))).trans (hO0)
      refine q_get (ci := 4) (j := 0) (v := .ref qO3) C0 V i_Mil rfl rfl hO0 (by decide) w_108 rfl d_8_11_165 ?_
      refine q_gov V (q_runV (As := []) (rest := []) (d := 1) (mc := 0) (ms := 0) (ci := 2) C0 V rfl LV_Mil_142 (c_Big_trim_3 l D g u84 kO3 kA15 qO3 qA15 hO3 hA15 _) rfl rfl hO3 rfl hl.1 rfl (Nat.le_of_ble_eq_true rfl) ⟨by decide, by decide⟩ ⟨Nat.le_of_ble_eq_true rfl, Nat.le_of_ble_eq_true rfl⟩ d_8_11_168) (fun u88 H locs hp87 V => ?_)
      obtain ⟨hg89, hO3⟩ := hp87
      replace hF := q_uc hF hg89 (q_sc (.head _) (fun _ h => absurd h List.not_mem_nil))
      refine lv_aload_n hx hb d_8_11_171 rfl (lv_at hl 8 rfl) ?_
      replace hO0 := (hg89 _ (q_nc n_O0_O3 List.not_mem_nil)).trans (hO0)
      refine q_get (ci := 4) (j := 0) (v := .ref qO3) C0 V i_Mil rfl rfl hO0 (by decide) w_108 rfl d_8_11_172 ?_
      refine lv_iload hx hb d_8_11_175 (lv_at hl 4 rfl) ?_
      refine q_put (ci := 2) (j := 2) (v := .int 0) (ty := .boolean) C0 V i_Big o_Big n_Big rfl rfl hO3 (by decide) w_96 rfl rfl rfl rfl (Nat.le_of_ble_eq_true rfl) d_8_11_177 (fun H locs w90 hu91 hO3 V => ?_)
      replace hO3 : w90[kO3]? = (some (qO3, .inr (2, [.ref qA15, .int 0, .int 0])) : Option (Nat × va_E)) := hO3
      replace hF := q_us hF hu91 (.head _)
      replace hA15 := (hu91 _ n_A15_O3).trans ((hg89 _ (q_nc n_A15_O3 List.not_mem_nil)).trans (hA15))
      exact q_retv C0 V (Or.inr (⟨c16, hF, hO3, hA15⟩)) d_8_11_180
    ·
      exact absurd c80 (by decide)
  ·
    refine lv_iconst (v := 1) hx hb d_8_11_55 (by decide) ?_
    refine lv_icmp_ne (tgt := 63) hx hb d_8_11_56 (by decide) (fun c92 => ?_) (fun c92 => absurd c92 (by decide))
    refine lv_iconst (v := 0) hx hb d_8_11_63 (by decide) ?_
    refine lv_istore (lv' := [(7, .int 0), (6, .int 0), (5, .int 0), (4, .int 1), (0, .ref qO0), (1, .int x1), (2, .ref qO1), (3, .ref qO2)]) hx hb d_8_11_64 hl (by decide) rfl (fun ls hl => ?_)
    refine lv_iload hx hb d_8_11_66 (lv_at hl 0 rfl) ?_
    refine lv_if_eq (tgt := 75) hx hb d_8_11_68 (by decide) (fun c93 => ?_) (fun c93 => absurd (by decide) c93)
    refine lv_iconst (v := 0) hx hb d_8_11_75 (by decide) ?_
    refine lv_istore (lv' := [(8, .int 0), (7, .int 0), (6, .int 0), (5, .int 0), (4, .int 1), (0, .ref qO0), (1, .int x1), (2, .ref qO1), (3, .ref qO2)]) hx hb d_8_11_76 hl (by decide) rfl (fun ls hl => ?_)
    refine lv_aload_n hx hb d_8_11_78 rfl (lv_at hl 5 rfl) ?_
    refine q_get (ci := 4) (j := 0) (v := .ref qO3) C0 V i_Mil rfl rfl hO0 (by decide) w_108 rfl d_8_11_79 ?_
    refine q_gov V (q_runV (As := []) (rest := []) (d := 1) (mc := 0) (ms := 0) (ci := 2) C0 V rfl LV_Mil_74 (c_Big_clear l D g ws kO3 qO3 qA15 0 0 hO3 _) rfl rfl hO3 rfl hl.1 rfl (Nat.le_of_ble_eq_true rfl) ⟨by decide, by decide⟩ ⟨Nat.le_of_ble_eq_true rfl, Nat.le_of_ble_eq_true rfl⟩ d_8_11_82) (fun u95 H locs hp94 V => ?_)
    obtain ⟨hg96, hO3⟩ := hp94
    replace hF := q_uc hF hg96 (q_sc (.head _) (fun _ h => absurd h List.not_mem_nil))
    refine lv_iconst (v := 0) hx hb d_8_11_85 (by decide) ?_
    refine lv_istore (lv' := [(9, .int 0), (8, .int 0), (7, .int 0), (6, .int 0), (5, .int 0), (4, .int 1), (0, .ref qO0), (1, .int x1), (2, .ref qO1), (3, .ref qO2)]) hx hb d_8_11_86 hl (by decide) rfl (fun ls hl => ?_)
    refine lv_iload hx hb d_8_11_88 (lv_at hl 0 rfl) ?_
    refine lv_iload hx hb d_8_11_90 (lv_at hl 5 rfl) ?_
    refine lv_icmp_ge (tgt := 164) hx hb d_8_11_92 (by decide) (fun c97 => absurd c97 (by decide)) (fun c97 => ?_)
    refine lv_iload_n hx hb d_8_11_95 rfl (lv_at hl 7 rfl) ?_
    refine lv_aload_n hx hb d_8_11_96 rfl (lv_at hl 8 rfl) ?_
    refine lv_iload hx hb d_8_11_97 (lv_at hl 0 rfl) ?_
    refine lv_iload hx hb d_8_11_99 (lv_at hl 4 rfl) ?_
    replace hO1 := (hg96 _ (q_nc n_O1_O3 List.not_mem_nil)).trans (hO1)
    refine q_goi V (q_runV (As := [.int 0, .int 0]) (rest := [.int x1]) (d := 2) (mc := 0) (ms := 0) (ci := 2) C0 V rfl LV_Mil_135 (c_Big_endlessLimb l D g u95 kO1 qO1 qA13 hO1 _) rfl rfl hO1 rfl hl.1 rfl (Nat.le_of_ble_eq_true rfl) ⟨by decide, by decide⟩ ⟨Nat.le_of_ble_eq_true rfl, Nat.le_of_ble_eq_true rfl⟩ d_8_11_101) (fun v100 u99 H locs hp98 V => ?_)
    obtain ⟨rfl, rfl⟩ := hp98
    refine lv_aload_n hx hb d_8_11_104 rfl (lv_at hl 9 rfl) ?_
    refine lv_iload hx hb d_8_11_105 (lv_at hl 0 rfl) ?_
    refine lv_iload hx hb d_8_11_107 (lv_at hl 3 rfl) ?_
    replace hO2 := (hg96 _ (q_nc n_O2_O3 List.not_mem_nil)).trans (hO2)
    refine q_goi V (q_runV (As := [.int 0, .int 0]) (rest := [.int 0, .int x1]) (d := 2) (mc := 0) (ms := 0) (ci := 2) C0 V rfl LV_Mil_135 (c_Big_endlessLimb l D g u95 kO2 qO2 qA14 hO2 _) rfl rfl hO2 rfl hl.1 rfl (Nat.le_of_ble_eq_true rfl) ⟨by decide, by decide⟩ ⟨Nat.le_of_ble_eq_true rfl, Nat.le_of_ble_eq_true rfl⟩ d_8_11_109) (fun v104 u103 H locs hp102 V => ?_)
    obtain ⟨rfl, rfl⟩ := hp102
    refine q_goi V (q_runS (As := [.int x1, .int 0, .int 0]) (rest := []) (d := 1) (mc := 0) (ms := 0) C0 V rfl LS_Mil_131 (c_Mil_mixed l D g u95 x1 x1lo x1hi _) rfl hl.1 rfl (Nat.le_of_ble_eq_true rfl) ⟨by decide, by decide⟩ ⟨Nat.le_of_ble_eq_true rfl, Nat.le_of_ble_eq_true rfl⟩ d_8_11_112) (fun v108 u107 H locs hp106 V => ?_)
    rcases hp106 with ⟨c109, rfl, rfl⟩ | ⟨c111, c112, rfl, rfl⟩ | ⟨c114, c115, rfl, rfl⟩
    ·
      exact absurd c109 (q_Ine (x := x1.toInt) (y := 8) rfl (by decide) (by have t1 : 8 ≤ x1.toInt := q_leI x1lo; have t2 : x1.toInt ≤ 11 := q_leI x1hi; have t3 : x1.toInt ≠ 8 := q_neI c19; have t4 : x1.toInt ≠ 9 := q_neI c20; omega))
    ·
      exact absurd c112 (q_Ine (x := x1.toInt) (y := 9) rfl (by decide) (by have t1 : 8 ≤ x1.toInt := q_leI x1lo; have t2 : x1.toInt ≤ 11 := q_leI x1hi; have t3 : x1.toInt ≠ 8 := q_neI c19; have t4 : x1.toInt ≠ 9 := q_neI c20; omega))
    ·
      refine lv_istore (lv' := [(10, .int 0), (9, .int 0), (8, .int 0), (7, .int 0), (6, .int 0), (5, .int 0), (4, .int 1), (0, .ref qO0), (1, .int x1), (2, .ref qO1), (3, .ref qO2)]) hx hb d_8_11_115 hl (by decide) rfl (fun ls hl => ?_)
      refine lv_iload hx hb d_8_11_117 (lv_at hl 3 rfl) ?_
      refine lv_if_eq (tgt := 132) hx hb d_8_11_119 (by decide) (fun c117 => ?_) (fun c117 => absurd (by decide) c117)
      refine lv_iload hx hb d_8_11_132 (lv_at hl 0 rfl) ?_
      refine lv_iload hx hb d_8_11_134 (lv_at hl 2 rfl) ?_
      refine lv_iadd hx hb d_8_11_136 ?_
      refine q_ti (v := 0) (by decide) ?_
      refine lv_istore (lv' := [(11, .int 0), (10, .int 0), (9, .int 0), (8, .int 0), (7, .int 0), (6, .int 0), (5, .int 0), (4, .int 1), (0, .ref qO0), (1, .int x1), (2, .ref qO1), (3, .ref qO2)]) hx hb d_8_11_137 hl (by decide) rfl (fun ls hl => ?_)
      refine lv_aload_n hx hb d_8_11_139 rfl (lv_at hl 8 rfl) ?_
      replace hO0 := (hg96 _ (q_nc n_O0_O3 List.not_mem_nil)).trans (hO0)
      refine q_get (ci := 4) (j := 0) (v := .ref qO3) C0 V i_Mil rfl rfl hO0 (by decide) w_108 rfl d_8_11_140 ?_
      refine lv_iload hx hb d_8_11_143 (lv_at hl 0 rfl) ?_
      refine q_ldc C0 rfl w_1313 d_8_11_145 ?_
      refine lv_iand hx hb d_8_11_147 ?_
      refine q_ti (v := 0) (by decide) ?_
      replace hA15 := (hg96 _ (q_nc n_A15_O3 List.not_mem_nil)).trans (hA15)
      refine q_gov V (q_runV (As := [.int 0]) (rest := []) (d := 1) (mc := 0) (ms := 0) (ci := 2) C0 V rfl LV_Mil_139 (c_Big_push_4 l D g u95 kO3 kA15 qO3 qA15 hO3 hA15 _) rfl rfl hO3 rfl hl.1 rfl (Nat.le_of_ble_eq_true rfl) ⟨by decide, by decide⟩ ⟨Nat.le_of_ble_eq_true rfl, Nat.le_of_ble_eq_true rfl⟩ d_8_11_148) (fun u119 H locs hp118 V => ?_)
      obtain ⟨hg120, hO3, hA15⟩ := hp118
      replace hF := q_uc hF hg120 (q_sc (.head _) (q_sc (.tail _ (.head _)) (fun _ h => absurd h List.not_mem_nil)))
      refine lv_iload hx hb d_8_11_151 (lv_at hl 0 rfl) ?_
      refine lv_bipush (v := 31) hx hb d_8_11_153 (by decide) ?_
      refine lv_iushr hx hb d_8_11_155 rfl ?_
      refine q_ti (v := 0) (by decide) ?_
      refine lv_istore (lv' := [(8, .int 0), (11, .int 0), (10, .int 0), (9, .int 0), (7, .int 0), (6, .int 0), (5, .int 0), (4, .int 1), (0, .ref qO0), (1, .int x1), (2, .ref qO1), (3, .ref qO2)]) hx hb d_8_11_156 hl (by decide) rfl (fun ls hl => ?_)
      refine lv_iinc (v := 1) (lv' := [(9, .int 1), (8, .int 0), (11, .int 0), (10, .int 0), (7, .int 0), (6, .int 0), (5, .int 0), (4, .int 1), (0, .ref qO0), (1, .int x1), (2, .ref qO1), (3, .ref qO2)]) hx hb d_8_11_158 hl (k := 3) rfl (by decide) (by decide) rfl (fun ls hl => ?_)
      refine lv_goto (tgt := 88) hx hb d_8_11_161 (by decide) ?_
      refine lv_iload hx hb d_8_11_88 (lv_at hl 0 rfl) ?_
      refine lv_iload hx hb d_8_11_90 (lv_at hl 7 rfl) ?_
      refine lv_icmp_ge (tgt := 164) hx hb d_8_11_92 (by decide) (fun c121 => ?_) (fun c121 => absurd (by decide) c121)
      refine lv_aload_n hx hb d_8_11_164 rfl (lv_at hl 8 rfl) ?_
      replace hO0 := (hg120 _ (q_nc n_O0_O3 (q_nc n_O0_A15 List.not_mem_nil))).trans (hO0)
      refine q_get (ci := 4) (j := 0) (v := .ref qO3) C0 V i_Mil rfl rfl hO0 (by decide) w_108 rfl d_8_11_165 ?_
      refine q_gov V (q_runV (As := []) (rest := []) (d := 1) (mc := 0) (ms := 0) (ci := 2) C0 V rfl LV_Mil_142 (c_Big_trim_3 l D g u119 kO3 kA15 qO3 qA15 hO3 hA15 _) rfl rfl hO3 rfl hl.1 rfl (Nat.le_of_ble_eq_true rfl) ⟨by decide, by decide⟩ ⟨Nat.le_of_ble_eq_true rfl, Nat.le_of_ble_eq_true rfl⟩ d_8_11_168) (fun u123 H locs hp122 V => ?_)
      obtain ⟨hg124, hO3⟩ := hp122
      replace hF := q_uc hF hg124 (q_sc (.head _) (fun _ h => absurd h List.not_mem_nil))
      refine lv_aload_n hx hb d_8_11_171 rfl (lv_at hl 8 rfl) ?_
      replace hO0 := (hg124 _ (q_nc n_O0_O3 List.not_mem_nil)).trans (hO0)
      refine q_get (ci := 4) (j := 0) (v := .ref qO3) C0 V i_Mil rfl rfl hO0 (by decide) w_108 rfl d_8_11_172 ?_
      refine lv_iload hx hb d_8_11_175 (lv_at hl 4 rfl) ?_
      refine q_put (ci := 2) (j := 2) (v := .int 0) (ty := .boolean) C0 V i_Big o_Big n_Big rfl rfl hO3 (by decide) w_96 rfl rfl rfl rfl (Nat.le_of_ble_eq_true rfl) d_8_11_177 (fun H locs w125 hu126 hO3 V => ?_)
      replace hO3 : w125[kO3]? = (some (qO3, .inr (2, [.ref qA15, .int 0, .int 0])) : Option (Nat × va_E)) := hO3
      replace hF := q_us hF hu126 (.head _)
      replace hA15 := (hu126 _ n_A15_O3).trans ((hg124 _ (q_nc n_A15_O3 List.not_mem_nil)).trans (hA15))
      exact q_retv C0 V (Or.inr (⟨c114, hF, hO3, hA15⟩)) d_8_11_180
set_option maxRecDepth 100000 in
set_option maxHeartbeats 4000000 in
theorem c_Big_copy_2 (l : Launch) (D : va_G) (g : Nat → ClassId) (ws : va_W) (kO0 kO1 kA2 kA3 qO0 qO1 qA2 qA3 : Nat) (hO0 : ws[kO0]? = (some (qO0, .inr (2, [.ref qA2, .int 0, .int 0])) : Option (Nat × va_E))) (hO1 : ws[kO1]? = (some (qO1, .inr (2, [.ref qA3, .int 0, .int 0])) : Option (Nat × va_E))) (hA2 : ws[kA2]? = (some (qA2, .inl (g 0, 68, .inl (fun _ => 0))) : Option (Nat × va_E))) (hA3 : ws[kA3]? = (some (qA3, .inl (g 0, 220, .inl (fun _ => 0))) : Option (Nat × va_E))) (n_A3_A2 : kA3 ≠ kA2) (n_O1_O0 : kO1 ≠ kO0) : q_mV l y_Big_copy prog_2_method_4_code 2 2 0 0 D g [.ref qO0, .ref qO1] ws (fun u => q_un ws u [kO0, kA2] ∧ u[kO0]? = (some (qO0, .inr (2, [.ref qA2, .int 0, .int 0])) : Option (Nat × va_E)) ∧ u[kA2]? = (some (qA2, .inl (g 0, 68, .inl (fun _ => 0))) : Option (Nat × va_E))) := by
  intro sz
  refine q_into (by decide) (Nat.le_of_ble_eq_true rfl) ?_
  intro p e s m below meth c ls hsz C0 V hl
  have hx := C0.1
  have hb := C0.2.1
  have hl : lv_has ls 2 [(0, .ref qO0), (1, .ref qO1)] := hl
  have n_A2_O0 := q_df hA2 hO0
  have n_A3_O0 := q_df hA3 hO0
  have n_O0_A2 := Ne.symm (q_df hA2 hO0)
  have n_O1_A2 := Ne.symm (q_df hA2 hO1)
  have hF : q_un ws ws [kO0, kA2] := q_u0
  refine lv_aload_n hx hb d_2_4_0 rfl (lv_at hl 0 rfl) ?_
  refine lv_aload_n hx hb d_2_4_1 rfl (lv_at hl 1 rfl) ?_
  refine q_get (ci := 2) (j := 1) (v := .int 0) C0 V i_Big rfl rfl hO1 (by decide) w_85 rfl d_2_4_2 ?_
  refine lv_aload_n hx hb d_2_4_5 rfl (lv_at hl 0 rfl) ?_
  refine q_get (ci := 2) (j := 0) (v := .ref qA2) C0 V i_Big rfl rfl hO0 (by decide) w_84 rfl d_2_4_6 ?_
  refine q_alen (t := 0) (v := 68) C0 V hA2 rfl (by first | rfl | decide) d_2_4_9 ?_
  refine q_min C0 hl.1 rfl w_773 w_774 w_7 w_775 ⟨Nat.le_of_ble_eq_true rfl, Nat.le_of_ble_eq_true rfl⟩ ⟨Nat.le_of_ble_eq_true rfl, Nat.le_of_ble_eq_true rfl⟩ d_2_4_10 ?_
  refine q_ti (v := 0) (by decide) ?_
  refine q_put (ci := 2) (j := 1) (v := .int 0) (ty := .int) C0 V i_Big o_Big n_Big rfl rfl hO0 (by decide) w_85 rfl rfl rfl rfl (Nat.le_of_ble_eq_true rfl) d_2_4_13 (fun H locs w1 hu2 hO0 V => ?_)
  replace hO0 : w1[kO0]? = (some (qO0, .inr (2, [.ref qA2, .int 0, .int 0])) : Option (Nat × va_E)) := hO0
  replace hF := q_us hF hu2 (.head _)
  refine lv_aload_n hx hb d_2_4_16 rfl (lv_at hl 1 rfl) ?_
  replace hO1 := (hu2 _ n_O1_O0).trans (hO1)
  refine q_get (ci := 2) (j := 0) (v := .ref qA3) C0 V i_Big rfl rfl hO1 (by decide) w_84 rfl d_2_4_17 ?_
  refine lv_iconst (v := 0) hx hb d_2_4_20 (by decide) ?_
  refine lv_aload_n hx hb d_2_4_21 rfl (lv_at hl 0 rfl) ?_
  refine q_get (ci := 2) (j := 0) (v := .ref qA2) C0 V i_Big rfl rfl hO0 (by decide) w_84 rfl d_2_4_22 ?_
  refine lv_iconst (v := 0) hx hb d_2_4_25 (by decide) ?_
  refine lv_aload_n hx hb d_2_4_26 rfl (lv_at hl 0 rfl) ?_
  refine q_get (ci := 2) (j := 1) (v := .int 0) C0 V i_Big rfl rfl hO0 (by decide) w_85 rfl d_2_4_27 ?_
  replace hA3 := (hu2 _ n_A3_O0).trans (hA3)
  replace hA2 := (hu2 _ n_A2_O0).trans (hA2)
  refine q_copy C0 V hl.1 rfl w_791 w_793 w_792 w_29 hA3 hA2 (by decide) (by decide) (by decide) (by decide) (by decide) ⟨Nat.le_of_ble_eq_true rfl, Nat.le_of_ble_eq_true rfl⟩ d_2_4_30 (fun H locs w3 hu4 hA2 V => ?_)
  replace hA2 := q_re (y := (qA2, .inl (g 0, 68, .inl (fun _ => 0)))) hA2 (q_eI q_cpy0)
  replace hA2 : w3[kA2]? = (some (qA2, .inl (g 0, 68, .inl (fun _ => 0))) : Option (Nat × va_E)) := hA2
  replace hF := q_us hF hu4 (.tail _ (.head _))
  refine lv_aload_n hx hb d_2_4_33 rfl (lv_at hl 0 rfl) ?_
  refine lv_aload_n hx hb d_2_4_34 rfl (lv_at hl 1 rfl) ?_
  replace hO1 := (hu4 _ n_O1_A2).trans (hO1)
  refine q_get (ci := 2) (j := 2) (v := .int 0) C0 V i_Big rfl rfl hO1 (by decide) w_94 rfl d_2_4_35 ?_
  replace hO0 := (hu4 _ n_O0_A2).trans (hO0)
  refine q_put (ci := 2) (j := 2) (v := .int 0) (ty := .boolean) C0 V i_Big o_Big n_Big rfl rfl hO0 (by decide) w_94 rfl rfl rfl rfl (Nat.le_of_ble_eq_true rfl) d_2_4_38 (fun H locs w5 hu6 hO0 V => ?_)
  replace hO0 : w5[kO0]? = (some (qO0, .inr (2, [.ref qA2, .int 0, .int 0])) : Option (Nat × va_E)) := hO0
  replace hF := q_us hF hu6 (.head _)
  replace hA2 := (hu6 _ n_A2_O0).trans (hA2)
  exact q_retv C0 V (⟨hF, hO0, hA2⟩) d_2_4_41
theorem d_1_28_0 : decode prog_1_method_28_code 0 = .ok (.aload_n 0, 1) := by decide +kernel
theorem d_1_28_1 : decode prog_1_method_28_code 1 = .ok (.getfield 43, 3) := by decide +kernel
theorem d_1_28_4 : decode prog_1_method_28_code 4 = .ok (.getfield 141, 3) := by decide +kernel
theorem d_1_28_7 : decode prog_1_method_28_code 7 = .ok (.invokevirtual 424, 3) := by decide +kernel
theorem w_1320 : (Cond.methodLink "NumberHouse" (424 : Nat) ({ cls := "NumberHouse$Big", name := "bitLength", desc := "()I" } : MethodName)) ∈ q_tbl := q_of 1320 (by decide +kernel) (by decide +kernel)
theorem LV_NH_424 : q_LV "NumberHouse" 424 y_Big_bitLength prog_2_method_12_code 1 (some .int) 0 := ⟨w_610, w_4, w_1320, w_608, w_609, ⟨by decide, by decide, by decide +kernel⟩⟩
theorem d_1_28_10 : decode prog_1_method_28_code 10 = .ok (.sipush 2048, 3) := by decide +kernel
theorem d_1_28_13 : decode prog_1_method_28_code 13 = .ok (.if_icmp .gt 7, 3) := by decide +kernel
theorem d_1_28_16 : decode prog_1_method_28_code 16 = .ok (.iconst 1, 1) := by decide +kernel
theorem d_1_28_17 : decode prog_1_method_28_code 17 = .ok (.goto 4, 3) := by decide +kernel
theorem d_1_28_21 : decode prog_1_method_28_code 21 = .ok (.invokestatic 138, 3) := by decide +kernel
theorem d_1_28_24 : decode prog_1_method_28_code 24 = .ok (.aload_n 0, 1) := by decide +kernel
theorem d_1_28_25 : decode prog_1_method_28_code 25 = .ok (.getfield 23, 3) := by decide +kernel
theorem d_1_28_28 : decode prog_1_method_28_code 28 = .ok (.iload_n 1, 1) := by decide +kernel
theorem d_1_28_29 : decode prog_1_method_28_code 29 = .ok (.aaload, 1) := by decide +kernel
theorem d_1_28_30 : decode prog_1_method_28_code 30 = .ok (.aload_n 0, 1) := by decide +kernel
theorem d_1_28_31 : decode prog_1_method_28_code 31 = .ok (.getfield 43, 3) := by decide +kernel
theorem d_1_28_34 : decode prog_1_method_28_code 34 = .ok (.getfield 141, 3) := by decide +kernel
theorem d_1_28_37 : decode prog_1_method_28_code 37 = .ok (.invokevirtual 145, 3) := by decide +kernel
theorem d_1_28_40 : decode prog_1_method_28_code 40 = .ok (.return_, 1) := by decide +kernel
def y_NH_keepWhole : MethodName := ⟨"NumberHouse", "keepWhole", "(I)V"⟩
set_option maxRecDepth 100000 in
set_option maxHeartbeats 4000000 in
theorem c_NH_keepWhole (l : Launch) (D : va_G) (g : Nat → ClassId) (ws : va_W) (hlt : l.stackTraces = false) ( qO0 qO1 qO2 qA3 qA4 qA5 qA6 qO7 qO8 qO9 qO10 qO11 qO12 qO13 qO14 qO17 qO18 qO19 qO20 qO21 qO22 qO23 qO24 qO25 qO26 qA35 : Nat) (x1 : Int32) (f2 : Nat → Option Nat) (hO0 : ws[0]? = (some (qO0, .inr (0, [.ref qO1, .ref qO2, .ref qA3, .ref qA4, .ref qA5, .ref qA6, .ref qO7, .ref qO8, .ref qO9, .ref qO10, .ref qO11, .ref qO12, .ref qO13, .ref qO14])) : Option (Nat × va_E))) (hA3 : ws[5]? = (some (qA3, .inl (g 4, 10, .inr (.inr (.inr (.inr f2))))) : Option (Nat × va_E))) (hO7 : ws[9]? = (some (qO7, .inr (4, [.ref qO17, .ref qO18, .ref qO19, .ref qO20, .ref qO21, .ref qO22, .ref qO23, .ref qO24, .ref qO25, .ref qO26])) : Option (Nat × va_E))) (hO17 : ws[10]? = (some (qO17, .inr (2, [.ref qA35, .int 0, .int 0])) : Option (Nat × va_E))) (hA35 : ws[11]? = (some (qA35, .inl (g 0, 220, .inl (fun _ => 0))) : Option (Nat × va_E))) (x1lo : 0 ≤ x1) (x1hi : x1 ≤ 9) (qW qWL qD qDN qDL : Nat → Nat) (hfW : ∀ i, i < 10 → f2 i = some (qW i)) (FW : ∀ i, i < 10 → ws[66 + 5 * i]? = (some (qW i, .inr (2, [.ref (qWL i), .int 0, .int 0])) : Option (Nat × va_E))) (FWL : ∀ i, i < 10 → ws[67 + 5 * i]? = (some (qWL i, .inl (g 0, 68, .inl (fun _ => 0))) : Option (Nat × va_E))) : q_mV l y_NH_keepWhole prog_1_method_28_code 2 8 1 6 D g [.ref qO0, .int x1] ws (fun u => q_ge 116 ws u) := by
  intro sz
  refine q_into (by decide) (Nat.le_of_ble_eq_true rfl) ?_
  intro p e s m below meth c ls hsz C0 V hl
  have hx := C0.1
  have hb := C0.2.1
  have hl : lv_has ls 2 [(0, .ref qO0), (1, .int x1)] := hl
  have hF : q_ge 116 ws ws := q_g0
  refine lv_aload_n hx hb d_1_28_0 rfl (lv_at hl 0 rfl) ?_
  refine q_get (ci := 0) (j := 6) (v := .ref qO7) C0 V i_NH rfl rfl hO0 (by decide) w_430 rfl d_1_28_1 ?_
  refine q_get (ci := 4) (j := 0) (v := .ref qO17) C0 V i_Mil rfl rfl hO7 (by decide) w_112 rfl d_1_28_4 ?_
  refine q_goi V (q_runV (As := []) (rest := []) (d := 1) (mc := 0) (ms := 0) (ci := 2) C0 V rfl LV_NH_424 (c_Big_bitLength l D g ws 10 qO17 qA35 hO17 _) rfl rfl hO17 rfl hl.1 rfl (Nat.le_of_ble_eq_true rfl) ⟨by decide, by decide⟩ ⟨Nat.le_of_ble_eq_true rfl, Nat.le_of_ble_eq_true rfl⟩ d_1_28_7) (fun v3 u2 H locs hp1 V => ?_)
  obtain ⟨rfl, rfl⟩ := hp1
  refine lv_sipush (v := 2048) hx hb d_1_28_10 (by decide) ?_
  refine lv_icmp_gt (tgt := 20) hx hb d_1_28_13 (by decide) (fun c5 => absurd c5 (by decide)) (fun c5 => ?_)
  refine lv_iconst (v := 1) hx hb d_1_28_16 (by decide) ?_
  refine lv_goto (tgt := 21) hx hb d_1_28_17 (by decide) ?_
  refine q_goxv V (q_runSX (As := [.int 1]) (rest := []) (d := 7) (mc := 1) (ms := 6) C0 V rfl LS_NH_138 (c_NH_canHave l D g ws hlt 1 _) rfl hl.1 rfl (Nat.le_of_ble_eq_true rfl) ⟨by decide, by decide⟩ ⟨Nat.le_of_ble_eq_true rfl, Nat.le_of_ble_eq_true rfl⟩ d_1_28_21) (fun qx Ex ce u7 H locs hp6 V hce hcv hcl => ?_) (fun u7 H locs hp6 V => ?_)
  ·
    obtain ⟨c8, rfl, rfl⟩ := hp6
    exact absurd c8 (by decide)
  ·
    obtain ⟨c10, rfl⟩ := hp6
    refine lv_aload_n hx hb d_1_28_24 rfl (lv_at hl 0 rfl) ?_
    refine q_get (ci := 0) (j := 2) (v := .ref qA3) C0 V i_NH rfl rfl hO0 (by decide) w_426 rfl d_1_28_25 ?_
    refine lv_iload_n hx hb d_1_28_28 rfl (lv_at hl 1 rfl) ?_
    have r12 : x1.toNatClampNeg < 10 := (q_r10 (x := x1.toInt) rfl (by have t1 : 0 ≤ x1.toInt := q_leI x1lo; have t2 : x1.toInt ≤ 9 := q_leI x1hi; omega) (by have t1 : 0 ≤ x1.toInt := q_leI x1lo; have t2 : x1.toInt ≤ 9 := q_leI x1hi; omega))
    have hr13 : ws[66 + 5 * x1.toNatClampNeg]? = (some (qW x1.toNatClampNeg, .inr (2, [.ref (qWL x1.toNatClampNeg), .int 0, .int 0])) : Option (Nat × va_E)) := FW _ r12
    have hr14 : ws[67 + 5 * x1.toNatClampNeg]? = (some (qWL x1.toNatClampNeg, .inl (g 0, 68, .inl (fun _ => 0))) : Option (Nat × va_E)) := FWL _ r12
    have hh : x1.toNatClampNeg < 10 := (q_r10 (x := x1.toInt) rfl (by have t1 : 0 ≤ x1.toInt := q_leI x1lo; have t2 : x1.toInt ≤ 9 := q_leI x1hi; omega) (by have t1 : 0 ≤ x1.toInt := q_leI x1lo; have t2 : x1.toInt ≤ 9 := q_leI x1hi; omega))
    refine q_aald (t := 4) (q := qW x1.toNatClampNeg) C0 V hA3 rfl (q_ix (x := x1.toInt) rfl (by have t1 : 0 ≤ x1.toInt := q_leI x1lo; have t2 : x1.toInt ≤ 9 := q_leI x1hi; omega) (by have t1 : 0 ≤ x1.toInt := q_leI x1lo; have t2 : x1.toInt ≤ 9 := q_leI x1hi; omega)) (hfW _ hh) d_1_28_29 ?_
    refine lv_aload_n hx hb d_1_28_30 rfl (lv_at hl 0 rfl) ?_
    refine q_get (ci := 0) (j := 6) (v := .ref qO7) C0 V i_NH rfl rfl hO0 (by decide) w_430 rfl d_1_28_31 ?_
    refine q_get (ci := 4) (j := 0) (v := .ref qO17) C0 V i_Mil rfl rfl hO7 (by decide) w_112 rfl d_1_28_34 ?_
    refine q_gov V (q_runV (As := [.ref qO17]) (rest := []) (d := 2) (mc := 0) (ms := 0) (ci := 2) C0 V rfl LV_NH_145 (c_Big_copy_2 l D g ws (66 + 5 * x1.toNatClampNeg) 10 (67 + 5 * x1.toNatClampNeg) 11 (qW x1.toNatClampNeg) qO17 (qWL x1.toNatClampNeg) qA35 hr13 hO17 hr14 hA35 (Ne.symm (q_f5 rfl)) (Ne.symm (q_f5 rfl)) _) rfl rfl hr13 rfl hl.1 rfl (Nat.le_of_ble_eq_true rfl) ⟨by decide, by decide⟩ ⟨Nat.le_of_ble_eq_true rfl, Nat.le_of_ble_eq_true rfl⟩ d_1_28_37) (fun u16 H locs hp15 V => ?_)
    obtain ⟨hg17, hr13, hr14⟩ := hp15
    replace hF := q_gc hF hg17 (q_al (by omega) (q_al (by omega) (fun _ h => absurd h List.not_mem_nil)))
    exact q_retv C0 V (hF) d_1_28_40
set_option maxRecDepth 100000 in
set_option maxHeartbeats 4000000 in
theorem c_Big_copy_3 (l : Launch) (D : va_G) (g : Nat → ClassId) (ws : va_W) (kO0 kO1 kA2 kA3 qO0 qO1 qA2 qA3 : Nat) (hO0 : ws[kO0]? = (some (qO0, .inr (2, [.ref qA2, .int 0, .int 0])) : Option (Nat × va_E))) (hO1 : ws[kO1]? = (some (qO1, .inr (2, [.ref qA3, .int 0, .int 0])) : Option (Nat × va_E))) (hA2 : ws[kA2]? = (some (qA2, .inl (g 0, 220, .inl (fun _ => 0))) : Option (Nat × va_E))) (hA3 : ws[kA3]? = (some (qA3, .inl (g 0, 68, .inl (fun _ => 0))) : Option (Nat × va_E))) (n_A3_A2 : kA3 ≠ kA2) (n_O1_O0 : kO1 ≠ kO0) : q_mV l y_Big_copy prog_2_method_4_code 2 2 0 0 D g [.ref qO0, .ref qO1] ws (fun u => q_un ws u [kO0, kA2] ∧ u[kO0]? = (some (qO0, .inr (2, [.ref qA2, .int 0, .int 0])) : Option (Nat × va_E)) ∧ u[kA2]? = (some (qA2, .inl (g 0, 220, .inl (fun _ => 0))) : Option (Nat × va_E))) := by
  intro sz
  refine q_into (by decide) (Nat.le_of_ble_eq_true rfl) ?_
  intro p e s m below meth c ls hsz C0 V hl
  have hx := C0.1
  have hb := C0.2.1
  have hl : lv_has ls 2 [(0, .ref qO0), (1, .ref qO1)] := hl
  have n_A2_O0 := q_df hA2 hO0
  have n_A3_O0 := q_df hA3 hO0
  have n_O0_A2 := Ne.symm (q_df hA2 hO0)
  have n_O1_A2 := Ne.symm (q_df hA2 hO1)
  have hF : q_un ws ws [kO0, kA2] := q_u0
  refine lv_aload_n hx hb d_2_4_0 rfl (lv_at hl 0 rfl) ?_
  refine lv_aload_n hx hb d_2_4_1 rfl (lv_at hl 1 rfl) ?_
  refine q_get (ci := 2) (j := 1) (v := .int 0) C0 V i_Big rfl rfl hO1 (by decide) w_85 rfl d_2_4_2 ?_
  refine lv_aload_n hx hb d_2_4_5 rfl (lv_at hl 0 rfl) ?_
  refine q_get (ci := 2) (j := 0) (v := .ref qA2) C0 V i_Big rfl rfl hO0 (by decide) w_84 rfl d_2_4_6 ?_
  refine q_alen (t := 0) (v := 220) C0 V hA2 rfl (by first | rfl | decide) d_2_4_9 ?_
  refine q_min C0 hl.1 rfl w_773 w_774 w_7 w_775 ⟨Nat.le_of_ble_eq_true rfl, Nat.le_of_ble_eq_true rfl⟩ ⟨Nat.le_of_ble_eq_true rfl, Nat.le_of_ble_eq_true rfl⟩ d_2_4_10 ?_
  refine q_ti (v := 0) (by decide) ?_
  refine q_put (ci := 2) (j := 1) (v := .int 0) (ty := .int) C0 V i_Big o_Big n_Big rfl rfl hO0 (by decide) w_85 rfl rfl rfl rfl (Nat.le_of_ble_eq_true rfl) d_2_4_13 (fun H locs w1 hu2 hO0 V => ?_)
  replace hO0 : w1[kO0]? = (some (qO0, .inr (2, [.ref qA2, .int 0, .int 0])) : Option (Nat × va_E)) := hO0
  replace hF := q_us hF hu2 (.head _)
  refine lv_aload_n hx hb d_2_4_16 rfl (lv_at hl 1 rfl) ?_
  replace hO1 := (hu2 _ n_O1_O0).trans (hO1)
  refine q_get (ci := 2) (j := 0) (v := .ref qA3) C0 V i_Big rfl rfl hO1 (by decide) w_84 rfl d_2_4_17 ?_
  refine lv_iconst (v := 0) hx hb d_2_4_20 (by decide) ?_
  refine lv_aload_n hx hb d_2_4_21 rfl (lv_at hl 0 rfl) ?_
  refine q_get (ci := 2) (j := 0) (v := .ref qA2) C0 V i_Big rfl rfl hO0 (by decide) w_84 rfl d_2_4_22 ?_
  refine lv_iconst (v := 0) hx hb d_2_4_25 (by decide) ?_
  refine lv_aload_n hx hb d_2_4_26 rfl (lv_at hl 0 rfl) ?_
  refine q_get (ci := 2) (j := 1) (v := .int 0) C0 V i_Big rfl rfl hO0 (by decide) w_85 rfl d_2_4_27 ?_
  replace hA3 := (hu2 _ n_A3_O0).trans (hA3)
  replace hA2 := (hu2 _ n_A2_O0).trans (hA2)
  refine q_copy C0 V hl.1 rfl w_791 w_793 w_792 w_29 hA3 hA2 (by decide) (by decide) (by decide) (by decide) (by decide) ⟨Nat.le_of_ble_eq_true rfl, Nat.le_of_ble_eq_true rfl⟩ d_2_4_30 (fun H locs w3 hu4 hA2 V => ?_)
  replace hA2 := q_re (y := (qA2, .inl (g 0, 220, .inl (fun _ => 0)))) hA2 (q_eI q_cpy0)
  replace hA2 : w3[kA2]? = (some (qA2, .inl (g 0, 220, .inl (fun _ => 0))) : Option (Nat × va_E)) := hA2
  replace hF := q_us hF hu4 (.tail _ (.head _))
  refine lv_aload_n hx hb d_2_4_33 rfl (lv_at hl 0 rfl) ?_
  refine lv_aload_n hx hb d_2_4_34 rfl (lv_at hl 1 rfl) ?_
  replace hO1 := (hu4 _ n_O1_A2).trans (hO1)
  refine q_get (ci := 2) (j := 2) (v := .int 0) C0 V i_Big rfl rfl hO1 (by decide) w_94 rfl d_2_4_35 ?_
  replace hO0 := (hu4 _ n_O0_A2).trans (hO0)
  refine q_put (ci := 2) (j := 2) (v := .int 0) (ty := .boolean) C0 V i_Big o_Big n_Big rfl rfl hO0 (by decide) w_94 rfl rfl rfl rfl (Nat.le_of_ble_eq_true rfl) d_2_4_38 (fun H locs w5 hu6 hO0 V => ?_)
  replace hO0 : w5[kO0]? = (some (qO0, .inr (2, [.ref qA2, .int 0, .int 0])) : Option (Nat × va_E)) := hO0
  replace hF := q_us hF hu6 (.head _)
  replace hA2 := (hu6 _ n_A2_O0).trans (hA2)
  exact q_retv C0 V (⟨hF, hO0, hA2⟩) d_2_4_41
set_option maxRecDepth 100000 in
set_option maxHeartbeats 4000000 in
theorem c_Big_copy_4 (l : Launch) (D : va_G) (g : Nat → ClassId) (ws : va_W) (kO0 kO1 kA2 kA3 qO0 qO1 qA2 qA3 : Nat) (hO0 : ws[kO0]? = (some (qO0, .inr (2, [.ref qA2, .int 0, .int 0])) : Option (Nat × va_E))) (hO1 : ws[kO1]? = (some (qO1, .inr (2, [.ref qA3, .int 0, .int 0])) : Option (Nat × va_E))) (hA2 : ws[kA2]? = (some (qA2, .inl (g 0, 220, .inl (fun _ => 0))) : Option (Nat × va_E))) (hA3 : ws[kA3]? = (some (qA3, .inl (g 0, 220, .inl (fun _ => 0))) : Option (Nat × va_E))) (n_A3_A2 : kA3 ≠ kA2) (n_O1_O0 : kO1 ≠ kO0) : q_mV l y_Big_copy prog_2_method_4_code 2 2 0 0 D g [.ref qO0, .ref qO1] ws (fun u => q_un ws u [kO0, kA2] ∧ u[kO0]? = (some (qO0, .inr (2, [.ref qA2, .int 0, .int 0])) : Option (Nat × va_E)) ∧ u[kA2]? = (some (qA2, .inl (g 0, 220, .inl (fun _ => 0))) : Option (Nat × va_E))) := by
  intro sz
  refine q_into (by decide) (Nat.le_of_ble_eq_true rfl) ?_
  intro p e s m below meth c ls hsz C0 V hl
  have hx := C0.1
  have hb := C0.2.1
  have hl : lv_has ls 2 [(0, .ref qO0), (1, .ref qO1)] := hl
  have n_A2_O0 := q_df hA2 hO0
  have n_A3_O0 := q_df hA3 hO0
  have n_O0_A2 := Ne.symm (q_df hA2 hO0)
  have n_O1_A2 := Ne.symm (q_df hA2 hO1)
  have hF : q_un ws ws [kO0, kA2] := q_u0
  refine lv_aload_n hx hb d_2_4_0 rfl (lv_at hl 0 rfl) ?_
  refine lv_aload_n hx hb d_2_4_1 rfl (lv_at hl 1 rfl) ?_
  refine q_get (ci := 2) (j := 1) (v := .int 0) C0 V i_Big rfl rfl hO1 (by decide) w_85 rfl d_2_4_2 ?_
  refine lv_aload_n hx hb d_2_4_5 rfl (lv_at hl 0 rfl) ?_
  refine q_get (ci := 2) (j := 0) (v := .ref qA2) C0 V i_Big rfl rfl hO0 (by decide) w_84 rfl d_2_4_6 ?_
  refine q_alen (t := 0) (v := 220) C0 V hA2 rfl (by first | rfl | decide) d_2_4_9 ?_
  refine q_min C0 hl.1 rfl w_773 w_774 w_7 w_775 ⟨Nat.le_of_ble_eq_true rfl, Nat.le_of_ble_eq_true rfl⟩ ⟨Nat.le_of_ble_eq_true rfl, Nat.le_of_ble_eq_true rfl⟩ d_2_4_10 ?_
  refine q_ti (v := 0) (by decide) ?_
  refine q_put (ci := 2) (j := 1) (v := .int 0) (ty := .int) C0 V i_Big o_Big n_Big rfl rfl hO0 (by decide) w_85 rfl rfl rfl rfl (Nat.le_of_ble_eq_true rfl) d_2_4_13 (fun H locs w1 hu2 hO0 V => ?_)
  replace hO0 : w1[kO0]? = (some (qO0, .inr (2, [.ref qA2, .int 0, .int 0])) : Option (Nat × va_E)) := hO0
  replace hF := q_us hF hu2 (.head _)
  refine lv_aload_n hx hb d_2_4_16 rfl (lv_at hl 1 rfl) ?_
  replace hO1 := (hu2 _ n_O1_O0).trans (hO1)
  refine q_get (ci := 2) (j := 0) (v := .ref qA3) C0 V i_Big rfl rfl hO1 (by decide) w_84 rfl d_2_4_17 ?_
  refine lv_iconst (v := 0) hx hb d_2_4_20 (by decide) ?_
  refine lv_aload_n hx hb d_2_4_21 rfl (lv_at hl 0 rfl) ?_
  refine q_get (ci := 2) (j := 0) (v := .ref qA2) C0 V i_Big rfl rfl hO0 (by decide) w_84 rfl d_2_4_22 ?_
  refine lv_iconst (v := 0) hx hb d_2_4_25 (by decide) ?_
  refine lv_aload_n hx hb d_2_4_26 rfl (lv_at hl 0 rfl) ?_
  refine q_get (ci := 2) (j := 1) (v := .int 0) C0 V i_Big rfl rfl hO0 (by decide) w_85 rfl d_2_4_27 ?_
  replace hA3 := (hu2 _ n_A3_O0).trans (hA3)
  replace hA2 := (hu2 _ n_A2_O0).trans (hA2)
  refine q_copy C0 V hl.1 rfl w_791 w_793 w_792 w_29 hA3 hA2 (by decide) (by decide) (by decide) (by decide) (by decide) ⟨Nat.le_of_ble_eq_true rfl, Nat.le_of_ble_eq_true rfl⟩ d_2_4_30 (fun H locs w3 hu4 hA2 V => ?_)
  replace hA2 := q_re (y := (qA2, .inl (g 0, 220, .inl (fun _ => 0)))) hA2 (q_eI q_cpy0)
  replace hA2 : w3[kA2]? = (some (qA2, .inl (g 0, 220, .inl (fun _ => 0))) : Option (Nat × va_E)) := hA2
  replace hF := q_us hF hu4 (.tail _ (.head _))
  refine lv_aload_n hx hb d_2_4_33 rfl (lv_at hl 0 rfl) ?_
  refine lv_aload_n hx hb d_2_4_34 rfl (lv_at hl 1 rfl) ?_
  replace hO1 := (hu4 _ n_O1_A2).trans (hO1)
  refine q_get (ci := 2) (j := 2) (v := .int 0) C0 V i_Big rfl rfl hO1 (by decide) w_94 rfl d_2_4_35 ?_
  replace hO0 := (hu4 _ n_O0_A2).trans (hO0)
  refine q_put (ci := 2) (j := 2) (v := .int 0) (ty := .boolean) C0 V i_Big o_Big n_Big rfl rfl hO0 (by decide) w_94 rfl rfl rfl rfl (Nat.le_of_ble_eq_true rfl) d_2_4_38 (fun H locs w5 hu6 hO0 V => ?_)
  replace hO0 : w5[kO0]? = (some (qO0, .inr (2, [.ref qA2, .int 0, .int 0])) : Option (Nat × va_E)) := hO0
  replace hF := q_us hF hu6 (.head _)
  replace hA2 := (hu6 _ n_A2_O0).trans (hA2)
  exact q_retv C0 V (⟨hF, hO0, hA2⟩) d_2_4_41
theorem d_8_5_0 : decode prog_8_method_5_code 0 = .ok (.aload_n 0, 1) := by decide +kernel
theorem d_8_5_1 : decode prog_8_method_5_code 1 = .ok (.getfield 35, 3) := by decide +kernel
theorem d_8_5_4 : decode prog_8_method_5_code 4 = .ok (.astore_n 3, 1) := by decide +kernel
theorem d_8_5_5 : decode prog_8_method_5_code 5 = .ok (.aload_n 0, 1) := by decide +kernel
theorem d_8_5_6 : decode prog_8_method_5_code 6 = .ok (.getfield 38, 3) := by decide +kernel
theorem d_8_5_9 : decode prog_8_method_5_code 9 = .ok (.astore 4, 2) := by decide +kernel
theorem d_8_5_11 : decode prog_8_method_5_code 11 = .ok (.aload_n 3, 1) := by decide +kernel
theorem d_8_5_12 : decode prog_8_method_5_code 12 = .ok (.aload_n 1, 1) := by decide +kernel
theorem d_8_5_13 : decode prog_8_method_5_code 13 = .ok (.invokevirtual 51, 3) := by decide +kernel
theorem w_1263 : (Cond.methodLink "NumberHouse$Mill" (51 : Nat) ({ cls := "NumberHouse$Big", name := "copy", desc := "(LNumberHouse$Big;)V" } : MethodName)) ∈ q_tbl := q_of 1263 (by decide +kernel) (by decide +kernel)
theorem LV_Mil_51 : q_LV "NumberHouse$Mill" 51 y_Big_copy prog_2_method_4_code 2 none 1 := ⟨w_790, w_4, w_1263, w_788, w_789, ⟨by decide, by decide, by decide +kernel⟩⟩
theorem d_8_5_16 : decode prog_8_method_5_code 16 = .ok (.aload 4, 2) := by decide +kernel
theorem d_8_5_18 : decode prog_8_method_5_code 18 = .ok (.aload_n 2, 1) := by decide +kernel
theorem d_8_5_19 : decode prog_8_method_5_code 19 = .ok (.invokevirtual 51, 3) := by decide +kernel
theorem d_8_5_22 : decode prog_8_method_5_code 22 = .ok (.iconst 0, 1) := by decide +kernel
theorem d_8_5_23 : decode prog_8_method_5_code 23 = .ok (.istore 5, 2) := by decide +kernel
theorem d_8_5_25 : decode prog_8_method_5_code 25 = .ok (.iload 5, 2) := by decide +kernel
theorem d_8_5_27 : decode prog_8_method_5_code 27 = .ok (.sipush 10000, 3) := by decide +kernel
theorem d_8_5_30 : decode prog_8_method_5_code 30 = .ok (.if_icmp .ge 37, 3) := by decide +kernel
theorem d_8_5_67 : decode prog_8_method_5_code 67 = .ok (.aload_n 0, 1) := by decide +kernel
theorem d_8_5_68 : decode prog_8_method_5_code 68 = .ok (.getfield 16, 3) := by decide +kernel
theorem d_8_5_71 : decode prog_8_method_5_code 71 = .ok (.aload_n 3, 1) := by decide +kernel
theorem d_8_5_72 : decode prog_8_method_5_code 72 = .ok (.invokevirtual 51, 3) := by decide +kernel
theorem d_8_5_75 : decode prog_8_method_5_code 75 = .ok (.aload_n 0, 1) := by decide +kernel
theorem d_8_5_76 : decode prog_8_method_5_code 76 = .ok (.getfield 16, 3) := by decide +kernel
theorem d_8_5_79 : decode prog_8_method_5_code 79 = .ok (.iconst 0, 1) := by decide +kernel
theorem d_8_5_80 : decode prog_8_method_5_code 80 = .ok (.putfield 66, 3) := by decide +kernel
theorem d_8_5_83 : decode prog_8_method_5_code 83 = .ok (.return_, 1) := by decide +kernel
theorem d_8_5_33 : decode prog_8_method_5_code 33 = .ok (.aload 4, 2) := by decide +kernel
theorem d_8_5_35 : decode prog_8_method_5_code 35 = .ok (.getfield 62, 3) := by decide +kernel
theorem d_8_5_38 : decode prog_8_method_5_code 38 = .ok (.ifCond .le 29, 3) := by decide +kernel
def y_Mil_commonDivisor : MethodName := ⟨"NumberHouse$Mill", "commonDivisor", "(LNumberHouse$Big;LNumberHouse$Big;)V"⟩
set_option maxRecDepth 100000 in
set_option maxHeartbeats 4000000 in
theorem c_Mil_commonDivisor (l : Launch) (D : va_G) (g : Nat → ClassId) (ws : va_W) (kO0 kO1 kO2 kO3 kO9 kO10 kA13 kA14 kA15 kA21 kA22 qO0 qO1 qO2 qO3 qO4 qO5 qO6 qO7 qO8 qO9 qO10 qO11 qO12 qA13 qA14 qA15 qA21 qA22 : Nat) (hO0 : ws[kO0]? = (some (qO0, .inr (4, [.ref qO3, .ref qO4, .ref qO5, .ref qO6, .ref qO7, .ref qO8, .ref qO9, .ref qO10, .ref qO11, .ref qO12])) : Option (Nat × va_E))) (hO1 : ws[kO1]? = (some (qO1, .inr (2, [.ref qA13, .int 0, .int 0])) : Option (Nat × va_E))) (hO2 : ws[kO2]? = (some (qO2, .inr (2, [.ref qA14, .int 0, .int 0])) : Option (Nat × va_E))) (hO3 : ws[kO3]? = (some (qO3, .inr (2, [.ref qA15, .int 0, .int 0])) : Option (Nat × va_E))) (hO9 : ws[kO9]? = (some (qO9, .inr (2, [.ref qA21, .int 0, .int 0])) : Option (Nat × va_E))) (hO10 : ws[kO10]? = (some (qO10, .inr (2, [.ref qA22, .int 0, .int 0])) : Option (Nat × va_E))) (hA13 : ws[kA13]? = (some (qA13, .inl (g 0, 68, .inl (fun _ => 0))) : Option (Nat × va_E))) (hA14 : ws[kA14]? = (some (qA14, .inl (g 0, 68, .inl (fun _ => 0))) : Option (Nat × va_E))) (hA15 : ws[kA15]? = (some (qA15, .inl (g 0, 220, .inl (fun _ => 0))) : Option (Nat × va_E))) (hA21 : ws[kA21]? = (some (qA21, .inl (g 0, 220, .inl (fun _ => 0))) : Option (Nat × va_E))) (hA22 : ws[kA22]? = (some (qA22, .inl (g 0, 220, .inl (fun _ => 0))) : Option (Nat × va_E))) (n_A13_A15 : kA13 ≠ kA15) (n_A13_A21 : kA13 ≠ kA21) (n_A13_A22 : kA13 ≠ kA22) (n_A14_A15 : kA14 ≠ kA15) (n_A14_A21 : kA14 ≠ kA21) (n_A14_A22 : kA14 ≠ kA22) (n_A15_A21 : kA15 ≠ kA21) (n_A15_A22 : kA15 ≠ kA22) (n_A21_A22 : kA21 ≠ kA22) (n_O1_O10 : kO1 ≠ kO10) (n_O1_O3 : kO1 ≠ kO3) (n_O1_O9 : kO1 ≠ kO9) (n_O10_O3 : kO10 ≠ kO3) (n_O10_O9 : kO10 ≠ kO9) (n_O2_O10 : kO2 ≠ kO10) (n_O2_O3 : kO2 ≠ kO3) (n_O2_O9 : kO2 ≠ kO9) (n_O3_O9 : kO3 ≠ kO9) : q_mV l y_Mil_commonDivisor prog_8_method_5_code 7 3 0 0 D g [.ref qO0, .ref qO1, .ref qO2] ws (fun u => q_un ws u [kO3, kO9, kO10, kA15, kA21, kA22] ∧ u[kO3]? = (some (qO3, .inr (2, [.ref qA15, .int 0, .int 0])) : Option (Nat × va_E)) ∧ u[kO9]? = (some (qO9, .inr (2, [.ref qA21, .int 0, .int 0])) : Option (Nat × va_E)) ∧ u[kO10]? = (some (qO10, .inr (2, [.ref qA22, .int 0, .int 0])) : Option (Nat × va_E)) ∧ u[kA15]? = (some (qA15, .inl (g 0, 220, .inl (fun _ => 0))) : Option (Nat × va_E)) ∧ u[kA21]? = (some (qA21, .inl (g 0, 220, .inl (fun _ => 0))) : Option (Nat × va_E)) ∧ u[kA22]? = (some (qA22, .inl (g 0, 220, .inl (fun _ => 0))) : Option (Nat × va_E))) := by
  intro sz
  refine q_into (by decide) (Nat.le_of_ble_eq_true rfl) ?_
  intro p e s m below meth c ls hsz C0 V hl
  have hx := C0.1
  have hb := C0.2.1
  have hl : lv_has ls 7 [(0, .ref qO0), (1, .ref qO1), (2, .ref qO2)] := hl
  have n_A13_O10 := q_df hA13 hO10
  have n_A13_O3 := q_df hA13 hO3
  have n_A13_O9 := q_df hA13 hO9
  have n_A14_O10 := q_df hA14 hO10
  have n_A14_O3 := q_df hA14 hO3
  have n_A14_O9 := q_df hA14 hO9
  have n_A15_O10 := q_df hA15 hO10
  have n_A15_O3 := q_df hA15 hO3
  have n_A15_O9 := q_df hA15 hO9
  have n_A21_A15 := Ne.symm n_A15_A21
  have n_A21_O10 := q_df hA21 hO10
  have n_A21_O3 := q_df hA21 hO3
  have n_A22_A15 := Ne.symm n_A15_A22
  have n_A22_A21 := Ne.symm n_A21_A22
  have n_A22_O3 := q_df hA22 hO3
  have n_A22_O9 := q_df hA22 hO9
  have n_O0_A15 := Ne.symm (q_df hA15 hO0)
  have n_O0_A21 := Ne.symm (q_df hA21 hO0)
  have n_O0_A22 := Ne.symm (q_df hA22 hO0)
  have n_O0_O10 := q_dc hO0 hO10 (q_pd 4 2 rfl)
  have n_O0_O3 := q_dc hO0 hO3 (q_pd 4 2 rfl)
  have n_O0_O9 := q_dc hO0 hO9 (q_pd 4 2 rfl)
  have n_O1_A15 := Ne.symm (q_df hA15 hO1)
  have n_O1_A21 := Ne.symm (q_df hA21 hO1)
  have n_O1_A22 := Ne.symm (q_df hA22 hO1)
  have n_O10_A15 := Ne.symm (q_df hA15 hO10)
  have n_O10_A21 := Ne.symm (q_df hA21 hO10)
  have n_O2_A15 := Ne.symm (q_df hA15 hO2)
  have n_O2_A21 := Ne.symm (q_df hA21 hO2)
  have n_O2_A22 := Ne.symm (q_df hA22 hO2)
  have n_O3_A21 := Ne.symm (q_df hA21 hO3)
  have n_O3_A22 := Ne.symm (q_df hA22 hO3)
  have n_O3_O10 := Ne.symm n_O10_O3
  have n_O9_A15 := Ne.symm (q_df hA15 hO9)
  have n_O9_A22 := Ne.symm (q_df hA22 hO9)
  have n_O9_O10 := Ne.symm n_O10_O9
  have n_O9_O3 := Ne.symm n_O3_O9
  have hF : q_un ws ws [kO3, kO9, kO10, kA15, kA21, kA22] := q_u0
  refine lv_aload_n hx hb d_8_5_0 rfl (lv_at hl 0 rfl) ?_
  refine q_get (ci := 4) (j := 6) (v := .ref qO9) C0 V i_Mil rfl rfl hO0 (by decide) w_125 rfl d_8_5_1 ?_
  refine lv_astore_n (lv' := [(3, .ref qO9), (0, .ref qO0), (1, .ref qO1), (2, .ref qO2)]) hx hb d_8_5_4 rfl hl (by decide) rfl (fun ls hl => ?_)
  refine lv_aload_n hx hb d_8_5_5 rfl (lv_at hl 1 rfl) ?_
  refine q_get (ci := 4) (j := 7) (v := .ref qO10) C0 V i_Mil rfl rfl hO0 (by decide) w_128 rfl d_8_5_6 ?_
  refine lv_astore (lv' := [(4, .ref qO10), (3, .ref qO9), (0, .ref qO0), (1, .ref qO1), (2, .ref qO2)]) hx hb d_8_5_9 hl (by decide) rfl (fun ls hl => ?_)
  refine lv_aload_n hx hb d_8_5_11 rfl (lv_at hl 1 rfl) ?_
  refine lv_aload_n hx hb d_8_5_12 rfl (lv_at hl 3 rfl) ?_
  refine q_gov V (q_runV (As := [.ref qO1]) (rest := []) (d := 2) (mc := 0) (ms := 0) (ci := 2) C0 V rfl LV_Mil_51 (c_Big_copy_3 l D g ws kO9 kO1 kA21 kA13 qO9 qO1 qA21 qA13 hO9 hO1 hA21 hA13 n_A13_A21 n_O1_O9 _) rfl rfl hO9 rfl hl.1 rfl (Nat.le_of_ble_eq_true rfl) ⟨by decide, by decide⟩ ⟨Nat.le_of_ble_eq_true rfl, Nat.le_of_ble_eq_true rfl⟩ d_8_5_13) (fun u2 H locs hp1 V => ?_)
  obtain ⟨hg3, hO9, hA21⟩ := hp1
  replace hF := q_uc hF hg3 (q_sc (.tail _ (.head _)) (q_sc (List.mem_of_getElem? (i := 4) rfl) (fun _ h => absurd h List.not_mem_nil)))
  refine lv_aload hx hb d_8_5_16 (lv_at hl 0 rfl) ?_
  refine lv_aload_n hx hb d_8_5_18 rfl (lv_at hl 4 rfl) ?_
  replace hO10 := (hg3 _ (q_nc n_O10_O9 (q_nc n_O10_A21 List.not_mem_nil))).trans (hO10)
  replace hO2 := (hg3 _ (q_nc n_O2_O9 (q_nc n_O2_A21 List.not_mem_nil))).trans (hO2)
  replace hA22 := (hg3 _ (q_nc n_A22_O9 (q_nc n_A22_A21 List.not_mem_nil))).trans (hA22)
  replace hA14 := (hg3 _ (q_nc n_A14_O9 (q_nc n_A14_A21 List.not_mem_nil))).trans (hA14)
  refine q_gov V (q_runV (As := [.ref qO2]) (rest := []) (d := 2) (mc := 0) (ms := 0) (ci := 2) C0 V rfl LV_Mil_51 (c_Big_copy_3 l D g u2 kO10 kO2 kA22 kA14 qO10 qO2 qA22 qA14 hO10 hO2 hA22 hA14 n_A14_A22 n_O2_O10 _) rfl rfl hO10 rfl hl.1 rfl (Nat.le_of_ble_eq_true rfl) ⟨by decide, by decide⟩ ⟨Nat.le_of_ble_eq_true rfl, Nat.le_of_ble_eq_true rfl⟩ d_8_5_19) (fun u5 H locs hp4 V => ?_)
  obtain ⟨hg6, hO10, hA22⟩ := hp4
  replace hF := q_uc hF hg6 (q_sc (.tail _ (.tail _ (.head _))) (q_sc (List.mem_of_getElem? (i := 5) rfl) (fun _ h => absurd h List.not_mem_nil)))
  refine lv_iconst (v := 0) hx hb d_8_5_22 (by decide) ?_
  refine lv_istore (lv' := [(5, .int 0), (4, .ref qO10), (3, .ref qO9), (0, .ref qO0), (1, .ref qO1), (2, .ref qO2)]) hx hb d_8_5_23 hl (by decide) rfl (fun ls hl => ?_)
  replace hO0 := (hg6 _ (q_nc n_O0_O10 (q_nc n_O0_A22 List.not_mem_nil))).trans ((hg3 _ (q_nc n_O0_O9 (q_nc n_O0_A21 List.not_mem_nil))).trans (hO0))
  replace hO1 := (hg6 _ (q_nc n_O1_O10 (q_nc n_O1_A22 List.not_mem_nil))).trans ((hg3 _ (q_nc n_O1_O9 (q_nc n_O1_A21 List.not_mem_nil))).trans (hO1))
  replace hO2 := (hg6 _ (q_nc n_O2_O10 (q_nc n_O2_A22 List.not_mem_nil))).trans (hO2)
  replace hO3 := (hg6 _ (q_nc n_O3_O10 (q_nc n_O3_A22 List.not_mem_nil))).trans ((hg3 _ (q_nc n_O3_O9 (q_nc n_O3_A21 List.not_mem_nil))).trans (hO3))
  replace hO9 := (hg6 _ (q_nc n_O9_O10 (q_nc n_O9_A22 List.not_mem_nil))).trans (hO9)
  replace hA13 := (hg6 _ (q_nc n_A13_O10 (q_nc n_A13_A22 List.not_mem_nil))).trans ((hg3 _ (q_nc n_A13_O9 (q_nc n_A13_A21 List.not_mem_nil))).trans (hA13))
  replace hA14 := (hg6 _ (q_nc n_A14_O10 (q_nc n_A14_A22 List.not_mem_nil))).trans (hA14)
  replace hA15 := (hg6 _ (q_nc n_A15_O10 (q_nc n_A15_A22 List.not_mem_nil))).trans ((hg3 _ (q_nc n_A15_O9 (q_nc n_A15_A21 List.not_mem_nil))).trans (hA15))
  replace hA21 := (hg6 _ (q_nc n_A21_O10 (q_nc n_A21_A22 List.not_mem_nil))).trans (hA21)
  refine q_loop (X := Int32) (fun z H locs ls w8 => (0 ≤ z.toInt ∧ (z.toInt ≤ 10000 ∨ z.toInt = 0)) ∧ q_Wd D g (va_A ws sz) s w8 H locs ∧ lv_has ls 7 [(5, .int z), (4, .ref qO10), (3, .ref qO9), (0, .ref qO0), (1, .ref qO1), (2, .ref qO2)] ∧ q_un ws w8 [kO3, kO9, kO10, kA15, kA21, kA22] ∧ w8[kO0]? = (some (qO0, .inr (4, [.ref qO3, .ref qO4, .ref qO5, .ref qO6, .ref qO7, .ref qO8, .ref qO9, .ref qO10, .ref qO11, .ref qO12])) : Option (Nat × va_E)) ∧ w8[kO1]? = (some (qO1, .inr (2, [.ref qA13, .int 0, .int 0])) : Option (Nat × va_E)) ∧ w8[kO2]? = (some (qO2, .inr (2, [.ref qA14, .int 0, .int 0])) : Option (Nat × va_E)) ∧ w8[kO3]? = (some (qO3, .inr (2, [.ref qA15, .int 0, .int 0])) : Option (Nat × va_E)) ∧ w8[kO9]? = (some (qO9, .inr (2, [.ref qA21, .int 0, .int 0])) : Option (Nat × va_E)) ∧ w8[kO10]? = (some (qO10, .inr (2, [.ref qA22, .int 0, .int 0])) : Option (Nat × va_E)) ∧ w8[kA13]? = (some (qA13, .inl (g 0, 68, .inl (fun _ => 0))) : Option (Nat × va_E)) ∧ w8[kA14]? = (some (qA14, .inl (g 0, 68, .inl (fun _ => 0))) : Option (Nat × va_E)) ∧ w8[kA15]? = (some (qA15, .inl (g 0, 220, .inl (fun _ => 0))) : Option (Nat × va_E)) ∧ w8[kA21]? = (some (qA21, .inl (g 0, 220, .inl (fun _ => 0))) : Option (Nat × va_E)) ∧ w8[kA22]? = (some (qA22, .inl (g 0, 220, .inl (fun _ => 0))) : Option (Nat × va_E))) (fun z => (10000 - z.toInt).toNat) ?_ ((0 : Int32)) _ _ _ u5 ⟨⟨by decide, Or.inr (by decide)⟩, V, hl, hF, hO0, hO1, hO2, hO3, hO9, hO10, hA13, hA14, hA15, hA21, hA22⟩
  rintro lx7 H locs ls w8 ⟨i9, V, hl, hF, hO0, hO1, hO2, hO3, hO9, hO10, hA13, hA14, hA15, hA21, hA22⟩ ih10
  replace i9 : 0 ≤ lx7.toInt ∧ (lx7.toInt ≤ 10000 ∨ lx7.toInt = 0) := i9
  replace hl : lv_has ls 7 [(5, .int lx7), (4, .ref qO10), (3, .ref qO9), (0, .ref qO0), (1, .ref qO1), (2, .ref qO2)] := hl
  replace hO0 : w8[kO0]? = (some (qO0, .inr (4, [.ref qO3, .ref qO4, .ref qO5, .ref qO6, .ref qO7, .ref qO8, .ref qO9, .ref qO10, .ref qO11, .ref qO12])) : Option (Nat × va_E)) := hO0
  replace hO1 : w8[kO1]? = (some (qO1, .inr (2, [.ref qA13, .int 0, .int 0])) : Option (Nat × va_E)) := hO1
  replace hO2 : w8[kO2]? = (some (qO2, .inr (2, [.ref qA14, .int 0, .int 0])) : Option (Nat × va_E)) := hO2
  replace hO3 : w8[kO3]? = (some (qO3, .inr (2, [.ref qA15, .int 0, .int 0])) : Option (Nat × va_E)) := hO3
  replace hO9 : w8[kO9]? = (some (qO9, .inr (2, [.ref qA21, .int 0, .int 0])) : Option (Nat × va_E)) := hO9
  replace hO10 : w8[kO10]? = (some (qO10, .inr (2, [.ref qA22, .int 0, .int 0])) : Option (Nat × va_E)) := hO10
  replace hA13 : w8[kA13]? = (some (qA13, .inl (g 0, 68, .inl (fun _ => 0))) : Option (Nat × va_E)) := hA13
  replace hA14 : w8[kA14]? = (some (qA14, .inl (g 0, 68, .inl (fun _ => 0))) : Option (Nat × va_E)) := hA14
  replace hA15 : w8[kA15]? = (some (qA15, .inl (g 0, 220, .inl (fun _ => 0))) : Option (Nat × va_E)) := hA15
  replace hA21 : w8[kA21]? = (some (qA21, .inl (g 0, 220, .inl (fun _ => 0))) : Option (Nat × va_E)) := hA21
  replace hA22 : w8[kA22]? = (some (qA22, .inl (g 0, 220, .inl (fun _ => 0))) : Option (Nat × va_E)) := hA22
  refine lv_iload hx hb d_8_5_25 (lv_at hl 0 rfl) ?_
  refine lv_sipush (v := 10000) hx hb d_8_5_27 (by decide) ?_
  refine lv_icmp_ge (tgt := 67) hx hb d_8_5_30 (by decide) (fun c11 => ?_) (fun c11 => ?_)
  ·
    refine lv_aload_n hx hb d_8_5_67 rfl (lv_at hl 3 rfl) ?_
    refine q_get (ci := 4) (j := 0) (v := .ref qO3) C0 V i_Mil rfl rfl hO0 (by decide) w_108 rfl d_8_5_68 ?_
    refine lv_aload_n hx hb d_8_5_71 rfl (lv_at hl 2 rfl) ?_
    refine q_gov V (q_runV (As := [.ref qO9]) (rest := []) (d := 2) (mc := 0) (ms := 0) (ci := 2) C0 V rfl LV_Mil_51 (c_Big_copy_4 l D g w8 kO3 kO9 kA15 kA21 qO3 qO9 qA15 qA21 hO3 hO9 hA15 hA21 n_A21_A15 n_O9_O3 _) rfl rfl hO3 rfl hl.1 rfl (Nat.le_of_ble_eq_true rfl) ⟨by decide, by decide⟩ ⟨Nat.le_of_ble_eq_true rfl, Nat.le_of_ble_eq_true rfl⟩ d_8_5_72) (fun u13 H locs hp12 V => ?_)
    obtain ⟨hg14, hO3, hA15⟩ := hp12
    replace hF := q_uc hF hg14 (q_sc (.head _) (q_sc (List.mem_of_getElem? (i := 3) rfl) (fun _ h => absurd h List.not_mem_nil)))
    refine lv_aload_n hx hb d_8_5_75 rfl (lv_at hl 3 rfl) ?_
    replace hO0 := (hg14 _ (q_nc n_O0_O3 (q_nc n_O0_A15 List.not_mem_nil))).trans (hO0)
    refine q_get (ci := 4) (j := 0) (v := .ref qO3) C0 V i_Mil rfl rfl hO0 (by decide) w_108 rfl d_8_5_76 ?_
    refine lv_iconst (v := 0) hx hb d_8_5_79 (by decide) ?_
    refine q_put (ci := 2) (j := 2) (v := .int 0) (ty := .boolean) C0 V i_Big o_Big n_Big rfl rfl hO3 (by decide) w_96 rfl rfl rfl rfl (Nat.le_of_ble_eq_true rfl) d_8_5_80 (fun H locs w15 hu16 hO3 V => ?_)
    replace hO3 : w15[kO3]? = (some (qO3, .inr (2, [.ref qA15, .int 0, .int 0])) : Option (Nat × va_E)) := hO3
    replace hF := q_us hF hu16 (.head _)
    replace hO9 := (hu16 _ n_O9_O3).trans ((hg14 _ (q_nc n_O9_O3 (q_nc n_O9_A15 List.not_mem_nil))).trans (hO9))
    replace hO10 := (hu16 _ n_O10_O3).trans ((hg14 _ (q_nc n_O10_O3 (q_nc n_O10_A15 List.not_mem_nil))).trans (hO10))
    replace hA15 := (hu16 _ n_A15_O3).trans (hA15)
    replace hA21 := (hu16 _ n_A21_O3).trans ((hg14 _ (q_nc n_A21_O3 (q_nc n_A21_A15 List.not_mem_nil))).trans (hA21))
    replace hA22 := (hu16 _ n_A22_O3).trans ((hg14 _ (q_nc n_A22_O3 (q_nc n_A22_A15 List.not_mem_nil))).trans (hA22))
    exact q_retv C0 V (⟨hF, hO3, hO9, hO10, hA15, hA21, hA22⟩) d_8_5_83
  ·
    refine lv_aload hx hb d_8_5_33 (lv_at hl 1 rfl) ?_
    refine q_get (ci := 2) (j := 1) (v := .int 0) C0 V i_Big rfl rfl hO10 (by decide) w_89 rfl d_8_5_35 ?_
    refine lv_if_le (tgt := 67) hx hb d_8_5_38 (by decide) (fun c17 => ?_) (fun c17 => absurd (by decide) c17)
    refine lv_aload_n hx hb d_8_5_67 rfl (lv_at hl 3 rfl) ?_
    refine q_get (ci := 4) (j := 0) (v := .ref qO3) C0 V i_Mil rfl rfl hO0 (by decide) w_108 rfl d_8_5_68 ?_
    refine lv_aload_n hx hb d_8_5_71 rfl (lv_at hl 2 rfl) ?_
    refine q_gov V (q_runV (As := [.ref qO9]) (rest := []) (d := 2) (mc := 0) (ms := 0) (ci := 2) C0 V rfl LV_Mil_51 (c_Big_copy_4 l D g w8 kO3 kO9 kA15 kA21 qO3 qO9 qA15 qA21 hO3 hO9 hA15 hA21 n_A21_A15 n_O9_O3 _) rfl rfl hO3 rfl hl.1 rfl (Nat.le_of_ble_eq_true rfl) ⟨by decide, by decide⟩ ⟨Nat.le_of_ble_eq_true rfl, Nat.le_of_ble_eq_true rfl⟩ d_8_5_72) (fun u19 H locs hp18 V => ?_)
    obtain ⟨hg20, hO3, hA15⟩ := hp18
    replace hF := q_uc hF hg20 (q_sc (.head _) (q_sc (List.mem_of_getElem? (i := 3) rfl) (fun _ h => absurd h List.not_mem_nil)))
    refine lv_aload_n hx hb d_8_5_75 rfl (lv_at hl 3 rfl) ?_
    replace hO0 := (hg20 _ (q_nc n_O0_O3 (q_nc n_O0_A15 List.not_mem_nil))).trans (hO0)
    refine q_get (ci := 4) (j := 0) (v := .ref qO3) C0 V i_Mil rfl rfl hO0 (by decide) w_108 rfl d_8_5_76 ?_
    refine lv_iconst (v := 0) hx hb d_8_5_79 (by decide) ?_
    refine q_put (ci := 2) (j := 2) (v := .int 0) (ty := .boolean) C0 V i_Big o_Big n_Big rfl rfl hO3 (by decide) w_96 rfl rfl rfl rfl (Nat.le_of_ble_eq_true rfl) d_8_5_80 (fun H locs w21 hu22 hO3 V => ?_)
    replace hO3 : w21[kO3]? = (some (qO3, .inr (2, [.ref qA15, .int 0, .int 0])) : Option (Nat × va_E)) := hO3
    replace hF := q_us hF hu22 (.head _)
    replace hO9 := (hu22 _ n_O9_O3).trans ((hg20 _ (q_nc n_O9_O3 (q_nc n_O9_A15 List.not_mem_nil))).trans (hO9))
    replace hO10 := (hu22 _ n_O10_O3).trans ((hg20 _ (q_nc n_O10_O3 (q_nc n_O10_A15 List.not_mem_nil))).trans (hO10))
    replace hA15 := (hu22 _ n_A15_O3).trans (hA15)
    replace hA21 := (hu22 _ n_A21_O3).trans ((hg20 _ (q_nc n_A21_O3 (q_nc n_A21_A15 List.not_mem_nil))).trans (hA21))
    replace hA22 := (hu22 _ n_A22_O3).trans ((hg20 _ (q_nc n_A22_O3 (q_nc n_A22_A15 List.not_mem_nil))).trans (hA22))
    exact q_retv C0 V (⟨hF, hO3, hO9, hO10, hA15, hA21, hA22⟩) d_8_5_83
theorem d_2_22_0 : decode prog_2_method_22_code 0 = .ok (.aload_n 1, 1) := by decide +kernel
theorem d_2_22_1 : decode prog_2_method_22_code 1 = .ok (.getfield 17, 3) := by decide +kernel
theorem d_2_22_4 : decode prog_2_method_22_code 4 = .ok (.iload_n 2, 1) := by decide +kernel
theorem d_2_22_5 : decode prog_2_method_22_code 5 = .ok (.if_icmp .eq 7, 3) := by decide +kernel
theorem d_2_22_12 : decode prog_2_method_22_code 12 = .ok (.iconst 0, 1) := by decide +kernel
theorem d_2_22_13 : decode prog_2_method_22_code 13 = .ok (.istore_n 3, 1) := by decide +kernel
theorem d_2_22_14 : decode prog_2_method_22_code 14 = .ok (.aload_n 1, 1) := by decide +kernel
theorem d_2_22_15 : decode prog_2_method_22_code 15 = .ok (.getfield 13, 3) := by decide +kernel
theorem d_2_22_18 : decode prog_2_method_22_code 18 = .ok (.ifCond .ne 4, 3) := by decide +kernel
theorem d_2_22_21 : decode prog_2_method_22_code 21 = .ok (.return_, 1) := by decide +kernel
def y_Big_addSigned : MethodName := ⟨"NumberHouse$Big", "addSigned", "(LNumberHouse$Big;Z)V"⟩
set_option maxRecDepth 100000 in
set_option maxHeartbeats 4000000 in
theorem c_Big_addSigned (l : Launch) (D : va_G) (g : Nat → ClassId) (ws : va_W) (kO1 qO0 qO1 qA3 : Nat) (hO1 : ws[kO1]? = (some (qO1, .inr (2, [.ref qA3, .int 0, .int 0])) : Option (Nat × va_E))) : q_mV l y_Big_addSigned prog_2_method_22_code 4 1 0 0 D g [.ref qO0, .ref qO1, .int 0] ws (fun u => ws = u) := by
  intro sz
  refine q_into (by decide) (Nat.le_of_ble_eq_true rfl) ?_
  intro p e s m below meth c ls hsz C0 V hl
  have hx := C0.1
  have hb := C0.2.1
  have hl : lv_has ls 4 [(0, .ref qO0), (1, .ref qO1), (2, .int 0)] := hl
  refine lv_aload_n hx hb d_2_22_0 rfl (lv_at hl 1 rfl) ?_
  refine q_get (ci := 2) (j := 2) (v := .int 0) C0 V i_Big rfl rfl hO1 (by decide) w_94 rfl d_2_22_1 ?_
  refine lv_iload_n hx hb d_2_22_4 rfl (lv_at hl 2 rfl) ?_
  refine lv_icmp_eq (tgt := 12) hx hb d_2_22_5 (by decide) (fun c1 => ?_) (fun c1 => absurd (by decide) c1)
  refine lv_iconst (v := 0) hx hb d_2_22_12 (by decide) ?_
  refine lv_istore_n (lv' := [(3, .int 0), (0, .ref qO0), (1, .ref qO1), (2, .int 0)]) hx hb d_2_22_13 rfl hl (by decide) rfl (fun ls hl => ?_)
  refine lv_aload_n hx hb d_2_22_14 rfl (lv_at hl 2 rfl) ?_
  refine q_get (ci := 2) (j := 1) (v := .int 0) C0 V i_Big rfl rfl hO1 (by decide) w_85 rfl d_2_22_15 ?_
  refine lv_if_ne (tgt := 22) hx hb d_2_22_18 (by decide) (fun c2 => absurd (by decide) c2) (fun c2 => ?_)
  exact q_retv C0 V (rfl) d_2_22_21
theorem d_2_22_8 : decode prog_2_method_22_code 8 = .ok (.iconst 1, 1) := by decide +kernel
theorem d_2_22_9 : decode prog_2_method_22_code 9 = .ok (.goto 4, 3) := by decide +kernel
set_option maxRecDepth 100000 in
set_option maxHeartbeats 4000000 in
theorem c_Big_addSigned_2 (l : Launch) (D : va_G) (g : Nat → ClassId) (ws : va_W) (kO1 qO0 qO1 qA3 : Nat) (hO1 : ws[kO1]? = (some (qO1, .inr (2, [.ref qA3, .int 0, .int 0])) : Option (Nat × va_E))) : q_mV l y_Big_addSigned prog_2_method_22_code 4 1 0 0 D g [.ref qO0, .ref qO1, .int 1] ws (fun u => ws = u) := by
  intro sz
  refine q_into (by decide) (Nat.le_of_ble_eq_true rfl) ?_
  intro p e s m below meth c ls hsz C0 V hl
  have hx := C0.1
  have hb := C0.2.1
  have hl : lv_has ls 4 [(0, .ref qO0), (1, .ref qO1), (2, .int 1)] := hl
  refine lv_aload_n hx hb d_2_22_0 rfl (lv_at hl 1 rfl) ?_
  refine q_get (ci := 2) (j := 2) (v := .int 0) C0 V i_Big rfl rfl hO1 (by decide) w_94 rfl d_2_22_1 ?_
  refine lv_iload_n hx hb d_2_22_4 rfl (lv_at hl 2 rfl) ?_
  refine lv_icmp_eq (tgt := 12) hx hb d_2_22_5 (by decide) (fun c1 => absurd c1 (by decide)) (fun c1 => ?_)
  refine lv_iconst (v := 1) hx hb d_2_22_8 (by decide) ?_
  refine lv_goto (tgt := 13) hx hb d_2_22_9 (by decide) ?_
  refine lv_istore_n (lv' := [(3, .int 1), (0, .ref qO0), (1, .ref qO1), (2, .int 1)]) hx hb d_2_22_13 rfl hl (by decide) rfl (fun ls hl => ?_)
  refine lv_aload_n hx hb d_2_22_14 rfl (lv_at hl 2 rfl) ?_
  refine q_get (ci := 2) (j := 1) (v := .int 0) C0 V i_Big rfl rfl hO1 (by decide) w_85 rfl d_2_22_15 ?_
  refine lv_if_ne (tgt := 22) hx hb d_2_22_18 (by decide) (fun c2 => absurd (by decide) c2) (fun c2 => ?_)
  exact q_retv C0 V (rfl) d_2_22_21
theorem d_37_30_0 : decode prog_37_method_30_code 0 = .ok (.iload_n 1, 1) := by decide +kernel
theorem d_37_30_1 : decode prog_37_method_30_code 1 = .ok (.iload_n 2, 1) := by decide +kernel
theorem d_37_30_2 : decode prog_37_method_30_code 2 = .ok (.if_icmp .le 44, 3) := by decide +kernel
theorem d_37_30_46 : decode prog_37_method_30_code 46 = .ok (.iload_n 1, 1) := by decide +kernel
theorem d_37_30_47 : decode prog_37_method_30_code 47 = .ok (.ifCond .ge 12, 3) := by decide +kernel
theorem d_37_30_59 : decode prog_37_method_30_code 59 = .ok (.iload_n 2, 1) := by decide +kernel
theorem d_37_30_60 : decode prog_37_method_30_code 60 = .ok (.iload_n 0, 1) := by decide +kernel
theorem d_37_30_61 : decode prog_37_method_30_code 61 = .ok (.if_icmp .le 12, 3) := by decide +kernel
theorem d_37_30_73 : decode prog_37_method_30_code 73 = .ok (.return_, 1) := by decide +kernel
def y_jArr_rangeCheck : MethodName := ⟨"java/util/Arrays", "rangeCheck", "(III)V"⟩
set_option maxRecDepth 100000 in
set_option maxHeartbeats 4000000 in
theorem c_jArr_rangeCheck (l : Launch) (D : va_G) (g : Nat → ClassId) (ws : va_W) : q_mV l y_jArr_rangeCheck prog_37_method_30_code 3 1 0 0 D g [.int 220, .int 0, .int 0] ws (fun u => ws = u) := by
  intro sz
  refine q_into (by decide) (Nat.le_of_ble_eq_true rfl) ?_
  intro p e s m below meth c ls hsz C0 V hl
  have hx := C0.1
  have hb := C0.2.1
  have hl : lv_has ls 3 [(0, .int 220), (1, .int 0), (2, .int 0)] := hl
  refine lv_iload_n hx hb d_37_30_0 rfl (lv_at hl 1 rfl) ?_
  refine lv_iload_n hx hb d_37_30_1 rfl (lv_at hl 2 rfl) ?_
  refine lv_icmp_le (tgt := 46) hx hb d_37_30_2 (by decide) (fun c1 => ?_) (fun c1 => absurd (by decide) c1)
  refine lv_iload_n hx hb d_37_30_46 rfl (lv_at hl 1 rfl) ?_
  refine lv_if_ge (tgt := 59) hx hb d_37_30_47 (by decide) (fun c2 => ?_) (fun c2 => absurd (by decide) c2)
  refine lv_iload_n hx hb d_37_30_59 rfl (lv_at hl 2 rfl) ?_
  refine lv_iload_n hx hb d_37_30_60 rfl (lv_at hl 0 rfl) ?_
  refine lv_icmp_le (tgt := 73) hx hb d_37_30_61 (by decide) (fun c3 => ?_) (fun c3 => absurd (by decide) c3)
  exact q_retv C0 V (rfl) d_37_30_73
theorem d_37_104_0 : decode prog_37_method_104_code 0 = .ok (.aload_n 0, 1) := by decide +kernel
theorem d_37_104_1 : decode prog_37_method_104_code 1 = .ok (.arraylength, 1) := by decide +kernel
theorem d_37_104_2 : decode prog_37_method_104_code 2 = .ok (.iload_n 1, 1) := by decide +kernel
theorem d_37_104_3 : decode prog_37_method_104_code 3 = .ok (.iload_n 2, 1) := by decide +kernel
theorem d_37_104_4 : decode prog_37_method_104_code 4 = .ok (.invokestatic 13, 3) := by decide +kernel
theorem w_815 : (Cond.code ({ cls := "java/util/Arrays", name := "rangeCheck", desc := "(III)V" } : MethodName) prog_37_method_30_code (3 : Nat) (none : Option ClassFile.FieldType)) ∈ q_tbl := q_of 815 (by decide +kernel) (by decide +kernel)
theorem w_30 : (Cond.initialized "java/util/Arrays") ∈ q_tbl := q_of 30 (by decide +kernel) (by decide +kernel)
theorem w_813 : (Cond.methodLink "java/util/Arrays" (13 : Nat) ({ cls := "java/util/Arrays", name := "rangeCheck", desc := "(III)V" } : MethodName)) ∈ q_tbl := q_of 813 (by decide +kernel) (by decide +kernel)
theorem w_814 : (Cond.static ({ cls := "java/util/Arrays", name := "rangeCheck", desc := "(III)V" } : MethodName)) ∈ q_tbl := q_of 814 (by decide +kernel) (by decide +kernel)
theorem LS_jArr_13 : q_LS "java/util/Arrays" 13 y_jArr_rangeCheck prog_37_method_30_code 3 none 3 := ⟨w_815, w_30, w_813, w_814, ⟨by decide, by decide, by decide +kernel⟩⟩
theorem d_37_104_7 : decode prog_37_method_104_code 7 = .ok (.iload_n 1, 1) := by decide +kernel
theorem d_37_104_8 : decode prog_37_method_104_code 8 = .ok (.istore 4, 2) := by decide +kernel
theorem d_37_104_10 : decode prog_37_method_104_code 10 = .ok (.iload 4, 2) := by decide +kernel
theorem d_37_104_12 : decode prog_37_method_104_code 12 = .ok (.iload_n 2, 1) := by decide +kernel
theorem d_37_104_13 : decode prog_37_method_104_code 13 = .ok (.if_icmp .ge 14, 3) := by decide +kernel
theorem d_37_104_27 : decode prog_37_method_104_code 27 = .ok (.return_, 1) := by decide +kernel
def y_jArr_fill : MethodName := ⟨"java/util/Arrays", "fill", "([IIII)V"⟩
set_option maxRecDepth 100000 in
set_option maxHeartbeats 4000000 in
theorem c_jArr_fill (l : Launch) (D : va_G) (g : Nat → ClassId) (ws : va_W) (kA0 qA0 : Nat) (hA0 : ws[kA0]? = (some (qA0, .inl (g 0, 220, .inl (fun _ => 0))) : Option (Nat × va_E))) : q_mV l y_jArr_fill prog_37_method_104_code 5 2 0 0 D g [.ref qA0, .int 0, .int 0, .int 0] ws (fun u => ws = u) := by
  intro sz
  refine q_into (by decide) (Nat.le_of_ble_eq_true rfl) ?_
  intro p e s m below meth c ls hsz C0 V hl
  have hx := C0.1
  have hb := C0.2.1
  have hl : lv_has ls 5 [(0, .ref qA0), (1, .int 0), (2, .int 0), (3, .int 0)] := hl
  refine lv_aload_n hx hb d_37_104_0 rfl (lv_at hl 0 rfl) ?_
  refine q_alen (t := 0) (v := 220) C0 V hA0 rfl (by first | rfl | decide) d_37_104_1 ?_
  refine lv_iload_n hx hb d_37_104_2 rfl (lv_at hl 1 rfl) ?_
  refine lv_iload_n hx hb d_37_104_3 rfl (lv_at hl 2 rfl) ?_
  refine q_gov V (q_runS (As := [.int 220, .int 0, .int 0]) (rest := []) (d := 1) (mc := 0) (ms := 0) C0 V rfl LS_jArr_13 (c_jArr_rangeCheck l D g ws _) rfl hl.1 rfl (Nat.le_of_ble_eq_true rfl) ⟨by decide, by decide⟩ ⟨Nat.le_of_ble_eq_true rfl, Nat.le_of_ble_eq_true rfl⟩ d_37_104_4) (fun u2 H locs hp1 V => ?_)
  obtain rfl := hp1
  refine lv_iload_n hx hb d_37_104_7 rfl (lv_at hl 1 rfl) ?_
  refine lv_istore (lv' := [(4, .int 0), (0, .ref qA0), (1, .int 0), (2, .int 0), (3, .int 0)]) hx hb d_37_104_8 hl (by decide) rfl (fun ls hl => ?_)
  refine lv_iload hx hb d_37_104_10 (lv_at hl 0 rfl) ?_
  refine lv_iload_n hx hb d_37_104_12 rfl (lv_at hl 3 rfl) ?_
  refine lv_icmp_ge (tgt := 27) hx hb d_37_104_13 (by decide) (fun c4 => ?_) (fun c4 => absurd (by decide) c4)
  exact q_retv C0 V (rfl) d_37_104_27
theorem d_2_31_0 : decode prog_2_method_31_code 0 = .ok (.aload_n 1, 1) := by decide +kernel
theorem d_2_31_1 : decode prog_2_method_31_code 1 = .ok (.getfield 13, 3) := by decide +kernel
theorem d_2_31_4 : decode prog_2_method_31_code 4 = .ok (.aload_n 2, 1) := by decide +kernel
theorem d_2_31_5 : decode prog_2_method_31_code 5 = .ok (.getfield 13, 3) := by decide +kernel
theorem d_2_31_8 : decode prog_2_method_31_code 8 = .ok (.iadd, 1) := by decide +kernel
theorem d_2_31_9 : decode prog_2_method_31_code 9 = .ok (.aload_n 0, 1) := by decide +kernel
theorem d_2_31_10 : decode prog_2_method_31_code 10 = .ok (.getfield 7, 3) := by decide +kernel
theorem d_2_31_13 : decode prog_2_method_31_code 13 = .ok (.arraylength, 1) := by decide +kernel
theorem d_2_31_14 : decode prog_2_method_31_code 14 = .ok (.invokestatic 39, 3) := by decide +kernel
theorem d_2_31_17 : decode prog_2_method_31_code 17 = .ok (.istore_n 3, 1) := by decide +kernel
theorem d_2_31_18 : decode prog_2_method_31_code 18 = .ok (.aload_n 0, 1) := by decide +kernel
theorem d_2_31_19 : decode prog_2_method_31_code 19 = .ok (.getfield 7, 3) := by decide +kernel
theorem d_2_31_22 : decode prog_2_method_31_code 22 = .ok (.iconst 0, 1) := by decide +kernel
theorem d_2_31_23 : decode prog_2_method_31_code 23 = .ok (.iload_n 3, 1) := by decide +kernel
theorem d_2_31_24 : decode prog_2_method_31_code 24 = .ok (.iconst 0, 1) := by decide +kernel
theorem d_2_31_25 : decode prog_2_method_31_code 25 = .ok (.invokestatic 108, 3) := by decide +kernel
theorem w_812 : (Cond.code ({ cls := "java/util/Arrays", name := "fill", desc := "([IIII)V" } : MethodName) prog_37_method_104_code (5 : Nat) (none : Option ClassFile.FieldType)) ∈ q_tbl := q_of 812 (by decide +kernel) (by decide +kernel)
theorem w_810 : (Cond.methodLink "NumberHouse$Big" (108 : Nat) ({ cls := "java/util/Arrays", name := "fill", desc := "([IIII)V" } : MethodName)) ∈ q_tbl := q_of 810 (by decide +kernel) (by decide +kernel)
theorem w_811 : (Cond.static ({ cls := "java/util/Arrays", name := "fill", desc := "([IIII)V" } : MethodName)) ∈ q_tbl := q_of 811 (by decide +kernel) (by decide +kernel)
theorem LS_Big_108 : q_LS "NumberHouse$Big" 108 y_jArr_fill prog_37_method_104_code 5 none 4 := ⟨w_812, w_30, w_810, w_811, ⟨by decide, by decide, by decide +kernel⟩⟩
theorem d_2_31_28 : decode prog_2_method_31_code 28 = .ok (.iconst 0, 1) := by decide +kernel
theorem d_2_31_29 : decode prog_2_method_31_code 29 = .ok (.istore 4, 2) := by decide +kernel
theorem d_2_31_31 : decode prog_2_method_31_code 31 = .ok (.iload 4, 2) := by decide +kernel
theorem d_2_31_33 : decode prog_2_method_31_code 33 = .ok (.aload_n 1, 1) := by decide +kernel
theorem d_2_31_34 : decode prog_2_method_31_code 34 = .ok (.getfield 13, 3) := by decide +kernel
theorem d_2_31_37 : decode prog_2_method_31_code 37 = .ok (.if_icmp .ge 125, 3) := by decide +kernel
theorem d_2_31_162 : decode prog_2_method_31_code 162 = .ok (.aload_n 0, 1) := by decide +kernel
theorem d_2_31_163 : decode prog_2_method_31_code 163 = .ok (.iload_n 3, 1) := by decide +kernel
theorem d_2_31_164 : decode prog_2_method_31_code 164 = .ok (.putfield 13, 3) := by decide +kernel
theorem d_2_31_167 : decode prog_2_method_31_code 167 = .ok (.aload_n 0, 1) := by decide +kernel
theorem d_2_31_168 : decode prog_2_method_31_code 168 = .ok (.aload_n 1, 1) := by decide +kernel
theorem d_2_31_169 : decode prog_2_method_31_code 169 = .ok (.getfield 17, 3) := by decide +kernel
theorem d_2_31_172 : decode prog_2_method_31_code 172 = .ok (.aload_n 2, 1) := by decide +kernel
theorem d_2_31_173 : decode prog_2_method_31_code 173 = .ok (.getfield 17, 3) := by decide +kernel
theorem d_2_31_176 : decode prog_2_method_31_code 176 = .ok (.if_icmp .eq 7, 3) := by decide +kernel
theorem d_2_31_183 : decode prog_2_method_31_code 183 = .ok (.iconst 0, 1) := by decide +kernel
theorem d_2_31_184 : decode prog_2_method_31_code 184 = .ok (.putfield 17, 3) := by decide +kernel
theorem d_2_31_187 : decode prog_2_method_31_code 187 = .ok (.aload_n 0, 1) := by decide +kernel
theorem d_2_31_188 : decode prog_2_method_31_code 188 = .ok (.invokevirtual 36, 3) := by decide +kernel
theorem d_2_31_191 : decode prog_2_method_31_code 191 = .ok (.return_, 1) := by decide +kernel
def y_Big_product : MethodName := ⟨"NumberHouse$Big", "product", "(LNumberHouse$Big;LNumberHouse$Big;)V"⟩
set_option maxRecDepth 100000 in
set_option maxHeartbeats 4000000 in
theorem c_Big_product (l : Launch) (D : va_G) (g : Nat → ClassId) (ws : va_W) (kO0 kO1 kO2 kA3 qO0 qO1 qO2 qA3 qA4 qA5 : Nat) (hO0 : ws[kO0]? = (some (qO0, .inr (2, [.ref qA3, .int 0, .int 0])) : Option (Nat × va_E))) (hO1 : ws[kO1]? = (some (qO1, .inr (2, [.ref qA4, .int 0, .int 0])) : Option (Nat × va_E))) (hO2 : ws[kO2]? = (some (qO2, .inr (2, [.ref qA5, .int 0, .int 0])) : Option (Nat × va_E))) (hA3 : ws[kA3]? = (some (qA3, .inl (g 0, 220, .inl (fun _ => 0))) : Option (Nat × va_E))) (n_O1_O0 : kO1 ≠ kO0) (n_O2_O0 : kO2 ≠ kO0) : q_mV l y_Big_product prog_2_method_31_code 13 3 0 0 D g [.ref qO0, .ref qO1, .ref qO2] ws (fun u => q_un ws u [kO0] ∧ u[kO0]? = (some (qO0, .inr (2, [.ref qA3, .int 0, .int 0])) : Option (Nat × va_E))) := by
  intro sz
  refine q_into (by decide) (Nat.le_of_ble_eq_true rfl) ?_
  intro p e s m below meth c ls hsz C0 V hl
  have hx := C0.1
  have hb := C0.2.1
  have hl : lv_has ls 13 [(0, .ref qO0), (1, .ref qO1), (2, .ref qO2)] := hl
  have n_A3_O0 := q_df hA3 hO0
  have hF : q_un ws ws [kO0] := q_u0
  refine lv_aload_n hx hb d_2_31_0 rfl (lv_at hl 1 rfl) ?_
  refine q_get (ci := 2) (j := 1) (v := .int 0) C0 V i_Big rfl rfl hO1 (by decide) w_85 rfl d_2_31_1 ?_
  refine lv_aload_n hx hb d_2_31_4 rfl (lv_at hl 2 rfl) ?_
  refine q_get (ci := 2) (j := 1) (v := .int 0) C0 V i_Big rfl rfl hO2 (by decide) w_85 rfl d_2_31_5 ?_
  refine lv_iadd hx hb d_2_31_8 ?_
  refine q_ti (v := 0) (by decide) ?_
  refine lv_aload_n hx hb d_2_31_9 rfl (lv_at hl 0 rfl) ?_
  refine q_get (ci := 2) (j := 0) (v := .ref qA3) C0 V i_Big rfl rfl hO0 (by decide) w_84 rfl d_2_31_10 ?_
  refine q_alen (t := 0) (v := 220) C0 V hA3 rfl (by first | rfl | decide) d_2_31_13 ?_
  refine q_min C0 hl.1 rfl w_773 w_774 w_7 w_775 ⟨Nat.le_of_ble_eq_true rfl, Nat.le_of_ble_eq_true rfl⟩ ⟨Nat.le_of_ble_eq_true rfl, Nat.le_of_ble_eq_true rfl⟩ d_2_31_14 ?_
  refine q_ti (v := 0) (by decide) ?_
  refine lv_istore_n (lv' := [(3, .int 0), (0, .ref qO0), (1, .ref qO1), (2, .ref qO2)]) hx hb d_2_31_17 rfl hl (by decide) rfl (fun ls hl => ?_)
  refine lv_aload_n hx hb d_2_31_18 rfl (lv_at hl 1 rfl) ?_
  refine q_get (ci := 2) (j := 0) (v := .ref qA3) C0 V i_Big rfl rfl hO0 (by decide) w_84 rfl d_2_31_19 ?_
  refine lv_iconst (v := 0) hx hb d_2_31_22 (by decide) ?_
  refine lv_iload_n hx hb d_2_31_23 rfl (lv_at hl 0 rfl) ?_
  refine lv_iconst (v := 0) hx hb d_2_31_24 (by decide) ?_
  refine q_gov V (q_runS (As := [.ref qA3, .int 0, .int 0, .int 0]) (rest := []) (d := 2) (mc := 0) (ms := 0) C0 V rfl LS_Big_108 (c_jArr_fill l D g ws kA3 qA3 hA3 _) rfl hl.1 rfl (Nat.le_of_ble_eq_true rfl) ⟨by decide, by decide⟩ ⟨Nat.le_of_ble_eq_true rfl, Nat.le_of_ble_eq_true rfl⟩ d_2_31_25) (fun u2 H locs hp1 V => ?_)
  obtain rfl := hp1
  refine lv_iconst (v := 0) hx hb d_2_31_28 (by decide) ?_
  refine lv_istore (lv' := [(4, .int 0), (3, .int 0), (0, .ref qO0), (1, .ref qO1), (2, .ref qO2)]) hx hb d_2_31_29 hl (by decide) rfl (fun ls hl => ?_)
  refine lv_iload hx hb d_2_31_31 (lv_at hl 0 rfl) ?_
  refine lv_aload_n hx hb d_2_31_33 rfl (lv_at hl 3 rfl) ?_
  refine q_get (ci := 2) (j := 1) (v := .int 0) C0 V i_Big rfl rfl hO1 (by decide) w_85 rfl d_2_31_34 ?_
  refine lv_icmp_ge (tgt := 162) hx hb d_2_31_37 (by decide) (fun c4 => ?_) (fun c4 => absurd (by decide) c4)
  refine lv_aload_n hx hb d_2_31_162 rfl (lv_at hl 2 rfl) ?_
  refine lv_iload_n hx hb d_2_31_163 rfl (lv_at hl 1 rfl) ?_
  refine q_put (ci := 2) (j := 1) (v := .int 0) (ty := .int) C0 V i_Big o_Big n_Big rfl rfl hO0 (by decide) w_85 rfl rfl rfl rfl (Nat.le_of_ble_eq_true rfl) d_2_31_164 (fun H locs w5 hu6 hO0 V => ?_)
  replace hO0 : w5[kO0]? = (some (qO0, .inr (2, [.ref qA3, .int 0, .int 0])) : Option (Nat × va_E)) := hO0
  replace hF := q_us hF hu6 (.head _)
  refine lv_aload_n hx hb d_2_31_167 rfl (lv_at hl 2 rfl) ?_
  refine lv_aload_n hx hb d_2_31_168 rfl (lv_at hl 3 rfl) ?_
  replace hO1 := (hu6 _ n_O1_O0).trans (hO1)
  refine q_get (ci := 2) (j := 2) (v := .int 0) C0 V i_Big rfl rfl hO1 (by decide) w_94 rfl d_2_31_169 ?_
  refine lv_aload_n hx hb d_2_31_172 rfl (lv_at hl 4 rfl) ?_
  replace hO2 := (hu6 _ n_O2_O0).trans (hO2)
  refine q_get (ci := 2) (j := 2) (v := .int 0) C0 V i_Big rfl rfl hO2 (by decide) w_94 rfl d_2_31_173 ?_
  refine lv_icmp_eq (tgt := 183) hx hb d_2_31_176 (by decide) (fun c7 => ?_) (fun c7 => absurd (by decide) c7)
  refine lv_iconst (v := 0) hx hb d_2_31_183 (by decide) ?_
  refine q_put (ci := 2) (j := 2) (v := .int 0) (ty := .boolean) C0 V i_Big o_Big n_Big rfl rfl hO0 (by decide) w_94 rfl rfl rfl rfl (Nat.le_of_ble_eq_true rfl) d_2_31_184 (fun H locs w8 hu9 hO0 V => ?_)
  replace hO0 : w8[kO0]? = (some (qO0, .inr (2, [.ref qA3, .int 0, .int 0])) : Option (Nat × va_E)) := hO0
  replace hF := q_us hF hu9 (.head _)
  refine lv_aload_n hx hb d_2_31_187 rfl (lv_at hl 2 rfl) ?_
  refine q_gov V (q_runV (As := []) (rest := []) (d := 1) (mc := 0) (ms := 0) (ci := 2) C0 V rfl LV_Big_36 (c_Big_trim l D g w8 kO0 qO0 qA3 hO0 _) rfl rfl hO0 rfl hl.1 rfl (Nat.le_of_ble_eq_true rfl) ⟨by decide, by decide⟩ ⟨Nat.le_of_ble_eq_true rfl, Nat.le_of_ble_eq_true rfl⟩ d_2_31_188) (fun u11 H locs hp10 V => ?_)
  obtain ⟨hg12, hO0⟩ := hp10
  replace hF := q_uc hF hg12 (q_sc (.head _) (fun _ h => absurd h List.not_mem_nil))
  exact q_retv C0 V (⟨hF, hO0⟩) d_2_31_191
theorem d_8_2_0 : decode prog_8_method_2_code 0 = .ok (.iload_n 1, 1) := by decide +kernel
theorem d_8_2_1 : decode prog_8_method_2_code 1 = .ok (.iconst 2, 1) := by decide +kernel
theorem d_8_2_2 : decode prog_8_method_2_code 2 = .ok (.if_icmp .ne 15, 3) := by decide +kernel
theorem d_8_2_17 : decode prog_8_method_2_code 17 = .ok (.aload_n 0, 1) := by decide +kernel
theorem d_8_2_18 : decode prog_8_method_2_code 18 = .ok (.getfield 16, 3) := by decide +kernel
theorem d_8_2_21 : decode prog_8_method_2_code 21 = .ok (.aload_n 2, 1) := by decide +kernel
theorem d_8_2_22 : decode prog_8_method_2_code 22 = .ok (.invokevirtual 51, 3) := by decide +kernel
theorem d_8_2_25 : decode prog_8_method_2_code 25 = .ok (.aload_n 0, 1) := by decide +kernel
theorem d_8_2_26 : decode prog_8_method_2_code 26 = .ok (.getfield 16, 3) := by decide +kernel
theorem d_8_2_29 : decode prog_8_method_2_code 29 = .ok (.aload_n 3, 1) := by decide +kernel
theorem d_8_2_30 : decode prog_8_method_2_code 30 = .ok (.iload_n 1, 1) := by decide +kernel
theorem d_8_2_31 : decode prog_8_method_2_code 31 = .ok (.iconst 1, 1) := by decide +kernel
theorem d_8_2_32 : decode prog_8_method_2_code 32 = .ok (.if_icmp .ne 7, 3) := by decide +kernel
theorem d_8_2_39 : decode prog_8_method_2_code 39 = .ok (.iconst 0, 1) := by decide +kernel
theorem d_8_2_40 : decode prog_8_method_2_code 40 = .ok (.invokevirtual 55, 3) := by decide +kernel
theorem w_1267 : (Cond.code ({ cls := "NumberHouse$Big", name := "addSigned", desc := "(LNumberHouse$Big;Z)V" } : MethodName) prog_2_method_22_code (4 : Nat) (none : Option ClassFile.FieldType)) ∈ q_tbl := q_of 1267 (by decide +kernel) (by decide +kernel)
theorem w_1264 : (Cond.methodLink "NumberHouse$Mill" (55 : Nat) ({ cls := "NumberHouse$Big", name := "addSigned", desc := "(LNumberHouse$Big;Z)V" } : MethodName)) ∈ q_tbl := q_of 1264 (by decide +kernel) (by decide +kernel)
theorem w_1265 : (Cond.instanceMethod ({ cls := "NumberHouse$Big", name := "addSigned", desc := "(LNumberHouse$Big;Z)V" } : MethodName)) ∈ q_tbl := q_of 1265 (by decide +kernel) (by decide +kernel)
theorem w_1266 : (Cond.selects "NumberHouse$Big" ({ cls := "NumberHouse$Big", name := "addSigned", desc := "(LNumberHouse$Big;Z)V" } : MethodName) ({ cls := "NumberHouse$Big", name := "addSigned", desc := "(LNumberHouse$Big;Z)V" } : MethodName)) ∈ q_tbl := q_of 1266 (by decide +kernel) (by decide +kernel)
theorem LV_Mil_55 : q_LV "NumberHouse$Mill" 55 y_Big_addSigned prog_2_method_22_code 4 none 2 := ⟨w_1267, w_4, w_1264, w_1265, w_1266, ⟨by decide, by decide, by decide +kernel⟩⟩
theorem d_8_2_43 : decode prog_8_method_2_code 43 = .ok (.return_, 1) := by decide +kernel
theorem d_8_2_35 : decode prog_8_method_2_code 35 = .ok (.iconst 1, 1) := by decide +kernel
theorem d_8_2_36 : decode prog_8_method_2_code 36 = .ok (.goto 4, 3) := by decide +kernel
theorem d_8_2_5 : decode prog_8_method_2_code 5 = .ok (.aload_n 0, 1) := by decide +kernel
theorem d_8_2_6 : decode prog_8_method_2_code 6 = .ok (.getfield 16, 3) := by decide +kernel
theorem d_8_2_9 : decode prog_8_method_2_code 9 = .ok (.aload_n 2, 1) := by decide +kernel
theorem d_8_2_10 : decode prog_8_method_2_code 10 = .ok (.aload_n 3, 1) := by decide +kernel
theorem d_8_2_11 : decode prog_8_method_2_code 11 = .ok (.invokevirtual 47, 3) := by decide +kernel
theorem w_1262 : (Cond.code ({ cls := "NumberHouse$Big", name := "product", desc := "(LNumberHouse$Big;LNumberHouse$Big;)V" } : MethodName) prog_2_method_31_code (13 : Nat) (none : Option ClassFile.FieldType)) ∈ q_tbl := q_of 1262 (by decide +kernel) (by decide +kernel)
theorem w_1259 : (Cond.methodLink "NumberHouse$Mill" (47 : Nat) ({ cls := "NumberHouse$Big", name := "product", desc := "(LNumberHouse$Big;LNumberHouse$Big;)V" } : MethodName)) ∈ q_tbl := q_of 1259 (by decide +kernel) (by decide +kernel)
theorem w_1260 : (Cond.instanceMethod ({ cls := "NumberHouse$Big", name := "product", desc := "(LNumberHouse$Big;LNumberHouse$Big;)V" } : MethodName)) ∈ q_tbl := q_of 1260 (by decide +kernel) (by decide +kernel)
theorem w_1261 : (Cond.selects "NumberHouse$Big" ({ cls := "NumberHouse$Big", name := "product", desc := "(LNumberHouse$Big;LNumberHouse$Big;)V" } : MethodName) ({ cls := "NumberHouse$Big", name := "product", desc := "(LNumberHouse$Big;LNumberHouse$Big;)V" } : MethodName)) ∈ q_tbl := q_of 1261 (by decide +kernel) (by decide +kernel)
theorem LV_Mil_47 : q_LV "NumberHouse$Mill" 47 y_Big_product prog_2_method_31_code 13 none 2 := ⟨w_1262, w_4, w_1259, w_1260, w_1261, ⟨by decide, by decide, by decide +kernel⟩⟩
theorem d_8_2_14 : decode prog_8_method_2_code 14 = .ok (.goto 29, 3) := by decide +kernel
def y_Mil_addOrMultiply : MethodName := ⟨"NumberHouse$Mill", "addOrMultiply", "(ILNumberHouse$Big;LNumberHouse$Big;)V"⟩
set_option maxRecDepth 100000 in
set_option maxHeartbeats 4000000 in
theorem c_Mil_addOrMultiply (l : Launch) (D : va_G) (g : Nat → ClassId) (ws : va_W) (kO0 kO1 kO2 kO3 kA13 kA15 qO0 qO1 qO2 qO3 qO4 qO5 qO6 qO7 qO8 qO9 qO10 qO11 qO12 qA13 qA14 qA15 : Nat) (x1 : Int32) (hO0 : ws[kO0]? = (some (qO0, .inr (4, [.ref qO3, .ref qO4, .ref qO5, .ref qO6, .ref qO7, .ref qO8, .ref qO9, .ref qO10, .ref qO11, .ref qO12])) : Option (Nat × va_E))) (hO1 : ws[kO1]? = (some (qO1, .inr (2, [.ref qA13, .int 0, .int 0])) : Option (Nat × va_E))) (hO2 : ws[kO2]? = (some (qO2, .inr (2, [.ref qA14, .int 0, .int 0])) : Option (Nat × va_E))) (hO3 : ws[kO3]? = (some (qO3, .inr (2, [.ref qA15, .int 0, .int 0])) : Option (Nat × va_E))) (hA13 : ws[kA13]? = (some (qA13, .inl (g 0, 68, .inl (fun _ => 0))) : Option (Nat × va_E))) (hA15 : ws[kA15]? = (some (qA15, .inl (g 0, 220, .inl (fun _ => 0))) : Option (Nat × va_E))) (n_A13_A15 : kA13 ≠ kA15) (n_O1_O3 : kO1 ≠ kO3) (n_O2_O3 : kO2 ≠ kO3) (x1lo : 0 ≤ x1) (x1hi : x1 ≤ 2) : q_mV l y_Mil_addOrMultiply prog_8_method_2_code 4 4 0 0 D g [.ref qO0, .int x1, .ref qO1, .ref qO2] ws (fun u => q_un ws u [kO3, kA15] ∧ u[kO3]? = (some (qO3, .inr (2, [.ref qA15, .int 0, .int 0])) : Option (Nat × va_E)) ∧ u[kA15]? = (some (qA15, .inl (g 0, 220, .inl (fun _ => 0))) : Option (Nat × va_E))) := by
  intro sz
  refine q_into (by decide) (Nat.le_of_ble_eq_true rfl) ?_
  intro p e s m below meth c ls hsz C0 V hl
  have hx := C0.1
  have hb := C0.2.1
  have hl : lv_has ls 4 [(0, .ref qO0), (1, .int x1), (2, .ref qO1), (3, .ref qO2)] := hl
  have n_A13_O3 := q_df hA13 hO3
  have n_A15_O3 := q_df hA15 hO3
  have n_O0_A15 := Ne.symm (q_df hA15 hO0)
  have n_O0_O3 := q_dc hO0 hO3 (q_pd 4 2 rfl)
  have n_O1_A15 := Ne.symm (q_df hA15 hO1)
  have n_O2_A15 := Ne.symm (q_df hA15 hO2)
  have hF : q_un ws ws [kO3, kA15] := q_u0
  refine lv_iload_n hx hb d_8_2_0 rfl (lv_at hl 1 rfl) ?_
  refine lv_iconst (v := 2) hx hb d_8_2_1 (by decide) ?_
  refine lv_icmp_ne (tgt := 17) hx hb d_8_2_2 (by decide) (fun c1 => ?_) (fun c1 => ?_)
  ·
    refine lv_aload_n hx hb d_8_2_17 rfl (lv_at hl 0 rfl) ?_
    refine q_get (ci := 4) (j := 0) (v := .ref qO3) C0 V i_Mil rfl rfl hO0 (by decide) w_108 rfl d_8_2_18 ?_
    refine lv_aload_n hx hb d_8_2_21 rfl (lv_at hl 2 rfl) ?_
    refine q_gov V (q_runV (As := [.ref qO1]) (rest := []) (d := 2) (mc := 0) (ms := 0) (ci := 2) C0 V rfl LV_Mil_51 (c_Big_copy_3 l D g ws kO3 kO1 kA15 kA13 qO3 qO1 qA15 qA13 hO3 hO1 hA15 hA13 n_A13_A15 n_O1_O3 _) rfl rfl hO3 rfl hl.1 rfl (Nat.le_of_ble_eq_true rfl) ⟨by decide, by decide⟩ ⟨Nat.le_of_ble_eq_true rfl, Nat.le_of_ble_eq_true rfl⟩ d_8_2_22) (fun u3 H locs hp2 V => ?_)
    obtain ⟨hg4, hO3, hA15⟩ := hp2
    replace hF := q_uc hF hg4 (q_sc (.head _) (q_sc (.tail _ (.head _)) (fun _ h => absurd h List.not_mem_nil)))
    refine lv_aload_n hx hb d_8_2_25 rfl (lv_at hl 0 rfl) ?_
    replace hO0 := (hg4 _ (q_nc n_O0_O3 (q_nc n_O0_A15 List.not_mem_nil))).trans (hO0)
    refine q_get (ci := 4) (j := 0) (v := .ref qO3) C0 V i_Mil rfl rfl hO0 (by decide) w_108 rfl d_8_2_26 ?_
    refine lv_aload_n hx hb d_8_2_29 rfl (lv_at hl 3 rfl) ?_
    refine lv_iload_n hx hb d_8_2_30 rfl (lv_at hl 1 rfl) ?_
    refine lv_iconst (v := 1) hx hb d_8_2_31 (by decide) ?_
    refine lv_icmp_ne (tgt := 39) hx hb d_8_2_32 (by decide) (fun c5 => ?_) (fun c5 => ?_)
    ·
      refine lv_iconst (v := 0) hx hb d_8_2_39 (by decide) ?_
      replace hO2 := (hg4 _ (q_nc n_O2_O3 (q_nc n_O2_A15 List.not_mem_nil))).trans (hO2)
      refine q_gov V (q_runV (As := [.ref qO2, .int 0]) (rest := []) (d := 1) (mc := 0) (ms := 0) (ci := 2) C0 V rfl LV_Mil_55 (c_Big_addSigned l D g u3 kO2 qO3 qO2 qA14 hO2 _) rfl rfl hO3 rfl hl.1 rfl (Nat.le_of_ble_eq_true rfl) ⟨by decide, by decide⟩ ⟨Nat.le_of_ble_eq_true rfl, Nat.le_of_ble_eq_true rfl⟩ d_8_2_40) (fun u7 H locs hp6 V => ?_)
      obtain rfl := hp6
      exact q_retv C0 V (⟨hF, hO3, hA15⟩) d_8_2_43
    ·
      refine lv_iconst (v := 1) hx hb d_8_2_35 (by decide) ?_
      refine lv_goto (tgt := 40) hx hb d_8_2_36 (by decide) ?_
      replace hO2 := (hg4 _ (q_nc n_O2_O3 (q_nc n_O2_A15 List.not_mem_nil))).trans (hO2)
      refine q_gov V (q_runV (As := [.ref qO2, .int 1]) (rest := []) (d := 1) (mc := 0) (ms := 0) (ci := 2) C0 V rfl LV_Mil_55 (c_Big_addSigned_2 l D g u3 kO2 qO3 qO2 qA14 hO2 _) rfl rfl hO3 rfl hl.1 rfl (Nat.le_of_ble_eq_true rfl) ⟨by decide, by decide⟩ ⟨Nat.le_of_ble_eq_true rfl, Nat.le_of_ble_eq_true rfl⟩ d_8_2_40) (fun u10 H locs hp9 V => ?_)
      obtain rfl := hp9
      exact q_retv C0 V (⟨hF, hO3, hA15⟩) d_8_2_43
  ·
    refine lv_aload_n hx hb d_8_2_5 rfl (lv_at hl 0 rfl) ?_
    refine q_get (ci := 4) (j := 0) (v := .ref qO3) C0 V i_Mil rfl rfl hO0 (by decide) w_108 rfl d_8_2_6 ?_
    refine lv_aload_n hx hb d_8_2_9 rfl (lv_at hl 2 rfl) ?_
    refine lv_aload_n hx hb d_8_2_10 rfl (lv_at hl 3 rfl) ?_
    refine q_gov V (q_runV (As := [.ref qO1, .ref qO2]) (rest := []) (d := 3) (mc := 0) (ms := 0) (ci := 2) C0 V rfl LV_Mil_47 (c_Big_product l D g ws kO3 kO1 kO2 kA15 qO3 qO1 qO2 qA15 qA13 qA14 hO3 hO1 hO2 hA15 n_O1_O3 n_O2_O3 _) rfl rfl hO3 rfl hl.1 rfl (Nat.le_of_ble_eq_true rfl) ⟨by decide, by decide⟩ ⟨Nat.le_of_ble_eq_true rfl, Nat.le_of_ble_eq_true rfl⟩ d_8_2_11) (fun u13 H locs hp12 V => ?_)
    obtain ⟨hg14, hO3⟩ := hp12
    replace hF := q_uc hF hg14 (q_sc (.head _) (fun _ h => absurd h List.not_mem_nil))
    refine lv_goto (tgt := 43) hx hb d_8_2_14 (by decide) ?_
    replace hA15 := (hg14 _ (q_nc n_A15_O3 List.not_mem_nil)).trans (hA15)
    exact q_retv C0 V (⟨hF, hO3, hA15⟩) d_8_2_43
theorem d_1_8_0 : decode prog_1_method_8_code 0 = .ok (.iload_n 1, 1) := by decide +kernel
theorem d_1_8_1 : decode prog_1_method_8_code 1 = .ok (.ifCond .lt 35, 3) := by decide +kernel
theorem d_1_8_36 : decode prog_1_method_8_code 36 = .ok (.iconst 0, 1) := by decide +kernel
theorem d_1_8_37 : decode prog_1_method_8_code 37 = .ok (.invokestatic 104, 3) := by decide +kernel
theorem d_1_8_4 : decode prog_1_method_8_code 4 = .ok (.iload_n 1, 1) := by decide +kernel
theorem d_1_8_5 : decode prog_1_method_8_code 5 = .ok (.bipush 11, 2) := by decide +kernel
theorem d_1_8_7 : decode prog_1_method_8_code 7 = .ok (.if_icmp .gt 29, 3) := by decide +kernel
theorem d_1_8_10 : decode prog_1_method_8_code 10 = .ok (.iload_n 2, 1) := by decide +kernel
theorem d_1_8_11 : decode prog_1_method_8_code 11 = .ok (.invokestatic 212, 3) := by decide +kernel
theorem d_1_8_14 : decode prog_1_method_8_code 14 = .ok (.ifCond .eq 22, 3) := by decide +kernel
theorem d_1_8_17 : decode prog_1_method_8_code 17 = .ok (.iload_n 3, 1) := by decide +kernel
theorem d_1_8_18 : decode prog_1_method_8_code 18 = .ok (.invokestatic 212, 3) := by decide +kernel
theorem d_1_8_21 : decode prog_1_method_8_code 21 = .ok (.ifCond .eq 15, 3) := by decide +kernel
theorem d_1_8_24 : decode prog_1_method_8_code 24 = .ok (.iload 4, 2) := by decide +kernel
theorem d_1_8_26 : decode prog_1_method_8_code 26 = .ok (.invokestatic 212, 3) := by decide +kernel
theorem d_1_8_29 : decode prog_1_method_8_code 29 = .ok (.ifCond .eq 7, 3) := by decide +kernel
theorem d_1_8_32 : decode prog_1_method_8_code 32 = .ok (.iconst 1, 1) := by decide +kernel
theorem d_1_8_33 : decode prog_1_method_8_code 33 = .ok (.goto 4, 3) := by decide +kernel
theorem d_1_8_40 : decode prog_1_method_8_code 40 = .ok (.aload_n 0, 1) := by decide +kernel
theorem d_1_8_41 : decode prog_1_method_8_code 41 = .ok (.getfield 23, 3) := by decide +kernel
theorem d_1_8_44 : decode prog_1_method_8_code 44 = .ok (.iload_n 2, 1) := by decide +kernel
theorem d_1_8_45 : decode prog_1_method_8_code 45 = .ok (.aaload, 1) := by decide +kernel
theorem d_1_8_46 : decode prog_1_method_8_code 46 = .ok (.astore 5, 2) := by decide +kernel
theorem d_1_8_48 : decode prog_1_method_8_code 48 = .ok (.aload_n 0, 1) := by decide +kernel
theorem d_1_8_49 : decode prog_1_method_8_code 49 = .ok (.getfield 23, 3) := by decide +kernel
theorem d_1_8_52 : decode prog_1_method_8_code 52 = .ok (.iload_n 3, 1) := by decide +kernel
theorem d_1_8_53 : decode prog_1_method_8_code 53 = .ok (.aaload, 1) := by decide +kernel
theorem d_1_8_54 : decode prog_1_method_8_code 54 = .ok (.astore 6, 2) := by decide +kernel
theorem d_1_8_56 : decode prog_1_method_8_code 56 = .ok (.iload_n 1, 1) := by decide +kernel
theorem d_1_8_57 : decode prog_1_method_8_code 57 = .ok (.iconst 2, 1) := by decide +kernel
theorem d_1_8_58 : decode prog_1_method_8_code 58 = .ok (.if_icmp .gt 18, 3) := by decide +kernel
theorem d_1_8_76 : decode prog_1_method_8_code 76 = .ok (.iload_n 1, 1) := by decide +kernel
theorem d_1_8_77 : decode prog_1_method_8_code 77 = .ok (.iconst 4, 1) := by decide +kernel
theorem d_1_8_78 : decode prog_1_method_8_code 78 = .ok (.if_icmp .gt 43, 3) := by decide +kernel
theorem d_1_8_121 : decode prog_1_method_8_code 121 = .ok (.iload_n 1, 1) := by decide +kernel
theorem d_1_8_122 : decode prog_1_method_8_code 122 = .ok (.iconst 5, 1) := by decide +kernel
theorem d_1_8_123 : decode prog_1_method_8_code 123 = .ok (.if_icmp .ne 40, 3) := by decide +kernel
theorem d_1_8_163 : decode prog_1_method_8_code 163 = .ok (.iload_n 1, 1) := by decide +kernel
theorem d_1_8_164 : decode prog_1_method_8_code 164 = .ok (.bipush 6, 2) := by decide +kernel
theorem d_1_8_166 : decode prog_1_method_8_code 166 = .ok (.if_icmp .ne 17, 3) := by decide +kernel
theorem d_1_8_183 : decode prog_1_method_8_code 183 = .ok (.iload_n 1, 1) := by decide +kernel
theorem d_1_8_184 : decode prog_1_method_8_code 184 = .ok (.bipush 7, 2) := by decide +kernel
theorem d_1_8_186 : decode prog_1_method_8_code 186 = .ok (.if_icmp .ne 36, 3) := by decide +kernel
theorem d_1_8_222 : decode prog_1_method_8_code 222 = .ok (.aload_n 0, 1) := by decide +kernel
theorem d_1_8_223 : decode prog_1_method_8_code 223 = .ok (.getfield 43, 3) := by decide +kernel
theorem d_1_8_226 : decode prog_1_method_8_code 226 = .ok (.iload_n 1, 1) := by decide +kernel
theorem d_1_8_227 : decode prog_1_method_8_code 227 = .ok (.aload 5, 2) := by decide +kernel
theorem d_1_8_229 : decode prog_1_method_8_code 229 = .ok (.aload 6, 2) := by decide +kernel
theorem d_1_8_231 : decode prog_1_method_8_code 231 = .ok (.invokevirtual 240, 3) := by decide +kernel
theorem w_1300 : (Cond.code ({ cls := "NumberHouse$Mill", name := "mixBits", desc := "(ILNumberHouse$Big;LNumberHouse$Big;)V" } : MethodName) prog_8_method_11_code (12 : Nat) (none : Option ClassFile.FieldType)) ∈ q_tbl := q_of 1300 (by decide +kernel) (by decide +kernel)
theorem w_1297 : (Cond.methodLink "NumberHouse" (240 : Nat) ({ cls := "NumberHouse$Mill", name := "mixBits", desc := "(ILNumberHouse$Big;LNumberHouse$Big;)V" } : MethodName)) ∈ q_tbl := q_of 1297 (by decide +kernel) (by decide +kernel)
theorem w_1298 : (Cond.instanceMethod ({ cls := "NumberHouse$Mill", name := "mixBits", desc := "(ILNumberHouse$Big;LNumberHouse$Big;)V" } : MethodName)) ∈ q_tbl := q_of 1298 (by decide +kernel) (by decide +kernel)
theorem w_1299 : (Cond.selects "NumberHouse$Mill" ({ cls := "NumberHouse$Mill", name := "mixBits", desc := "(ILNumberHouse$Big;LNumberHouse$Big;)V" } : MethodName) ({ cls := "NumberHouse$Mill", name := "mixBits", desc := "(ILNumberHouse$Big;LNumberHouse$Big;)V" } : MethodName)) ∈ q_tbl := q_of 1299 (by decide +kernel) (by decide +kernel)
theorem LV_NH_240 : q_LV "NumberHouse" 240 y_Mil_mixBits prog_8_method_11_code 12 none 3 := ⟨w_1300, w_3, w_1297, w_1298, w_1299, ⟨by decide, by decide, by decide +kernel⟩⟩
theorem d_1_8_234 : decode prog_1_method_8_code 234 = .ok (.aload_n 0, 1) := by decide +kernel
theorem d_1_8_235 : decode prog_1_method_8_code 235 = .ok (.iload 4, 2) := by decide +kernel
theorem d_1_8_237 : decode prog_1_method_8_code 237 = .ok (.invokevirtual 243, 3) := by decide +kernel
theorem w_1319 : (Cond.code ({ cls := "NumberHouse", name := "keepWhole", desc := "(I)V" } : MethodName) prog_1_method_28_code (2 : Nat) (none : Option ClassFile.FieldType)) ∈ q_tbl := q_of 1319 (by decide +kernel) (by decide +kernel)
theorem w_1316 : (Cond.methodLink "NumberHouse" (243 : Nat) ({ cls := "NumberHouse", name := "keepWhole", desc := "(I)V" } : MethodName)) ∈ q_tbl := q_of 1316 (by decide +kernel) (by decide +kernel)
theorem w_1318 : (Cond.instanceMethod ({ cls := "NumberHouse", name := "keepWhole", desc := "(I)V" } : MethodName)) ∈ q_tbl := q_of 1318 (by decide +kernel) (by decide +kernel)
theorem ws_26 : Cond.selects "NumberHouse" (⟨"NumberHouse", "keepWhole", "(I)V"⟩ : MethodName) (⟨"NumberHouse", "keepWhole", "(I)V"⟩ : MethodName) ∈ q_tbl := q_ofs 26 (by decide +kernel) (by decide +kernel)
theorem LV_NH_243 : q_LV "NumberHouse" 243 y_NH_keepWhole prog_1_method_28_code 2 none 1 := ⟨w_1319, w_1, w_1316, w_1318, ws_26, ⟨by decide, by decide, by decide +kernel⟩⟩
theorem d_1_8_240 : decode prog_1_method_8_code 240 = .ok (.return_, 1) := by decide +kernel
theorem d_1_8_189 : decode prog_1_method_8_code 189 = .ok (.aload 6, 2) := by decide +kernel
theorem d_1_8_191 : decode prog_1_method_8_code 191 = .ok (.invokevirtual 225, 3) := by decide +kernel
theorem d_1_8_194 : decode prog_1_method_8_code 194 = .ok (.ifCond .le 7, 3) := by decide +kernel
theorem d_1_8_201 : decode prog_1_method_8_code 201 = .ok (.iconst 0, 1) := by decide +kernel
theorem d_1_8_202 : decode prog_1_method_8_code 202 = .ok (.invokestatic 138, 3) := by decide +kernel
theorem d_1_8_169 : decode prog_1_method_8_code 169 = .ok (.aload_n 0, 1) := by decide +kernel
theorem d_1_8_170 : decode prog_1_method_8_code 170 = .ok (.getfield 43, 3) := by decide +kernel
theorem d_1_8_173 : decode prog_1_method_8_code 173 = .ok (.aload 5, 2) := by decide +kernel
theorem d_1_8_175 : decode prog_1_method_8_code 175 = .ok (.aload 6, 2) := by decide +kernel
theorem d_1_8_177 : decode prog_1_method_8_code 177 = .ok (.invokevirtual 232, 3) := by decide +kernel
theorem w_1286 : (Cond.code ({ cls := "NumberHouse$Mill", name := "commonDivisor", desc := "(LNumberHouse$Big;LNumberHouse$Big;)V" } : MethodName) prog_8_method_5_code (7 : Nat) (none : Option ClassFile.FieldType)) ∈ q_tbl := q_of 1286 (by decide +kernel) (by decide +kernel)
theorem w_1283 : (Cond.methodLink "NumberHouse" (232 : Nat) ({ cls := "NumberHouse$Mill", name := "commonDivisor", desc := "(LNumberHouse$Big;LNumberHouse$Big;)V" } : MethodName)) ∈ q_tbl := q_of 1283 (by decide +kernel) (by decide +kernel)
theorem w_1284 : (Cond.instanceMethod ({ cls := "NumberHouse$Mill", name := "commonDivisor", desc := "(LNumberHouse$Big;LNumberHouse$Big;)V" } : MethodName)) ∈ q_tbl := q_of 1284 (by decide +kernel) (by decide +kernel)
theorem w_1285 : (Cond.selects "NumberHouse$Mill" ({ cls := "NumberHouse$Mill", name := "commonDivisor", desc := "(LNumberHouse$Big;LNumberHouse$Big;)V" } : MethodName) ({ cls := "NumberHouse$Mill", name := "commonDivisor", desc := "(LNumberHouse$Big;LNumberHouse$Big;)V" } : MethodName)) ∈ q_tbl := q_of 1285 (by decide +kernel) (by decide +kernel)
theorem LV_NH_232 : q_LV "NumberHouse" 232 y_Mil_commonDivisor prog_8_method_5_code 7 none 2 := ⟨w_1286, w_3, w_1283, w_1284, w_1285, ⟨by decide, by decide, by decide +kernel⟩⟩
theorem d_1_8_180 : decode prog_1_method_8_code 180 = .ok (.goto 54, 3) := by decide +kernel
theorem d_1_8_126 : decode prog_1_method_8_code 126 = .ok (.aload 6, 2) := by decide +kernel
theorem d_1_8_128 : decode prog_1_method_8_code 128 = .ok (.invokevirtual 225, 3) := by decide +kernel
theorem d_1_8_131 : decode prog_1_method_8_code 131 = .ok (.ifCond .le 7, 3) := by decide +kernel
theorem d_1_8_138 : decode prog_1_method_8_code 138 = .ok (.iconst 0, 1) := by decide +kernel
theorem d_1_8_139 : decode prog_1_method_8_code 139 = .ok (.invokestatic 138, 3) := by decide +kernel
theorem d_1_8_81 : decode prog_1_method_8_code 81 = .ok (.aload 6, 2) := by decide +kernel
theorem d_1_8_83 : decode prog_1_method_8_code 83 = .ok (.getfield 220, 3) := by decide +kernel
theorem d_1_8_86 : decode prog_1_method_8_code 86 = .ok (.ifCond .le 7, 3) := by decide +kernel
theorem d_1_8_93 : decode prog_1_method_8_code 93 = .ok (.iconst 0, 1) := by decide +kernel
theorem d_1_8_94 : decode prog_1_method_8_code 94 = .ok (.invokestatic 138, 3) := by decide +kernel
theorem d_1_8_61 : decode prog_1_method_8_code 61 = .ok (.aload_n 0, 1) := by decide +kernel
theorem d_1_8_62 : decode prog_1_method_8_code 62 = .ok (.getfield 43, 3) := by decide +kernel
theorem d_1_8_65 : decode prog_1_method_8_code 65 = .ok (.iload_n 1, 1) := by decide +kernel
theorem d_1_8_66 : decode prog_1_method_8_code 66 = .ok (.aload 5, 2) := by decide +kernel
theorem d_1_8_68 : decode prog_1_method_8_code 68 = .ok (.aload 6, 2) := by decide +kernel
theorem d_1_8_70 : decode prog_1_method_8_code 70 = .ok (.invokevirtual 216, 3) := by decide +kernel
theorem w_1258 : (Cond.code ({ cls := "NumberHouse$Mill", name := "addOrMultiply", desc := "(ILNumberHouse$Big;LNumberHouse$Big;)V" } : MethodName) prog_8_method_2_code (4 : Nat) (none : Option ClassFile.FieldType)) ∈ q_tbl := q_of 1258 (by decide +kernel) (by decide +kernel)
theorem w_1255 : (Cond.methodLink "NumberHouse" (216 : Nat) ({ cls := "NumberHouse$Mill", name := "addOrMultiply", desc := "(ILNumberHouse$Big;LNumberHouse$Big;)V" } : MethodName)) ∈ q_tbl := q_of 1255 (by decide +kernel) (by decide +kernel)
theorem w_1256 : (Cond.instanceMethod ({ cls := "NumberHouse$Mill", name := "addOrMultiply", desc := "(ILNumberHouse$Big;LNumberHouse$Big;)V" } : MethodName)) ∈ q_tbl := q_of 1256 (by decide +kernel) (by decide +kernel)
theorem w_1257 : (Cond.selects "NumberHouse$Mill" ({ cls := "NumberHouse$Mill", name := "addOrMultiply", desc := "(ILNumberHouse$Big;LNumberHouse$Big;)V" } : MethodName) ({ cls := "NumberHouse$Mill", name := "addOrMultiply", desc := "(ILNumberHouse$Big;LNumberHouse$Big;)V" } : MethodName)) ∈ q_tbl := q_of 1257 (by decide +kernel) (by decide +kernel)
theorem LV_NH_216 : q_LV "NumberHouse" 216 y_Mil_addOrMultiply prog_8_method_2_code 4 none 3 := ⟨w_1258, w_3, w_1255, w_1256, w_1257, ⟨by decide, by decide, by decide +kernel⟩⟩
theorem d_1_8_73 : decode prog_1_method_8_code 73 = .ok (.goto 161, 3) := by decide +kernel
def y_NH_whole : MethodName := ⟨"NumberHouse", "whole", "(IIII)V"⟩
set_option maxRecDepth 100000 in
set_option maxHeartbeats 4000000 in
/-- whole on a fresh object -/
theorem c_NH_whole (l : Launch) (D : va_G) (g : Nat → ClassId) (ws : va_W) (hlt : l.stackTraces = false) ( qO0 qO1 qO2 qA3 qA4 qA5 qA6 qO7 qO8 qO9 qO10 qO11 qO12 qO13 qO14 qO17 qO18 qO19 qO20 qO21 qO22 qO23 qO24 qO25 qO26 qA35 qA41 qA42 : Nat) (x1 : Int32) (x2 : Int32) (x3 : Int32) (x4 : Int32) (f5 : Nat → Option Nat) (hO0 : ws[0]? = (some (qO0, .inr (0, [.ref qO1, .ref qO2, .ref qA3, .ref qA4, .ref qA5, .ref qA6, .ref qO7, .ref qO8, .ref qO9, .ref qO10, .ref qO11, .ref qO12, .ref qO13, .ref qO14])) : Option (Nat × va_E))) (hA3 : ws[5]? = (some (qA3, .inl (g 4, 10, .inr (.inr (.inr (.inr f5))))) : Option (Nat × va_E))) (hO7 : ws[9]? = (some (qO7, .inr (4, [.ref qO17, .ref qO18, .ref qO19, .ref qO20, .ref qO21, .ref qO22, .ref qO23, .ref qO24, .ref qO25, .ref qO26])) : Option (Nat × va_E))) (hO17 : ws[10]? = (some (qO17, .inr (2, [.ref qA35, .int 0, .int 0])) : Option (Nat × va_E))) (hO23 : ws[22]? = (some (qO23, .inr (2, [.ref qA41, .int 0, .int 0])) : Option (Nat × va_E))) (hO24 : ws[24]? = (some (qO24, .inr (2, [.ref qA42, .int 0, .int 0])) : Option (Nat × va_E))) (hA35 : ws[11]? = (some (qA35, .inl (g 0, 220, .inl (fun _ => 0))) : Option (Nat × va_E))) (hA41 : ws[23]? = (some (qA41, .inl (g 0, 220, .inl (fun _ => 0))) : Option (Nat × va_E))) (hA42 : ws[25]? = (some (qA42, .inl (g 0, 220, .inl (fun _ => 0))) : Option (Nat × va_E))) (qW qWL qD qDN qDL : Nat → Nat) (hfW : ∀ i, i < 10 → f5 i = some (qW i)) (FW : ∀ i, i < 10 → ws[66 + 5 * i]? = (some (qW i, .inr (2, [.ref (qWL i), .int 0, .int 0])) : Option (Nat × va_E))) (FWL : ∀ i, i < 10 → ws[67 + 5 * i]? = (some (qWL i, .inl (g 0, 68, .inl (fun _ => 0))) : Option (Nat × va_E))) : q_xV l y_NH_whole prog_1_method_8_code 7 9 2 12 D g [.ref qO0, .int x1, .int x2, .int x3, .int x4] ws (fun u => (((0 ≤ x1.toInt ∧ x1.toInt ≤ 11) ∧ (0 ≤ x2.toInt ∧ x2.toInt ≤ 9) ∧ (0 ≤ x3.toInt ∧ x3.toInt ≤ 9) ∧ (0 ≤ x4.toInt ∧ x4.toInt ≤ 9)) ∧ ¬ ((x1.toInt = 3 ∨ x1.toInt = 4 ∨ x1.toInt = 5 ∨ x1.toInt = 7))) ∧ q_ge 116 ws u) (fun E u => (("java/lang/IllegalArgumentException" = E ∧ (¬ ((0 ≤ x1.toInt ∧ x1.toInt ≤ 11) ∧ (0 ≤ x2.toInt ∧ x2.toInt ≤ 9) ∧ (0 ≤ x3.toInt ∧ x3.toInt ≤ 9) ∧ (0 ≤ x4.toInt ∧ x4.toInt ≤ 9)))) ∨ ("java/lang/ArithmeticException" = E ∧ (((0 ≤ x1.toInt ∧ x1.toInt ≤ 11) ∧ (0 ≤ x2.toInt ∧ x2.toInt ≤ 9) ∧ (0 ≤ x3.toInt ∧ x3.toInt ≤ 9) ∧ (0 ≤ x4.toInt ∧ x4.toInt ≤ 9)) ∧ (x1.toInt = 3 ∨ x1.toInt = 4 ∨ x1.toInt = 5 ∨ x1.toInt = 7)))) ∧ q_ge 116 ws u) := by
  intro sz
  refine q_intoX (by decide) (Nat.le_of_ble_eq_true rfl) ?_
  intro p e s m below meth c ls hsz C0 V hno hl
  have hx := C0.1
  have hb := C0.2.1
  have hl : lv_has ls 7 [(0, .ref qO0), (1, .int x1), (2, .int x2), (3, .int x3), (4, .int x4)] := hl
  have hF : q_ge 116 ws ws := q_g0
  refine lv_iload_n hx hb d_1_8_0 rfl (lv_at hl 1 rfl) ?_
  refine lv_if_lt (tgt := 36) hx hb d_1_8_1 (by decide) (fun c1 => ?_) (fun c1 => ?_)
  ·
    refine lv_iconst (v := 0) hx hb d_1_8_36 (by decide) ?_
    refine q_goxv V (q_runSX (As := [.int 0]) (rest := []) (d := 7) (mc := 1) (ms := 6) C0 V rfl LS_NH_104 (c_NH_need l D g ws hlt 0 _) rfl hl.1 rfl (Nat.le_of_ble_eq_true rfl) ⟨by decide, by decide⟩ ⟨Nat.le_of_ble_eq_true rfl, Nat.le_of_ble_eq_true rfl⟩ d_1_8_37) (fun qx Ex ce u3 H locs hp2 V hce hcv hcl => ?_) (fun u3 H locs hp2 V => ?_)
    ·
      obtain ⟨c4, rfl, rfl⟩ := hp2
      exact q_outT hno C0 V (⟨Or.inl ⟨rfl, (show ¬ ((0 ≤ x1.toInt ∧ x1.toInt ≤ 11) ∧ (0 ≤ x2.toInt ∧ x2.toInt ≤ 9) ∧ (0 ≤ x3.toInt ∧ x3.toInt ≤ 9) ∧ (0 ≤ x4.toInt ∧ x4.toInt ≤ 9)) from by have t1 : x1.toInt < 0 := q_ltI c1; omega)⟩, hF⟩) hce hcv hcl (Nat.le_of_ble_eq_true rfl) (Nat.le_of_ble_eq_true rfl)
    ·
      obtain ⟨c6, rfl⟩ := hp2
      exact absurd c6 (by decide)
  ·
    refine lv_iload_n hx hb d_1_8_4 rfl (lv_at hl 1 rfl) ?_
    refine lv_bipush (v := 11) hx hb d_1_8_5 (by decide) ?_
    refine lv_icmp_gt (tgt := 36) hx hb d_1_8_7 (by decide) (fun c8 => ?_) (fun c8 => ?_)
    ·
      refine lv_iconst (v := 0) hx hb d_1_8_36 (by decide) ?_
      refine q_goxv V (q_runSX (As := [.int 0]) (rest := []) (d := 7) (mc := 1) (ms := 6) C0 V rfl LS_NH_104 (c_NH_need l D g ws hlt 0 _) rfl hl.1 rfl (Nat.le_of_ble_eq_true rfl) ⟨by decide, by decide⟩ ⟨Nat.le_of_ble_eq_true rfl, Nat.le_of_ble_eq_true rfl⟩ d_1_8_37) (fun qx Ex ce u10 H locs hp9 V hce hcv hcl => ?_) (fun u10 H locs hp9 V => ?_)
      ·
        obtain ⟨c11, rfl, rfl⟩ := hp9
        exact q_outT hno C0 V (⟨Or.inl ⟨rfl, (show ¬ ((0 ≤ x1.toInt ∧ x1.toInt ≤ 11) ∧ (0 ≤ x2.toInt ∧ x2.toInt ≤ 9) ∧ (0 ≤ x3.toInt ∧ x3.toInt ≤ 9) ∧ (0 ≤ x4.toInt ∧ x4.toInt ≤ 9)) from by have t1 : 0 ≤ x1.toInt := q_nltI c1; have t2 : 11 < x1.toInt := q_ltI c8; omega)⟩, hF⟩) hce hcv hcl (Nat.le_of_ble_eq_true rfl) (Nat.le_of_ble_eq_true rfl)
      ·
        obtain ⟨c13, rfl⟩ := hp9
        exact absurd c13 (by decide)
    ·
      refine lv_iload_n hx hb d_1_8_10 rfl (lv_at hl 2 rfl) ?_
      refine q_goi V (q_runS (As := [.int x2]) (rest := []) (d := 1) (mc := 0) (ms := 0) C0 V rfl LS_NH_212 (c_NH_isRegister l D g ws x2 _) rfl hl.1 rfl (Nat.le_of_ble_eq_true rfl) ⟨by decide, by decide⟩ ⟨Nat.le_of_ble_eq_true rfl, Nat.le_of_ble_eq_true rfl⟩ d_1_8_11) (fun v17 u16 H locs hp15 V => ?_)
      rcases hp15 with ⟨c18, rfl, rfl⟩ | ⟨c20, c21, rfl, rfl⟩ | ⟨c23, c24, rfl, rfl⟩
      ·
        refine lv_if_eq (tgt := 36) hx hb d_1_8_14 (by decide) (fun c26 => ?_) (fun c26 => absurd (by decide) c26)
        refine lv_iconst (v := 0) hx hb d_1_8_36 (by decide) ?_
        refine q_goxv V (q_runSX (As := [.int 0]) (rest := []) (d := 7) (mc := 1) (ms := 6) C0 V rfl LS_NH_104 (c_NH_need l D g ws hlt 0 _) rfl hl.1 rfl (Nat.le_of_ble_eq_true rfl) ⟨by decide, by decide⟩ ⟨Nat.le_of_ble_eq_true rfl, Nat.le_of_ble_eq_true rfl⟩ d_1_8_37) (fun qx Ex ce u28 H locs hp27 V hce hcv hcl => ?_) (fun u28 H locs hp27 V => ?_)
        ·
          obtain ⟨c29, rfl, rfl⟩ := hp27
          exact q_outT hno C0 V (⟨Or.inl ⟨rfl, (show ¬ ((0 ≤ x1.toInt ∧ x1.toInt ≤ 11) ∧ (0 ≤ x2.toInt ∧ x2.toInt ≤ 9) ∧ (0 ≤ x3.toInt ∧ x3.toInt ≤ 9) ∧ (0 ≤ x4.toInt ∧ x4.toInt ≤ 9)) from by have t1 : 0 ≤ x1.toInt := q_nltI c1; have t2 : x1.toInt ≤ 11 := q_nltI c8; have t3 : x2.toInt < 0 := q_ltI c18; omega)⟩, hF⟩) hce hcv hcl (Nat.le_of_ble_eq_true rfl) (Nat.le_of_ble_eq_true rfl)
        ·
          obtain ⟨c31, rfl⟩ := hp27
          exact absurd c31 (by decide)
      ·
        refine lv_if_eq (tgt := 36) hx hb d_1_8_14 (by decide) (fun c33 => ?_) (fun c33 => absurd (by decide) c33)
        refine lv_iconst (v := 0) hx hb d_1_8_36 (by decide) ?_
        refine q_goxv V (q_runSX (As := [.int 0]) (rest := []) (d := 7) (mc := 1) (ms := 6) C0 V rfl LS_NH_104 (c_NH_need l D g ws hlt 0 _) rfl hl.1 rfl (Nat.le_of_ble_eq_true rfl) ⟨by decide, by decide⟩ ⟨Nat.le_of_ble_eq_true rfl, Nat.le_of_ble_eq_true rfl⟩ d_1_8_37) (fun qx Ex ce u35 H locs hp34 V hce hcv hcl => ?_) (fun u35 H locs hp34 V => ?_)
        ·
          obtain ⟨c36, rfl, rfl⟩ := hp34
          exact q_outT hno C0 V (⟨Or.inl ⟨rfl, (show ¬ ((0 ≤ x1.toInt ∧ x1.toInt ≤ 11) ∧ (0 ≤ x2.toInt ∧ x2.toInt ≤ 9) ∧ (0 ≤ x3.toInt ∧ x3.toInt ≤ 9) ∧ (0 ≤ x4.toInt ∧ x4.toInt ≤ 9)) from by have t1 : 0 ≤ x1.toInt := q_nltI c1; have t2 : x1.toInt ≤ 11 := q_nltI c8; have t3 : 0 ≤ x2.toInt := q_nltI c20; have t4 : 10 ≤ x2.toInt := q_leI c21; omega)⟩, hF⟩) hce hcv hcl (Nat.le_of_ble_eq_true rfl) (Nat.le_of_ble_eq_true rfl)
        ·
          obtain ⟨c38, rfl⟩ := hp34
          exact absurd c38 (by decide)
      ·
        refine lv_if_eq (tgt := 36) hx hb d_1_8_14 (by decide) (fun c40 => absurd c40 (by decide)) (fun c40 => ?_)
        refine lv_iload_n hx hb d_1_8_17 rfl (lv_at hl 3 rfl) ?_
        refine q_goi V (q_runS (As := [.int x3]) (rest := []) (d := 1) (mc := 0) (ms := 0) C0 V rfl LS_NH_212 (c_NH_isRegister l D g ws x3 _) rfl hl.1 rfl (Nat.le_of_ble_eq_true rfl) ⟨by decide, by decide⟩ ⟨Nat.le_of_ble_eq_true rfl, Nat.le_of_ble_eq_true rfl⟩ d_1_8_18) (fun v43 u42 H locs hp41 V => ?_)
        rcases hp41 with ⟨c44, rfl, rfl⟩ | ⟨c46, c47, rfl, rfl⟩ | ⟨c49, c50, rfl, rfl⟩
        ·
          refine lv_if_eq (tgt := 36) hx hb d_1_8_21 (by decide) (fun c52 => ?_) (fun c52 => absurd (by decide) c52)
          refine lv_iconst (v := 0) hx hb d_1_8_36 (by decide) ?_
          refine q_goxv V (q_runSX (As := [.int 0]) (rest := []) (d := 7) (mc := 1) (ms := 6) C0 V rfl LS_NH_104 (c_NH_need l D g ws hlt 0 _) rfl hl.1 rfl (Nat.le_of_ble_eq_true rfl) ⟨by decide, by decide⟩ ⟨Nat.le_of_ble_eq_true rfl, Nat.le_of_ble_eq_true rfl⟩ d_1_8_37) (fun qx Ex ce u54 H locs hp53 V hce hcv hcl => ?_) (fun u54 H locs hp53 V => ?_)
          ·
            obtain ⟨c55, rfl, rfl⟩ := hp53
            exact q_outT hno C0 V (⟨Or.inl ⟨rfl, (show ¬ ((0 ≤ x1.toInt ∧ x1.toInt ≤ 11) ∧ (0 ≤ x2.toInt ∧ x2.toInt ≤ 9) ∧ (0 ≤ x3.toInt ∧ x3.toInt ≤ 9) ∧ (0 ≤ x4.toInt ∧ x4.toInt ≤ 9)) from by have t1 : 0 ≤ x1.toInt := q_nltI c1; have t2 : x1.toInt ≤ 11 := q_nltI c8; have t3 : 0 ≤ x2.toInt := q_nltI c23; have t4 : x2.toInt < 10 := q_nleI c24; have t5 : x3.toInt < 0 := q_ltI c44; omega)⟩, hF⟩) hce hcv hcl (Nat.le_of_ble_eq_true rfl) (Nat.le_of_ble_eq_true rfl)
          ·
            obtain ⟨c57, rfl⟩ := hp53
            exact absurd c57 (by decide)
        ·
          refine lv_if_eq (tgt := 36) hx hb d_1_8_21 (by decide) (fun c59 => ?_) (fun c59 => absurd (by decide) c59)
          refine lv_iconst (v := 0) hx hb d_1_8_36 (by decide) ?_
          refine q_goxv V (q_runSX (As := [.int 0]) (rest := []) (d := 7) (mc := 1) (ms := 6) C0 V rfl LS_NH_104 (c_NH_need l D g ws hlt 0 _) rfl hl.1 rfl (Nat.le_of_ble_eq_true rfl) ⟨by decide, by decide⟩ ⟨Nat.le_of_ble_eq_true rfl, Nat.le_of_ble_eq_true rfl⟩ d_1_8_37) (fun qx Ex ce u61 H locs hp60 V hce hcv hcl => ?_) (fun u61 H locs hp60 V => ?_)
          ·
            obtain ⟨c62, rfl, rfl⟩ := hp60
            exact q_outT hno C0 V (⟨Or.inl ⟨rfl, (show ¬ ((0 ≤ x1.toInt ∧ x1.toInt ≤ 11) ∧ (0 ≤ x2.toInt ∧ x2.toInt ≤ 9) ∧ (0 ≤ x3.toInt ∧ x3.toInt ≤ 9) ∧ (0 ≤ x4.toInt ∧ x4.toInt ≤ 9)) from by have t1 : 0 ≤ x1.toInt := q_nltI c1; have t2 : x1.toInt ≤ 11 := q_nltI c8; have t3 : 0 ≤ x2.toInt := q_nltI c23; have t4 : x2.toInt < 10 := q_nleI c24; have t5 : 0 ≤ x3.toInt := q_nltI c46; have t6 : 10 ≤ x3.toInt := q_leI c47; omega)⟩, hF⟩) hce hcv hcl (Nat.le_of_ble_eq_true rfl) (Nat.le_of_ble_eq_true rfl)
          ·
            obtain ⟨c64, rfl⟩ := hp60
            exact absurd c64 (by decide)
        ·
          refine lv_if_eq (tgt := 36) hx hb d_1_8_21 (by decide) (fun c66 => absurd c66 (by decide)) (fun c66 => ?_)
          refine lv_iload hx hb d_1_8_24 (lv_at hl 4 rfl) ?_
          refine q_goi V (q_runS (As := [.int x4]) (rest := []) (d := 1) (mc := 0) (ms := 0) C0 V rfl LS_NH_212 (c_NH_isRegister l D g ws x4 _) rfl hl.1 rfl (Nat.le_of_ble_eq_true rfl) ⟨by decide, by decide⟩ ⟨Nat.le_of_ble_eq_true rfl, Nat.le_of_ble_eq_true rfl⟩ d_1_8_26) (fun v69 u68 H locs hp67 V => ?_)
          rcases hp67 with ⟨c70, rfl, rfl⟩ | ⟨c72, c73, rfl, rfl⟩ | ⟨c75, c76, rfl, rfl⟩
          ·
            refine lv_if_eq (tgt := 36) hx hb d_1_8_29 (by decide) (fun c78 => ?_) (fun c78 => absurd (by decide) c78)
            refine lv_iconst (v := 0) hx hb d_1_8_36 (by decide) ?_
            refine q_goxv V (q_runSX (As := [.int 0]) (rest := []) (d := 7) (mc := 1) (ms := 6) C0 V rfl LS_NH_104 (c_NH_need l D g ws hlt 0 _) rfl hl.1 rfl (Nat.le_of_ble_eq_true rfl) ⟨by decide, by decide⟩ ⟨Nat.le_of_ble_eq_true rfl, Nat.le_of_ble_eq_true rfl⟩ d_1_8_37) (fun qx Ex ce u80 H locs hp79 V hce hcv hcl => ?_) (fun u80 H locs hp79 V => ?_)
            ·
              obtain ⟨c81, rfl, rfl⟩ := hp79
              exact q_outT hno C0 V (⟨Or.inl ⟨rfl, (show ¬ ((0 ≤ x1.toInt ∧ x1.toInt ≤ 11) ∧ (0 ≤ x2.toInt ∧ x2.toInt ≤ 9) ∧ (0 ≤ x3.toInt ∧ x3.toInt ≤ 9) ∧ (0 ≤ x4.toInt ∧ x4.toInt ≤ 9)) from by have t1 : 0 ≤ x1.toInt := q_nltI c1; have t2 : x1.toInt ≤ 11 := q_nltI c8; have t3 : 0 ≤ x2.toInt := q_nltI c23; have t4 : x2.toInt < 10 := q_nleI c24; have t5 : 0 ≤ x3.toInt := q_nltI c49; have t6 : x3.toInt < 10 := q_nleI c50; have t7 : x4.toInt < 0 := q_ltI c70; omega)⟩, hF⟩) hce hcv hcl (Nat.le_of_ble_eq_true rfl) (Nat.le_of_ble_eq_true rfl)
            ·
              obtain ⟨c83, rfl⟩ := hp79
              exact absurd c83 (by decide)
          ·
            refine lv_if_eq (tgt := 36) hx hb d_1_8_29 (by decide) (fun c85 => ?_) (fun c85 => absurd (by decide) c85)
            refine lv_iconst (v := 0) hx hb d_1_8_36 (by decide) ?_
            refine q_goxv V (q_runSX (As := [.int 0]) (rest := []) (d := 7) (mc := 1) (ms := 6) C0 V rfl LS_NH_104 (c_NH_need l D g ws hlt 0 _) rfl hl.1 rfl (Nat.le_of_ble_eq_true rfl) ⟨by decide, by decide⟩ ⟨Nat.le_of_ble_eq_true rfl, Nat.le_of_ble_eq_true rfl⟩ d_1_8_37) (fun qx Ex ce u87 H locs hp86 V hce hcv hcl => ?_) (fun u87 H locs hp86 V => ?_)
            ·
              obtain ⟨c88, rfl, rfl⟩ := hp86
              exact q_outT hno C0 V (⟨Or.inl ⟨rfl, (show ¬ ((0 ≤ x1.toInt ∧ x1.toInt ≤ 11) ∧ (0 ≤ x2.toInt ∧ x2.toInt ≤ 9) ∧ (0 ≤ x3.toInt ∧ x3.toInt ≤ 9) ∧ (0 ≤ x4.toInt ∧ x4.toInt ≤ 9)) from by have t1 : 0 ≤ x1.toInt := q_nltI c1; have t2 : x1.toInt ≤ 11 := q_nltI c8; have t3 : 0 ≤ x2.toInt := q_nltI c23; have t4 : x2.toInt < 10 := q_nleI c24; have t5 : 0 ≤ x3.toInt := q_nltI c49; have t6 : x3.toInt < 10 := q_nleI c50; have t7 : 0 ≤ x4.toInt := q_nltI c72; have t8 : 10 ≤ x4.toInt := q_leI c73; omega)⟩, hF⟩) hce hcv hcl (Nat.le_of_ble_eq_true rfl) (Nat.le_of_ble_eq_true rfl)
            ·
              obtain ⟨c90, rfl⟩ := hp86
              exact absurd c90 (by decide)
          ·
            refine lv_if_eq (tgt := 36) hx hb d_1_8_29 (by decide) (fun c92 => absurd c92 (by decide)) (fun c92 => ?_)
            refine lv_iconst (v := 1) hx hb d_1_8_32 (by decide) ?_
            refine lv_goto (tgt := 37) hx hb d_1_8_33 (by decide) ?_
            refine q_goxv V (q_runSX (As := [.int 1]) (rest := []) (d := 7) (mc := 1) (ms := 6) C0 V rfl LS_NH_104 (c_NH_need l D g ws hlt 1 _) rfl hl.1 rfl (Nat.le_of_ble_eq_true rfl) ⟨by decide, by decide⟩ ⟨Nat.le_of_ble_eq_true rfl, Nat.le_of_ble_eq_true rfl⟩ d_1_8_37) (fun qx Ex ce u94 H locs hp93 V hce hcv hcl => ?_) (fun u94 H locs hp93 V => ?_)
            ·
              obtain ⟨c95, rfl, rfl⟩ := hp93
              exact absurd c95 (by decide)
            ·
              obtain ⟨c97, rfl⟩ := hp93
              refine lv_aload_n hx hb d_1_8_40 rfl (lv_at hl 0 rfl) ?_
              refine q_get (ci := 0) (j := 2) (v := .ref qA3) C0 V i_NH rfl rfl hO0 (by decide) w_426 rfl d_1_8_41 ?_
              refine lv_iload_n hx hb d_1_8_44 rfl (lv_at hl 2 rfl) ?_
              have r99 : x2.toNatClampNeg < 10 := (q_r10 (x := x2.toInt) rfl (by have t1 : 0 ≤ x2.toInt := q_nltI c23; have t2 : x2.toInt < 10 := q_nleI c24; omega) (by have t1 : 0 ≤ x2.toInt := q_nltI c23; have t2 : x2.toInt < 10 := q_nleI c24; omega))
              have hr100 : ws[66 + 5 * x2.toNatClampNeg]? = (some (qW x2.toNatClampNeg, .inr (2, [.ref (qWL x2.toNatClampNeg), .int 0, .int 0])) : Option (Nat × va_E)) := FW _ r99
              have hr101 : ws[67 + 5 * x2.toNatClampNeg]? = (some (qWL x2.toNatClampNeg, .inl (g 0, 68, .inl (fun _ => 0))) : Option (Nat × va_E)) := FWL _ r99
              have hh : x2.toNatClampNeg < 10 := (q_r10 (x := x2.toInt) rfl (by have t1 : 0 ≤ x2.toInt := q_nltI c23; have t2 : x2.toInt < 10 := q_nleI c24; omega) (by have t1 : 0 ≤ x2.toInt := q_nltI c23; have t2 : x2.toInt < 10 := q_nleI c24; omega))
              refine q_aald (t := 4) (q := qW x2.toNatClampNeg) C0 V hA3 rfl (q_ix (x := x2.toInt) rfl (by have t1 : 0 ≤ x2.toInt := q_nltI c23; have t2 : x2.toInt < 10 := q_nleI c24; omega) (by have t1 : 0 ≤ x2.toInt := q_nltI c23; have t2 : x2.toInt < 10 := q_nleI c24; omega)) (hfW _ hh) d_1_8_45 ?_
              refine lv_astore (lv' := [(5, .ref (qW x2.toNatClampNeg)), (0, .ref qO0), (1, .int x1), (2, .int x2), (3, .int x3), (4, .int x4)]) hx hb d_1_8_46 hl (by decide) rfl (fun ls hl => ?_)
              refine lv_aload_n hx hb d_1_8_48 rfl (lv_at hl 1 rfl) ?_
              refine q_get (ci := 0) (j := 2) (v := .ref qA3) C0 V i_NH rfl rfl hO0 (by decide) w_426 rfl d_1_8_49 ?_
              refine lv_iload_n hx hb d_1_8_52 rfl (lv_at hl 4 rfl) ?_
              have r102 : x3.toNatClampNeg < 10 := (q_r10 (x := x3.toInt) rfl (by have t1 : 0 ≤ x3.toInt := q_nltI c49; have t2 : x3.toInt < 10 := q_nleI c50; omega) (by have t1 : 0 ≤ x3.toInt := q_nltI c49; have t2 : x3.toInt < 10 := q_nleI c50; omega))
              have hr103 : ws[66 + 5 * x3.toNatClampNeg]? = (some (qW x3.toNatClampNeg, .inr (2, [.ref (qWL x3.toNatClampNeg), .int 0, .int 0])) : Option (Nat × va_E)) := FW _ r102
              have hr104 : ws[67 + 5 * x3.toNatClampNeg]? = (some (qWL x3.toNatClampNeg, .inl (g 0, 68, .inl (fun _ => 0))) : Option (Nat × va_E)) := FWL _ r102
              have hh : x3.toNatClampNeg < 10 := (q_r10 (x := x3.toInt) rfl (by have t1 : 0 ≤ x3.toInt := q_nltI c49; have t2 : x3.toInt < 10 := q_nleI c50; omega) (by have t1 : 0 ≤ x3.toInt := q_nltI c49; have t2 : x3.toInt < 10 := q_nleI c50; omega))
              refine q_aald (t := 4) (q := qW x3.toNatClampNeg) C0 V hA3 rfl (q_ix (x := x3.toInt) rfl (by have t1 : 0 ≤ x3.toInt := q_nltI c49; have t2 : x3.toInt < 10 := q_nleI c50; omega) (by have t1 : 0 ≤ x3.toInt := q_nltI c49; have t2 : x3.toInt < 10 := q_nleI c50; omega)) (hfW _ hh) d_1_8_53 ?_
              refine lv_astore (lv' := [(6, .ref (qW x3.toNatClampNeg)), (5, .ref (qW x2.toNatClampNeg)), (0, .ref qO0), (1, .int x1), (2, .int x2), (3, .int x3), (4, .int x4)]) hx hb d_1_8_54 hl (by decide) rfl (fun ls hl => ?_)
              refine lv_iload_n hx hb d_1_8_56 rfl (lv_at hl 3 rfl) ?_
              refine lv_iconst (v := 2) hx hb d_1_8_57 (by decide) ?_
              refine lv_icmp_gt (tgt := 76) hx hb d_1_8_58 (by decide) (fun c105 => ?_) (fun c105 => ?_)
              ·
                refine lv_iload_n hx hb d_1_8_76 rfl (lv_at hl 3 rfl) ?_
                refine lv_iconst (v := 4) hx hb d_1_8_77 (by decide) ?_
                refine lv_icmp_gt (tgt := 121) hx hb d_1_8_78 (by decide) (fun c106 => ?_) (fun c106 => ?_)
                ·
                  refine lv_iload_n hx hb d_1_8_121 rfl (lv_at hl 3 rfl) ?_
                  refine lv_iconst (v := 5) hx hb d_1_8_122 (by decide) ?_
                  refine lv_icmp_ne (tgt := 163) hx hb d_1_8_123 (by decide) (fun c107 => ?_) (fun c107 => ?_)
                  ·
                    refine lv_iload_n hx hb d_1_8_163 rfl (lv_at hl 3 rfl) ?_
                    refine lv_bipush (v := 6) hx hb d_1_8_164 (by decide) ?_
                    refine lv_icmp_ne (tgt := 183) hx hb d_1_8_166 (by decide) (fun c108 => ?_) (fun c108 => ?_)
                    ·
                      refine lv_iload_n hx hb d_1_8_183 rfl (lv_at hl 3 rfl) ?_
                      refine lv_bipush (v := 7) hx hb d_1_8_184 (by decide) ?_
                      refine lv_icmp_ne (tgt := 222) hx hb d_1_8_186 (by decide) (fun c109 => ?_) (fun c109 => ?_)
                      ·
                        refine lv_aload_n hx hb d_1_8_222 rfl (lv_at hl 2 rfl) ?_
                        refine q_get (ci := 0) (j := 6) (v := .ref qO7) C0 V i_NH rfl rfl hO0 (by decide) w_430 rfl d_1_8_223 ?_
                        refine lv_iload_n hx hb d_1_8_226 rfl (lv_at hl 3 rfl) ?_
                        refine lv_aload hx hb d_1_8_227 (lv_at hl 1 rfl) ?_
                        refine lv_aload hx hb d_1_8_229 (lv_at hl 0 rfl) ?_
                        refine q_gov V (q_runV (As := [.int x1, .ref (qW x2.toNatClampNeg), .ref (qW x3.toNatClampNeg)]) (rest := []) (d := 3) (mc := 0) (ms := 0) (ci := 4) C0 V rfl LV_NH_240 (c_Mil_mixBits l D g ws 9 (66 + 5 * x2.toNatClampNeg) (66 + 5 * x3.toNatClampNeg) 10 11 qO7 (qW x2.toNatClampNeg) (qW x3.toNatClampNeg) qO17 qO18 qO19 qO20 qO21 qO22 qO23 qO24 qO25 qO26 (qWL x2.toNatClampNeg) (qWL x3.toNatClampNeg) qA35 x1 hO7 hr100 hr103 hO17 hA35 (q_f5 rfl) (q_f5 rfl) (q_Ile (x := 8) (y := x1.toInt) (by decide) rfl (by have t1 : 0 ≤ x1.toInt := q_nltI c1; have t2 : x1.toInt ≤ 11 := q_nltI c8; have t3 : 2 < x1.toInt := q_ltI c105; have t4 : 4 < x1.toInt := q_ltI c106; have t5 : x1.toInt ≠ 5 := q_neI c107; have t6 : x1.toInt ≠ 6 := q_neI c108; have t7 : x1.toInt ≠ 7 := q_neI c109; omega)) (q_Ile (x := x1.toInt) (y := 11) rfl (by decide) (by have t1 : 0 ≤ x1.toInt := q_nltI c1; have t2 : x1.toInt ≤ 11 := q_nltI c8; have t3 : 2 < x1.toInt := q_ltI c105; have t4 : 4 < x1.toInt := q_ltI c106; have t5 : x1.toInt ≠ 5 := q_neI c107; have t6 : x1.toInt ≠ 6 := q_neI c108; have t7 : x1.toInt ≠ 7 := q_neI c109; omega)) _) rfl rfl hO7 rfl hl.1 rfl (Nat.le_of_ble_eq_true rfl) ⟨by decide, by decide⟩ ⟨Nat.le_of_ble_eq_true rfl, Nat.le_of_ble_eq_true rfl⟩ d_1_8_231) (fun u111 H locs hp110 V => ?_)
                        rcases hp110 with ⟨c112, hg113, hO17, hA35⟩ | ⟨c114, hg115, hO17, hA35⟩
                        ·
                          replace hF := q_gc hF hg113 (q_al (Nat.le_of_ble_eq_true rfl) (q_al (Nat.le_of_ble_eq_true rfl) (fun _ h => absurd h List.not_mem_nil)))
                          refine lv_aload_n hx hb d_1_8_234 rfl (lv_at hl 2 rfl) ?_
                          refine lv_iload hx hb d_1_8_235 (lv_at hl 6 rfl) ?_
                          replace hO0 := (hg113 _ (q_nc (q_pd 0 10 rfl) (q_nc (q_pd 0 11 rfl) List.not_mem_nil))).trans (hO0)
                          replace hA3 := (hg113 _ (q_nc (q_pd 5 10 rfl) (q_nc (q_pd 5 11 rfl) List.not_mem_nil))).trans (hA3)
                          replace hO7 := (hg113 _ (q_nc (q_pd 9 10 rfl) (q_nc (q_pd 9 11 rfl) List.not_mem_nil))).trans (hO7)
                          replace FW := fun (i : Nat) (hi : i < 10) => (hg113 _ (q_nc (q_f5 rfl) (q_nc (q_f5 rfl) List.not_mem_nil))).trans (FW i hi)
                          replace FWL := fun (i : Nat) (hi : i < 10) => (hg113 _ (q_nc (q_f5 rfl) (q_nc (q_f5 rfl) List.not_mem_nil))).trans (FWL i hi)
                          refine q_gov V (q_runV (As := [.int x4]) (rest := []) (d := 8) (mc := 1) (ms := 6) (ci := 0) C0 V rfl LV_NH_243 (c_NH_keepWhole l D g u111 hlt qO0 qO1 qO2 qA3 qA4 qA5 qA6 qO7 qO8 qO9 qO10 qO11 qO12 qO13 qO14 qO17 qO18 qO19 qO20 qO21 qO22 qO23 qO24 qO25 qO26 qA35 x4 f5 hO0 hA3 hO7 hO17 hA35 (q_Ile (x := 0) (y := x4.toInt) (by decide) rfl (by have t1 : 0 ≤ x4.toInt := q_nltI c75; have t2 : x4.toInt < 10 := q_nleI c76; omega)) (q_Ile (x := x4.toInt) (y := 9) rfl (by decide) (by have t1 : 0 ≤ x4.toInt := q_nltI c75; have t2 : x4.toInt < 10 := q_nleI c76; omega)) qW qWL qD qDN qDL hfW FW FWL _) rfl rfl hO0 rfl hl.1 rfl (Nat.le_of_ble_eq_true rfl) ⟨by decide, by decide⟩ ⟨Nat.le_of_ble_eq_true rfl, Nat.le_of_ble_eq_true rfl⟩ d_1_8_237) (fun u117 H locs hp116 V => ?_)
                          have hg118 := hp116
                          replace hF := q_gt hF hg118
                          exact q_retX (q_retv C0 V (⟨(show ((0 ≤ x1.toInt ∧ x1.toInt ≤ 11) ∧ (0 ≤ x2.toInt ∧ x2.toInt ≤ 9) ∧ (0 ≤ x3.toInt ∧ x3.toInt ≤ 9) ∧ (0 ≤ x4.toInt ∧ x4.toInt ≤ 9)) ∧ ¬ ((x1.toInt = 3 ∨ x1.toInt = 4 ∨ x1.toInt = 5 ∨ x1.toInt = 7)) from by have t1 : 0 ≤ x1.toInt := q_nltI c1; have t2 : x1.toInt ≤ 11 := q_nltI c8; have t3 : 0 ≤ x2.toInt := q_nltI c23; have t4 : x2.toInt < 10 := q_nleI c24; have t5 : 0 ≤ x3.toInt := q_nltI c49; have t6 : x3.toInt < 10 := q_nleI c50; have t7 : 0 ≤ x4.toInt := q_nltI c75; have t8 : x4.toInt < 10 := q_nleI c76; have t9 : 2 < x1.toInt := q_ltI c105; have t10 : 4 < x1.toInt := q_ltI c106; have t11 : x1.toInt ≠ 5 := q_neI c107; have t12 : x1.toInt ≠ 6 := q_neI c108; have t13 : x1.toInt ≠ 7 := q_neI c109; have t14 : x1.toInt = 8 := q_eqI c112; omega), hF⟩) d_1_8_240)
                        ·
                          replace hF := q_gc hF hg115 (q_al (Nat.le_of_ble_eq_true rfl) (q_al (Nat.le_of_ble_eq_true rfl) (fun _ h => absurd h List.not_mem_nil)))
                          refine lv_aload_n hx hb d_1_8_234 rfl (lv_at hl 2 rfl) ?_
                          refine lv_iload hx hb d_1_8_235 (lv_at hl 6 rfl) ?_
                          replace hO0 := (hg115 _ (q_nc (q_pd 0 10 rfl) (q_nc (q_pd 0 11 rfl) List.not_mem_nil))).trans (hO0)
                          replace hA3 := (hg115 _ (q_nc (q_pd 5 10 rfl) (q_nc (q_pd 5 11 rfl) List.not_mem_nil))).trans (hA3)
                          replace hO7 := (hg115 _ (q_nc (q_pd 9 10 rfl) (q_nc (q_pd 9 11 rfl) List.not_mem_nil))).trans (hO7)
                          replace FW := fun (i : Nat) (hi : i < 10) => (hg115 _ (q_nc (q_f5 rfl) (q_nc (q_f5 rfl) List.not_mem_nil))).trans (FW i hi)
                          replace FWL := fun (i : Nat) (hi : i < 10) => (hg115 _ (q_nc (q_f5 rfl) (q_nc (q_f5 rfl) List.not_mem_nil))).trans (FWL i hi)
                          refine q_gov V (q_runV (As := [.int x4]) (rest := []) (d := 8) (mc := 1) (ms := 6) (ci := 0) C0 V rfl LV_NH_243 (c_NH_keepWhole l D g u111 hlt qO0 qO1 qO2 qA3 qA4 qA5 qA6 qO7 qO8 qO9 qO10 qO11 qO12 qO13 qO14 qO17 qO18 qO19 qO20 qO21 qO22 qO23 qO24 qO25 qO26 qA35 x4 f5 hO0 hA3 hO7 hO17 hA35 (q_Ile (x := 0) (y := x4.toInt) (by decide) rfl (by have t1 : 0 ≤ x4.toInt := q_nltI c75; have t2 : x4.toInt < 10 := q_nleI c76; omega)) (q_Ile (x := x4.toInt) (y := 9) rfl (by decide) (by have t1 : 0 ≤ x4.toInt := q_nltI c75; have t2 : x4.toInt < 10 := q_nleI c76; omega)) qW qWL qD qDN qDL hfW FW FWL _) rfl rfl hO0 rfl hl.1 rfl (Nat.le_of_ble_eq_true rfl) ⟨by decide, by decide⟩ ⟨Nat.le_of_ble_eq_true rfl, Nat.le_of_ble_eq_true rfl⟩ d_1_8_237) (fun u120 H locs hp119 V => ?_)
                          have hg121 := hp119
                          replace hF := q_gt hF hg121
                          exact q_retX (q_retv C0 V (⟨(show ((0 ≤ x1.toInt ∧ x1.toInt ≤ 11) ∧ (0 ≤ x2.toInt ∧ x2.toInt ≤ 9) ∧ (0 ≤ x3.toInt ∧ x3.toInt ≤ 9) ∧ (0 ≤ x4.toInt ∧ x4.toInt ≤ 9)) ∧ ¬ ((x1.toInt = 3 ∨ x1.toInt = 4 ∨ x1.toInt = 5 ∨ x1.toInt = 7)) from by have t1 : 0 ≤ x1.toInt := q_nltI c1; have t2 : x1.toInt ≤ 11 := q_nltI c8; have t3 : 0 ≤ x2.toInt := q_nltI c23; have t4 : x2.toInt < 10 := q_nleI c24; have t5 : 0 ≤ x3.toInt := q_nltI c49; have t6 : x3.toInt < 10 := q_nleI c50; have t7 : 0 ≤ x4.toInt := q_nltI c75; have t8 : x4.toInt < 10 := q_nleI c76; have t9 : 2 < x1.toInt := q_ltI c105; have t10 : 4 < x1.toInt := q_ltI c106; have t11 : x1.toInt ≠ 5 := q_neI c107; have t12 : x1.toInt ≠ 6 := q_neI c108; have t13 : x1.toInt ≠ 7 := q_neI c109; have t14 : x1.toInt ≠ 8 := q_neI c114; omega), hF⟩) d_1_8_240)
                      ·
                        refine lv_aload hx hb d_1_8_189 (lv_at hl 0 rfl) ?_
                        refine q_goi V (q_runV (As := []) (rest := []) (d := 1) (mc := 0) (ms := 0) (ci := 2) C0 V rfl LV_NH_225 (c_Big_sign l D g ws (66 + 5 * x3.toNatClampNeg) (qW x3.toNatClampNeg) (qWL x3.toNatClampNeg) 0 0 hr103 _) rfl rfl hr103 rfl hl.1 rfl (Nat.le_of_ble_eq_true rfl) ⟨by decide, by decide⟩ ⟨Nat.le_of_ble_eq_true rfl, Nat.le_of_ble_eq_true rfl⟩ d_1_8_191) (fun v124 u123 H locs hp122 V => ?_)
                        rcases hp122 with ⟨c125, c126, rfl, rfl⟩ | ⟨c128, c129, rfl, rfl⟩ | ⟨c131, rfl, rfl⟩
                        ·
                          exact absurd c125 (by decide)
                        ·
                          exact absurd c128 (by decide)
                        ·
                          refine lv_if_le (tgt := 201) hx hb d_1_8_194 (by decide) (fun c133 => ?_) (fun c133 => absurd (by decide) c133)
                          refine lv_iconst (v := 0) hx hb d_1_8_201 (by decide) ?_
                          refine q_goxv V (q_runSX (As := [.int 0]) (rest := []) (d := 7) (mc := 1) (ms := 6) C0 V rfl LS_NH_138 (c_NH_canHave l D g ws hlt 0 _) rfl hl.1 rfl (Nat.le_of_ble_eq_true rfl) ⟨by decide, by decide⟩ ⟨Nat.le_of_ble_eq_true rfl, Nat.le_of_ble_eq_true rfl⟩ d_1_8_202) (fun qx Ex ce u135 H locs hp134 V hce hcv hcl => ?_) (fun u135 H locs hp134 V => ?_)
                          ·
                            obtain ⟨c136, rfl, rfl⟩ := hp134
                            exact q_outT hno C0 V (⟨Or.inr (⟨rfl, (show ((0 ≤ x1.toInt ∧ x1.toInt ≤ 11) ∧ (0 ≤ x2.toInt ∧ x2.toInt ≤ 9) ∧ (0 ≤ x3.toInt ∧ x3.toInt ≤ 9) ∧ (0 ≤ x4.toInt ∧ x4.toInt ≤ 9)) ∧ (x1.toInt = 3 ∨ x1.toInt = 4 ∨ x1.toInt = 5 ∨ x1.toInt = 7) from by have t1 : 0 ≤ x1.toInt := q_nltI c1; have t2 : x1.toInt ≤ 11 := q_nltI c8; have t3 : 0 ≤ x2.toInt := q_nltI c23; have t4 : x2.toInt < 10 := q_nleI c24; have t5 : 0 ≤ x3.toInt := q_nltI c49; have t6 : x3.toInt < 10 := q_nleI c50; have t7 : 0 ≤ x4.toInt := q_nltI c75; have t8 : x4.toInt < 10 := q_nleI c76; have t9 : 2 < x1.toInt := q_ltI c105; have t10 : 4 < x1.toInt := q_ltI c106; have t11 : x1.toInt ≠ 5 := q_neI c107; have t12 : x1.toInt ≠ 6 := q_neI c108; have t13 : x1.toInt = 7 := q_eqI c109; omega)⟩), hF⟩) hce hcv hcl (Nat.le_of_ble_eq_true rfl) (Nat.le_of_ble_eq_true rfl)
                          ·
                            obtain ⟨c138, rfl⟩ := hp134
                            exact absurd c138 (by decide)
                    ·
                      refine lv_aload_n hx hb d_1_8_169 rfl (lv_at hl 2 rfl) ?_
                      refine q_get (ci := 0) (j := 6) (v := .ref qO7) C0 V i_NH rfl rfl hO0 (by decide) w_430 rfl d_1_8_170 ?_
                      refine lv_aload hx hb d_1_8_173 (lv_at hl 1 rfl) ?_
                      refine lv_aload hx hb d_1_8_175 (lv_at hl 0 rfl) ?_
                      refine q_gov V (q_runV (As := [.ref (qW x2.toNatClampNeg), .ref (qW x3.toNatClampNeg)]) (rest := []) (d := 3) (mc := 0) (ms := 0) (ci := 4) C0 V rfl LV_NH_232 (c_Mil_commonDivisor l D g ws 9 (66 + 5 * x2.toNatClampNeg) (66 + 5 * x3.toNatClampNeg) 10 22 24 (67 + 5 * x2.toNatClampNeg) (67 + 5 * x3.toNatClampNeg) 11 23 25 qO7 (qW x2.toNatClampNeg) (qW x3.toNatClampNeg) qO17 qO18 qO19 qO20 qO21 qO22 qO23 qO24 qO25 qO26 (qWL x2.toNatClampNeg) (qWL x3.toNatClampNeg) qA35 qA41 qA42 hO7 hr100 hr103 hO17 hO23 hO24 hr101 hr104 hA35 hA41 hA42 (q_f5 rfl) (q_f5 rfl) (q_f5 rfl) (q_f5 rfl) (q_f5 rfl) (q_f5 rfl) (q_pd 11 23 rfl) (q_pd 11 25 rfl) (q_pd 23 25 rfl) (q_f5 rfl) (q_f5 rfl) (q_f5 rfl) (q_pd 24 10 rfl) (q_pd 24 22 rfl) (q_f5 rfl) (q_f5 rfl) (q_f5 rfl) (q_pd 10 22 rfl) _) rfl rfl hO7 rfl hl.1 rfl (Nat.le_of_ble_eq_true rfl) ⟨by decide, by decide⟩ ⟨Nat.le_of_ble_eq_true rfl, Nat.le_of_ble_eq_true rfl⟩ d_1_8_177) (fun u141 H locs hp140 V => ?_)
                      obtain ⟨hg142, hO17, hO23, hO24, hA35, hA41, hA42⟩ := hp140
                      replace hF := q_gc hF hg142 (q_al (Nat.le_of_ble_eq_true rfl) (q_al (Nat.le_of_ble_eq_true rfl) (q_al (Nat.le_of_ble_eq_true rfl) (q_al (Nat.le_of_ble_eq_true rfl) (q_al (Nat.le_of_ble_eq_true rfl) (q_al (Nat.le_of_ble_eq_true rfl) (fun _ h => absurd h List.not_mem_nil)))))))
                      refine lv_goto (tgt := 234) hx hb d_1_8_180 (by decide) ?_
                      refine lv_aload_n hx hb d_1_8_234 rfl (lv_at hl 2 rfl) ?_
                      refine lv_iload hx hb d_1_8_235 (lv_at hl 6 rfl) ?_
                      replace hO0 := (hg142 _ (q_nc (q_pd 0 10 rfl) (q_nc (q_pd 0 22 rfl) (q_nc (q_pd 0 24 rfl) (q_nc (q_pd 0 11 rfl) (q_nc (q_pd 0 23 rfl) (q_nc (q_pd 0 25 rfl) List.not_mem_nil))))))).trans (hO0)
                      replace hA3 := (hg142 _ (q_nc (q_pd 5 10 rfl) (q_nc (q_pd 5 22 rfl) (q_nc (q_pd 5 24 rfl) (q_nc (q_pd 5 11 rfl) (q_nc (q_pd 5 23 rfl) (q_nc (q_pd 5 25 rfl) List.not_mem_nil))))))).trans (hA3)
                      replace hO7 := (hg142 _ (q_nc (q_pd 9 10 rfl) (q_nc (q_pd 9 22 rfl) (q_nc (q_pd 9 24 rfl) (q_nc (q_pd 9 11 rfl) (q_nc (q_pd 9 23 rfl) (q_nc (q_pd 9 25 rfl) List.not_mem_nil))))))).trans (hO7)
                      replace FW := fun (i : Nat) (hi : i < 10) => (hg142 _ (q_nc (q_f5 rfl) (q_nc (q_f5 rfl) (q_nc (q_f5 rfl) (q_nc (q_f5 rfl) (q_nc (q_f5 rfl) (q_nc (q_f5 rfl) List.not_mem_nil))))))).trans (FW i hi)
                      replace FWL := fun (i : Nat) (hi : i < 10) => (hg142 _ (q_nc (q_f5 rfl) (q_nc (q_f5 rfl) (q_nc (q_f5 rfl) (q_nc (q_f5 rfl) (q_nc (q_f5 rfl) (q_nc (q_f5 rfl) List.not_mem_nil))))))).trans (FWL i hi)
                      refine q_gov V (q_runV (As := [.int x4]) (rest := []) (d := 8) (mc := 1) (ms := 6) (ci := 0) C0 V rfl LV_NH_243 (c_NH_keepWhole l D g u141 hlt qO0 qO1 qO2 qA3 qA4 qA5 qA6 qO7 qO8 qO9 qO10 qO11 qO12 qO13 qO14 qO17 qO18 qO19 qO20 qO21 qO22 qO23 qO24 qO25 qO26 qA35 x4 f5 hO0 hA3 hO7 hO17 hA35 (q_Ile (x := 0) (y := x4.toInt) (by decide) rfl (by have t1 : 0 ≤ x4.toInt := q_nltI c75; have t2 : x4.toInt < 10 := q_nleI c76; omega)) (q_Ile (x := x4.toInt) (y := 9) rfl (by decide) (by have t1 : 0 ≤ x4.toInt := q_nltI c75; have t2 : x4.toInt < 10 := q_nleI c76; omega)) qW qWL qD qDN qDL hfW FW FWL _) rfl rfl hO0 rfl hl.1 rfl (Nat.le_of_ble_eq_true rfl) ⟨by decide, by decide⟩ ⟨Nat.le_of_ble_eq_true rfl, Nat.le_of_ble_eq_true rfl⟩ d_1_8_237) (fun u144 H locs hp143 V => ?_)
                      have hg145 := hp143
                      replace hF := q_gt hF hg145
                      exact q_retX (q_retv C0 V (⟨(show ((0 ≤ x1.toInt ∧ x1.toInt ≤ 11) ∧ (0 ≤ x2.toInt ∧ x2.toInt ≤ 9) ∧ (0 ≤ x3.toInt ∧ x3.toInt ≤ 9) ∧ (0 ≤ x4.toInt ∧ x4.toInt ≤ 9)) ∧ ¬ ((x1.toInt = 3 ∨ x1.toInt = 4 ∨ x1.toInt = 5 ∨ x1.toInt = 7)) from by have t1 : 0 ≤ x1.toInt := q_nltI c1; have t2 : x1.toInt ≤ 11 := q_nltI c8; have t3 : 0 ≤ x2.toInt := q_nltI c23; have t4 : x2.toInt < 10 := q_nleI c24; have t5 : 0 ≤ x3.toInt := q_nltI c49; have t6 : x3.toInt < 10 := q_nleI c50; have t7 : 0 ≤ x4.toInt := q_nltI c75; have t8 : x4.toInt < 10 := q_nleI c76; have t9 : 2 < x1.toInt := q_ltI c105; have t10 : 4 < x1.toInt := q_ltI c106; have t11 : x1.toInt ≠ 5 := q_neI c107; have t12 : x1.toInt = 6 := q_eqI c108; omega), hF⟩) d_1_8_240)
                  ·
                    refine lv_aload hx hb d_1_8_126 (lv_at hl 0 rfl) ?_
                    refine q_goi V (q_runV (As := []) (rest := []) (d := 1) (mc := 0) (ms := 0) (ci := 2) C0 V rfl LV_NH_225 (c_Big_sign l D g ws (66 + 5 * x3.toNatClampNeg) (qW x3.toNatClampNeg) (qWL x3.toNatClampNeg) 0 0 hr103 _) rfl rfl hr103 rfl hl.1 rfl (Nat.le_of_ble_eq_true rfl) ⟨by decide, by decide⟩ ⟨Nat.le_of_ble_eq_true rfl, Nat.le_of_ble_eq_true rfl⟩ d_1_8_128) (fun v148 u147 H locs hp146 V => ?_)
                    rcases hp146 with ⟨c149, c150, rfl, rfl⟩ | ⟨c152, c153, rfl, rfl⟩ | ⟨c155, rfl, rfl⟩
                    ·
                      exact absurd c149 (by decide)
                    ·
                      exact absurd c152 (by decide)
                    ·
                      refine lv_if_le (tgt := 138) hx hb d_1_8_131 (by decide) (fun c157 => ?_) (fun c157 => absurd (by decide) c157)
                      refine lv_iconst (v := 0) hx hb d_1_8_138 (by decide) ?_
                      refine q_goxv V (q_runSX (As := [.int 0]) (rest := []) (d := 7) (mc := 1) (ms := 6) C0 V rfl LS_NH_138 (c_NH_canHave l D g ws hlt 0 _) rfl hl.1 rfl (Nat.le_of_ble_eq_true rfl) ⟨by decide, by decide⟩ ⟨Nat.le_of_ble_eq_true rfl, Nat.le_of_ble_eq_true rfl⟩ d_1_8_139) (fun qx Ex ce u159 H locs hp158 V hce hcv hcl => ?_) (fun u159 H locs hp158 V => ?_)
                      ·
                        obtain ⟨c160, rfl, rfl⟩ := hp158
                        exact q_outT hno C0 V (⟨Or.inr (⟨rfl, (show ((0 ≤ x1.toInt ∧ x1.toInt ≤ 11) ∧ (0 ≤ x2.toInt ∧ x2.toInt ≤ 9) ∧ (0 ≤ x3.toInt ∧ x3.toInt ≤ 9) ∧ (0 ≤ x4.toInt ∧ x4.toInt ≤ 9)) ∧ (x1.toInt = 3 ∨ x1.toInt = 4 ∨ x1.toInt = 5 ∨ x1.toInt = 7) from by have t1 : 0 ≤ x1.toInt := q_nltI c1; have t2 : x1.toInt ≤ 11 := q_nltI c8; have t3 : 0 ≤ x2.toInt := q_nltI c23; have t4 : x2.toInt < 10 := q_nleI c24; have t5 : 0 ≤ x3.toInt := q_nltI c49; have t6 : x3.toInt < 10 := q_nleI c50; have t7 : 0 ≤ x4.toInt := q_nltI c75; have t8 : x4.toInt < 10 := q_nleI c76; have t9 : 2 < x1.toInt := q_ltI c105; have t10 : 4 < x1.toInt := q_ltI c106; have t11 : x1.toInt = 5 := q_eqI c107; omega)⟩), hF⟩) hce hcv hcl (Nat.le_of_ble_eq_true rfl) (Nat.le_of_ble_eq_true rfl)
                      ·
                        obtain ⟨c162, rfl⟩ := hp158
                        exact absurd c162 (by decide)
                ·
                  refine lv_aload hx hb d_1_8_81 (lv_at hl 0 rfl) ?_
                  refine q_get (ci := 2) (j := 1) (v := .int 0) C0 V i_Big rfl rfl hr103 (by decide) w_91 rfl d_1_8_83 ?_
                  refine lv_if_le (tgt := 93) hx hb d_1_8_86 (by decide) (fun c164 => ?_) (fun c164 => absurd (by decide) c164)
                  refine lv_iconst (v := 0) hx hb d_1_8_93 (by decide) ?_
                  refine q_goxv V (q_runSX (As := [.int 0]) (rest := []) (d := 7) (mc := 1) (ms := 6) C0 V rfl LS_NH_138 (c_NH_canHave l D g ws hlt 0 _) rfl hl.1 rfl (Nat.le_of_ble_eq_true rfl) ⟨by decide, by decide⟩ ⟨Nat.le_of_ble_eq_true rfl, Nat.le_of_ble_eq_true rfl⟩ d_1_8_94) (fun qx Ex ce u166 H locs hp165 V hce hcv hcl => ?_) (fun u166 H locs hp165 V => ?_)
                  ·
                    obtain ⟨c167, rfl, rfl⟩ := hp165
                    exact q_outT hno C0 V (⟨Or.inr (⟨rfl, (show ((0 ≤ x1.toInt ∧ x1.toInt ≤ 11) ∧ (0 ≤ x2.toInt ∧ x2.toInt ≤ 9) ∧ (0 ≤ x3.toInt ∧ x3.toInt ≤ 9) ∧ (0 ≤ x4.toInt ∧ x4.toInt ≤ 9)) ∧ (x1.toInt = 3 ∨ x1.toInt = 4 ∨ x1.toInt = 5 ∨ x1.toInt = 7) from by have t1 : 0 ≤ x1.toInt := q_nltI c1; have t2 : x1.toInt ≤ 11 := q_nltI c8; have t3 : 0 ≤ x2.toInt := q_nltI c23; have t4 : x2.toInt < 10 := q_nleI c24; have t5 : 0 ≤ x3.toInt := q_nltI c49; have t6 : x3.toInt < 10 := q_nleI c50; have t7 : 0 ≤ x4.toInt := q_nltI c75; have t8 : x4.toInt < 10 := q_nleI c76; have t9 : 2 < x1.toInt := q_ltI c105; have t10 : x1.toInt ≤ 4 := q_nltI c106; omega)⟩), hF⟩) hce hcv hcl (Nat.le_of_ble_eq_true rfl) (Nat.le_of_ble_eq_true rfl)
                  ·
                    obtain ⟨c169, rfl⟩ := hp165
                    exact absurd c169 (by decide)
              ·
                refine lv_aload_n hx hb d_1_8_61 rfl (lv_at hl 2 rfl) ?_
                refine q_get (ci := 0) (j := 6) (v := .ref qO7) C0 V i_NH rfl rfl hO0 (by decide) w_430 rfl d_1_8_62 ?_
                refine lv_iload_n hx hb d_1_8_65 rfl (lv_at hl 3 rfl) ?_
                refine lv_aload hx hb d_1_8_66 (lv_at hl 1 rfl) ?_
                refine lv_aload hx hb d_1_8_68 (lv_at hl 0 rfl) ?_
                refine q_gov V (q_runV (As := [.int x1, .ref (qW x2.toNatClampNeg), .ref (qW x3.toNatClampNeg)]) (rest := []) (d := 4) (mc := 0) (ms := 0) (ci := 4) C0 V rfl LV_NH_216 (c_Mil_addOrMultiply l D g ws 9 (66 + 5 * x2.toNatClampNeg) (66 + 5 * x3.toNatClampNeg) 10 (67 + 5 * x2.toNatClampNeg) 11 qO7 (qW x2.toNatClampNeg) (qW x3.toNatClampNeg) qO17 qO18 qO19 qO20 qO21 qO22 qO23 qO24 qO25 qO26 (qWL x2.toNatClampNeg) (qWL x3.toNatClampNeg) qA35 x1 hO7 hr100 hr103 hO17 hr101 hA35 (q_f5 rfl) (q_f5 rfl) (q_f5 rfl) (q_Ile (x := 0) (y := x1.toInt) (by decide) rfl (by have t1 : 0 ≤ x1.toInt := q_nltI c1; have t2 : x1.toInt ≤ 11 := q_nltI c8; have t3 : x1.toInt ≤ 2 := q_nltI c105; omega)) (q_Ile (x := x1.toInt) (y := 2) rfl (by decide) (by have t1 : 0 ≤ x1.toInt := q_nltI c1; have t2 : x1.toInt ≤ 11 := q_nltI c8; have t3 : x1.toInt ≤ 2 := q_nltI c105; omega)) _) rfl rfl hO7 rfl hl.1 rfl (Nat.le_of_ble_eq_true rfl) ⟨by decide, by decide⟩ ⟨Nat.le_of_ble_eq_true rfl, Nat.le_of_ble_eq_true rfl⟩ d_1_8_70) (fun u172 H locs hp171 V => ?_)
                obtain ⟨hg173, hO17, hA35⟩ := hp171
                replace hF := q_gc hF hg173 (q_al (Nat.le_of_ble_eq_true rfl) (q_al (Nat.le_of_ble_eq_true rfl) (fun _ h => absurd h List.not_mem_nil)))
                refine lv_goto (tgt := 234) hx hb d_1_8_73 (by decide) ?_
                refine lv_aload_n hx hb d_1_8_234 rfl (lv_at hl 2 rfl) ?_
                refine lv_iload hx hb d_1_8_235 (lv_at hl 6 rfl) ?_
                replace hO0 := (hg173 _ (q_nc (q_pd 0 10 rfl) (q_nc (q_pd 0 11 rfl) List.not_mem_nil))).trans (hO0)
                replace hA3 := (hg173 _ (q_nc (q_pd 5 10 rfl) (q_nc (q_pd 5 11 rfl) List.not_mem_nil))).trans (hA3)
                replace hO7 := (hg173 _ (q_nc (q_pd 9 10 rfl) (q_nc (q_pd 9 11 rfl) List.not_mem_nil))).trans (hO7)
                replace FW := fun (i : Nat) (hi : i < 10) => (hg173 _ (q_nc (q_f5 rfl) (q_nc (q_f5 rfl) List.not_mem_nil))).trans (FW i hi)
                replace FWL := fun (i : Nat) (hi : i < 10) => (hg173 _ (q_nc (q_f5 rfl) (q_nc (q_f5 rfl) List.not_mem_nil))).trans (FWL i hi)
                refine q_gov V (q_runV (As := [.int x4]) (rest := []) (d := 8) (mc := 1) (ms := 6) (ci := 0) C0 V rfl LV_NH_243 (c_NH_keepWhole l D g u172 hlt qO0 qO1 qO2 qA3 qA4 qA5 qA6 qO7 qO8 qO9 qO10 qO11 qO12 qO13 qO14 qO17 qO18 qO19 qO20 qO21 qO22 qO23 qO24 qO25 qO26 qA35 x4 f5 hO0 hA3 hO7 hO17 hA35 (q_Ile (x := 0) (y := x4.toInt) (by decide) rfl (by have t1 : 0 ≤ x4.toInt := q_nltI c75; have t2 : x4.toInt < 10 := q_nleI c76; omega)) (q_Ile (x := x4.toInt) (y := 9) rfl (by decide) (by have t1 : 0 ≤ x4.toInt := q_nltI c75; have t2 : x4.toInt < 10 := q_nleI c76; omega)) qW qWL qD qDN qDL hfW FW FWL _) rfl rfl hO0 rfl hl.1 rfl (Nat.le_of_ble_eq_true rfl) ⟨by decide, by decide⟩ ⟨Nat.le_of_ble_eq_true rfl, Nat.le_of_ble_eq_true rfl⟩ d_1_8_237) (fun u175 H locs hp174 V => ?_)
                have hg176 := hp174
                replace hF := q_gt hF hg176
                exact q_retX (q_retv C0 V (⟨(show ((0 ≤ x1.toInt ∧ x1.toInt ≤ 11) ∧ (0 ≤ x2.toInt ∧ x2.toInt ≤ 9) ∧ (0 ≤ x3.toInt ∧ x3.toInt ≤ 9) ∧ (0 ≤ x4.toInt ∧ x4.toInt ≤ 9)) ∧ ¬ ((x1.toInt = 3 ∨ x1.toInt = 4 ∨ x1.toInt = 5 ∨ x1.toInt = 7)) from by have t1 : 0 ≤ x1.toInt := q_nltI c1; have t2 : x1.toInt ≤ 11 := q_nltI c8; have t3 : 0 ≤ x2.toInt := q_nltI c23; have t4 : x2.toInt < 10 := q_nleI c24; have t5 : 0 ≤ x3.toInt := q_nltI c49; have t6 : x3.toInt < 10 := q_nleI c50; have t7 : 0 ≤ x4.toInt := q_nltI c75; have t8 : x4.toInt < 10 := q_nleI c76; have t9 : x1.toInt ≤ 2 := q_nltI c105; omega), hF⟩) d_1_8_240)
