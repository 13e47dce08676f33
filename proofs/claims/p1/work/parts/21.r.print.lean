/-! the class on a fresh object: print -/
theorem d_31_152_0 : decode prog_31_method_152_code 0 = .ok (.getstatic 38, 3) := by decide +kernel
theorem w_663 : (Cond.fieldLink "java/lang/String" (38 : Nat) "java/lang/String" "COMPACT_STRINGS" "Z") ∈ q_tbl := q_of 663 (by decide +kernel) (by decide +kernel)
theorem d_31_152_3 : decode prog_31_method_152_code 3 = .ok (.ifCond .eq 10, 3) := by decide +kernel
theorem d_31_152_6 : decode prog_31_method_152_code 6 = .ok (.aload_n 0, 1) := by decide +kernel
theorem d_31_152_7 : decode prog_31_method_152_code 7 = .ok (.getfield 15, 3) := by decide +kernel
theorem w_1019 : (Cond.fieldLink "java/lang/String" (15 : Nat) "java/lang/String" "coder" "B") ∈ q_tbl := q_of 1019 (by decide +kernel) (by decide +kernel)
theorem d_31_152_10 : decode prog_31_method_152_code 10 = .ok (.goto 4, 3) := by decide +kernel
theorem d_31_152_14 : decode prog_31_method_152_code 14 = .ok (.ireturn, 1) := by decide +kernel
def y_jStr_coder : MethodName := ⟨"java/lang/String", "coder", "()B"⟩
set_option maxRecDepth 100000 in
set_option maxHeartbeats 4000000 in
theorem c_jStr_coder (l : Launch) (D : va_G) (g : Nat → ClassId) (ws : va_W) : q_mI l y_jStr_coder prog_31_method_152_code 1 (.byte) 1 0 0 D g [.ref (g (8 + 2 * 26))] ws (fun r u => 0 = r ∧ ws = u) := by
  intro sz
  refine q_into (by decide) (Nat.le_of_ble_eq_true rfl) ?_
  intro p e s m below meth c ls hsz C0 V hl
  have hx := C0.1
  have hb := C0.2.1
  have hl : lv_has ls 1 [(0, .ref (g (8 + 2 * 26)))] := hl
  refine q_scmp C0 V rfl w_663 d_31_152_0 ?_
  refine lv_if_eq (tgt := 13) hx hb d_31_152_3 (by decide) (fun c1 => absurd c1 (by decide)) (fun c1 => ?_)
  refine lv_aload_n hx hb d_31_152_6 rfl (lv_at hl 0 rfl) ?_
  refine q_scod (i := 26) C0 V rfl rfl w_1019 d_31_152_7 ?_
  refine lv_goto (tgt := 14) hx hb d_31_152_10 (by decide) ?_
  exact q_retn C0 V (rfl) (⟨rfl, rfl⟩) d_31_152_14
theorem d_31_54_0 : decode prog_31_method_54_code 0 = .ok (.aload_n 0, 1) := by decide +kernel
theorem d_31_54_1 : decode prog_31_method_54_code 1 = .ok (.getfield 9, 3) := by decide +kernel
theorem w_1018 : (Cond.fieldLink "java/lang/String" (9 : Nat) "java/lang/String" "value" "[B") ∈ q_tbl := q_of 1018 (by decide +kernel) (by decide +kernel)
theorem d_31_54_4 : decode prog_31_method_54_code 4 = .ok (.arraylength, 1) := by decide +kernel
theorem d_31_54_5 : decode prog_31_method_54_code 5 = .ok (.aload_n 0, 1) := by decide +kernel
theorem d_31_54_6 : decode prog_31_method_54_code 6 = .ok (.invokevirtual 335, 3) := by decide +kernel
theorem w_662 : (Cond.code ({ cls := "java/lang/String", name := "coder", desc := "()B" } : MethodName) prog_31_method_152_code (1 : Nat) (some .byte)) ∈ q_tbl := q_of 662 (by decide +kernel) (by decide +kernel)
theorem w_25 : (Cond.initialized "java/lang/String") ∈ q_tbl := q_of 25 (by decide +kernel) (by decide +kernel)
theorem w_659 : (Cond.methodLink "java/lang/String" (335 : Nat) ({ cls := "java/lang/String", name := "coder", desc := "()B" } : MethodName)) ∈ q_tbl := q_of 659 (by decide +kernel) (by decide +kernel)
theorem w_660 : (Cond.instanceMethod ({ cls := "java/lang/String", name := "coder", desc := "()B" } : MethodName)) ∈ q_tbl := q_of 660 (by decide +kernel) (by decide +kernel)
theorem w_661 : (Cond.selects "java/lang/String" ({ cls := "java/lang/String", name := "coder", desc := "()B" } : MethodName) ({ cls := "java/lang/String", name := "coder", desc := "()B" } : MethodName)) ∈ q_tbl := q_of 661 (by decide +kernel) (by decide +kernel)
theorem LV_jStr_335 : q_LV "java/lang/String" 335 y_jStr_coder prog_31_method_152_code 1 (some .byte) 0 := ⟨w_662, w_25, w_659, w_660, w_661, ⟨by decide, by decide, by decide +kernel⟩⟩
theorem d_31_54_9 : decode prog_31_method_54_code 9 = .ok (.ishr, 1) := by decide +kernel
theorem d_31_54_10 : decode prog_31_method_54_code 10 = .ok (.ireturn, 1) := by decide +kernel
def y_jStr_length : MethodName := ⟨"java/lang/String", "length", "()I"⟩
set_option maxRecDepth 100000 in
set_option maxHeartbeats 4000000 in
theorem c_jStr_length (l : Launch) (D : va_G) (g : Nat → ClassId) (ws : va_W) : q_mI l y_jStr_length prog_31_method_54_code 1 (.int) 2 0 0 D g [.ref (g (8 + 2 * 26))] ws (fun r u => 3 = r ∧ ws = u) := by
  intro sz
  refine q_into (by decide) (Nat.le_of_ble_eq_true rfl) ?_
  intro p e s m below meth c ls hsz C0 V hl
  have hx := C0.1
  have hb := C0.2.1
  have hl : lv_has ls 1 [(0, .ref (g (8 + 2 * 26)))] := hl
  refine lv_aload_n hx hb d_31_54_0 rfl (lv_at hl 0 rfl) ?_
  refine q_sval (i := 26) C0 V rfl rfl w_1018 d_31_54_1 ?_
  refine q_slen (i := 26) (v := 3) C0 V rfl (by decide) d_31_54_4 ?_
  refine lv_aload_n hx hb d_31_54_5 rfl (lv_at hl 0 rfl) ?_
  refine q_goi V (q_runVs (As := []) (rest := [.int 3]) (d := 1) (mc := 0) (ms := 0) (i := 26) C0 V rfl LV_jStr_335 (c_jStr_coder l D g ws _) rfl rfl rfl hl.1 rfl (Nat.le_of_ble_eq_true rfl) ⟨by decide, by decide⟩ ⟨Nat.le_of_ble_eq_true rfl, Nat.le_of_ble_eq_true rfl⟩ d_31_54_6) (fun v3 u2 H locs hp1 V => ?_)
  obtain ⟨rfl, rfl⟩ := hp1
  refine lv_ishr hx hb d_31_54_9 ?_
  refine q_ti (v := 3) (by decide) ?_
  exact q_reti C0 V (⟨rfl, rfl⟩) d_31_54_10
theorem d_31_154_0 : decode prog_31_method_154_code 0 = .ok (.getstatic 38, 3) := by decide +kernel
theorem d_31_154_3 : decode prog_31_method_154_code 3 = .ok (.ifCond .eq 14, 3) := by decide +kernel
theorem d_31_154_6 : decode prog_31_method_154_code 6 = .ok (.aload_n 0, 1) := by decide +kernel
theorem d_31_154_7 : decode prog_31_method_154_code 7 = .ok (.getfield 15, 3) := by decide +kernel
theorem d_31_154_10 : decode prog_31_method_154_code 10 = .ok (.ifCond .ne 7, 3) := by decide +kernel
theorem d_31_154_13 : decode prog_31_method_154_code 13 = .ok (.iconst 1, 1) := by decide +kernel
theorem d_31_154_14 : decode prog_31_method_154_code 14 = .ok (.goto 4, 3) := by decide +kernel
theorem d_31_154_18 : decode prog_31_method_154_code 18 = .ok (.ireturn, 1) := by decide +kernel
def y_jStr_isLatin1 : MethodName := ⟨"java/lang/String", "isLatin1", "()Z"⟩
set_option maxRecDepth 100000 in
set_option maxHeartbeats 4000000 in
theorem c_jStr_isLatin1 (l : Launch) (D : va_G) (g : Nat → ClassId) (ws : va_W) : q_mI l y_jStr_isLatin1 prog_31_method_154_code 1 (.boolean) 1 0 0 D g [.ref (g (8 + 2 * 26))] ws (fun r u => 1 = r ∧ ws = u) := by
  intro sz
  refine q_into (by decide) (Nat.le_of_ble_eq_true rfl) ?_
  intro p e s m below meth c ls hsz C0 V hl
  have hx := C0.1
  have hb := C0.2.1
  have hl : lv_has ls 1 [(0, .ref (g (8 + 2 * 26)))] := hl
  refine q_scmp C0 V rfl w_663 d_31_154_0 ?_
  refine lv_if_eq (tgt := 17) hx hb d_31_154_3 (by decide) (fun c1 => absurd c1 (by decide)) (fun c1 => ?_)
  refine lv_aload_n hx hb d_31_154_6 rfl (lv_at hl 0 rfl) ?_
  refine q_scod (i := 26) C0 V rfl rfl w_1019 d_31_154_7 ?_
  refine lv_if_ne (tgt := 17) hx hb d_31_154_10 (by decide) (fun c2 => absurd (by decide) c2) (fun c2 => ?_)
  refine lv_iconst (v := 1) hx hb d_31_154_13 (by decide) ?_
  refine lv_goto (tgt := 18) hx hb d_31_154_14 (by decide) ?_
  exact q_retz C0 V (rfl) (⟨rfl, rfl⟩) d_31_154_18
theorem d_39_11_0 : decode prog_39_method_11_code 0 = .ok (.iload_n 0, 1) := by decide +kernel
theorem d_39_11_1 : decode prog_39_method_11_code 1 = .ok (.ifCond .lt 8, 3) := by decide +kernel
theorem d_39_11_4 : decode prog_39_method_11_code 4 = .ok (.iload_n 0, 1) := by decide +kernel
theorem d_39_11_5 : decode prog_39_method_11_code 5 = .ok (.iload_n 1, 1) := by decide +kernel
theorem d_39_11_6 : decode prog_39_method_11_code 6 = .ok (.if_icmp .lt 10, 3) := by decide +kernel
theorem d_39_11_16 : decode prog_39_method_11_code 16 = .ok (.iload_n 0, 1) := by decide +kernel
theorem d_39_11_17 : decode prog_39_method_11_code 17 = .ok (.ireturn, 1) := by decide +kernel
def y_jPre_checkIndex : MethodName := ⟨"jdk/internal/util/Preconditions", "checkIndex", "(IILjava/util/function/BiFunction;)I"⟩
set_option maxRecDepth 100000 in
set_option maxHeartbeats 4000000 in
theorem c_jPre_checkIndex (l : Launch) (D : va_G) (g : Nat → ClassId) (ws : va_W) : q_mI l y_jPre_checkIndex prog_39_method_11_code 3 (.int) 1 0 0 D g [.int 0, .int 3, .null] ws (fun r u => 0 = r ∧ ws = u) := by
  intro sz
  refine q_into (by decide) (Nat.le_of_ble_eq_true rfl) ?_
  intro p e s m below meth c ls hsz C0 V hl
  have hx := C0.1
  have hb := C0.2.1
  have hl : lv_has ls 3 [(0, .int 0), (1, .int 3), (2, .null)] := hl
  refine lv_iload_n hx hb d_39_11_0 rfl (lv_at hl 0 rfl) ?_
  refine lv_if_lt (tgt := 9) hx hb d_39_11_1 (by decide) (fun c1 => absurd c1 (by decide)) (fun c1 => ?_)
  refine lv_iload_n hx hb d_39_11_4 rfl (lv_at hl 0 rfl) ?_
  refine lv_iload_n hx hb d_39_11_5 rfl (lv_at hl 1 rfl) ?_
  refine lv_icmp_lt (tgt := 16) hx hb d_39_11_6 (by decide) (fun c2 => ?_) (fun c2 => absurd (by decide) c2)
  refine lv_iload_n hx hb d_39_11_16 rfl (lv_at hl 0 rfl) ?_
  exact q_reti C0 V (⟨rfl, rfl⟩) d_39_11_17
set_option maxRecDepth 100000 in
set_option maxHeartbeats 4000000 in
theorem c_jPre_checkIndex_2 (l : Launch) (D : va_G) (g : Nat → ClassId) (ws : va_W) (qq1 : Nat) : q_mI l y_jPre_checkIndex prog_39_method_11_code 3 (.int) 1 0 0 D g [.int 0, .int 3, .ref qq1] ws (fun r u => 0 = r ∧ ws = u) := by
  intro sz
  refine q_into (by decide) (Nat.le_of_ble_eq_true rfl) ?_
  intro p e s m below meth c ls hsz C0 V hl
  have hx := C0.1
  have hb := C0.2.1
  have hl : lv_has ls 3 [(0, .int 0), (1, .int 3), (2, .ref qq1)] := hl
  refine lv_iload_n hx hb d_39_11_0 rfl (lv_at hl 0 rfl) ?_
  refine lv_if_lt (tgt := 9) hx hb d_39_11_1 (by decide) (fun c1 => absurd c1 (by decide)) (fun c1 => ?_)
  refine lv_iload_n hx hb d_39_11_4 rfl (lv_at hl 0 rfl) ?_
  refine lv_iload_n hx hb d_39_11_5 rfl (lv_at hl 1 rfl) ?_
  refine lv_icmp_lt (tgt := 16) hx hb d_39_11_6 (by decide) (fun c2 => ?_) (fun c2 => absurd (by decide) c2)
  refine lv_iload_n hx hb d_39_11_16 rfl (lv_at hl 0 rfl) ?_
  exact q_reti C0 V (⟨rfl, rfl⟩) d_39_11_17
theorem d_31_155_0 : decode prog_31_method_155_code 0 = .ok (.iload_n 0, 1) := by decide +kernel
theorem d_31_155_1 : decode prog_31_method_155_code 1 = .ok (.iload_n 1, 1) := by decide +kernel
theorem d_31_155_2 : decode prog_31_method_155_code 2 = .ok (.getstatic 1053, 3) := by decide +kernel
theorem w_679 : (Cond.fieldLink "java/lang/String" (1053 : Nat) "jdk/internal/util/Preconditions" "SIOOBE_FORMATTER" "Ljava/util/function/BiFunction;") ∈ q_tbl := q_of 679 (by decide +kernel) (by decide +kernel)
theorem d_31_155_5 : decode prog_31_method_155_code 5 = .ok (.invokestatic 1059, 3) := by decide +kernel
theorem w_683 : (Cond.code ({ cls := "jdk/internal/util/Preconditions", name := "checkIndex", desc := "(IILjava/util/function/BiFunction;)I" } : MethodName) prog_39_method_11_code (3 : Nat) (some .int)) ∈ q_tbl := q_of 683 (by decide +kernel) (by decide +kernel)
theorem w_27 : (Cond.initialized "jdk/internal/util/Preconditions") ∈ q_tbl := q_of 27 (by decide +kernel) (by decide +kernel)
theorem w_681 : (Cond.methodLink "java/lang/String" (1059 : Nat) ({ cls := "jdk/internal/util/Preconditions", name := "checkIndex", desc := "(IILjava/util/function/BiFunction;)I" } : MethodName)) ∈ q_tbl := q_of 681 (by decide +kernel) (by decide +kernel)
theorem w_682 : (Cond.static ({ cls := "jdk/internal/util/Preconditions", name := "checkIndex", desc := "(IILjava/util/function/BiFunction;)I" } : MethodName)) ∈ q_tbl := q_of 682 (by decide +kernel) (by decide +kernel)
theorem LS_jStr_1059 : q_LS "java/lang/String" 1059 y_jPre_checkIndex prog_39_method_11_code 3 (some .int) 3 := ⟨w_683, w_27, w_681, w_682, ⟨by decide, by decide, by decide +kernel⟩⟩
theorem d_31_155_8 : decode prog_31_method_155_code 8 = .ok (.pop, 1) := by decide +kernel
theorem d_31_155_9 : decode prog_31_method_155_code 9 = .ok (.return_, 1) := by decide +kernel
def y_jStr_checkIndex : MethodName := ⟨"java/lang/String", "checkIndex", "(II)V"⟩
set_option maxRecDepth 100000 in
set_option maxHeartbeats 4000000 in
theorem c_jStr_checkIndex (l : Launch) (D : va_G) (g : Nat → ClassId) (ws : va_W) : q_mV l y_jStr_checkIndex prog_31_method_155_code 2 2 0 0 D g [.int 0, .int 3] ws (fun u => ws = u) := by
  intro sz
  refine q_into (by decide) (Nat.le_of_ble_eq_true rfl) ?_
  intro p e s m below meth c ls hsz C0 V hl
  have hx := C0.1
  have hb := C0.2.1
  have hl : lv_has ls 2 [(0, .int 0), (1, .int 3)] := hl
  refine lv_iload_n hx hb d_31_155_0 rfl (lv_at hl 0 rfl) ?_
  refine lv_iload_n hx hb d_31_155_1 rfl (lv_at hl 1 rfl) ?_
  refine q_sfmt C0 V rfl w_679 d_31_155_2 ?_ (fun t1 => ?_)
  ·
    refine q_goi V (q_runS (As := [.int 0, .int 3, .null]) (rest := []) (d := 1) (mc := 0) (ms := 0) C0 V rfl LS_jStr_1059 (c_jPre_checkIndex l D g ws _) rfl hl.1 rfl (Nat.le_of_ble_eq_true rfl) ⟨by decide, by decide⟩ ⟨Nat.le_of_ble_eq_true rfl, Nat.le_of_ble_eq_true rfl⟩ d_31_155_5) (fun v4 u3 H locs hp2 V => ?_)
    obtain ⟨rfl, rfl⟩ := hp2
    refine lv_pop hx hb d_31_155_8 rfl ?_
    exact q_retv C0 V (rfl) d_31_155_9
  ·
    refine q_goi V (q_runS (As := [.int 0, .int 3, .ref t1]) (rest := []) (d := 1) (mc := 0) (ms := 0) C0 V rfl LS_jStr_1059 (c_jPre_checkIndex_2 l D g ws t1 _) rfl hl.1 rfl (Nat.le_of_ble_eq_true rfl) ⟨by decide, by decide⟩ ⟨Nat.le_of_ble_eq_true rfl, Nat.le_of_ble_eq_true rfl⟩ d_31_155_5) (fun v8 u7 H locs hp6 V => ?_)
    obtain ⟨rfl, rfl⟩ := hp6
    refine lv_pop hx hb d_31_155_8 rfl ?_
    exact q_retv C0 V (rfl) d_31_155_9
theorem d_33_2_0 : decode prog_33_method_2_code 0 = .ok (.iload_n 1, 1) := by decide +kernel
theorem d_33_2_1 : decode prog_33_method_2_code 1 = .ok (.aload_n 0, 1) := by decide +kernel
theorem d_33_2_2 : decode prog_33_method_2_code 2 = .ok (.arraylength, 1) := by decide +kernel
theorem d_33_2_3 : decode prog_33_method_2_code 3 = .ok (.invokestatic 9, 3) := by decide +kernel
theorem w_678 : (Cond.code ({ cls := "java/lang/String", name := "checkIndex", desc := "(II)V" } : MethodName) prog_31_method_155_code (2 : Nat) (none : Option ClassFile.FieldType)) ∈ q_tbl := q_of 678 (by decide +kernel) (by decide +kernel)
theorem w_676 : (Cond.methodLink "java/lang/StringLatin1" (9 : Nat) ({ cls := "java/lang/String", name := "checkIndex", desc := "(II)V" } : MethodName)) ∈ q_tbl := q_of 676 (by decide +kernel) (by decide +kernel)
theorem w_677 : (Cond.static ({ cls := "java/lang/String", name := "checkIndex", desc := "(II)V" } : MethodName)) ∈ q_tbl := q_of 677 (by decide +kernel) (by decide +kernel)
theorem LS_jLat_9 : q_LS "java/lang/StringLatin1" 9 y_jStr_checkIndex prog_31_method_155_code 2 none 2 := ⟨w_678, w_25, w_676, w_677, ⟨by decide, by decide, by decide +kernel⟩⟩
theorem d_33_2_6 : decode prog_33_method_2_code 6 = .ok (.aload_n 0, 1) := by decide +kernel
theorem d_33_2_7 : decode prog_33_method_2_code 7 = .ok (.iload_n 1, 1) := by decide +kernel
theorem d_33_2_8 : decode prog_33_method_2_code 8 = .ok (.baload, 1) := by decide +kernel
theorem d_33_2_9 : decode prog_33_method_2_code 9 = .ok (.sipush 255, 3) := by decide +kernel
theorem d_33_2_12 : decode prog_33_method_2_code 12 = .ok (.iand, 1) := by decide +kernel
theorem d_33_2_13 : decode prog_33_method_2_code 13 = .ok (.i2c, 1) := by decide +kernel
theorem d_33_2_14 : decode prog_33_method_2_code 14 = .ok (.ireturn, 1) := by decide +kernel
def y_jLat_charAt : MethodName := ⟨"java/lang/StringLatin1", "charAt", "([BI)C"⟩
set_option maxRecDepth 100000 in
set_option maxHeartbeats 4000000 in
theorem c_jLat_charAt (l : Launch) (D : va_G) (g : Nat → ClassId) (ws : va_W) : q_mI l y_jLat_charAt prog_33_method_2_code 2 (.char) 3 0 0 D g [.ref (g (9 + 2 * 26)), .int 0] ws (fun r u => 48 = r ∧ ws = u) := by
  intro sz
  refine q_into (by decide) (Nat.le_of_ble_eq_true rfl) ?_
  intro p e s m below meth c ls hsz C0 V hl
  have hx := C0.1
  have hb := C0.2.1
  have hl : lv_has ls 2 [(0, .ref (g (9 + 2 * 26))), (1, .int 0)] := hl
  refine lv_iload_n hx hb d_33_2_0 rfl (lv_at hl 1 rfl) ?_
  refine lv_aload_n hx hb d_33_2_1 rfl (lv_at hl 0 rfl) ?_
  refine q_slen (i := 26) (v := 3) C0 V rfl (by decide) d_33_2_2 ?_
  refine q_gov V (q_runS (As := [.int 0, .int 3]) (rest := []) (d := 2) (mc := 0) (ms := 0) C0 V rfl LS_jLat_9 (c_jStr_checkIndex l D g ws _) rfl hl.1 rfl (Nat.le_of_ble_eq_true rfl) ⟨by decide, by decide⟩ ⟨Nat.le_of_ble_eq_true rfl, Nat.le_of_ble_eq_true rfl⟩ d_33_2_3) (fun u2 H locs hp1 V => ?_)
  obtain rfl := hp1
  refine lv_aload_n hx hb d_33_2_6 rfl (lv_at hl 0 rfl) ?_
  refine lv_iload_n hx hb d_33_2_7 rfl (lv_at hl 1 rfl) ?_
  refine q_sbal (i := 26) (v := 48) C0 V rfl (by unfold vp_in; decide) rfl d_33_2_8 ?_
  refine lv_sipush (v := 255) hx hb d_33_2_9 (by decide) ?_
  refine lv_iand hx hb d_33_2_12 ?_
  refine q_ti (v := 48) (by decide) ?_
  refine lv_i2c hx hb d_33_2_13 rfl ?_
  refine q_ti (v := 48) (by decide) ?_
  exact q_retn C0 V (rfl) (⟨rfl, rfl⟩) d_33_2_14
theorem d_31_56_0 : decode prog_31_method_56_code 0 = .ok (.aload_n 0, 1) := by decide +kernel
theorem d_31_56_1 : decode prog_31_method_56_code 1 = .ok (.invokevirtual 492, 3) := by decide +kernel
theorem w_672 : (Cond.code ({ cls := "java/lang/String", name := "isLatin1", desc := "()Z" } : MethodName) prog_31_method_154_code (1 : Nat) (some .boolean)) ∈ q_tbl := q_of 672 (by decide +kernel) (by decide +kernel)
theorem w_669 : (Cond.methodLink "java/lang/String" (492 : Nat) ({ cls := "java/lang/String", name := "isLatin1", desc := "()Z" } : MethodName)) ∈ q_tbl := q_of 669 (by decide +kernel) (by decide +kernel)
theorem w_670 : (Cond.instanceMethod ({ cls := "java/lang/String", name := "isLatin1", desc := "()Z" } : MethodName)) ∈ q_tbl := q_of 670 (by decide +kernel) (by decide +kernel)
theorem w_671 : (Cond.selects "java/lang/String" ({ cls := "java/lang/String", name := "isLatin1", desc := "()Z" } : MethodName) ({ cls := "java/lang/String", name := "isLatin1", desc := "()Z" } : MethodName)) ∈ q_tbl := q_of 671 (by decide +kernel) (by decide +kernel)
theorem LV_jStr_492 : q_LV "java/lang/String" 492 y_jStr_isLatin1 prog_31_method_154_code 1 (some .boolean) 0 := ⟨w_672, w_25, w_669, w_670, w_671, ⟨by decide, by decide, by decide +kernel⟩⟩
theorem d_31_56_4 : decode prog_31_method_56_code 4 = .ok (.ifCond .eq 12, 3) := by decide +kernel
theorem d_31_56_7 : decode prog_31_method_56_code 7 = .ok (.aload_n 0, 1) := by decide +kernel
theorem d_31_56_8 : decode prog_31_method_56_code 8 = .ok (.getfield 9, 3) := by decide +kernel
theorem d_31_56_11 : decode prog_31_method_56_code 11 = .ok (.iload_n 1, 1) := by decide +kernel
theorem d_31_56_12 : decode prog_31_method_56_code 12 = .ok (.invokestatic 495, 3) := by decide +kernel
theorem w_675 : (Cond.code ({ cls := "java/lang/StringLatin1", name := "charAt", desc := "([BI)C" } : MethodName) prog_33_method_2_code (2 : Nat) (some .char)) ∈ q_tbl := q_of 675 (by decide +kernel) (by decide +kernel)
theorem w_26 : (Cond.initialized "java/lang/StringLatin1") ∈ q_tbl := q_of 26 (by decide +kernel) (by decide +kernel)
theorem w_673 : (Cond.methodLink "java/lang/String" (495 : Nat) ({ cls := "java/lang/StringLatin1", name := "charAt", desc := "([BI)C" } : MethodName)) ∈ q_tbl := q_of 673 (by decide +kernel) (by decide +kernel)
theorem w_674 : (Cond.static ({ cls := "java/lang/StringLatin1", name := "charAt", desc := "([BI)C" } : MethodName)) ∈ q_tbl := q_of 674 (by decide +kernel) (by decide +kernel)
theorem LS_jStr_495 : q_LS "java/lang/String" 495 y_jLat_charAt prog_33_method_2_code 2 (some .char) 2 := ⟨w_675, w_26, w_673, w_674, ⟨by decide, by decide, by decide +kernel⟩⟩
theorem d_31_56_15 : decode prog_31_method_56_code 15 = .ok (.ireturn, 1) := by decide +kernel
def y_jStr_charAt : MethodName := ⟨"java/lang/String", "charAt", "(I)C"⟩
set_option maxRecDepth 100000 in
set_option maxHeartbeats 4000000 in
theorem c_jStr_charAt (l : Launch) (D : va_G) (g : Nat → ClassId) (ws : va_W) : q_mI l y_jStr_charAt prog_31_method_56_code 2 (.char) 4 0 0 D g [.ref (g (8 + 2 * 26)), .int 0] ws (fun r u => 48 = r ∧ ws = u) := by
  intro sz
  refine q_into (by decide) (Nat.le_of_ble_eq_true rfl) ?_
  intro p e s m below meth c ls hsz C0 V hl
  have hx := C0.1
  have hb := C0.2.1
  have hl : lv_has ls 2 [(0, .ref (g (8 + 2 * 26))), (1, .int 0)] := hl
  refine lv_aload_n hx hb d_31_56_0 rfl (lv_at hl 0 rfl) ?_
  refine q_goi V (q_runVs (As := []) (rest := []) (d := 1) (mc := 0) (ms := 0) (i := 26) C0 V rfl LV_jStr_492 (c_jStr_isLatin1 l D g ws _) rfl rfl rfl hl.1 rfl (Nat.le_of_ble_eq_true rfl) ⟨by decide, by decide⟩ ⟨Nat.le_of_ble_eq_true rfl, Nat.le_of_ble_eq_true rfl⟩ d_31_56_1) (fun v3 u2 H locs hp1 V => ?_)
  obtain ⟨rfl, rfl⟩ := hp1
  refine lv_if_eq (tgt := 16) hx hb d_31_56_4 (by decide) (fun c5 => absurd c5 (by decide)) (fun c5 => ?_)
  refine lv_aload_n hx hb d_31_56_7 rfl (lv_at hl 0 rfl) ?_
  refine q_sval (i := 26) C0 V rfl rfl w_1018 d_31_56_8 ?_
  refine lv_iload_n hx hb d_31_56_11 rfl (lv_at hl 1 rfl) ?_
  refine q_goi V (q_runS (As := [.ref (g (9 + 2 * 26)), .int 0]) (rest := []) (d := 3) (mc := 0) (ms := 0) C0 V rfl LS_jStr_495 (c_jLat_charAt l D g ws _) rfl hl.1 rfl (Nat.le_of_ble_eq_true rfl) ⟨by decide, by decide⟩ ⟨Nat.le_of_ble_eq_true rfl, Nat.le_of_ble_eq_true rfl⟩ d_31_56_12) (fun v8 u7 H locs hp6 V => ?_)
  obtain ⟨rfl, rfl⟩ := hp6
  exact q_retn C0 V (rfl) (⟨rfl, rfl⟩) d_31_56_15
set_option maxRecDepth 100000 in
set_option maxHeartbeats 4000000 in
theorem c_jPre_checkIndex_3 (l : Launch) (D : va_G) (g : Nat → ClassId) (ws : va_W) : q_mI l y_jPre_checkIndex prog_39_method_11_code 3 (.int) 1 0 0 D g [.int 1, .int 3, .null] ws (fun r u => 1 = r ∧ ws = u) := by
  intro sz
  refine q_into (by decide) (Nat.le_of_ble_eq_true rfl) ?_
  intro p e s m below meth c ls hsz C0 V hl
  have hx := C0.1
  have hb := C0.2.1
  have hl : lv_has ls 3 [(0, .int 1), (1, .int 3), (2, .null)] := hl
  refine lv_iload_n hx hb d_39_11_0 rfl (lv_at hl 0 rfl) ?_
  refine lv_if_lt (tgt := 9) hx hb d_39_11_1 (by decide) (fun c1 => absurd c1 (by decide)) (fun c1 => ?_)
  refine lv_iload_n hx hb d_39_11_4 rfl (lv_at hl 0 rfl) ?_
  refine lv_iload_n hx hb d_39_11_5 rfl (lv_at hl 1 rfl) ?_
  refine lv_icmp_lt (tgt := 16) hx hb d_39_11_6 (by decide) (fun c2 => ?_) (fun c2 => absurd (by decide) c2)
  refine lv_iload_n hx hb d_39_11_16 rfl (lv_at hl 0 rfl) ?_
  exact q_reti C0 V (⟨rfl, rfl⟩) d_39_11_17
set_option maxRecDepth 100000 in
set_option maxHeartbeats 4000000 in
theorem c_jPre_checkIndex_4 (l : Launch) (D : va_G) (g : Nat → ClassId) (ws : va_W) (qq1 : Nat) : q_mI l y_jPre_checkIndex prog_39_method_11_code 3 (.int) 1 0 0 D g [.int 1, .int 3, .ref qq1] ws (fun r u => 1 = r ∧ ws = u) := by
  intro sz
  refine q_into (by decide) (Nat.le_of_ble_eq_true rfl) ?_
  intro p e s m below meth c ls hsz C0 V hl
  have hx := C0.1
  have hb := C0.2.1
  have hl : lv_has ls 3 [(0, .int 1), (1, .int 3), (2, .ref qq1)] := hl
  refine lv_iload_n hx hb d_39_11_0 rfl (lv_at hl 0 rfl) ?_
  refine lv_if_lt (tgt := 9) hx hb d_39_11_1 (by decide) (fun c1 => absurd c1 (by decide)) (fun c1 => ?_)
  refine lv_iload_n hx hb d_39_11_4 rfl (lv_at hl 0 rfl) ?_
  refine lv_iload_n hx hb d_39_11_5 rfl (lv_at hl 1 rfl) ?_
  refine lv_icmp_lt (tgt := 16) hx hb d_39_11_6 (by decide) (fun c2 => ?_) (fun c2 => absurd (by decide) c2)
  refine lv_iload_n hx hb d_39_11_16 rfl (lv_at hl 0 rfl) ?_
  exact q_reti C0 V (⟨rfl, rfl⟩) d_39_11_17
set_option maxRecDepth 100000 in
set_option maxHeartbeats 4000000 in
theorem c_jStr_checkIndex_2 (l : Launch) (D : va_G) (g : Nat → ClassId) (ws : va_W) : q_mV l y_jStr_checkIndex prog_31_method_155_code 2 2 0 0 D g [.int 1, .int 3] ws (fun u => ws = u) := by
  intro sz
  refine q_into (by decide) (Nat.le_of_ble_eq_true rfl) ?_
  intro p e s m below meth c ls hsz C0 V hl
  have hx := C0.1
  have hb := C0.2.1
  have hl : lv_has ls 2 [(0, .int 1), (1, .int 3)] := hl
  refine lv_iload_n hx hb d_31_155_0 rfl (lv_at hl 0 rfl) ?_
  refine lv_iload_n hx hb d_31_155_1 rfl (lv_at hl 1 rfl) ?_
  refine q_sfmt C0 V rfl w_679 d_31_155_2 ?_ (fun t1 => ?_)
  ·
    refine q_goi V (q_runS (As := [.int 1, .int 3, .null]) (rest := []) (d := 1) (mc := 0) (ms := 0) C0 V rfl LS_jStr_1059 (c_jPre_checkIndex_3 l D g ws _) rfl hl.1 rfl (Nat.le_of_ble_eq_true rfl) ⟨by decide, by decide⟩ ⟨Nat.le_of_ble_eq_true rfl, Nat.le_of_ble_eq_true rfl⟩ d_31_155_5) (fun v4 u3 H locs hp2 V => ?_)
    obtain ⟨rfl, rfl⟩ := hp2
    refine lv_pop hx hb d_31_155_8 rfl ?_
    exact q_retv C0 V (rfl) d_31_155_9
  ·
    refine q_goi V (q_runS (As := [.int 1, .int 3, .ref t1]) (rest := []) (d := 1) (mc := 0) (ms := 0) C0 V rfl LS_jStr_1059 (c_jPre_checkIndex_4 l D g ws t1 _) rfl hl.1 rfl (Nat.le_of_ble_eq_true rfl) ⟨by decide, by decide⟩ ⟨Nat.le_of_ble_eq_true rfl, Nat.le_of_ble_eq_true rfl⟩ d_31_155_5) (fun v8 u7 H locs hp6 V => ?_)
    obtain ⟨rfl, rfl⟩ := hp6
    refine lv_pop hx hb d_31_155_8 rfl ?_
    exact q_retv C0 V (rfl) d_31_155_9
set_option maxRecDepth 100000 in
set_option maxHeartbeats 4000000 in
theorem c_jLat_charAt_2 (l : Launch) (D : va_G) (g : Nat → ClassId) (ws : va_W) : q_mI l y_jLat_charAt prog_33_method_2_code 2 (.char) 3 0 0 D g [.ref (g (9 + 2 * 26)), .int 1] ws (fun r u => 46 = r ∧ ws = u) := by
  intro sz
  refine q_into (by decide) (Nat.le_of_ble_eq_true rfl) ?_
  intro p e s m below meth c ls hsz C0 V hl
  have hx := C0.1
  have hb := C0.2.1
  have hl : lv_has ls 2 [(0, .ref (g (9 + 2 * 26))), (1, .int 1)] := hl
  refine lv_iload_n hx hb d_33_2_0 rfl (lv_at hl 1 rfl) ?_
  refine lv_aload_n hx hb d_33_2_1 rfl (lv_at hl 0 rfl) ?_
  refine q_slen (i := 26) (v := 3) C0 V rfl (by decide) d_33_2_2 ?_
  refine q_gov V (q_runS (As := [.int 1, .int 3]) (rest := []) (d := 2) (mc := 0) (ms := 0) C0 V rfl LS_jLat_9 (c_jStr_checkIndex_2 l D g ws _) rfl hl.1 rfl (Nat.le_of_ble_eq_true rfl) ⟨by decide, by decide⟩ ⟨Nat.le_of_ble_eq_true rfl, Nat.le_of_ble_eq_true rfl⟩ d_33_2_3) (fun u2 H locs hp1 V => ?_)
  obtain rfl := hp1
  refine lv_aload_n hx hb d_33_2_6 rfl (lv_at hl 0 rfl) ?_
  refine lv_iload_n hx hb d_33_2_7 rfl (lv_at hl 1 rfl) ?_
  refine q_sbal (i := 26) (v := 46) C0 V rfl (by unfold vp_in; decide) rfl d_33_2_8 ?_
  refine lv_sipush (v := 255) hx hb d_33_2_9 (by decide) ?_
  refine lv_iand hx hb d_33_2_12 ?_
  refine q_ti (v := 46) (by decide) ?_
  refine lv_i2c hx hb d_33_2_13 rfl ?_
  refine q_ti (v := 46) (by decide) ?_
  exact q_retn C0 V (rfl) (⟨rfl, rfl⟩) d_33_2_14
set_option maxRecDepth 100000 in
set_option maxHeartbeats 4000000 in
theorem c_jStr_charAt_2 (l : Launch) (D : va_G) (g : Nat → ClassId) (ws : va_W) : q_mI l y_jStr_charAt prog_31_method_56_code 2 (.char) 4 0 0 D g [.ref (g (8 + 2 * 26)), .int 1] ws (fun r u => 46 = r ∧ ws = u) := by
  intro sz
  refine q_into (by decide) (Nat.le_of_ble_eq_true rfl) ?_
  intro p e s m below meth c ls hsz C0 V hl
  have hx := C0.1
  have hb := C0.2.1
  have hl : lv_has ls 2 [(0, .ref (g (8 + 2 * 26))), (1, .int 1)] := hl
  refine lv_aload_n hx hb d_31_56_0 rfl (lv_at hl 0 rfl) ?_
  refine q_goi V (q_runVs (As := []) (rest := []) (d := 1) (mc := 0) (ms := 0) (i := 26) C0 V rfl LV_jStr_492 (c_jStr_isLatin1 l D g ws _) rfl rfl rfl hl.1 rfl (Nat.le_of_ble_eq_true rfl) ⟨by decide, by decide⟩ ⟨Nat.le_of_ble_eq_true rfl, Nat.le_of_ble_eq_true rfl⟩ d_31_56_1) (fun v3 u2 H locs hp1 V => ?_)
  obtain ⟨rfl, rfl⟩ := hp1
  refine lv_if_eq (tgt := 16) hx hb d_31_56_4 (by decide) (fun c5 => absurd c5 (by decide)) (fun c5 => ?_)
  refine lv_aload_n hx hb d_31_56_7 rfl (lv_at hl 0 rfl) ?_
  refine q_sval (i := 26) C0 V rfl rfl w_1018 d_31_56_8 ?_
  refine lv_iload_n hx hb d_31_56_11 rfl (lv_at hl 1 rfl) ?_
  refine q_goi V (q_runS (As := [.ref (g (9 + 2 * 26)), .int 1]) (rest := []) (d := 3) (mc := 0) (ms := 0) C0 V rfl LS_jStr_495 (c_jLat_charAt_2 l D g ws _) rfl hl.1 rfl (Nat.le_of_ble_eq_true rfl) ⟨by decide, by decide⟩ ⟨Nat.le_of_ble_eq_true rfl, Nat.le_of_ble_eq_true rfl⟩ d_31_56_12) (fun v8 u7 H locs hp6 V => ?_)
  obtain ⟨rfl, rfl⟩ := hp6
  exact q_retn C0 V (rfl) (⟨rfl, rfl⟩) d_31_56_15
set_option maxRecDepth 100000 in
set_option maxHeartbeats 4000000 in
theorem c_jPre_checkIndex_5 (l : Launch) (D : va_G) (g : Nat → ClassId) (ws : va_W) : q_mI l y_jPre_checkIndex prog_39_method_11_code 3 (.int) 1 0 0 D g [.int 2, .int 3, .null] ws (fun r u => 2 = r ∧ ws = u) := by
  intro sz
  refine q_into (by decide) (Nat.le_of_ble_eq_true rfl) ?_
  intro p e s m below meth c ls hsz C0 V hl
  have hx := C0.1
  have hb := C0.2.1
  have hl : lv_has ls 3 [(0, .int 2), (1, .int 3), (2, .null)] := hl
  refine lv_iload_n hx hb d_39_11_0 rfl (lv_at hl 0 rfl) ?_
  refine lv_if_lt (tgt := 9) hx hb d_39_11_1 (by decide) (fun c1 => absurd c1 (by decide)) (fun c1 => ?_)
  refine lv_iload_n hx hb d_39_11_4 rfl (lv_at hl 0 rfl) ?_
  refine lv_iload_n hx hb d_39_11_5 rfl (lv_at hl 1 rfl) ?_
  refine lv_icmp_lt (tgt := 16) hx hb d_39_11_6 (by decide) (fun c2 => ?_) (fun c2 => absurd (by decide) c2)
  refine lv_iload_n hx hb d_39_11_16 rfl (lv_at hl 0 rfl) ?_
  exact q_reti C0 V (⟨rfl, rfl⟩) d_39_11_17
set_option maxRecDepth 100000 in
set_option maxHeartbeats 4000000 in
theorem c_jPre_checkIndex_6 (l : Launch) (D : va_G) (g : Nat → ClassId) (ws : va_W) (qq1 : Nat) : q_mI l y_jPre_checkIndex prog_39_method_11_code 3 (.int) 1 0 0 D g [.int 2, .int 3, .ref qq1] ws (fun r u => 2 = r ∧ ws = u) := by
  intro sz
  refine q_into (by decide) (Nat.le_of_ble_eq_true rfl) ?_
  intro p e s m below meth c ls hsz C0 V hl
  have hx := C0.1
  have hb := C0.2.1
  have hl : lv_has ls 3 [(0, .int 2), (1, .int 3), (2, .ref qq1)] := hl
  refine lv_iload_n hx hb d_39_11_0 rfl (lv_at hl 0 rfl) ?_
  refine lv_if_lt (tgt := 9) hx hb d_39_11_1 (by decide) (fun c1 => absurd c1 (by decide)) (fun c1 => ?_)
  refine lv_iload_n hx hb d_39_11_4 rfl (lv_at hl 0 rfl) ?_
  refine lv_iload_n hx hb d_39_11_5 rfl (lv_at hl 1 rfl) ?_
  refine lv_icmp_lt (tgt := 16) hx hb d_39_11_6 (by decide) (fun c2 => ?_) (fun c2 => absurd (by decide) c2)
  refine lv_iload_n hx hb d_39_11_16 rfl (lv_at hl 0 rfl) ?_
  exact q_reti C0 V (⟨rfl, rfl⟩) d_39_11_17
set_option maxRecDepth 100000 in
set_option maxHeartbeats 4000000 in
theorem c_jStr_checkIndex_3 (l : Launch) (D : va_G) (g : Nat → ClassId) (ws : va_W) : q_mV l y_jStr_checkIndex prog_31_method_155_code 2 2 0 0 D g [.int 2, .int 3] ws (fun u => ws = u) := by
  intro sz
  refine q_into (by decide) (Nat.le_of_ble_eq_true rfl) ?_
  intro p e s m below meth c ls hsz C0 V hl
  have hx := C0.1
  have hb := C0.2.1
  have hl : lv_has ls 2 [(0, .int 2), (1, .int 3)] := hl
  refine lv_iload_n hx hb d_31_155_0 rfl (lv_at hl 0 rfl) ?_
  refine lv_iload_n hx hb d_31_155_1 rfl (lv_at hl 1 rfl) ?_
  refine q_sfmt C0 V rfl w_679 d_31_155_2 ?_ (fun t1 => ?_)
  ·
    refine q_goi V (q_runS (As := [.int 2, .int 3, .null]) (rest := []) (d := 1) (mc := 0) (ms := 0) C0 V rfl LS_jStr_1059 (c_jPre_checkIndex_5 l D g ws _) rfl hl.1 rfl (Nat.le_of_ble_eq_true rfl) ⟨by decide, by decide⟩ ⟨Nat.le_of_ble_eq_true rfl, Nat.le_of_ble_eq_true rfl⟩ d_31_155_5) (fun v4 u3 H locs hp2 V => ?_)
    obtain ⟨rfl, rfl⟩ := hp2
    refine lv_pop hx hb d_31_155_8 rfl ?_
    exact q_retv C0 V (rfl) d_31_155_9
  ·
    refine q_goi V (q_runS (As := [.int 2, .int 3, .ref t1]) (rest := []) (d := 1) (mc := 0) (ms := 0) C0 V rfl LS_jStr_1059 (c_jPre_checkIndex_6 l D g ws t1 _) rfl hl.1 rfl (Nat.le_of_ble_eq_true rfl) ⟨by decide, by decide⟩ ⟨Nat.le_of_ble_eq_true rfl, Nat.le_of_ble_eq_true rfl⟩ d_31_155_5) (fun v8 u7 H locs hp6 V => ?_)
    obtain ⟨rfl, rfl⟩ := hp6
    refine lv_pop hx hb d_31_155_8 rfl ?_
    exact q_retv C0 V (rfl) d_31_155_9
set_option maxRecDepth 100000 in
set_option maxHeartbeats 4000000 in
theorem c_jLat_charAt_3 (l : Launch) (D : va_G) (g : Nat → ClassId) (ws : va_W) : q_mI l y_jLat_charAt prog_33_method_2_code 2 (.char) 3 0 0 D g [.ref (g (9 + 2 * 26)), .int 2] ws (fun r u => 48 = r ∧ ws = u) := by
  intro sz
  refine q_into (by decide) (Nat.le_of_ble_eq_true rfl) ?_
  intro p e s m below meth c ls hsz C0 V hl
  have hx := C0.1
  have hb := C0.2.1
  have hl : lv_has ls 2 [(0, .ref (g (9 + 2 * 26))), (1, .int 2)] := hl
  refine lv_iload_n hx hb d_33_2_0 rfl (lv_at hl 1 rfl) ?_
  refine lv_aload_n hx hb d_33_2_1 rfl (lv_at hl 0 rfl) ?_
  refine q_slen (i := 26) (v := 3) C0 V rfl (by decide) d_33_2_2 ?_
  refine q_gov V (q_runS (As := [.int 2, .int 3]) (rest := []) (d := 2) (mc := 0) (ms := 0) C0 V rfl LS_jLat_9 (c_jStr_checkIndex_3 l D g ws _) rfl hl.1 rfl (Nat.le_of_ble_eq_true rfl) ⟨by decide, by decide⟩ ⟨Nat.le_of_ble_eq_true rfl, Nat.le_of_ble_eq_true rfl⟩ d_33_2_3) (fun u2 H locs hp1 V => ?_)
  obtain rfl := hp1
  refine lv_aload_n hx hb d_33_2_6 rfl (lv_at hl 0 rfl) ?_
  refine lv_iload_n hx hb d_33_2_7 rfl (lv_at hl 1 rfl) ?_
  refine q_sbal (i := 26) (v := 48) C0 V rfl (by unfold vp_in; decide) rfl d_33_2_8 ?_
  refine lv_sipush (v := 255) hx hb d_33_2_9 (by decide) ?_
  refine lv_iand hx hb d_33_2_12 ?_
  refine q_ti (v := 48) (by decide) ?_
  refine lv_i2c hx hb d_33_2_13 rfl ?_
  refine q_ti (v := 48) (by decide) ?_
  exact q_retn C0 V (rfl) (⟨rfl, rfl⟩) d_33_2_14
set_option maxRecDepth 100000 in
set_option maxHeartbeats 4000000 in
theorem c_jStr_charAt_3 (l : Launch) (D : va_G) (g : Nat → ClassId) (ws : va_W) : q_mI l y_jStr_charAt prog_31_method_56_code 2 (.char) 4 0 0 D g [.ref (g (8 + 2 * 26)), .int 2] ws (fun r u => 48 = r ∧ ws = u) := by
  intro sz
  refine q_into (by decide) (Nat.le_of_ble_eq_true rfl) ?_
  intro p e s m below meth c ls hsz C0 V hl
  have hx := C0.1
  have hb := C0.2.1
  have hl : lv_has ls 2 [(0, .ref (g (8 + 2 * 26))), (1, .int 2)] := hl
  refine lv_aload_n hx hb d_31_56_0 rfl (lv_at hl 0 rfl) ?_
  refine q_goi V (q_runVs (As := []) (rest := []) (d := 1) (mc := 0) (ms := 0) (i := 26) C0 V rfl LV_jStr_492 (c_jStr_isLatin1 l D g ws _) rfl rfl rfl hl.1 rfl (Nat.le_of_ble_eq_true rfl) ⟨by decide, by decide⟩ ⟨Nat.le_of_ble_eq_true rfl, Nat.le_of_ble_eq_true rfl⟩ d_31_56_1) (fun v3 u2 H locs hp1 V => ?_)
  obtain ⟨rfl, rfl⟩ := hp1
  refine lv_if_eq (tgt := 16) hx hb d_31_56_4 (by decide) (fun c5 => absurd c5 (by decide)) (fun c5 => ?_)
  refine lv_aload_n hx hb d_31_56_7 rfl (lv_at hl 0 rfl) ?_
  refine q_sval (i := 26) C0 V rfl rfl w_1018 d_31_56_8 ?_
  refine lv_iload_n hx hb d_31_56_11 rfl (lv_at hl 1 rfl) ?_
  refine q_goi V (q_runS (As := [.ref (g (9 + 2 * 26)), .int 2]) (rest := []) (d := 3) (mc := 0) (ms := 0) C0 V rfl LS_jStr_495 (c_jLat_charAt_3 l D g ws _) rfl hl.1 rfl (Nat.le_of_ble_eq_true rfl) ⟨by decide, by decide⟩ ⟨Nat.le_of_ble_eq_true rfl, Nat.le_of_ble_eq_true rfl⟩ d_31_56_12) (fun v8 u7 H locs hp6 V => ?_)
  obtain ⟨rfl, rfl⟩ := hp6
  exact q_retn C0 V (rfl) (⟨rfl, rfl⟩) d_31_56_15
theorem d_11_4_0 : decode prog_11_method_4_code 0 = .ok (.iconst 0, 1) := by decide +kernel
theorem d_11_4_1 : decode prog_11_method_4_code 1 = .ok (.istore_n 2, 1) := by decide +kernel
theorem d_11_4_2 : decode prog_11_method_4_code 2 = .ok (.iload_n 2, 1) := by decide +kernel
theorem d_11_4_3 : decode prog_11_method_4_code 3 = .ok (.aload_n 1, 1) := by decide +kernel
theorem d_11_4_4 : decode prog_11_method_4_code 4 = .ok (.invokevirtual 24, 3) := by decide +kernel
theorem w_658 : (Cond.code ({ cls := "java/lang/String", name := "length", desc := "()I" } : MethodName) prog_31_method_54_code (1 : Nat) (some .int)) ∈ q_tbl := q_of 658 (by decide +kernel) (by decide +kernel)
theorem w_1609 : (Cond.methodLink "NumberHouse$Sheet" (24 : Nat) ({ cls := "java/lang/String", name := "length", desc := "()I" } : MethodName)) ∈ q_tbl := q_of 1609 (by decide +kernel) (by decide +kernel)
theorem w_656 : (Cond.instanceMethod ({ cls := "java/lang/String", name := "length", desc := "()I" } : MethodName)) ∈ q_tbl := q_of 656 (by decide +kernel) (by decide +kernel)
theorem w_657 : (Cond.selects "java/lang/String" ({ cls := "java/lang/String", name := "length", desc := "()I" } : MethodName) ({ cls := "java/lang/String", name := "length", desc := "()I" } : MethodName)) ∈ q_tbl := q_of 657 (by decide +kernel) (by decide +kernel)
theorem LV_She_24 : q_LV "NumberHouse$Sheet" 24 y_jStr_length prog_31_method_54_code 1 (some .int) 0 := ⟨w_658, w_25, w_1609, w_656, w_657, ⟨by decide, by decide, by decide +kernel⟩⟩
theorem d_11_4_7 : decode prog_11_method_4_code 7 = .ok (.if_icmp .ge 18, 3) := by decide +kernel
theorem d_11_4_10 : decode prog_11_method_4_code 10 = .ok (.aload_n 0, 1) := by decide +kernel
theorem d_11_4_11 : decode prog_11_method_4_code 11 = .ok (.aload_n 1, 1) := by decide +kernel
theorem d_11_4_12 : decode prog_11_method_4_code 12 = .ok (.iload_n 2, 1) := by decide +kernel
theorem d_11_4_13 : decode prog_11_method_4_code 13 = .ok (.invokevirtual 30, 3) := by decide +kernel
theorem w_668 : (Cond.code ({ cls := "java/lang/String", name := "charAt", desc := "(I)C" } : MethodName) prog_31_method_56_code (2 : Nat) (some .char)) ∈ q_tbl := q_of 668 (by decide +kernel) (by decide +kernel)
theorem w_1610 : (Cond.methodLink "NumberHouse$Sheet" (30 : Nat) ({ cls := "java/lang/String", name := "charAt", desc := "(I)C" } : MethodName)) ∈ q_tbl := q_of 1610 (by decide +kernel) (by decide +kernel)
theorem w_666 : (Cond.instanceMethod ({ cls := "java/lang/String", name := "charAt", desc := "(I)C" } : MethodName)) ∈ q_tbl := q_of 666 (by decide +kernel) (by decide +kernel)
theorem w_667 : (Cond.selects "java/lang/String" ({ cls := "java/lang/String", name := "charAt", desc := "(I)C" } : MethodName) ({ cls := "java/lang/String", name := "charAt", desc := "(I)C" } : MethodName)) ∈ q_tbl := q_of 667 (by decide +kernel) (by decide +kernel)
theorem LV_She_30 : q_LV "NumberHouse$Sheet" 30 y_jStr_charAt prog_31_method_56_code 2 (some .char) 1 := ⟨w_668, w_25, w_1610, w_666, w_667, ⟨by decide, by decide, by decide +kernel⟩⟩
theorem d_11_4_16 : decode prog_11_method_4_code 16 = .ok (.invokevirtual 34, 3) := by decide +kernel
theorem d_11_4_19 : decode prog_11_method_4_code 19 = .ok (.iinc 2 1, 3) := by decide +kernel
theorem d_11_4_22 : decode prog_11_method_4_code 22 = .ok (.goto (-20), 3) := by decide +kernel
theorem d_11_4_25 : decode prog_11_method_4_code 25 = .ok (.return_, 1) := by decide +kernel
def y_She_addText : MethodName := ⟨"NumberHouse$Sheet", "addText", "(Ljava/lang/String;)V"⟩
set_option maxRecDepth 100000 in
set_option maxHeartbeats 4000000 in
theorem c_She_addText (l : Launch) (D : va_G) (g : Nat → ClassId) (ws : va_W) (kO0 kA1 qO0 qA1 : Nat) (hO0 : ws[kO0]? = (some (qO0, .inr (1, [.ref qA1, .int 11008, .int 0])) : Option (Nat × va_E))) (hA1 : ws[kA1]? = (some (qA1, .inl (g 1, 1376, .inr (.inl (fun _ => 0)))) : Option (Nat × va_E))) : q_mV l y_She_addText prog_11_method_4_code 3 5 0 0 D g [.ref qO0, .ref (g (8 + 2 * 26))] ws (fun u => ∃ (ex0 : Nat → Int64), q_un ws u [kO0, kA1] ∧ u[kO0]? = (some (qO0, .inr (1, [.ref qA1, .int 11008, .int (2 + 1)])) : Option (Nat × va_E)) ∧ u[kA1]? = (some (qA1, .inl (g 1, 1376, .inr (.inl ex0))) : Option (Nat × va_E))) := by
  intro sz
  refine q_into (by decide) (Nat.le_of_ble_eq_true rfl) ?_
  intro p e s m below meth c ls hsz C0 V hl
  have hx := C0.1
  have hb := C0.2.1
  have hl : lv_has ls 3 [(0, .ref qO0), (1, .ref (g (8 + 2 * 26)))] := hl
  have hF : q_un ws ws [kO0, kA1] := q_u0
  refine lv_iconst (v := 0) hx hb d_11_4_0 (by decide) ?_
  refine lv_istore_n (lv' := [(2, .int 0), (0, .ref qO0), (1, .ref (g (8 + 2 * 26)))]) hx hb d_11_4_1 rfl hl (by decide) rfl (fun ls hl => ?_)
  refine lv_iload_n hx hb d_11_4_2 rfl (lv_at hl 0 rfl) ?_
  refine lv_aload_n hx hb d_11_4_3 rfl (lv_at hl 2 rfl) ?_
  refine q_goi V (q_runVs (As := []) (rest := [.int 0]) (d := 2) (mc := 0) (ms := 0) (i := 26) C0 V rfl LV_She_24 (c_jStr_length l D g ws _) rfl rfl rfl hl.1 rfl (Nat.le_of_ble_eq_true rfl) ⟨by decide, by decide⟩ ⟨Nat.le_of_ble_eq_true rfl, Nat.le_of_ble_eq_true rfl⟩ d_11_4_4) (fun v3 u2 H locs hp1 V => ?_)
  obtain ⟨rfl, rfl⟩ := hp1
  refine lv_icmp_ge (tgt := 25) hx hb d_11_4_7 (by decide) (fun c5 => absurd c5 (by decide)) (fun c5 => ?_)
  refine lv_aload_n hx hb d_11_4_10 rfl (lv_at hl 1 rfl) ?_
  refine lv_aload_n hx hb d_11_4_11 rfl (lv_at hl 2 rfl) ?_
  refine lv_iload_n hx hb d_11_4_12 rfl (lv_at hl 0 rfl) ?_
  refine q_goi V (q_runVs (As := [.int 0]) (rest := [.ref qO0]) (d := 4) (mc := 0) (ms := 0) (i := 26) C0 V rfl LV_She_30 (c_jStr_charAt l D g ws _) rfl rfl rfl hl.1 rfl (Nat.le_of_ble_eq_true rfl) ⟨by decide, by decide⟩ ⟨Nat.le_of_ble_eq_true rfl, Nat.le_of_ble_eq_true rfl⟩ d_11_4_13) (fun v8 u7 H locs hp6 V => ?_)
  obtain ⟨rfl, rfl⟩ := hp6
  refine q_gov V (q_runV (As := [.int 48]) (rest := []) (d := 1) (mc := 0) (ms := 0) (ci := 1) C0 V rfl LV_She_34 (c_She_add_9 l D g ws kO0 kA1 qO0 qA1 hO0 hA1 _) rfl rfl hO0 rfl hl.1 rfl (Nat.le_of_ble_eq_true rfl) ⟨by decide, by decide⟩ ⟨Nat.le_of_ble_eq_true rfl, Nat.le_of_ble_eq_true rfl⟩ d_11_4_16) (fun u11 H locs hp10 V => ?_)
  obtain ⟨hg12, hO0, hA1⟩ := hp10
  replace hF := q_uc hF hg12 (q_sc (.head _) (q_sc (.tail _ (.head _)) (fun _ h => absurd h List.not_mem_nil)))
  refine lv_iinc (v := 1) (lv' := [(2, .int 1), (0, .ref qO0), (1, .ref (g (8 + 2 * 26)))]) hx hb d_11_4_19 hl (k := 0) rfl (by decide) (by decide) rfl (fun ls hl => ?_)
  refine lv_goto (tgt := 2) hx hb d_11_4_22 (by decide) ?_
  refine lv_iload_n hx hb d_11_4_2 rfl (lv_at hl 0 rfl) ?_
  refine lv_aload_n hx hb d_11_4_3 rfl (lv_at hl 2 rfl) ?_
  refine q_goi V (q_runVs (As := []) (rest := [.int 1]) (d := 2) (mc := 0) (ms := 0) (i := 26) C0 V rfl LV_She_24 (c_jStr_length l D g u11 _) rfl rfl rfl hl.1 rfl (Nat.le_of_ble_eq_true rfl) ⟨by decide, by decide⟩ ⟨Nat.le_of_ble_eq_true rfl, Nat.le_of_ble_eq_true rfl⟩ d_11_4_4) (fun v15 u14 H locs hp13 V => ?_)
  obtain ⟨rfl, rfl⟩ := hp13
  refine lv_icmp_ge (tgt := 25) hx hb d_11_4_7 (by decide) (fun c17 => absurd c17 (by decide)) (fun c17 => ?_)
  refine lv_aload_n hx hb d_11_4_10 rfl (lv_at hl 1 rfl) ?_
  refine lv_aload_n hx hb d_11_4_11 rfl (lv_at hl 2 rfl) ?_
  refine lv_iload_n hx hb d_11_4_12 rfl (lv_at hl 0 rfl) ?_
  refine q_goi V (q_runVs (As := [.int 1]) (rest := [.ref qO0]) (d := 4) (mc := 0) (ms := 0) (i := 26) C0 V rfl LV_She_30 (c_jStr_charAt_2 l D g u11 _) rfl rfl rfl hl.1 rfl (Nat.le_of_ble_eq_true rfl) ⟨by decide, by decide⟩ ⟨Nat.le_of_ble_eq_true rfl, Nat.le_of_ble_eq_true rfl⟩ d_11_4_13) (fun v20 u19 H locs hp18 V => ?_)
  obtain ⟨rfl, rfl⟩ := hp18
  refine q_gov V (q_runV (As := [.int 46]) (rest := []) (d := 1) (mc := 0) (ms := 0) (ci := 1) C0 V rfl LV_She_34 (c_She_add_10 l D g u11 kO0 kA1 qO0 qA1 hO0 hA1 _) rfl rfl hO0 rfl hl.1 rfl (Nat.le_of_ble_eq_true rfl) ⟨by decide, by decide⟩ ⟨Nat.le_of_ble_eq_true rfl, Nat.le_of_ble_eq_true rfl⟩ d_11_4_16) (fun u23 H locs hp22 V => ?_)
  obtain ⟨hg24, hO0, hA1⟩ := hp22
  replace hF := q_uc hF hg24 (q_sc (.head _) (q_sc (.tail _ (.head _)) (fun _ h => absurd h List.not_mem_nil)))
  refine lv_iinc (v := 2) (lv' := [(2, .int 2), (0, .ref qO0), (1, .ref (g (8 + 2 * 26)))]) hx hb d_11_4_19 hl (k := 0) rfl (by decide) (by decide) rfl (fun ls hl => ?_)
  refine lv_goto (tgt := 2) hx hb d_11_4_22 (by decide) ?_
  refine lv_iload_n hx hb d_11_4_2 rfl (lv_at hl 0 rfl) ?_
  refine lv_aload_n hx hb d_11_4_3 rfl (lv_at hl 2 rfl) ?_
  refine q_goi V (q_runVs (As := []) (rest := [.int 2]) (d := 2) (mc := 0) (ms := 0) (i := 26) C0 V rfl LV_She_24 (c_jStr_length l D g u23 _) rfl rfl rfl hl.1 rfl (Nat.le_of_ble_eq_true rfl) ⟨by decide, by decide⟩ ⟨Nat.le_of_ble_eq_true rfl, Nat.le_of_ble_eq_true rfl⟩ d_11_4_4) (fun v27 u26 H locs hp25 V => ?_)
  obtain ⟨rfl, rfl⟩ := hp25
  refine lv_icmp_ge (tgt := 25) hx hb d_11_4_7 (by decide) (fun c29 => absurd c29 (by decide)) (fun c29 => ?_)
  refine lv_aload_n hx hb d_11_4_10 rfl (lv_at hl 1 rfl) ?_
  refine lv_aload_n hx hb d_11_4_11 rfl (lv_at hl 2 rfl) ?_
  refine lv_iload_n hx hb d_11_4_12 rfl (lv_at hl 0 rfl) ?_
  refine q_goi V (q_runVs (As := [.int 2]) (rest := [.ref qO0]) (d := 4) (mc := 0) (ms := 0) (i := 26) C0 V rfl LV_She_30 (c_jStr_charAt_3 l D g u23 _) rfl rfl rfl hl.1 rfl (Nat.le_of_ble_eq_true rfl) ⟨by decide, by decide⟩ ⟨Nat.le_of_ble_eq_true rfl, Nat.le_of_ble_eq_true rfl⟩ d_11_4_13) (fun v32 u31 H locs hp30 V => ?_)
  obtain ⟨rfl, rfl⟩ := hp30
  refine q_gov V (q_runV (As := [.int 48]) (rest := []) (d := 1) (mc := 0) (ms := 0) (ci := 1) C0 V rfl LV_She_34 (c_She_add_11 l D g u23 kO0 kA1 qO0 qA1 2 (vp_updL (fun _ => 0) 0 11824) hO0 hA1 (q_Ile (x := 0) (y := 2) (by decide) (by decide) (by omega)) (q_Ile (x := 2) (y := 11007) (by decide) (by decide) (by omega)) _) rfl rfl hO0 rfl hl.1 rfl (Nat.le_of_ble_eq_true rfl) ⟨by decide, by decide⟩ ⟨Nat.le_of_ble_eq_true rfl, Nat.le_of_ble_eq_true rfl⟩ d_11_4_16) (fun u35 H locs hp34 V => ?_)
  obtain ⟨y36, hg37, hO0, hA1⟩ := hp34
  replace hF := q_uc hF hg37 (q_sc (.head _) (q_sc (.tail _ (.head _)) (fun _ h => absurd h List.not_mem_nil)))
  refine lv_iinc (v := 3) (lv' := [(2, .int 3), (0, .ref qO0), (1, .ref (g (8 + 2 * 26)))]) hx hb d_11_4_19 hl (k := 0) rfl (by decide) (by decide) rfl (fun ls hl => ?_)
  refine lv_goto (tgt := 2) hx hb d_11_4_22 (by decide) ?_
  refine lv_iload_n hx hb d_11_4_2 rfl (lv_at hl 0 rfl) ?_
  refine lv_aload_n hx hb d_11_4_3 rfl (lv_at hl 2 rfl) ?_
  refine q_goi V (q_runVs (As := []) (rest := [.int 3]) (d := 2) (mc := 0) (ms := 0) (i := 26) C0 V rfl LV_She_24 (c_jStr_length l D g u35 _) rfl rfl rfl hl.1 rfl (Nat.le_of_ble_eq_true rfl) ⟨by decide, by decide⟩ ⟨Nat.le_of_ble_eq_true rfl, Nat.le_of_ble_eq_true rfl⟩ d_11_4_4) (fun v40 u39 H locs hp38 V => ?_)
  obtain ⟨rfl, rfl⟩ := hp38
  refine lv_icmp_ge (tgt := 25) hx hb d_11_4_7 (by decide) (fun c42 => ?_) (fun c42 => absurd (by decide) c42)
  exact q_retv C0 V (⟨y36, hF, hO0, hA1⟩) d_11_4_25
theorem d_12_6_0 : decode prog_12_method_6_code 0 = .ok (.aload_n 0, 1) := by decide +kernel
theorem d_12_6_1 : decode prog_12_method_6_code 1 = .ok (.aload_n 1, 1) := by decide +kernel
theorem d_12_6_2 : decode prog_12_method_6_code 2 = .ok (.lload_n 2, 1) := by decide +kernel
theorem d_12_6_3 : decode prog_12_method_6_code 3 = .ok (.invokevirtual 118, 3) := by decide +kernel
theorem d_12_6_6 : decode prog_12_method_6_code 6 = .ok (.ifCond .eq 15, 3) := by decide +kernel
theorem d_12_6_21 : decode prog_12_method_6_code 21 = .ok (.iconst 0, 1) := by decide +kernel
theorem d_12_6_22 : decode prog_12_method_6_code 22 = .ok (.invokevirtual 27, 3) := by decide +kernel
theorem d_12_6_25 : decode prog_12_method_6_code 25 = .ok (.aload_n 1, 1) := by decide +kernel
theorem d_12_6_26 : decode prog_12_method_6_code 26 = .ok (.lload_n 2, 1) := by decide +kernel
theorem d_12_6_27 : decode prog_12_method_6_code 27 = .ok (.invokevirtual 124, 3) := by decide +kernel
theorem w_1603 : (Cond.methodLink "NumberHouse$Writer" (124 : Nat) ({ cls := "NumberHouse$Floats", name := "isNoNumber", desc := "(J)Z" } : MethodName)) ∈ q_tbl := q_of 1603 (by decide +kernel) (by decide +kernel)
theorem LV_Wri_124 : q_LV "NumberHouse$Writer" 124 y_Flo_isNoNumber prog_7_method_6_code 3 (some .boolean) 1 := ⟨w_1234, w_8, w_1603, w_1232, w_1233, ⟨by decide, by decide, by decide +kernel⟩⟩
theorem d_12_6_30 : decode prog_12_method_6_code 30 = .ok (.ifCond .eq 15, 3) := by decide +kernel
theorem d_12_6_45 : decode prog_12_method_6_code 45 = .ok (.aload_n 1, 1) := by decide +kernel
theorem d_12_6_46 : decode prog_12_method_6_code 46 = .ok (.lload_n 2, 1) := by decide +kernel
theorem d_12_6_47 : decode prog_12_method_6_code 47 = .ok (.invokevirtual 133, 3) := by decide +kernel
theorem w_1611 : (Cond.methodLink "NumberHouse$Writer" (133 : Nat) ({ cls := "NumberHouse$Floats", name := "isFinite", desc := "(J)Z" } : MethodName)) ∈ q_tbl := q_of 1611 (by decide +kernel) (by decide +kernel)
theorem LV_Wri_133 : q_LV "NumberHouse$Writer" 133 y_Flo_isFinite prog_7_method_5_code 3 (some .boolean) 1 := ⟨w_1155, w_8, w_1611, w_1153, w_1154, ⟨by decide, by decide, by decide +kernel⟩⟩
theorem d_12_6_50 : decode prog_12_method_6_code 50 = .ok (.ifCond .ne 15, 3) := by decide +kernel
theorem d_12_6_65 : decode prog_12_method_6_code 65 = .ok (.aload_n 1, 1) := by decide +kernel
theorem d_12_6_66 : decode prog_12_method_6_code 66 = .ok (.lload_n 2, 1) := by decide +kernel
theorem d_12_6_67 : decode prog_12_method_6_code 67 = .ok (.invokevirtual 138, 3) := by decide +kernel
theorem w_1613 : (Cond.methodLink "NumberHouse$Writer" (138 : Nat) ({ cls := "NumberHouse$Floats", name := "isZero", desc := "(J)Z" } : MethodName)) ∈ q_tbl := q_of 1613 (by decide +kernel) (by decide +kernel)
theorem LV_Wri_138 : q_LV "NumberHouse$Writer" 138 y_Flo_isZero prog_7_method_7_code 3 (some .boolean) 1 := ⟨w_1167, w_8, w_1613, w_1165, w_1166, ⟨by decide, by decide, by decide +kernel⟩⟩
theorem d_12_6_70 : decode prog_12_method_6_code 70 = .ok (.ifCond .eq 25, 3) := by decide +kernel
theorem d_12_6_73 : decode prog_12_method_6_code 73 = .ok (.aload_n 0, 1) := by decide +kernel
theorem d_12_6_74 : decode prog_12_method_6_code 74 = .ok (.getfield 7, 3) := by decide +kernel
theorem d_12_6_77 : decode prog_12_method_6_code 77 = .ok (.iload 4, 2) := by decide +kernel
theorem d_12_6_79 : decode prog_12_method_6_code 79 = .ok (.ifCond .eq 8, 3) := by decide +kernel
theorem d_12_6_87 : decode prog_12_method_6_code 87 = .ok (.ldc 143, 2) := by decide +kernel
theorem d_12_6_89 : decode prog_12_method_6_code 89 = .ok (.invokevirtual 129, 3) := by decide +kernel
theorem w_1608 : (Cond.code ({ cls := "NumberHouse$Sheet", name := "addText", desc := "(Ljava/lang/String;)V" } : MethodName) prog_11_method_4_code (3 : Nat) (none : Option ClassFile.FieldType)) ∈ q_tbl := q_of 1608 (by decide +kernel) (by decide +kernel)
theorem w_1605 : (Cond.methodLink "NumberHouse$Writer" (129 : Nat) ({ cls := "NumberHouse$Sheet", name := "addText", desc := "(Ljava/lang/String;)V" } : MethodName)) ∈ q_tbl := q_of 1605 (by decide +kernel) (by decide +kernel)
theorem w_1606 : (Cond.instanceMethod ({ cls := "NumberHouse$Sheet", name := "addText", desc := "(Ljava/lang/String;)V" } : MethodName)) ∈ q_tbl := q_of 1606 (by decide +kernel) (by decide +kernel)
theorem w_1607 : (Cond.selects "NumberHouse$Sheet" ({ cls := "NumberHouse$Sheet", name := "addText", desc := "(Ljava/lang/String;)V" } : MethodName) ({ cls := "NumberHouse$Sheet", name := "addText", desc := "(Ljava/lang/String;)V" } : MethodName)) ∈ q_tbl := q_of 1607 (by decide +kernel) (by decide +kernel)
theorem LV_Wri_129 : q_LV "NumberHouse$Writer" 129 y_She_addText prog_11_method_4_code 3 none 1 := ⟨w_1608, w_2, w_1605, w_1606, w_1607, ⟨by decide, by decide, by decide +kernel⟩⟩
theorem d_12_6_92 : decode prog_12_method_6_code 92 = .ok (.goto 23, 3) := by decide +kernel
theorem d_12_6_115 : decode prog_12_method_6_code 115 = .ok (.return_, 1) := by decide +kernel
def y_Wri_floatText : MethodName := ⟨"NumberHouse$Writer", "floatText", "(LNumberHouse$Floats;JZ)V"⟩
set_option maxRecDepth 100000 in
set_option maxHeartbeats 4000000 in
theorem c_Wri_floatText (l : Launch) (D : va_G) (g : Nat → ClassId) (ws : va_W) (kO0 kO1 kO2 kA5 qO0 qO1 qO2 qO3 qO4 qA5 : Nat) (hO0 : ws[kO0]? = (some (qO0, .inr (9, [.ref qO2, .ref qO3, .ref qO4])) : Option (Nat × va_E))) (hO1 : ws[kO1]? = (some (qO1, .inr (6, [.int 23, .int 150, .int 255, .long 0, .int 0, .ref qO3, .int 0])) : Option (Nat × va_E))) (hO2 : ws[kO2]? = (some (qO2, .inr (1, [.ref qA5, .int 11008, .int 0])) : Option (Nat × va_E))) (hA5 : ws[kA5]? = (some (qA5, .inl (g 1, 1376, .inr (.inl (fun _ => 0)))) : Option (Nat × va_E))) : q_mV l y_Wri_floatText prog_12_method_6_code 5 6 0 0 D g [.ref qO0, .ref qO1, .long 0, .int 0] ws (fun u => ∃ (ex0 : Nat → Int64), q_un ws u [kO2, kA5] ∧ u[kO2]? = (some (qO2, .inr (1, [.ref qA5, .int 11008, .int (2 + 1)])) : Option (Nat × va_E)) ∧ u[kA5]? = (some (qA5, .inl (g 1, 1376, .inr (.inl ex0))) : Option (Nat × va_E))) := by
  intro sz
  refine q_into (by decide) (Nat.le_of_ble_eq_true rfl) ?_
  intro p e s m below meth c ls hsz C0 V hl
  have hx := C0.1
  have hb := C0.2.1
  have hl : lv_has ls 5 [(0, .ref qO0), (1, .ref qO1), (2, .long 0), (4, .int 0)] := hl
  have n_A5_O2 := q_df hA5 hO2
  have n_O0_A5 := Ne.symm (q_df hA5 hO0)
  have n_O0_O2 := q_dc hO0 hO2 (q_pd 9 1 rfl)
  have n_O1_A5 := Ne.symm (q_df hA5 hO1)
  have n_O1_O2 := q_dc hO1 hO2 (q_pd 6 1 rfl)
  have hF : q_un ws ws [kO2, kA5] := q_u0
  refine lv_aload_n hx hb d_12_6_0 rfl (lv_at hl 0 rfl) ?_
  refine lv_aload_n hx hb d_12_6_1 rfl (lv_at hl 1 rfl) ?_
  refine lv_lload_n hx hb d_12_6_2 rfl (lv_at hl 2 rfl) ?_
  refine q_goi V (q_runV (As := [.long 0]) (rest := [.ref qO0]) (d := 2) (mc := 0) (ms := 0) (ci := 6) C0 V rfl LV_Wri_118 (c_Flo_isNegative l D g ws kO1 qO1 qO3 hO1 _) rfl rfl hO1 rfl hl.1 rfl (Nat.le_of_ble_eq_true rfl) ⟨by decide, by decide⟩ ⟨Nat.le_of_ble_eq_true rfl, Nat.le_of_ble_eq_true rfl⟩ d_12_6_3) (fun v3 u2 H locs hp1 V => ?_)
  obtain ⟨rfl, rfl⟩ := hp1
  refine lv_if_eq (tgt := 21) hx hb d_12_6_6 (by decide) (fun c5 => ?_) (fun c5 => absurd (by decide) c5)
  refine lv_iconst (v := 0) hx hb d_12_6_21 (by decide) ?_
  refine q_gov V (q_runV (As := [.int 0]) (rest := []) (d := 2) (mc := 0) (ms := 0) (ci := 9) C0 V rfl LV_Wri_27 (c_Wri_begin l D g ws kO0 kO2 qO0 qO2 qO3 qO4 qA5 hO0 hO2 _) rfl rfl hO0 rfl hl.1 rfl (Nat.le_of_ble_eq_true rfl) ⟨by decide, by decide⟩ ⟨Nat.le_of_ble_eq_true rfl, Nat.le_of_ble_eq_true rfl⟩ d_12_6_22) (fun u7 H locs hp6 V => ?_)
  obtain ⟨hg8, hO2⟩ := hp6
  replace hF := q_uc hF hg8 (q_sc (.head _) (fun _ h => absurd h List.not_mem_nil))
  refine lv_aload_n hx hb d_12_6_25 rfl (lv_at hl 1 rfl) ?_
  refine lv_lload_n hx hb d_12_6_26 rfl (lv_at hl 2 rfl) ?_
  replace hO1 := (hg8 _ (q_nc n_O1_O2 List.not_mem_nil)).trans (hO1)
  refine q_goi V (q_runV (As := [.long 0]) (rest := []) (d := 3) (mc := 0) (ms := 0) (ci := 6) C0 V rfl LV_Wri_124 (c_Flo_isNoNumber l D g u7 kO1 qO1 qO3 hO1 _) rfl rfl hO1 rfl hl.1 rfl (Nat.le_of_ble_eq_true rfl) ⟨by decide, by decide⟩ ⟨Nat.le_of_ble_eq_true rfl, Nat.le_of_ble_eq_true rfl⟩ d_12_6_27) (fun v11 u10 H locs hp9 V => ?_)
  obtain ⟨rfl, rfl⟩ := hp9
  refine lv_if_eq (tgt := 45) hx hb d_12_6_30 (by decide) (fun c13 => ?_) (fun c13 => absurd (by decide) c13)
  refine lv_aload_n hx hb d_12_6_45 rfl (lv_at hl 1 rfl) ?_
  refine lv_lload_n hx hb d_12_6_46 rfl (lv_at hl 2 rfl) ?_
  refine q_goi V (q_runV (As := [.long 0]) (rest := []) (d := 2) (mc := 0) (ms := 0) (ci := 6) C0 V rfl LV_Wri_133 (c_Flo_isFinite l D g u7 kO1 qO1 qO3 hO1 _) rfl rfl hO1 rfl hl.1 rfl (Nat.le_of_ble_eq_true rfl) ⟨by decide, by decide⟩ ⟨Nat.le_of_ble_eq_true rfl, Nat.le_of_ble_eq_true rfl⟩ d_12_6_47) (fun v16 u15 H locs hp14 V => ?_)
  obtain ⟨rfl, rfl⟩ := hp14
  refine lv_if_ne (tgt := 65) hx hb d_12_6_50 (by decide) (fun c18 => ?_) (fun c18 => absurd c18 (by decide))
  refine lv_aload_n hx hb d_12_6_65 rfl (lv_at hl 1 rfl) ?_
  refine lv_lload_n hx hb d_12_6_66 rfl (lv_at hl 2 rfl) ?_
  refine q_goi V (q_runV (As := [.long 0]) (rest := []) (d := 2) (mc := 0) (ms := 0) (ci := 6) C0 V rfl LV_Wri_138 (c_Flo_isZero l D g u7 kO1 qO1 qO3 hO1 _) rfl rfl hO1 rfl hl.1 rfl (Nat.le_of_ble_eq_true rfl) ⟨by decide, by decide⟩ ⟨Nat.le_of_ble_eq_true rfl, Nat.le_of_ble_eq_true rfl⟩ d_12_6_67) (fun v21 u20 H locs hp19 V => ?_)
  obtain ⟨rfl, rfl⟩ := hp19
  refine lv_if_eq (tgt := 95) hx hb d_12_6_70 (by decide) (fun c23 => absurd c23 (by decide)) (fun c23 => ?_)
  refine lv_aload_n hx hb d_12_6_73 rfl (lv_at hl 0 rfl) ?_
  replace hO0 := (hg8 _ (q_nc n_O0_O2 List.not_mem_nil)).trans (hO0)
  refine q_get (ci := 9) (j := 0) (v := .ref qO2) C0 V i_Wri rfl rfl hO0 (by decide) w_329 rfl d_12_6_74 ?_
  refine lv_iload hx hb d_12_6_77 (lv_at hl 3 rfl) ?_
  refine lv_if_eq (tgt := 87) hx hb d_12_6_79 (by decide) (fun c24 => ?_) (fun c24 => absurd (by decide) c24)
  refine q_ldcs (i := 26) C0 V rfl rfl d_12_6_87 ?_
  replace hA5 := (hg8 _ (q_nc n_A5_O2 List.not_mem_nil)).trans (hA5)
  refine q_gov V (q_runV (As := [.ref (g (8 + 2 * 26))]) (rest := []) (d := 5) (mc := 0) (ms := 0) (ci := 1) C0 V rfl LV_Wri_129 (c_She_addText l D g u7 kO2 kA5 qO2 qA5 hO2 hA5 _) rfl rfl hO2 rfl hl.1 rfl (Nat.le_of_ble_eq_true rfl) ⟨by decide, by decide⟩ ⟨Nat.le_of_ble_eq_true rfl, Nat.le_of_ble_eq_true rfl⟩ d_12_6_89) (fun u26 H locs hp25 V => ?_)
  obtain ⟨y27, hg28, hO2, hA5⟩ := hp25
  replace hF := q_uc hF hg28 (q_sc (.head _) (q_sc (.tail _ (.head _)) (fun _ h => absurd h List.not_mem_nil)))
  refine lv_goto (tgt := 115) hx hb d_12_6_92 (by decide) ?_
  exact q_retv C0 V (⟨y27, hF, hO2, hA5⟩) d_12_6_115
set_option maxRecDepth 100000 in
set_option maxHeartbeats 4000000 in
theorem c_jStr_coder_2 (l : Launch) (D : va_G) (g : Nat → ClassId) (ws : va_W) : q_mI l y_jStr_coder prog_31_method_152_code 1 (.byte) 1 0 0 D g [.ref (g (8 + 2 * 25))] ws (fun r u => 0 = r ∧ ws = u) := by
  intro sz
  refine q_into (by decide) (Nat.le_of_ble_eq_true rfl) ?_
  intro p e s m below meth c ls hsz C0 V hl
  have hx := C0.1
  have hb := C0.2.1
  have hl : lv_has ls 1 [(0, .ref (g (8 + 2 * 25)))] := hl
  refine q_scmp C0 V rfl w_663 d_31_152_0 ?_
  refine lv_if_eq (tgt := 13) hx hb d_31_152_3 (by decide) (fun c1 => absurd c1 (by decide)) (fun c1 => ?_)
  refine lv_aload_n hx hb d_31_152_6 rfl (lv_at hl 0 rfl) ?_
  refine q_scod (i := 25) C0 V rfl rfl w_1019 d_31_152_7 ?_
  refine lv_goto (tgt := 14) hx hb d_31_152_10 (by decide) ?_
  exact q_retn C0 V (rfl) (⟨rfl, rfl⟩) d_31_152_14
set_option maxRecDepth 100000 in
set_option maxHeartbeats 4000000 in
theorem c_jStr_length_2 (l : Launch) (D : va_G) (g : Nat → ClassId) (ws : va_W) : q_mI l y_jStr_length prog_31_method_54_code 1 (.int) 2 0 0 D g [.ref (g (8 + 2 * 25))] ws (fun r u => 7 = r ∧ ws = u) := by
  intro sz
  refine q_into (by decide) (Nat.le_of_ble_eq_true rfl) ?_
  intro p e s m below meth c ls hsz C0 V hl
  have hx := C0.1
  have hb := C0.2.1
  have hl : lv_has ls 1 [(0, .ref (g (8 + 2 * 25)))] := hl
  refine lv_aload_n hx hb d_31_54_0 rfl (lv_at hl 0 rfl) ?_
  refine q_sval (i := 25) C0 V rfl rfl w_1018 d_31_54_1 ?_
  refine q_slen (i := 25) (v := 7) C0 V rfl (by decide) d_31_54_4 ?_
  refine lv_aload_n hx hb d_31_54_5 rfl (lv_at hl 0 rfl) ?_
  refine q_goi V (q_runVs (As := []) (rest := [.int 7]) (d := 1) (mc := 0) (ms := 0) (i := 25) C0 V rfl LV_jStr_335 (c_jStr_coder_2 l D g ws _) rfl rfl rfl hl.1 rfl (Nat.le_of_ble_eq_true rfl) ⟨by decide, by decide⟩ ⟨Nat.le_of_ble_eq_true rfl, Nat.le_of_ble_eq_true rfl⟩ d_31_54_6) (fun v3 u2 H locs hp1 V => ?_)
  obtain ⟨rfl, rfl⟩ := hp1
  refine lv_ishr hx hb d_31_54_9 ?_
  refine q_ti (v := 7) (by decide) ?_
  exact q_reti C0 V (⟨rfl, rfl⟩) d_31_54_10
set_option maxRecDepth 100000 in
set_option maxHeartbeats 4000000 in
theorem c_jStr_isLatin1_2 (l : Launch) (D : va_G) (g : Nat → ClassId) (ws : va_W) : q_mI l y_jStr_isLatin1 prog_31_method_154_code 1 (.boolean) 1 0 0 D g [.ref (g (8 + 2 * 25))] ws (fun r u => 1 = r ∧ ws = u) := by
  intro sz
  refine q_into (by decide) (Nat.le_of_ble_eq_true rfl) ?_
  intro p e s m below meth c ls hsz C0 V hl
  have hx := C0.1
  have hb := C0.2.1
  have hl : lv_has ls 1 [(0, .ref (g (8 + 2 * 25)))] := hl
  refine q_scmp C0 V rfl w_663 d_31_154_0 ?_
  refine lv_if_eq (tgt := 17) hx hb d_31_154_3 (by decide) (fun c1 => absurd c1 (by decide)) (fun c1 => ?_)
  refine lv_aload_n hx hb d_31_154_6 rfl (lv_at hl 0 rfl) ?_
  refine q_scod (i := 25) C0 V rfl rfl w_1019 d_31_154_7 ?_
  refine lv_if_ne (tgt := 17) hx hb d_31_154_10 (by decide) (fun c2 => absurd (by decide) c2) (fun c2 => ?_)
  refine lv_iconst (v := 1) hx hb d_31_154_13 (by decide) ?_
  refine lv_goto (tgt := 18) hx hb d_31_154_14 (by decide) ?_
  exact q_retz C0 V (rfl) (⟨rfl, rfl⟩) d_31_154_18
set_option maxRecDepth 100000 in
set_option maxHeartbeats 4000000 in
theorem c_jPre_checkIndex_7 (l : Launch) (D : va_G) (g : Nat → ClassId) (ws : va_W) : q_mI l y_jPre_checkIndex prog_39_method_11_code 3 (.int) 1 0 0 D g [.int 0, .int 7, .null] ws (fun r u => 0 = r ∧ ws = u) := by
  intro sz
  refine q_into (by decide) (Nat.le_of_ble_eq_true rfl) ?_
  intro p e s m below meth c ls hsz C0 V hl
  have hx := C0.1
  have hb := C0.2.1
  have hl : lv_has ls 3 [(0, .int 0), (1, .int 7), (2, .null)] := hl
  refine lv_iload_n hx hb d_39_11_0 rfl (lv_at hl 0 rfl) ?_
  refine lv_if_lt (tgt := 9) hx hb d_39_11_1 (by decide) (fun c1 => absurd c1 (by decide)) (fun c1 => ?_)
  refine lv_iload_n hx hb d_39_11_4 rfl (lv_at hl 0 rfl) ?_
  refine lv_iload_n hx hb d_39_11_5 rfl (lv_at hl 1 rfl) ?_
  refine lv_icmp_lt (tgt := 16) hx hb d_39_11_6 (by decide) (fun c2 => ?_) (fun c2 => absurd (by decide) c2)
  refine lv_iload_n hx hb d_39_11_16 rfl (lv_at hl 0 rfl) ?_
  exact q_reti C0 V (⟨rfl, rfl⟩) d_39_11_17
set_option maxRecDepth 100000 in
set_option maxHeartbeats 4000000 in
theorem c_jPre_checkIndex_8 (l : Launch) (D : va_G) (g : Nat → ClassId) (ws : va_W) (qq1 : Nat) : q_mI l y_jPre_checkIndex prog_39_method_11_code 3 (.int) 1 0 0 D g [.int 0, .int 7, .ref qq1] ws (fun r u => 0 = r ∧ ws = u) := by
  intro sz
  refine q_into (by decide) (Nat.le_of_ble_eq_true rfl) ?_
  intro p e s m below meth c ls hsz C0 V hl
  have hx := C0.1
  have hb := C0.2.1
  have hl : lv_has ls 3 [(0, .int 0), (1, .int 7), (2, .ref qq1)] := hl
  refine lv_iload_n hx hb d_39_11_0 rfl (lv_at hl 0 rfl) ?_
  refine lv_if_lt (tgt := 9) hx hb d_39_11_1 (by decide) (fun c1 => absurd c1 (by decide)) (fun c1 => ?_)
  refine lv_iload_n hx hb d_39_11_4 rfl (lv_at hl 0 rfl) ?_
  refine lv_iload_n hx hb d_39_11_5 rfl (lv_at hl 1 rfl) ?_
  refine lv_icmp_lt (tgt := 16) hx hb d_39_11_6 (by decide) (fun c2 => ?_) (fun c2 => absurd (by decide) c2)
  refine lv_iload_n hx hb d_39_11_16 rfl (lv_at hl 0 rfl) ?_
  exact q_reti C0 V (⟨rfl, rfl⟩) d_39_11_17
set_option maxRecDepth 100000 in
set_option maxHeartbeats 4000000 in
theorem c_jStr_checkIndex_4 (l : Launch) (D : va_G) (g : Nat → ClassId) (ws : va_W) : q_mV l y_jStr_checkIndex prog_31_method_155_code 2 2 0 0 D g [.int 0, .int 7] ws (fun u => ws = u) := by
  intro sz
  refine q_into (by decide) (Nat.le_of_ble_eq_true rfl) ?_
  intro p e s m below meth c ls hsz C0 V hl
  have hx := C0.1
  have hb := C0.2.1
  have hl : lv_has ls 2 [(0, .int 0), (1, .int 7)] := hl
  refine lv_iload_n hx hb d_31_155_0 rfl (lv_at hl 0 rfl) ?_
  refine lv_iload_n hx hb d_31_155_1 rfl (lv_at hl 1 rfl) ?_
  refine q_sfmt C0 V rfl w_679 d_31_155_2 ?_ (fun t1 => ?_)
  ·
    refine q_goi V (q_runS (As := [.int 0, .int 7, .null]) (rest := []) (d := 1) (mc := 0) (ms := 0) C0 V rfl LS_jStr_1059 (c_jPre_checkIndex_7 l D g ws _) rfl hl.1 rfl (Nat.le_of_ble_eq_true rfl) ⟨by decide, by decide⟩ ⟨Nat.le_of_ble_eq_true rfl, Nat.le_of_ble_eq_true rfl⟩ d_31_155_5) (fun v4 u3 H locs hp2 V => ?_)
    obtain ⟨rfl, rfl⟩ := hp2
    refine lv_pop hx hb d_31_155_8 rfl ?_
    exact q_retv C0 V (rfl) d_31_155_9
  ·
    refine q_goi V (q_runS (As := [.int 0, .int 7, .ref t1]) (rest := []) (d := 1) (mc := 0) (ms := 0) C0 V rfl LS_jStr_1059 (c_jPre_checkIndex_8 l D g ws t1 _) rfl hl.1 rfl (Nat.le_of_ble_eq_true rfl) ⟨by decide, by decide⟩ ⟨Nat.le_of_ble_eq_true rfl, Nat.le_of_ble_eq_true rfl⟩ d_31_155_5) (fun v8 u7 H locs hp6 V => ?_)
    obtain ⟨rfl, rfl⟩ := hp6
    refine lv_pop hx hb d_31_155_8 rfl ?_
    exact q_retv C0 V (rfl) d_31_155_9
set_option maxRecDepth 100000 in
set_option maxHeartbeats 4000000 in
theorem c_jLat_charAt_4 (l : Launch) (D : va_G) (g : Nat → ClassId) (ws : va_W) : q_mI l y_jLat_charAt prog_33_method_2_code 2 (.char) 3 0 0 D g [.ref (g (9 + 2 * 25)), .int 0] ws (fun r u => 48 = r ∧ ws = u) := by
  intro sz
  refine q_into (by decide) (Nat.le_of_ble_eq_true rfl) ?_
  intro p e s m below meth c ls hsz C0 V hl
  have hx := C0.1
  have hb := C0.2.1
  have hl : lv_has ls 2 [(0, .ref (g (9 + 2 * 25))), (1, .int 0)] := hl
  refine lv_iload_n hx hb d_33_2_0 rfl (lv_at hl 1 rfl) ?_
  refine lv_aload_n hx hb d_33_2_1 rfl (lv_at hl 0 rfl) ?_
  refine q_slen (i := 25) (v := 7) C0 V rfl (by decide) d_33_2_2 ?_
  refine q_gov V (q_runS (As := [.int 0, .int 7]) (rest := []) (d := 2) (mc := 0) (ms := 0) C0 V rfl LS_jLat_9 (c_jStr_checkIndex_4 l D g ws _) rfl hl.1 rfl (Nat.le_of_ble_eq_true rfl) ⟨by decide, by decide⟩ ⟨Nat.le_of_ble_eq_true rfl, Nat.le_of_ble_eq_true rfl⟩ d_33_2_3) (fun u2 H locs hp1 V => ?_)
  obtain rfl := hp1
  refine lv_aload_n hx hb d_33_2_6 rfl (lv_at hl 0 rfl) ?_
  refine lv_iload_n hx hb d_33_2_7 rfl (lv_at hl 1 rfl) ?_
  refine q_sbal (i := 25) (v := 48) C0 V rfl (by unfold vp_in; decide) rfl d_33_2_8 ?_
  refine lv_sipush (v := 255) hx hb d_33_2_9 (by decide) ?_
  refine lv_iand hx hb d_33_2_12 ?_
  refine q_ti (v := 48) (by decide) ?_
  refine lv_i2c hx hb d_33_2_13 rfl ?_
  refine q_ti (v := 48) (by decide) ?_
  exact q_retn C0 V (rfl) (⟨rfl, rfl⟩) d_33_2_14
set_option maxRecDepth 100000 in
set_option maxHeartbeats 4000000 in
theorem c_jStr_charAt_4 (l : Launch) (D : va_G) (g : Nat → ClassId) (ws : va_W) : q_mI l y_jStr_charAt prog_31_method_56_code 2 (.char) 4 0 0 D g [.ref (g (8 + 2 * 25)), .int 0] ws (fun r u => 48 = r ∧ ws = u) := by
  intro sz
  refine q_into (by decide) (Nat.le_of_ble_eq_true rfl) ?_
  intro p e s m below meth c ls hsz C0 V hl
  have hx := C0.1
  have hb := C0.2.1
  have hl : lv_has ls 2 [(0, .ref (g (8 + 2 * 25))), (1, .int 0)] := hl
  refine lv_aload_n hx hb d_31_56_0 rfl (lv_at hl 0 rfl) ?_
  refine q_goi V (q_runVs (As := []) (rest := []) (d := 1) (mc := 0) (ms := 0) (i := 25) C0 V rfl LV_jStr_492 (c_jStr_isLatin1_2 l D g ws _) rfl rfl rfl hl.1 rfl (Nat.le_of_ble_eq_true rfl) ⟨by decide, by decide⟩ ⟨Nat.le_of_ble_eq_true rfl, Nat.le_of_ble_eq_true rfl⟩ d_31_56_1) (fun v3 u2 H locs hp1 V => ?_)
  obtain ⟨rfl, rfl⟩ := hp1
  refine lv_if_eq (tgt := 16) hx hb d_31_56_4 (by decide) (fun c5 => absurd c5 (by decide)) (fun c5 => ?_)
  refine lv_aload_n hx hb d_31_56_7 rfl (lv_at hl 0 rfl) ?_
  refine q_sval (i := 25) C0 V rfl rfl w_1018 d_31_56_8 ?_
  refine lv_iload_n hx hb d_31_56_11 rfl (lv_at hl 1 rfl) ?_
  refine q_goi V (q_runS (As := [.ref (g (9 + 2 * 25)), .int 0]) (rest := []) (d := 3) (mc := 0) (ms := 0) C0 V rfl LS_jStr_495 (c_jLat_charAt_4 l D g ws _) rfl hl.1 rfl (Nat.le_of_ble_eq_true rfl) ⟨by decide, by decide⟩ ⟨Nat.le_of_ble_eq_true rfl, Nat.le_of_ble_eq_true rfl⟩ d_31_56_12) (fun v8 u7 H locs hp6 V => ?_)
  obtain ⟨rfl, rfl⟩ := hp6
  exact q_retn C0 V (rfl) (⟨rfl, rfl⟩) d_31_56_15
set_option maxRecDepth 100000 in
set_option maxHeartbeats 4000000 in
theorem c_jPre_checkIndex_9 (l : Launch) (D : va_G) (g : Nat → ClassId) (ws : va_W) : q_mI l y_jPre_checkIndex prog_39_method_11_code 3 (.int) 1 0 0 D g [.int 1, .int 7, .null] ws (fun r u => 1 = r ∧ ws = u) := by
  intro sz
  refine q_into (by decide) (Nat.le_of_ble_eq_true rfl) ?_
  intro p e s m below meth c ls hsz C0 V hl
  have hx := C0.1
  have hb := C0.2.1
  have hl : lv_has ls 3 [(0, .int 1), (1, .int 7), (2, .null)] := hl
  refine lv_iload_n hx hb d_39_11_0 rfl (lv_at hl 0 rfl) ?_
  refine lv_if_lt (tgt := 9) hx hb d_39_11_1 (by decide) (fun c1 => absurd c1 (by decide)) (fun c1 => ?_)
  refine lv_iload_n hx hb d_39_11_4 rfl (lv_at hl 0 rfl) ?_
  refine lv_iload_n hx hb d_39_11_5 rfl (lv_at hl 1 rfl) ?_
  refine lv_icmp_lt (tgt := 16) hx hb d_39_11_6 (by decide) (fun c2 => ?_) (fun c2 => absurd (by decide) c2)
  refine lv_iload_n hx hb d_39_11_16 rfl (lv_at hl 0 rfl) ?_
  exact q_reti C0 V (⟨rfl, rfl⟩) d_39_11_17
set_option maxRecDepth 100000 in
set_option maxHeartbeats 4000000 in
theorem c_jPre_checkIndex_10 (l : Launch) (D : va_G) (g : Nat → ClassId) (ws : va_W) (qq1 : Nat) : q_mI l y_jPre_checkIndex prog_39_method_11_code 3 (.int) 1 0 0 D g [.int 1, .int 7, .ref qq1] ws (fun r u => 1 = r ∧ ws = u) := by
  intro sz
  refine q_into (by decide) (Nat.le_of_ble_eq_true rfl) ?_
  intro p e s m below meth c ls hsz C0 V hl
  have hx := C0.1
  have hb := C0.2.1
  have hl : lv_has ls 3 [(0, .int 1), (1, .int 7), (2, .ref qq1)] := hl
  refine lv_iload_n hx hb d_39_11_0 rfl (lv_at hl 0 rfl) ?_
  refine lv_if_lt (tgt := 9) hx hb d_39_11_1 (by decide) (fun c1 => absurd c1 (by decide)) (fun c1 => ?_)
  refine lv_iload_n hx hb d_39_11_4 rfl (lv_at hl 0 rfl) ?_
  refine lv_iload_n hx hb d_39_11_5 rfl (lv_at hl 1 rfl) ?_
  refine lv_icmp_lt (tgt := 16) hx hb d_39_11_6 (by decide) (fun c2 => ?_) (fun c2 => absurd (by decide) c2)
  refine lv_iload_n hx hb d_39_11_16 rfl (lv_at hl 0 rfl) ?_
  exact q_reti C0 V (⟨rfl, rfl⟩) d_39_11_17
set_option maxRecDepth 100000 in
set_option maxHeartbeats 4000000 in
theorem c_jStr_checkIndex_5 (l : Launch) (D : va_G) (g : Nat → ClassId) (ws : va_W) : q_mV l y_jStr_checkIndex prog_31_method_155_code 2 2 0 0 D g [.int 1, .int 7] ws (fun u => ws = u) := by
  intro sz
  refine q_into (by decide) (Nat.le_of_ble_eq_true rfl) ?_
  intro p e s m below meth c ls hsz C0 V hl
  have hx := C0.1
  have hb := C0.2.1
  have hl : lv_has ls 2 [(0, .int 1), (1, .int 7)] := hl
  refine lv_iload_n hx hb d_31_155_0 rfl (lv_at hl 0 rfl) ?_
  refine lv_iload_n hx hb d_31_155_1 rfl (lv_at hl 1 rfl) ?_
  refine q_sfmt C0 V rfl w_679 d_31_155_2 ?_ (fun t1 => ?_)
  ·
    refine q_goi V (q_runS (As := [.int 1, .int 7, .null]) (rest := []) (d := 1) (mc := 0) (ms := 0) C0 V rfl LS_jStr_1059 (c_jPre_checkIndex_9 l D g ws _) rfl hl.1 rfl (Nat.le_of_ble_eq_true rfl) ⟨by decide, by decide⟩ ⟨Nat.le_of_ble_eq_true rfl, Nat.le_of_ble_eq_true rfl⟩ d_31_155_5) (fun v4 u3 H locs hp2 V => ?_)
    obtain ⟨rfl, rfl⟩ := hp2
    refine lv_pop hx hb d_31_155_8 rfl ?_
    exact q_retv C0 V (rfl) d_31_155_9
  ·
    refine q_goi V (q_runS (As := [.int 1, .int 7, .ref t1]) (rest := []) (d := 1) (mc := 0) (ms := 0) C0 V rfl LS_jStr_1059 (c_jPre_checkIndex_10 l D g ws t1 _) rfl hl.1 rfl (Nat.le_of_ble_eq_true rfl) ⟨by decide, by decide⟩ ⟨Nat.le_of_ble_eq_true rfl, Nat.le_of_ble_eq_true rfl⟩ d_31_155_5) (fun v8 u7 H locs hp6 V => ?_)
    obtain ⟨rfl, rfl⟩ := hp6
    refine lv_pop hx hb d_31_155_8 rfl ?_
    exact q_retv C0 V (rfl) d_31_155_9
set_option maxRecDepth 100000 in
set_option maxHeartbeats 4000000 in
theorem c_jLat_charAt_5 (l : Launch) (D : va_G) (g : Nat → ClassId) (ws : va_W) : q_mI l y_jLat_charAt prog_33_method_2_code 2 (.char) 3 0 0 D g [.ref (g (9 + 2 * 25)), .int 1] ws (fun r u => 120 = r ∧ ws = u) := by
  intro sz
  refine q_into (by decide) (Nat.le_of_ble_eq_true rfl) ?_
  intro p e s m below meth c ls hsz C0 V hl
  have hx := C0.1
  have hb := C0.2.1
  have hl : lv_has ls 2 [(0, .ref (g (9 + 2 * 25))), (1, .int 1)] := hl
  refine lv_iload_n hx hb d_33_2_0 rfl (lv_at hl 1 rfl) ?_
  refine lv_aload_n hx hb d_33_2_1 rfl (lv_at hl 0 rfl) ?_
  refine q_slen (i := 25) (v := 7) C0 V rfl (by decide) d_33_2_2 ?_
  refine q_gov V (q_runS (As := [.int 1, .int 7]) (rest := []) (d := 2) (mc := 0) (ms := 0) C0 V rfl LS_jLat_9 (c_jStr_checkIndex_5 l D g ws _) rfl hl.1 rfl (Nat.le_of_ble_eq_true rfl) ⟨by decide, by decide⟩ ⟨Nat.le_of_ble_eq_true rfl, Nat.le_of_ble_eq_true rfl⟩ d_33_2_3) (fun u2 H locs hp1 V => ?_)
  obtain rfl := hp1
  refine lv_aload_n hx hb d_33_2_6 rfl (lv_at hl 0 rfl) ?_
  refine lv_iload_n hx hb d_33_2_7 rfl (lv_at hl 1 rfl) ?_
  refine q_sbal (i := 25) (v := 120) C0 V rfl (by unfold vp_in; decide) rfl d_33_2_8 ?_
  refine lv_sipush (v := 255) hx hb d_33_2_9 (by decide) ?_
  refine lv_iand hx hb d_33_2_12 ?_
  refine q_ti (v := 120) (by decide) ?_
  refine lv_i2c hx hb d_33_2_13 rfl ?_
  refine q_ti (v := 120) (by decide) ?_
  exact q_retn C0 V (rfl) (⟨rfl, rfl⟩) d_33_2_14
set_option maxRecDepth 100000 in
set_option maxHeartbeats 4000000 in
theorem c_jStr_charAt_5 (l : Launch) (D : va_G) (g : Nat → ClassId) (ws : va_W) : q_mI l y_jStr_charAt prog_31_method_56_code 2 (.char) 4 0 0 D g [.ref (g (8 + 2 * 25)), .int 1] ws (fun r u => 120 = r ∧ ws = u) := by
  intro sz
  refine q_into (by decide) (Nat.le_of_ble_eq_true rfl) ?_
  intro p e s m below meth c ls hsz C0 V hl
  have hx := C0.1
  have hb := C0.2.1
  have hl : lv_has ls 2 [(0, .ref (g (8 + 2 * 25))), (1, .int 1)] := hl
  refine lv_aload_n hx hb d_31_56_0 rfl (lv_at hl 0 rfl) ?_
  refine q_goi V (q_runVs (As := []) (rest := []) (d := 1) (mc := 0) (ms := 0) (i := 25) C0 V rfl LV_jStr_492 (c_jStr_isLatin1_2 l D g ws _) rfl rfl rfl hl.1 rfl (Nat.le_of_ble_eq_true rfl) ⟨by decide, by decide⟩ ⟨Nat.le_of_ble_eq_true rfl, Nat.le_of_ble_eq_true rfl⟩ d_31_56_1) (fun v3 u2 H locs hp1 V => ?_)
  obtain ⟨rfl, rfl⟩ := hp1
  refine lv_if_eq (tgt := 16) hx hb d_31_56_4 (by decide) (fun c5 => absurd c5 (by decide)) (fun c5 => ?_)
  refine lv_aload_n hx hb d_31_56_7 rfl (lv_at hl 0 rfl) ?_
  refine q_sval (i := 25) C0 V rfl rfl w_1018 d_31_56_8 ?_
  refine lv_iload_n hx hb d_31_56_11 rfl (lv_at hl 1 rfl) ?_
  refine q_goi V (q_runS (As := [.ref (g (9 + 2 * 25)), .int 1]) (rest := []) (d := 3) (mc := 0) (ms := 0) C0 V rfl LS_jStr_495 (c_jLat_charAt_5 l D g ws _) rfl hl.1 rfl (Nat.le_of_ble_eq_true rfl) ⟨by decide, by decide⟩ ⟨Nat.le_of_ble_eq_true rfl, Nat.le_of_ble_eq_true rfl⟩ d_31_56_12) (fun v8 u7 H locs hp6 V => ?_)
  obtain ⟨rfl, rfl⟩ := hp6
  exact q_retn C0 V (rfl) (⟨rfl, rfl⟩) d_31_56_15
set_option maxRecDepth 100000 in
set_option maxHeartbeats 4000000 in
theorem c_She_add_14 (l : Launch) (D : va_G) (g : Nat → ClassId) (ws : va_W) (kO0 kA1 qO0 qA1 : Nat) (hO0 : ws[kO0]? = (some (qO0, .inr (1, [.ref qA1, .int 11008, .int 1])) : Option (Nat × va_E))) (hA1 : ws[kA1]? = (some (qA1, .inl (g 1, 1376, .inr (.inl (vp_updL (fun _ => 0) 0 48)))) : Option (Nat × va_E))) : q_mV l y_She_add prog_11_method_3_code 3 1 0 0 D g [.ref qO0, .int 120] ws (fun u => q_un ws u [kO0, kA1] ∧ u[kO0]? = (some (qO0, .inr (1, [.ref qA1, .int 11008, .int 2])) : Option (Nat × va_E)) ∧ u[kA1]? = (some (qA1, .inl (g 1, 1376, .inr (.inl (vp_updL (fun _ => 0) 0 30768)))) : Option (Nat × va_E))) := by
  intro sz
  refine q_into (by decide) (Nat.le_of_ble_eq_true rfl) ?_
  intro p e s m below meth c ls hsz C0 V hl
  have hx := C0.1
  have hb := C0.2.1
  have hl : lv_has ls 3 [(0, .ref qO0), (1, .int 120)] := hl
  have n_A1_O0 := q_df hA1 hO0
  have n_O0_A1 := Ne.symm (q_df hA1 hO0)
  have hF : q_un ws ws [kO0, kA1] := q_u0
  refine lv_aload_n hx hb d_11_3_0 rfl (lv_at hl 0 rfl) ?_
  refine q_get (ci := 1) (j := 2) (v := .int 1) C0 V i_She rfl rfl hO0 (by decide) w_54 rfl d_11_3_1 ?_
  refine lv_aload_n hx hb d_11_3_4 rfl (lv_at hl 0 rfl) ?_
  refine q_get (ci := 1) (j := 1) (v := .int 11008) C0 V i_She rfl rfl hO0 (by decide) w_53 rfl d_11_3_5 ?_
  refine lv_icmp_ge (tgt := 63) hx hb d_11_3_8 (by decide) (fun c1 => absurd c1 (by decide)) (fun c1 => ?_)
  refine lv_bipush (v := 8) hx hb d_11_3_11 (by decide) ?_
  refine lv_aload_n hx hb d_11_3_13 rfl (lv_at hl 0 rfl) ?_
  refine q_get (ci := 1) (j := 2) (v := .int 1) C0 V i_She rfl rfl hO0 (by decide) w_54 rfl d_11_3_14 ?_
  refine lv_bipush (v := 7) hx hb d_11_3_17 (by decide) ?_
  refine lv_iand hx hb d_11_3_19 ?_
  refine q_ti (v := 1) (by decide) ?_
  refine lv_imul hx hb d_11_3_20 ?_
  refine q_ti (v := 8) (by decide) ?_
  refine lv_istore_n (lv' := [(2, .int 8), (0, .ref qO0), (1, .int 120)]) hx hb d_11_3_21 rfl hl (by decide) rfl (fun ls hl => ?_)
  refine lv_aload_n hx hb d_11_3_22 rfl (lv_at hl 1 rfl) ?_
  refine q_get (ci := 1) (j := 0) (v := .ref qA1) C0 V i_She rfl rfl hO0 (by decide) w_52 rfl d_11_3_23 ?_
  refine lv_aload_n hx hb d_11_3_26 rfl (lv_at hl 1 rfl) ?_
  refine q_get (ci := 1) (j := 2) (v := .int 1) C0 V i_She rfl rfl hO0 (by decide) w_54 rfl d_11_3_27 ?_
  refine lv_iconst (v := 3) hx hb d_11_3_30 (by decide) ?_
  refine lv_ishr hx hb d_11_3_31 ?_
  refine q_ti (v := 0) (by decide) ?_
  refine lv_aload_n hx hb d_11_3_32 rfl (lv_at hl 1 rfl) ?_
  refine q_get (ci := 1) (j := 0) (v := .ref qA1) C0 V i_She rfl rfl hO0 (by decide) w_52 rfl d_11_3_33 ?_
  refine lv_aload_n hx hb d_11_3_36 rfl (lv_at hl 1 rfl) ?_
  refine q_get (ci := 1) (j := 2) (v := .int 1) C0 V i_She rfl rfl hO0 (by decide) w_54 rfl d_11_3_37 ?_
  refine lv_iconst (v := 3) hx hb d_11_3_40 (by decide) ?_
  refine lv_ishr hx hb d_11_3_41 ?_
  refine q_ti (v := 0) (by decide) ?_
  refine q_lald C0 V hA1 (by unfold vp_in; decide) d_11_3_42 ?_
  refine q_tl (v := 48) (by first | rfl | decide | simp [upd, vp_updL, sb_cl0]) ?_
  refine q_ldc2 C0 rfl w_565 d_11_3_43 ?_
  refine lv_iload_n hx hb d_11_3_46 rfl (lv_at hl 0 rfl) ?_
  refine lv_lshl hx hb d_11_3_47 rfl ?_
  refine q_tl (v := 65280) (by decide) ?_
  refine q_ldc2 C0 rfl w_566 d_11_3_48 ?_
  refine lv_lxor hx hb d_11_3_51 ?_
  refine q_tl (v := (-65281)) (by decide) ?_
  refine lv_land hx hb d_11_3_52 ?_
  refine q_tl (v := 48) (by decide) ?_
  refine lv_iload_n hx hb d_11_3_53 rfl (lv_at hl 2 rfl) ?_
  refine lv_sipush (v := 255) hx hb d_11_3_54 (by decide) ?_
  refine lv_iand hx hb d_11_3_57 ?_
  refine q_ti (v := 120) (by decide) ?_
  refine lv_i2l hx hb d_11_3_58 rfl ?_
  refine q_tl (v := 120) (by decide) ?_
  refine lv_iload_n hx hb d_11_3_59 rfl (lv_at hl 0 rfl) ?_
  refine lv_lshl hx hb d_11_3_60 rfl ?_
  refine q_tl (v := 30720) (by decide) ?_
  refine lv_lor hx hb d_11_3_61 ?_
  refine q_tl (v := 30768) (by decide) ?_
  refine q_last C0 V hA1 (by unfold vp_in; decide) d_11_3_62 (fun H locs w2 hu3 hA1 V => ?_)
  replace hA1 : w2[kA1]? = (some (qA1, .inl (g 1, 1376, .inr (.inl (vp_updL (vp_updL (fun _ => 0) 0 48) 0 30768)))) : Option (Nat × va_E)) := hA1
  replace hA1 := q_re (y := (qA1, .inl (g 1, 1376, .inr (.inl (vp_updL (fun _ => 0) 0 30768))))) hA1 (q_eL (by funext k; simp only [vp_updL]; (repeat' split) <;> first | rfl | omega))
  replace hA1 : w2[kA1]? = (some (qA1, .inl (g 1, 1376, .inr (.inl (vp_updL (fun _ => 0) 0 30768)))) : Option (Nat × va_E)) := hA1
  replace hF := q_us hF hu3 (.tail _ (.head _))
  refine lv_aload_n hx hb d_11_3_63 rfl (lv_at hl 1 rfl) ?_
  refine lv_dup hx hb d_11_3_64 rfl ?_
  replace hO0 := (hu3 _ n_O0_A1).trans (hO0)
  refine q_get (ci := 1) (j := 2) (v := .int 1) C0 V i_She rfl rfl hO0 (by decide) w_54 rfl d_11_3_65 ?_
  refine lv_iconst (v := 1) hx hb d_11_3_68 (by decide) ?_
  refine lv_iadd hx hb d_11_3_69 ?_
  refine q_ti (v := 2) (by decide) ?_
  refine q_put (ci := 1) (j := 2) (v := .int 2) (ty := .int) C0 V i_She o_She n_She rfl rfl hO0 (by decide) w_54 rfl rfl rfl rfl (Nat.le_of_ble_eq_true rfl) d_11_3_70 (fun H locs w4 hu5 hO0 V => ?_)
  replace hO0 : w4[kO0]? = (some (qO0, .inr (1, [.ref qA1, .int 11008, .int 2])) : Option (Nat × va_E)) := hO0
  replace hF := q_us hF hu5 (.head _)
  replace hA1 := (hu5 _ n_A1_O0).trans (hA1)
  exact q_retv C0 V (⟨hF, hO0, hA1⟩) d_11_3_73
set_option maxRecDepth 100000 in
set_option maxHeartbeats 4000000 in
theorem c_jPre_checkIndex_11 (l : Launch) (D : va_G) (g : Nat → ClassId) (ws : va_W) : q_mI l y_jPre_checkIndex prog_39_method_11_code 3 (.int) 1 0 0 D g [.int 2, .int 7, .null] ws (fun r u => 2 = r ∧ ws = u) := by
  intro sz
  refine q_into (by decide) (Nat.le_of_ble_eq_true rfl) ?_
  intro p e s m below meth c ls hsz C0 V hl
  have hx := C0.1
  have hb := C0.2.1
  have hl : lv_has ls 3 [(0, .int 2), (1, .int 7), (2, .null)] := hl
  refine lv_iload_n hx hb d_39_11_0 rfl (lv_at hl 0 rfl) ?_
  refine lv_if_lt (tgt := 9) hx hb d_39_11_1 (by decide) (fun c1 => absurd c1 (by decide)) (fun c1 => ?_)
  refine lv_iload_n hx hb d_39_11_4 rfl (lv_at hl 0 rfl) ?_
  refine lv_iload_n hx hb d_39_11_5 rfl (lv_at hl 1 rfl) ?_
  refine lv_icmp_lt (tgt := 16) hx hb d_39_11_6 (by decide) (fun c2 => ?_) (fun c2 => absurd (by decide) c2)
  refine lv_iload_n hx hb d_39_11_16 rfl (lv_at hl 0 rfl) ?_
  exact q_reti C0 V (⟨rfl, rfl⟩) d_39_11_17
set_option maxRecDepth 100000 in
set_option maxHeartbeats 4000000 in
theorem c_jPre_checkIndex_12 (l : Launch) (D : va_G) (g : Nat → ClassId) (ws : va_W) (qq1 : Nat) : q_mI l y_jPre_checkIndex prog_39_method_11_code 3 (.int) 1 0 0 D g [.int 2, .int 7, .ref qq1] ws (fun r u => 2 = r ∧ ws = u) := by
  intro sz
  refine q_into (by decide) (Nat.le_of_ble_eq_true rfl) ?_
  intro p e s m below meth c ls hsz C0 V hl
  have hx := C0.1
  have hb := C0.2.1
  have hl : lv_has ls 3 [(0, .int 2), (1, .int 7), (2, .ref qq1)] := hl
  refine lv_iload_n hx hb d_39_11_0 rfl (lv_at hl 0 rfl) ?_
  refine lv_if_lt (tgt := 9) hx hb d_39_11_1 (by decide) (fun c1 => absurd c1 (by decide)) (fun c1 => ?_)
  refine lv_iload_n hx hb d_39_11_4 rfl (lv_at hl 0 rfl) ?_
  refine lv_iload_n hx hb d_39_11_5 rfl (lv_at hl 1 rfl) ?_
  refine lv_icmp_lt (tgt := 16) hx hb d_39_11_6 (by decide) (fun c2 => ?_) (fun c2 => absurd (by decide) c2)
  refine lv_iload_n hx hb d_39_11_16 rfl (lv_at hl 0 rfl) ?_
  exact q_reti C0 V (⟨rfl, rfl⟩) d_39_11_17
set_option maxRecDepth 100000 in
set_option maxHeartbeats 4000000 in
theorem c_jStr_checkIndex_6 (l : Launch) (D : va_G) (g : Nat → ClassId) (ws : va_W) : q_mV l y_jStr_checkIndex prog_31_method_155_code 2 2 0 0 D g [.int 2, .int 7] ws (fun u => ws = u) := by
  intro sz
  refine q_into (by decide) (Nat.le_of_ble_eq_true rfl) ?_
  intro p e s m below meth c ls hsz C0 V hl
  have hx := C0.1
  have hb := C0.2.1
  have hl : lv_has ls 2 [(0, .int 2), (1, .int 7)] := hl
  refine lv_iload_n hx hb d_31_155_0 rfl (lv_at hl 0 rfl) ?_
  refine lv_iload_n hx hb d_31_155_1 rfl (lv_at hl 1 rfl) ?_
  refine q_sfmt C0 V rfl w_679 d_31_155_2 ?_ (fun t1 => ?_)
  ·
    refine q_goi V (q_runS (As := [.int 2, .int 7, .null]) (rest := []) (d := 1) (mc := 0) (ms := 0) C0 V rfl LS_jStr_1059 (c_jPre_checkIndex_11 l D g ws _) rfl hl.1 rfl (Nat.le_of_ble_eq_true rfl) ⟨by decide, by decide⟩ ⟨Nat.le_of_ble_eq_true rfl, Nat.le_of_ble_eq_true rfl⟩ d_31_155_5) (fun v4 u3 H locs hp2 V => ?_)
    obtain ⟨rfl, rfl⟩ := hp2
    refine lv_pop hx hb d_31_155_8 rfl ?_
    exact q_retv C0 V (rfl) d_31_155_9
  ·
    refine q_goi V (q_runS (As := [.int 2, .int 7, .ref t1]) (rest := []) (d := 1) (mc := 0) (ms := 0) C0 V rfl LS_jStr_1059 (c_jPre_checkIndex_12 l D g ws t1 _) rfl hl.1 rfl (Nat.le_of_ble_eq_true rfl) ⟨by decide, by decide⟩ ⟨Nat.le_of_ble_eq_true rfl, Nat.le_of_ble_eq_true rfl⟩ d_31_155_5) (fun v8 u7 H locs hp6 V => ?_)
    obtain ⟨rfl, rfl⟩ := hp6
    refine lv_pop hx hb d_31_155_8 rfl ?_
    exact q_retv C0 V (rfl) d_31_155_9
set_option maxRecDepth 100000 in
set_option maxHeartbeats 4000000 in
theorem c_jLat_charAt_6 (l : Launch) (D : va_G) (g : Nat → ClassId) (ws : va_W) : q_mI l y_jLat_charAt prog_33_method_2_code 2 (.char) 3 0 0 D g [.ref (g (9 + 2 * 25)), .int 2] ws (fun r u => 48 = r ∧ ws = u) := by
  intro sz
  refine q_into (by decide) (Nat.le_of_ble_eq_true rfl) ?_
  intro p e s m below meth c ls hsz C0 V hl
  have hx := C0.1
  have hb := C0.2.1
  have hl : lv_has ls 2 [(0, .ref (g (9 + 2 * 25))), (1, .int 2)] := hl
  refine lv_iload_n hx hb d_33_2_0 rfl (lv_at hl 1 rfl) ?_
  refine lv_aload_n hx hb d_33_2_1 rfl (lv_at hl 0 rfl) ?_
  refine q_slen (i := 25) (v := 7) C0 V rfl (by decide) d_33_2_2 ?_
  refine q_gov V (q_runS (As := [.int 2, .int 7]) (rest := []) (d := 2) (mc := 0) (ms := 0) C0 V rfl LS_jLat_9 (c_jStr_checkIndex_6 l D g ws _) rfl hl.1 rfl (Nat.le_of_ble_eq_true rfl) ⟨by decide, by decide⟩ ⟨Nat.le_of_ble_eq_true rfl, Nat.le_of_ble_eq_true rfl⟩ d_33_2_3) (fun u2 H locs hp1 V => ?_)
  obtain rfl := hp1
  refine lv_aload_n hx hb d_33_2_6 rfl (lv_at hl 0 rfl) ?_
  refine lv_iload_n hx hb d_33_2_7 rfl (lv_at hl 1 rfl) ?_
  refine q_sbal (i := 25) (v := 48) C0 V rfl (by unfold vp_in; decide) rfl d_33_2_8 ?_
  refine lv_sipush (v := 255) hx hb d_33_2_9 (by decide) ?_
  refine lv_iand hx hb d_33_2_12 ?_
  refine q_ti (v := 48) (by decide) ?_
  refine lv_i2c hx hb d_33_2_13 rfl ?_
  refine q_ti (v := 48) (by decide) ?_
  exact q_retn C0 V (rfl) (⟨rfl, rfl⟩) d_33_2_14
set_option maxRecDepth 100000 in
set_option maxHeartbeats 4000000 in
theorem c_jStr_charAt_6 (l : Launch) (D : va_G) (g : Nat → ClassId) (ws : va_W) : q_mI l y_jStr_charAt prog_31_method_56_code 2 (.char) 4 0 0 D g [.ref (g (8 + 2 * 25)), .int 2] ws (fun r u => 48 = r ∧ ws = u) := by
  intro sz
  refine q_into (by decide) (Nat.le_of_ble_eq_true rfl) ?_
  intro p e s m below meth c ls hsz C0 V hl
  have hx := C0.1
  have hb := C0.2.1
  have hl : lv_has ls 2 [(0, .ref (g (8 + 2 * 25))), (1, .int 2)] := hl
  refine lv_aload_n hx hb d_31_56_0 rfl (lv_at hl 0 rfl) ?_
  refine q_goi V (q_runVs (As := []) (rest := []) (d := 1) (mc := 0) (ms := 0) (i := 25) C0 V rfl LV_jStr_492 (c_jStr_isLatin1_2 l D g ws _) rfl rfl rfl hl.1 rfl (Nat.le_of_ble_eq_true rfl) ⟨by decide, by decide⟩ ⟨Nat.le_of_ble_eq_true rfl, Nat.le_of_ble_eq_true rfl⟩ d_31_56_1) (fun v3 u2 H locs hp1 V => ?_)
  obtain ⟨rfl, rfl⟩ := hp1
  refine lv_if_eq (tgt := 16) hx hb d_31_56_4 (by decide) (fun c5 => absurd c5 (by decide)) (fun c5 => ?_)
  refine lv_aload_n hx hb d_31_56_7 rfl (lv_at hl 0 rfl) ?_
  refine q_sval (i := 25) C0 V rfl rfl w_1018 d_31_56_8 ?_
  refine lv_iload_n hx hb d_31_56_11 rfl (lv_at hl 1 rfl) ?_
  refine q_goi V (q_runS (As := [.ref (g (9 + 2 * 25)), .int 2]) (rest := []) (d := 3) (mc := 0) (ms := 0) C0 V rfl LS_jStr_495 (c_jLat_charAt_6 l D g ws _) rfl hl.1 rfl (Nat.le_of_ble_eq_true rfl) ⟨by decide, by decide⟩ ⟨Nat.le_of_ble_eq_true rfl, Nat.le_of_ble_eq_true rfl⟩ d_31_56_12) (fun v8 u7 H locs hp6 V => ?_)
  obtain ⟨rfl, rfl⟩ := hp6
  exact q_retn C0 V (rfl) (⟨rfl, rfl⟩) d_31_56_15
set_option maxRecDepth 100000 in
set_option maxHeartbeats 4000000 in
theorem c_jPre_checkIndex_13 (l : Launch) (D : va_G) (g : Nat → ClassId) (ws : va_W) : q_mI l y_jPre_checkIndex prog_39_method_11_code 3 (.int) 1 0 0 D g [.int 3, .int 7, .null] ws (fun r u => 3 = r ∧ ws = u) := by
  intro sz
  refine q_into (by decide) (Nat.le_of_ble_eq_true rfl) ?_
  intro p e s m below meth c ls hsz C0 V hl
  have hx := C0.1
  have hb := C0.2.1
  have hl : lv_has ls 3 [(0, .int 3), (1, .int 7), (2, .null)] := hl
  refine lv_iload_n hx hb d_39_11_0 rfl (lv_at hl 0 rfl) ?_
  refine lv_if_lt (tgt := 9) hx hb d_39_11_1 (by decide) (fun c1 => absurd c1 (by decide)) (fun c1 => ?_)
  refine lv_iload_n hx hb d_39_11_4 rfl (lv_at hl 0 rfl) ?_
  refine lv_iload_n hx hb d_39_11_5 rfl (lv_at hl 1 rfl) ?_
  refine lv_icmp_lt (tgt := 16) hx hb d_39_11_6 (by decide) (fun c2 => ?_) (fun c2 => absurd (by decide) c2)
  refine lv_iload_n hx hb d_39_11_16 rfl (lv_at hl 0 rfl) ?_
  exact q_reti C0 V (⟨rfl, rfl⟩) d_39_11_17
set_option maxRecDepth 100000 in
set_option maxHeartbeats 4000000 in
theorem c_jPre_checkIndex_14 (l : Launch) (D : va_G) (g : Nat → ClassId) (ws : va_W) (qq1 : Nat) : q_mI l y_jPre_checkIndex prog_39_method_11_code 3 (.int) 1 0 0 D g [.int 3, .int 7, .ref qq1] ws (fun r u => 3 = r ∧ ws = u) := by
  intro sz
  refine q_into (by decide) (Nat.le_of_ble_eq_true rfl) ?_
  intro p e s m below meth c ls hsz C0 V hl
  have hx := C0.1
  have hb := C0.2.1
  have hl : lv_has ls 3 [(0, .int 3), (1, .int 7), (2, .ref qq1)] := hl
  refine lv_iload_n hx hb d_39_11_0 rfl (lv_at hl 0 rfl) ?_
  refine lv_if_lt (tgt := 9) hx hb d_39_11_1 (by decide) (fun c1 => absurd c1 (by decide)) (fun c1 => ?_)
  refine lv_iload_n hx hb d_39_11_4 rfl (lv_at hl 0 rfl) ?_
  refine lv_iload_n hx hb d_39_11_5 rfl (lv_at hl 1 rfl) ?_
  refine lv_icmp_lt (tgt := 16) hx hb d_39_11_6 (by decide) (fun c2 => ?_) (fun c2 => absurd (by decide) c2)
  refine lv_iload_n hx hb d_39_11_16 rfl (lv_at hl 0 rfl) ?_
  exact q_reti C0 V (⟨rfl, rfl⟩) d_39_11_17
set_option maxRecDepth 100000 in
set_option maxHeartbeats 4000000 in
theorem c_jStr_checkIndex_7 (l : Launch) (D : va_G) (g : Nat → ClassId) (ws : va_W) : q_mV l y_jStr_checkIndex prog_31_method_155_code 2 2 0 0 D g [.int 3, .int 7] ws (fun u => ws = u) := by
  intro sz
  refine q_into (by decide) (Nat.le_of_ble_eq_true rfl) ?_
  intro p e s m below meth c ls hsz C0 V hl
  have hx := C0.1
  have hb := C0.2.1
  have hl : lv_has ls 2 [(0, .int 3), (1, .int 7)] := hl
  refine lv_iload_n hx hb d_31_155_0 rfl (lv_at hl 0 rfl) ?_
  refine lv_iload_n hx hb d_31_155_1 rfl (lv_at hl 1 rfl) ?_
  refine q_sfmt C0 V rfl w_679 d_31_155_2 ?_ (fun t1 => ?_)
  ·
    refine q_goi V (q_runS (As := [.int 3, .int 7, .null]) (rest := []) (d := 1) (mc := 0) (ms := 0) C0 V rfl LS_jStr_1059 (c_jPre_checkIndex_13 l D g ws _) rfl hl.1 rfl (Nat.le_of_ble_eq_true rfl) ⟨by decide, by decide⟩ ⟨Nat.le_of_ble_eq_true rfl, Nat.le_of_ble_eq_true rfl⟩ d_31_155_5) (fun v4 u3 H locs hp2 V => ?_)
    obtain ⟨rfl, rfl⟩ := hp2
    refine lv_pop hx hb d_31_155_8 rfl ?_
    exact q_retv C0 V (rfl) d_31_155_9
  ·
    refine q_goi V (q_runS (As := [.int 3, .int 7, .ref t1]) (rest := []) (d := 1) (mc := 0) (ms := 0) C0 V rfl LS_jStr_1059 (c_jPre_checkIndex_14 l D g ws t1 _) rfl hl.1 rfl (Nat.le_of_ble_eq_true rfl) ⟨by decide, by decide⟩ ⟨Nat.le_of_ble_eq_true rfl, Nat.le_of_ble_eq_true rfl⟩ d_31_155_5) (fun v8 u7 H locs hp6 V => ?_)
    obtain ⟨rfl, rfl⟩ := hp6
    refine lv_pop hx hb d_31_155_8 rfl ?_
    exact q_retv C0 V (rfl) d_31_155_9
set_option maxRecDepth 100000 in
set_option maxHeartbeats 4000000 in
theorem c_jLat_charAt_7 (l : Launch) (D : va_G) (g : Nat → ClassId) (ws : va_W) : q_mI l y_jLat_charAt prog_33_method_2_code 2 (.char) 3 0 0 D g [.ref (g (9 + 2 * 25)), .int 3] ws (fun r u => 46 = r ∧ ws = u) := by
  intro sz
  refine q_into (by decide) (Nat.le_of_ble_eq_true rfl) ?_
  intro p e s m below meth c ls hsz C0 V hl
  have hx := C0.1
  have hb := C0.2.1
  have hl : lv_has ls 2 [(0, .ref (g (9 + 2 * 25))), (1, .int 3)] := hl
  refine lv_iload_n hx hb d_33_2_0 rfl (lv_at hl 1 rfl) ?_
  refine lv_aload_n hx hb d_33_2_1 rfl (lv_at hl 0 rfl) ?_
  refine q_slen (i := 25) (v := 7) C0 V rfl (by decide) d_33_2_2 ?_
  refine q_gov V (q_runS (As := [.int 3, .int 7]) (rest := []) (d := 2) (mc := 0) (ms := 0) C0 V rfl LS_jLat_9 (c_jStr_checkIndex_7 l D g ws _) rfl hl.1 rfl (Nat.le_of_ble_eq_true rfl) ⟨by decide, by decide⟩ ⟨Nat.le_of_ble_eq_true rfl, Nat.le_of_ble_eq_true rfl⟩ d_33_2_3) (fun u2 H locs hp1 V => ?_)
  obtain rfl := hp1
  refine lv_aload_n hx hb d_33_2_6 rfl (lv_at hl 0 rfl) ?_
  refine lv_iload_n hx hb d_33_2_7 rfl (lv_at hl 1 rfl) ?_
  refine q_sbal (i := 25) (v := 46) C0 V rfl (by unfold vp_in; decide) rfl d_33_2_8 ?_
  refine lv_sipush (v := 255) hx hb d_33_2_9 (by decide) ?_
  refine lv_iand hx hb d_33_2_12 ?_
  refine q_ti (v := 46) (by decide) ?_
  refine lv_i2c hx hb d_33_2_13 rfl ?_
  refine q_ti (v := 46) (by decide) ?_
  exact q_retn C0 V (rfl) (⟨rfl, rfl⟩) d_33_2_14
set_option maxRecDepth 100000 in
set_option maxHeartbeats 4000000 in
theorem c_jStr_charAt_7 (l : Launch) (D : va_G) (g : Nat → ClassId) (ws : va_W) : q_mI l y_jStr_charAt prog_31_method_56_code 2 (.char) 4 0 0 D g [.ref (g (8 + 2 * 25)), .int 3] ws (fun r u => 46 = r ∧ ws = u) := by
  intro sz
  refine q_into (by decide) (Nat.le_of_ble_eq_true rfl) ?_
  intro p e s m below meth c ls hsz C0 V hl
  have hx := C0.1
  have hb := C0.2.1
  have hl : lv_has ls 2 [(0, .ref (g (8 + 2 * 25))), (1, .int 3)] := hl
  refine lv_aload_n hx hb d_31_56_0 rfl (lv_at hl 0 rfl) ?_
  refine q_goi V (q_runVs (As := []) (rest := []) (d := 1) (mc := 0) (ms := 0) (i := 25) C0 V rfl LV_jStr_492 (c_jStr_isLatin1_2 l D g ws _) rfl rfl rfl hl.1 rfl (Nat.le_of_ble_eq_true rfl) ⟨by decide, by decide⟩ ⟨Nat.le_of_ble_eq_true rfl, Nat.le_of_ble_eq_true rfl⟩ d_31_56_1) (fun v3 u2 H locs hp1 V => ?_)
  obtain ⟨rfl, rfl⟩ := hp1
  refine lv_if_eq (tgt := 16) hx hb d_31_56_4 (by decide) (fun c5 => absurd c5 (by decide)) (fun c5 => ?_)
  refine lv_aload_n hx hb d_31_56_7 rfl (lv_at hl 0 rfl) ?_
  refine q_sval (i := 25) C0 V rfl rfl w_1018 d_31_56_8 ?_
  refine lv_iload_n hx hb d_31_56_11 rfl (lv_at hl 1 rfl) ?_
  refine q_goi V (q_runS (As := [.ref (g (9 + 2 * 25)), .int 3]) (rest := []) (d := 3) (mc := 0) (ms := 0) C0 V rfl LS_jStr_495 (c_jLat_charAt_7 l D g ws _) rfl hl.1 rfl (Nat.le_of_ble_eq_true rfl) ⟨by decide, by decide⟩ ⟨Nat.le_of_ble_eq_true rfl, Nat.le_of_ble_eq_true rfl⟩ d_31_56_12) (fun v8 u7 H locs hp6 V => ?_)
  obtain ⟨rfl, rfl⟩ := hp6
  exact q_retn C0 V (rfl) (⟨rfl, rfl⟩) d_31_56_15
set_option maxRecDepth 100000 in
set_option maxHeartbeats 4000000 in
theorem c_She_add_15 (l : Launch) (D : va_G) (g : Nat → ClassId) (ws : va_W) (kO0 kA1 qO0 qA1 : Nat) (y1 : Int32) (f2 : Nat → Int64) (hO0 : ws[kO0]? = (some (qO0, .inr (1, [.ref qA1, .int 11008, .int y1])) : Option (Nat × va_E))) (hA1 : ws[kA1]? = (some (qA1, .inl (g 1, 1376, .inr (.inl f2))) : Option (Nat × va_E))) (y1lo : 0 ≤ y1) (y1hi : y1 ≤ 11007) : q_mV l y_She_add prog_11_method_3_code 3 1 0 0 D g [.ref qO0, .int 46] ws (fun u => ∃ (ex0 : Nat → Int64), q_un ws u [kO0, kA1] ∧ u[kO0]? = (some (qO0, .inr (1, [.ref qA1, .int 11008, .int (y1 + 1)])) : Option (Nat × va_E)) ∧ u[kA1]? = (some (qA1, .inl (g 1, 1376, .inr (.inl ex0))) : Option (Nat × va_E))) := by
  intro sz
  refine q_into (by decide) (Nat.le_of_ble_eq_true rfl) ?_
  intro p e s m below meth c ls hsz C0 V hl
  have hx := C0.1
  have hb := C0.2.1
  have hl : lv_has ls 3 [(0, .ref qO0), (1, .int 46)] := hl
  have n_A1_O0 := q_df hA1 hO0
  have n_O0_A1 := Ne.symm (q_df hA1 hO0)
  have hF : q_un ws ws [kO0, kA1] := q_u0
  refine lv_aload_n hx hb d_11_3_0 rfl (lv_at hl 0 rfl) ?_
  refine q_get (ci := 1) (j := 2) (v := .int y1) C0 V i_She rfl rfl hO0 (by decide) w_54 rfl d_11_3_1 ?_
  refine lv_aload_n hx hb d_11_3_4 rfl (lv_at hl 0 rfl) ?_
  refine q_get (ci := 1) (j := 1) (v := .int 11008) C0 V i_She rfl rfl hO0 (by decide) w_53 rfl d_11_3_5 ?_
  refine lv_icmp_ge (tgt := 63) hx hb d_11_3_8 (by decide) (fun c1 => absurd c1 (Int32.not_le.mpr (q_Ilt (x := y1.toInt) (y := 11008) rfl (by decide) (by have t1 : 0 ≤ y1.toInt := q_leI y1lo; have t2 : y1.toInt ≤ 11007 := q_leI y1hi; omega)))) (fun c1 => ?_)
  refine lv_bipush (v := 8) hx hb d_11_3_11 (by decide) ?_
  refine lv_aload_n hx hb d_11_3_13 rfl (lv_at hl 0 rfl) ?_
  refine q_get (ci := 1) (j := 2) (v := .int y1) C0 V i_She rfl rfl hO0 (by decide) w_54 rfl d_11_3_14 ?_
  refine lv_bipush (v := 7) hx hb d_11_3_17 (by decide) ?_
  refine lv_iand hx hb d_11_3_19 ?_
  refine lv_imul hx hb d_11_3_20 ?_
  refine lv_istore_n (lv' := [(2, .int (8 * (y1 &&& 7))), (0, .ref qO0), (1, .int 46)]) hx hb d_11_3_21 rfl hl (by decide) rfl (fun ls hl => ?_)
  refine lv_aload_n hx hb d_11_3_22 rfl (lv_at hl 1 rfl) ?_
  refine q_get (ci := 1) (j := 0) (v := .ref qA1) C0 V i_She rfl rfl hO0 (by decide) w_52 rfl d_11_3_23 ?_
  refine lv_aload_n hx hb d_11_3_26 rfl (lv_at hl 1 rfl) ?_
  refine q_get (ci := 1) (j := 2) (v := .int y1) C0 V i_She rfl rfl hO0 (by decide) w_54 rfl d_11_3_27 ?_
  refine lv_iconst (v := 3) hx hb d_11_3_30 (by decide) ?_
  refine lv_ishr hx hb d_11_3_31 ?_
  refine lv_aload_n hx hb d_11_3_32 rfl (lv_at hl 1 rfl) ?_
  refine q_get (ci := 1) (j := 0) (v := .ref qA1) C0 V i_She rfl rfl hO0 (by decide) w_52 rfl d_11_3_33 ?_
  refine lv_aload_n hx hb d_11_3_36 rfl (lv_at hl 1 rfl) ?_
  refine q_get (ci := 1) (j := 2) (v := .int y1) C0 V i_She rfl rfl hO0 (by decide) w_54 rfl d_11_3_37 ?_
  refine lv_iconst (v := 3) hx hb d_11_3_40 (by decide) ?_
  refine lv_ishr hx hb d_11_3_41 ?_
  refine q_lald C0 V hA1 (q_shr3 (by have t1 : 0 ≤ y1.toInt := q_leI y1lo; have t2 : y1.toInt ≤ 11007 := q_leI y1hi; omega) (by have t1 : 0 ≤ y1.toInt := q_leI y1lo; have t2 : y1.toInt ≤ 11007 := q_leI y1hi; omega)) d_11_3_42 ?_
  refine q_ldc2 C0 rfl w_565 d_11_3_43 ?_
  refine lv_iload_n hx hb d_11_3_46 rfl (lv_at hl 0 rfl) ?_
  refine lv_lshl hx hb d_11_3_47 rfl ?_
  refine q_ldc2 C0 rfl w_566 d_11_3_48 ?_
  refine lv_lxor hx hb d_11_3_51 ?_
  refine lv_land hx hb d_11_3_52 ?_
  refine lv_iload_n hx hb d_11_3_53 rfl (lv_at hl 2 rfl) ?_
  refine lv_sipush (v := 255) hx hb d_11_3_54 (by decide) ?_
  refine lv_iand hx hb d_11_3_57 ?_
  refine q_ti (v := 46) (by decide) ?_
  refine lv_i2l hx hb d_11_3_58 rfl ?_
  refine q_tl (v := 46) (by decide) ?_
  refine lv_iload_n hx hb d_11_3_59 rfl (lv_at hl 0 rfl) ?_
  refine lv_lshl hx hb d_11_3_60 rfl ?_
  refine lv_lor hx hb d_11_3_61 ?_
  refine q_last C0 V hA1 (q_shr3 (by have t1 : 0 ≤ y1.toInt := q_leI y1lo; have t2 : y1.toInt ≤ 11007 := q_leI y1hi; omega) (by have t1 : 0 ≤ y1.toInt := q_leI y1lo; have t2 : y1.toInt ≤ 11007 := q_leI y1hi; omega)) d_11_3_62 (fun H locs w2 hu3 hA1 V => ?_)
  replace hA1 : w2[kA1]? = (some (qA1, .inl (g 1, 1376, .inr (.inl (vp_updL f2 ((y1 >>> (3 &&& 31)).toNatClampNeg) (((f2 (y1 >>> (3 &&& 31)).toNatClampNeg) &&& (((255 : Int64) <<< ((8 * (y1 &&& 7)).toInt64 &&& 63)) ^^^ (-1))) ||| ((46 : Int64) <<< ((8 * (y1 &&& 7)).toInt64 &&& 63))))))) : Option (Nat × va_E)) := hA1
  replace hF := q_us hF hu3 (.tail _ (.head _))
  refine lv_aload_n hx hb d_11_3_63 rfl (lv_at hl 1 rfl) ?_
  refine lv_dup hx hb d_11_3_64 rfl ?_
  replace hO0 := (hu3 _ n_O0_A1).trans (hO0)
  refine q_get (ci := 1) (j := 2) (v := .int y1) C0 V i_She rfl rfl hO0 (by decide) w_54 rfl d_11_3_65 ?_
  refine lv_iconst (v := 1) hx hb d_11_3_68 (by decide) ?_
  refine lv_iadd hx hb d_11_3_69 ?_
  refine q_put (ci := 1) (j := 2) (v := .int (y1 + 1)) (ty := .int) C0 V i_She o_She n_She rfl rfl hO0 (by decide) w_54 rfl rfl rfl rfl (Nat.le_of_ble_eq_true rfl) d_11_3_70 (fun H locs w4 hu5 hO0 V => ?_)
  replace hO0 : w4[kO0]? = (some (qO0, .inr (1, [.ref qA1, .int 11008, .int (y1 + 1)])) : Option (Nat × va_E)) := hO0
  replace hF := q_us hF hu5 (.head _)
  replace hA1 := (hu5 _ n_A1_O0).trans (hA1)
  exact q_retv C0 V (⟨(vp_updL f2 ((y1 >>> (3 &&& 31)).toNatClampNeg) (((f2 (y1 >>> (3 &&& 31)).toNatClampNeg) &&& (((255 : Int64) <<< ((8 * (y1 &&& 7)).toInt64 &&& 63)) ^^^ (-1))) ||| ((46 : Int64) <<< ((8 * (y1 &&& 7)).toInt64 &&& 63)))), hF, hO0, hA1⟩) d_11_3_73
set_option maxRecDepth 100000 in
set_option maxHeartbeats 4000000 in
theorem c_jPre_checkIndex_15 (l : Launch) (D : va_G) (g : Nat → ClassId) (ws : va_W) : q_mI l y_jPre_checkIndex prog_39_method_11_code 3 (.int) 1 0 0 D g [.int 4, .int 7, .null] ws (fun r u => 4 = r ∧ ws = u) := by
  intro sz
  refine q_into (by decide) (Nat.le_of_ble_eq_true rfl) ?_
  intro p e s m below meth c ls hsz C0 V hl
  have hx := C0.1
  have hb := C0.2.1
  have hl : lv_has ls 3 [(0, .int 4), (1, .int 7), (2, .null)] := hl
  refine lv_iload_n hx hb d_39_11_0 rfl (lv_at hl 0 rfl) ?_
  refine lv_if_lt (tgt := 9) hx hb d_39_11_1 (by decide) (fun c1 => absurd c1 (by decide)) (fun c1 => ?_)
  refine lv_iload_n hx hb d_39_11_4 rfl (lv_at hl 0 rfl) ?_
  refine lv_iload_n hx hb d_39_11_5 rfl (lv_at hl 1 rfl) ?_
  refine lv_icmp_lt (tgt := 16) hx hb d_39_11_6 (by decide) (fun c2 => ?_) (fun c2 => absurd (by decide) c2)
  refine lv_iload_n hx hb d_39_11_16 rfl (lv_at hl 0 rfl) ?_
  exact q_reti C0 V (⟨rfl, rfl⟩) d_39_11_17
set_option maxRecDepth 100000 in
set_option maxHeartbeats 4000000 in
theorem c_jPre_checkIndex_16 (l : Launch) (D : va_G) (g : Nat → ClassId) (ws : va_W) (qq1 : Nat) : q_mI l y_jPre_checkIndex prog_39_method_11_code 3 (.int) 1 0 0 D g [.int 4, .int 7, .ref qq1] ws (fun r u => 4 = r ∧ ws = u) := by
  intro sz
  refine q_into (by decide) (Nat.le_of_ble_eq_true rfl) ?_
  intro p e s m below meth c ls hsz C0 V hl
  have hx := C0.1
  have hb := C0.2.1
  have hl : lv_has ls 3 [(0, .int 4), (1, .int 7), (2, .ref qq1)] := hl
  refine lv_iload_n hx hb d_39_11_0 rfl (lv_at hl 0 rfl) ?_
  refine lv_if_lt (tgt := 9) hx hb d_39_11_1 (by decide) (fun c1 => absurd c1 (by decide)) (fun c1 => ?_)
  refine lv_iload_n hx hb d_39_11_4 rfl (lv_at hl 0 rfl) ?_
  refine lv_iload_n hx hb d_39_11_5 rfl (lv_at hl 1 rfl) ?_
  refine lv_icmp_lt (tgt := 16) hx hb d_39_11_6 (by decide) (fun c2 => ?_) (fun c2 => absurd (by decide) c2)
  refine lv_iload_n hx hb d_39_11_16 rfl (lv_at hl 0 rfl) ?_
  exact q_reti C0 V (⟨rfl, rfl⟩) d_39_11_17
set_option maxRecDepth 100000 in
set_option maxHeartbeats 4000000 in
theorem c_jStr_checkIndex_8 (l : Launch) (D : va_G) (g : Nat → ClassId) (ws : va_W) : q_mV l y_jStr_checkIndex prog_31_method_155_code 2 2 0 0 D g [.int 4, .int 7] ws (fun u => ws = u) := by
  intro sz
  refine q_into (by decide) (Nat.le_of_ble_eq_true rfl) ?_
  intro p e s m below meth c ls hsz C0 V hl
  have hx := C0.1
  have hb := C0.2.1
  have hl : lv_has ls 2 [(0, .int 4), (1, .int 7)] := hl
  refine lv_iload_n hx hb d_31_155_0 rfl (lv_at hl 0 rfl) ?_
  refine lv_iload_n hx hb d_31_155_1 rfl (lv_at hl 1 rfl) ?_
  refine q_sfmt C0 V rfl w_679 d_31_155_2 ?_ (fun t1 => ?_)
  ·
    refine q_goi V (q_runS (As := [.int 4, .int 7, .null]) (rest := []) (d := 1) (mc := 0) (ms := 0) C0 V rfl LS_jStr_1059 (c_jPre_checkIndex_15 l D g ws _) rfl hl.1 rfl (Nat.le_of_ble_eq_true rfl) ⟨by decide, by decide⟩ ⟨Nat.le_of_ble_eq_true rfl, Nat.le_of_ble_eq_true rfl⟩ d_31_155_5) (fun v4 u3 H locs hp2 V => ?_)
    obtain ⟨rfl, rfl⟩ := hp2
    refine lv_pop hx hb d_31_155_8 rfl ?_
    exact q_retv C0 V (rfl) d_31_155_9
  ·
    refine q_goi V (q_runS (As := [.int 4, .int 7, .ref t1]) (rest := []) (d := 1) (mc := 0) (ms := 0) C0 V rfl LS_jStr_1059 (c_jPre_checkIndex_16 l D g ws t1 _) rfl hl.1 rfl (Nat.le_of_ble_eq_true rfl) ⟨by decide, by decide⟩ ⟨Nat.le_of_ble_eq_true rfl, Nat.le_of_ble_eq_true rfl⟩ d_31_155_5) (fun v8 u7 H locs hp6 V => ?_)
    obtain ⟨rfl, rfl⟩ := hp6
    refine lv_pop hx hb d_31_155_8 rfl ?_
    exact q_retv C0 V (rfl) d_31_155_9
set_option maxRecDepth 100000 in
set_option maxHeartbeats 4000000 in
theorem c_jLat_charAt_8 (l : Launch) (D : va_G) (g : Nat → ClassId) (ws : va_W) : q_mI l y_jLat_charAt prog_33_method_2_code 2 (.char) 3 0 0 D g [.ref (g (9 + 2 * 25)), .int 4] ws (fun r u => 48 = r ∧ ws = u) := by
  intro sz
  refine q_into (by decide) (Nat.le_of_ble_eq_true rfl) ?_
  intro p e s m below meth c ls hsz C0 V hl
  have hx := C0.1
  have hb := C0.2.1
  have hl : lv_has ls 2 [(0, .ref (g (9 + 2 * 25))), (1, .int 4)] := hl
  refine lv_iload_n hx hb d_33_2_0 rfl (lv_at hl 1 rfl) ?_
  refine lv_aload_n hx hb d_33_2_1 rfl (lv_at hl 0 rfl) ?_
  refine q_slen (i := 25) (v := 7) C0 V rfl (by decide) d_33_2_2 ?_
  refine q_gov V (q_runS (As := [.int 4, .int 7]) (rest := []) (d := 2) (mc := 0) (ms := 0) C0 V rfl LS_jLat_9 (c_jStr_checkIndex_8 l D g ws _) rfl hl.1 rfl (Nat.le_of_ble_eq_true rfl) ⟨by decide, by decide⟩ ⟨Nat.le_of_ble_eq_true rfl, Nat.le_of_ble_eq_true rfl⟩ d_33_2_3) (fun u2 H locs hp1 V => ?_)
  obtain rfl := hp1
  refine lv_aload_n hx hb d_33_2_6 rfl (lv_at hl 0 rfl) ?_
  refine lv_iload_n hx hb d_33_2_7 rfl (lv_at hl 1 rfl) ?_
  refine q_sbal (i := 25) (v := 48) C0 V rfl (by unfold vp_in; decide) rfl d_33_2_8 ?_
  refine lv_sipush (v := 255) hx hb d_33_2_9 (by decide) ?_
  refine lv_iand hx hb d_33_2_12 ?_
  refine q_ti (v := 48) (by decide) ?_
  refine lv_i2c hx hb d_33_2_13 rfl ?_
  refine q_ti (v := 48) (by decide) ?_
  exact q_retn C0 V (rfl) (⟨rfl, rfl⟩) d_33_2_14
set_option maxRecDepth 100000 in
set_option maxHeartbeats 4000000 in
theorem c_jStr_charAt_8 (l : Launch) (D : va_G) (g : Nat → ClassId) (ws : va_W) : q_mI l y_jStr_charAt prog_31_method_56_code 2 (.char) 4 0 0 D g [.ref (g (8 + 2 * 25)), .int 4] ws (fun r u => 48 = r ∧ ws = u) := by
  intro sz
  refine q_into (by decide) (Nat.le_of_ble_eq_true rfl) ?_
  intro p e s m below meth c ls hsz C0 V hl
  have hx := C0.1
  have hb := C0.2.1
  have hl : lv_has ls 2 [(0, .ref (g (8 + 2 * 25))), (1, .int 4)] := hl
  refine lv_aload_n hx hb d_31_56_0 rfl (lv_at hl 0 rfl) ?_
  refine q_goi V (q_runVs (As := []) (rest := []) (d := 1) (mc := 0) (ms := 0) (i := 25) C0 V rfl LV_jStr_492 (c_jStr_isLatin1_2 l D g ws _) rfl rfl rfl hl.1 rfl (Nat.le_of_ble_eq_true rfl) ⟨by decide, by decide⟩ ⟨Nat.le_of_ble_eq_true rfl, Nat.le_of_ble_eq_true rfl⟩ d_31_56_1) (fun v3 u2 H locs hp1 V => ?_)
  obtain ⟨rfl, rfl⟩ := hp1
  refine lv_if_eq (tgt := 16) hx hb d_31_56_4 (by decide) (fun c5 => absurd c5 (by decide)) (fun c5 => ?_)
  refine lv_aload_n hx hb d_31_56_7 rfl (lv_at hl 0 rfl) ?_
  refine q_sval (i := 25) C0 V rfl rfl w_1018 d_31_56_8 ?_
  refine lv_iload_n hx hb d_31_56_11 rfl (lv_at hl 1 rfl) ?_
  refine q_goi V (q_runS (As := [.ref (g (9 + 2 * 25)), .int 4]) (rest := []) (d := 3) (mc := 0) (ms := 0) C0 V rfl LS_jStr_495 (c_jLat_charAt_8 l D g ws _) rfl hl.1 rfl (Nat.le_of_ble_eq_true rfl) ⟨by decide, by decide⟩ ⟨Nat.le_of_ble_eq_true rfl, Nat.le_of_ble_eq_true rfl⟩ d_31_56_12) (fun v8 u7 H locs hp6 V => ?_)
  obtain ⟨rfl, rfl⟩ := hp6
  exact q_retn C0 V (rfl) (⟨rfl, rfl⟩) d_31_56_15
set_option maxRecDepth 100000 in
set_option maxHeartbeats 4000000 in
theorem c_jPre_checkIndex_17 (l : Launch) (D : va_G) (g : Nat → ClassId) (ws : va_W) : q_mI l y_jPre_checkIndex prog_39_method_11_code 3 (.int) 1 0 0 D g [.int 5, .int 7, .null] ws (fun r u => 5 = r ∧ ws = u) := by
  intro sz
  refine q_into (by decide) (Nat.le_of_ble_eq_true rfl) ?_
  intro p e s m below meth c ls hsz C0 V hl
  have hx := C0.1
  have hb := C0.2.1
  have hl : lv_has ls 3 [(0, .int 5), (1, .int 7), (2, .null)] := hl
  refine lv_iload_n hx hb d_39_11_0 rfl (lv_at hl 0 rfl) ?_
  refine lv_if_lt (tgt := 9) hx hb d_39_11_1 (by decide) (fun c1 => absurd c1 (by decide)) (fun c1 => ?_)
  refine lv_iload_n hx hb d_39_11_4 rfl (lv_at hl 0 rfl) ?_
  refine lv_iload_n hx hb d_39_11_5 rfl (lv_at hl 1 rfl) ?_
  refine lv_icmp_lt (tgt := 16) hx hb d_39_11_6 (by decide) (fun c2 => ?_) (fun c2 => absurd (by decide) c2)
  refine lv_iload_n hx hb d_39_11_16 rfl (lv_at hl 0 rfl) ?_
  exact q_reti C0 V (⟨rfl, rfl⟩) d_39_11_17
set_option maxRecDepth 100000 in
set_option maxHeartbeats 4000000 in
theorem c_jPre_checkIndex_18 (l : Launch) (D : va_G) (g : Nat → ClassId) (ws : va_W) (qq1 : Nat) : q_mI l y_jPre_checkIndex prog_39_method_11_code 3 (.int) 1 0 0 D g [.int 5, .int 7, .ref qq1] ws (fun r u => 5 = r ∧ ws = u) := by
  intro sz
  refine q_into (by decide) (Nat.le_of_ble_eq_true rfl) ?_
  intro p e s m below meth c ls hsz C0 V hl
  have hx := C0.1
  have hb := C0.2.1
  have hl : lv_has ls 3 [(0, .int 5), (1, .int 7), (2, .ref qq1)] := hl
  refine lv_iload_n hx hb d_39_11_0 rfl (lv_at hl 0 rfl) ?_
  refine lv_if_lt (tgt := 9) hx hb d_39_11_1 (by decide) (fun c1 => absurd c1 (by decide)) (fun c1 => ?_)
  refine lv_iload_n hx hb d_39_11_4 rfl (lv_at hl 0 rfl) ?_
  refine lv_iload_n hx hb d_39_11_5 rfl (lv_at hl 1 rfl) ?_
  refine lv_icmp_lt (tgt := 16) hx hb d_39_11_6 (by decide) (fun c2 => ?_) (fun c2 => absurd (by decide) c2)
  refine lv_iload_n hx hb d_39_11_16 rfl (lv_at hl 0 rfl) ?_
  exact q_reti C0 V (⟨rfl, rfl⟩) d_39_11_17
set_option maxRecDepth 100000 in
set_option maxHeartbeats 4000000 in
theorem c_jStr_checkIndex_9 (l : Launch) (D : va_G) (g : Nat → ClassId) (ws : va_W) : q_mV l y_jStr_checkIndex prog_31_method_155_code 2 2 0 0 D g [.int 5, .int 7] ws (fun u => ws = u) := by
  intro sz
  refine q_into (by decide) (Nat.le_of_ble_eq_true rfl) ?_
  intro p e s m below meth c ls hsz C0 V hl
  have hx := C0.1
  have hb := C0.2.1
  have hl : lv_has ls 2 [(0, .int 5), (1, .int 7)] := hl
  refine lv_iload_n hx hb d_31_155_0 rfl (lv_at hl 0 rfl) ?_
  refine lv_iload_n hx hb d_31_155_1 rfl (lv_at hl 1 rfl) ?_
  refine q_sfmt C0 V rfl w_679 d_31_155_2 ?_ (fun t1 => ?_)
  ·
    refine q_goi V (q_runS (As := [.int 5, .int 7, .null]) (rest := []) (d := 1) (mc := 0) (ms := 0) C0 V rfl LS_jStr_1059 (c_jPre_checkIndex_17 l D g ws _) rfl hl.1 rfl (Nat.le_of_ble_eq_true rfl) ⟨by decide, by decide⟩ ⟨Nat.le_of_ble_eq_true rfl, Nat.le_of_ble_eq_true rfl⟩ d_31_155_5) (fun v4 u3 H locs hp2 V => ?_)
    obtain ⟨rfl, rfl⟩ := hp2
    refine lv_pop hx hb d_31_155_8 rfl ?_
    exact q_retv C0 V (rfl) d_31_155_9
  ·
    refine q_goi V (q_runS (As := [.int 5, .int 7, .ref t1]) (rest := []) (d := 1) (mc := 0) (ms := 0) C0 V rfl LS_jStr_1059 (c_jPre_checkIndex_18 l D g ws t1 _) rfl hl.1 rfl (Nat.le_of_ble_eq_true rfl) ⟨by decide, by decide⟩ ⟨Nat.le_of_ble_eq_true rfl, Nat.le_of_ble_eq_true rfl⟩ d_31_155_5) (fun v8 u7 H locs hp6 V => ?_)
    obtain ⟨rfl, rfl⟩ := hp6
    refine lv_pop hx hb d_31_155_8 rfl ?_
    exact q_retv C0 V (rfl) d_31_155_9
set_option maxRecDepth 100000 in
set_option maxHeartbeats 4000000 in
theorem c_jLat_charAt_9 (l : Launch) (D : va_G) (g : Nat → ClassId) (ws : va_W) : q_mI l y_jLat_charAt prog_33_method_2_code 2 (.char) 3 0 0 D g [.ref (g (9 + 2 * 25)), .int 5] ws (fun r u => 112 = r ∧ ws = u) := by
  intro sz
  refine q_into (by decide) (Nat.le_of_ble_eq_true rfl) ?_
  intro p e s m below meth c ls hsz C0 V hl
  have hx := C0.1
  have hb := C0.2.1
  have hl : lv_has ls 2 [(0, .ref (g (9 + 2 * 25))), (1, .int 5)] := hl
  refine lv_iload_n hx hb d_33_2_0 rfl (lv_at hl 1 rfl) ?_
  refine lv_aload_n hx hb d_33_2_1 rfl (lv_at hl 0 rfl) ?_
  refine q_slen (i := 25) (v := 7) C0 V rfl (by decide) d_33_2_2 ?_
  refine q_gov V (q_runS (As := [.int 5, .int 7]) (rest := []) (d := 2) (mc := 0) (ms := 0) C0 V rfl LS_jLat_9 (c_jStr_checkIndex_9 l D g ws _) rfl hl.1 rfl (Nat.le_of_ble_eq_true rfl) ⟨by decide, by decide⟩ ⟨Nat.le_of_ble_eq_true rfl, Nat.le_of_ble_eq_true rfl⟩ d_33_2_3) (fun u2 H locs hp1 V => ?_)
  obtain rfl := hp1
  refine lv_aload_n hx hb d_33_2_6 rfl (lv_at hl 0 rfl) ?_
  refine lv_iload_n hx hb d_33_2_7 rfl (lv_at hl 1 rfl) ?_
  refine q_sbal (i := 25) (v := 112) C0 V rfl (by unfold vp_in; decide) rfl d_33_2_8 ?_
  refine lv_sipush (v := 255) hx hb d_33_2_9 (by decide) ?_
  refine lv_iand hx hb d_33_2_12 ?_
  refine q_ti (v := 112) (by decide) ?_
  refine lv_i2c hx hb d_33_2_13 rfl ?_
  refine q_ti (v := 112) (by decide) ?_
  exact q_retn C0 V (rfl) (⟨rfl, rfl⟩) d_33_2_14
set_option maxRecDepth 100000 in
set_option maxHeartbeats 4000000 in
theorem c_jStr_charAt_9 (l : Launch) (D : va_G) (g : Nat → ClassId) (ws : va_W) : q_mI l y_jStr_charAt prog_31_method_56_code 2 (.char) 4 0 0 D g [.ref (g (8 + 2 * 25)), .int 5] ws (fun r u => 112 = r ∧ ws = u) := by
  intro sz
  refine q_into (by decide) (Nat.le_of_ble_eq_true rfl) ?_
  intro p e s m below meth c ls hsz C0 V hl
  have hx := C0.1
  have hb := C0.2.1
  have hl : lv_has ls 2 [(0, .ref (g (8 + 2 * 25))), (1, .int 5)] := hl
  refine lv_aload_n hx hb d_31_56_0 rfl (lv_at hl 0 rfl) ?_
  refine q_goi V (q_runVs (As := []) (rest := []) (d := 1) (mc := 0) (ms := 0) (i := 25) C0 V rfl LV_jStr_492 (c_jStr_isLatin1_2 l D g ws _) rfl rfl rfl hl.1 rfl (Nat.le_of_ble_eq_true rfl) ⟨by decide, by decide⟩ ⟨Nat.le_of_ble_eq_true rfl, Nat.le_of_ble_eq_true rfl⟩ d_31_56_1) (fun v3 u2 H locs hp1 V => ?_)
  obtain ⟨rfl, rfl⟩ := hp1
  refine lv_if_eq (tgt := 16) hx hb d_31_56_4 (by decide) (fun c5 => absurd c5 (by decide)) (fun c5 => ?_)
  refine lv_aload_n hx hb d_31_56_7 rfl (lv_at hl 0 rfl) ?_
  refine q_sval (i := 25) C0 V rfl rfl w_1018 d_31_56_8 ?_
  refine lv_iload_n hx hb d_31_56_11 rfl (lv_at hl 1 rfl) ?_
  refine q_goi V (q_runS (As := [.ref (g (9 + 2 * 25)), .int 5]) (rest := []) (d := 3) (mc := 0) (ms := 0) C0 V rfl LS_jStr_495 (c_jLat_charAt_9 l D g ws _) rfl hl.1 rfl (Nat.le_of_ble_eq_true rfl) ⟨by decide, by decide⟩ ⟨Nat.le_of_ble_eq_true rfl, Nat.le_of_ble_eq_true rfl⟩ d_31_56_12) (fun v8 u7 H locs hp6 V => ?_)
  obtain ⟨rfl, rfl⟩ := hp6
  exact q_retn C0 V (rfl) (⟨rfl, rfl⟩) d_31_56_15
set_option maxRecDepth 100000 in
set_option maxHeartbeats 4000000 in
theorem c_She_add_16 (l : Launch) (D : va_G) (g : Nat → ClassId) (ws : va_W) (kO0 kA1 qO0 qA1 : Nat) (y1 : Int32) (f2 : Nat → Int64) (hO0 : ws[kO0]? = (some (qO0, .inr (1, [.ref qA1, .int 11008, .int y1])) : Option (Nat × va_E))) (hA1 : ws[kA1]? = (some (qA1, .inl (g 1, 1376, .inr (.inl f2))) : Option (Nat × va_E))) (y1lo : 0 ≤ y1) (y1hi : y1 ≤ 11007) : q_mV l y_She_add prog_11_method_3_code 3 1 0 0 D g [.ref qO0, .int 112] ws (fun u => ∃ (ex0 : Nat → Int64), q_un ws u [kO0, kA1] ∧ u[kO0]? = (some (qO0, .inr (1, [.ref qA1, .int 11008, .int (y1 + 1)])) : Option (Nat × va_E)) ∧ u[kA1]? = (some (qA1, .inl (g 1, 1376, .inr (.inl ex0))) : Option (Nat × va_E))) := by
  intro sz
  refine q_into (by decide) (Nat.le_of_ble_eq_true rfl) ?_
  intro p e s m below meth c ls hsz C0 V hl
  have hx := C0.1
  have hb := C0.2.1
  have hl : lv_has ls 3 [(0, .ref qO0), (1, .int 112)] := hl
  have n_A1_O0 := q_df hA1 hO0
  have n_O0_A1 := Ne.symm (q_df hA1 hO0)
  have hF : q_un ws ws [kO0, kA1] := q_u0
  refine lv_aload_n hx hb d_11_3_0 rfl (lv_at hl 0 rfl) ?_
  refine q_get (ci := 1) (j := 2) (v := .int y1) C0 V i_She rfl rfl hO0 (by decide) w_54 rfl d_11_3_1 ?_
  refine lv_aload_n hx hb d_11_3_4 rfl (lv_at hl 0 rfl) ?_
  refine q_get (ci := 1) (j := 1) (v := .int 11008) C0 V i_She rfl rfl hO0 (by decide) w_53 rfl d_11_3_5 ?_
  refine lv_icmp_ge (tgt := 63) hx hb d_11_3_8 (by decide) (fun c1 => absurd c1 (Int32.not_le.mpr (q_Ilt (x := y1.toInt) (y := 11008) rfl (by decide) (by have t1 : 0 ≤ y1.toInt := q_leI y1lo; have t2 : y1.toInt ≤ 11007 := q_leI y1hi; omega)))) (fun c1 => ?_)
  refine lv_bipush (v := 8) hx hb d_11_3_11 (by decide) ?_
  refine lv_aload_n hx hb d_11_3_13 rfl (lv_at hl 0 rfl) ?_
  refine q_get (ci := 1) (j := 2) (v := .int y1) C0 V i_She rfl rfl hO0 (by decide) w_54 rfl d_11_3_14 ?_
  refine lv_bipush (v := 7) hx hb d_11_3_17 (by decide) ?_
  refine lv_iand hx hb d_11_3_19 ?_
  refine lv_imul hx hb d_11_3_20 ?_
  refine lv_istore_n (lv' := [(2, .int (8 * (y1 &&& 7))), (0, .ref qO0), (1, .int 112)]) hx hb d_11_3_21 rfl hl (by decide) rfl (fun ls hl => ?_)
  refine lv_aload_n hx hb d_11_3_22 rfl (lv_at hl 1 rfl) ?_
  refine q_get (ci := 1) (j := 0) (v := .ref qA1) C0 V i_She rfl rfl hO0 (by decide) w_52 rfl d_11_3_23 ?_
  refine lv_aload_n hx hb d_11_3_26 rfl (lv_at hl 1 rfl) ?_
  refine q_get (ci := 1) (j := 2) (v := .int y1) C0 V i_She rfl rfl hO0 (by decide) w_54 rfl d_11_3_27 ?_
  refine lv_iconst (v := 3) hx hb d_11_3_30 (by decide) ?_
  refine lv_ishr hx hb d_11_3_31 ?_
  refine lv_aload_n hx hb d_11_3_32 rfl (lv_at hl 1 rfl) ?_
  refine q_get (ci := 1) (j := 0) (v := .ref qA1) C0 V i_She rfl rfl hO0 (by decide) w_52 rfl d_11_3_33 ?_
  refine lv_aload_n hx hb d_11_3_36 rfl (lv_at hl 1 rfl) ?_
  refine q_get (ci := 1) (j := 2) (v := .int y1) C0 V i_She rfl rfl hO0 (by decide) w_54 rfl d_11_3_37 ?_
  refine lv_iconst (v := 3) hx hb d_11_3_40 (by decide) ?_
  refine lv_ishr hx hb d_11_3_41 ?_
  refine q_lald C0 V hA1 (q_shr3 (by have t1 : 0 ≤ y1.toInt := q_leI y1lo; have t2 : y1.toInt ≤ 11007 := q_leI y1hi; omega) (by have t1 : 0 ≤ y1.toInt := q_leI y1lo; have t2 : y1.toInt ≤ 11007 := q_leI y1hi; omega)) d_11_3_42 ?_
  refine q_ldc2 C0 rfl w_565 d_11_3_43 ?_
  refine lv_iload_n hx hb d_11_3_46 rfl (lv_at hl 0 rfl) ?_
  refine lv_lshl hx hb d_11_3_47 rfl ?_
  refine q_ldc2 C0 rfl w_566 d_11_3_48 ?_
  refine lv_lxor hx hb d_11_3_51 ?_
  refine lv_land hx hb d_11_3_52 ?_
  refine lv_iload_n hx hb d_11_3_53 rfl (lv_at hl 2 rfl) ?_
  refine lv_sipush (v := 255) hx hb d_11_3_54 (by decide) ?_
  refine lv_iand hx hb d_11_3_57 ?_
  refine q_ti (v := 112) (by decide) ?_
  refine lv_i2l hx hb d_11_3_58 rfl ?_
  refine q_tl (v := 112) (by decide) ?_
  refine lv_iload_n hx hb d_11_3_59 rfl (lv_at hl 0 rfl) ?_
  refine lv_lshl hx hb d_11_3_60 rfl ?_
  refine lv_lor hx hb d_11_3_61 ?_
  refine q_last C0 V hA1 (q_shr3 (by have t1 : 0 ≤ y1.toInt := q_leI y1lo; have t2 : y1.toInt ≤ 11007 := q_leI y1hi; omega) (by have t1 : 0 ≤ y1.toInt := q_leI y1lo; have t2 : y1.toInt ≤ 11007 := q_leI y1hi; omega)) d_11_3_62 (fun H locs w2 hu3 hA1 V => ?_)
  replace hA1 : w2[kA1]? = (some (qA1, .inl (g 1, 1376, .inr (.inl (vp_updL f2 ((y1 >>> (3 &&& 31)).toNatClampNeg) (((f2 (y1 >>> (3 &&& 31)).toNatClampNeg) &&& (((255 : Int64) <<< ((8 * (y1 &&& 7)).toInt64 &&& 63)) ^^^ (-1))) ||| ((112 : Int64) <<< ((8 * (y1 &&& 7)).toInt64 &&& 63))))))) : Option (Nat × va_E)) := hA1
  replace hF := q_us hF hu3 (.tail _ (.head _))
  refine lv_aload_n hx hb d_11_3_63 rfl (lv_at hl 1 rfl) ?_
  refine lv_dup hx hb d_11_3_64 rfl ?_
  replace hO0 := (hu3 _ n_O0_A1).trans (hO0)
  refine q_get (ci := 1) (j := 2) (v := .int y1) C0 V i_She rfl rfl hO0 (by decide) w_54 rfl d_11_3_65 ?_
  refine lv_iconst (v := 1) hx hb d_11_3_68 (by decide) ?_
  refine lv_iadd hx hb d_11_3_69 ?_
  refine q_put (ci := 1) (j := 2) (v := .int (y1 + 1)) (ty := .int) C0 V i_She o_She n_She rfl rfl hO0 (by decide) w_54 rfl rfl rfl rfl (Nat.le_of_ble_eq_true rfl) d_11_3_70 (fun H locs w4 hu5 hO0 V => ?_)
  replace hO0 : w4[kO0]? = (some (qO0, .inr (1, [.ref qA1, .int 11008, .int (y1 + 1)])) : Option (Nat × va_E)) := hO0
  replace hF := q_us hF hu5 (.head _)
  replace hA1 := (hu5 _ n_A1_O0).trans (hA1)
  exact q_retv C0 V (⟨(vp_updL f2 ((y1 >>> (3 &&& 31)).toNatClampNeg) (((f2 (y1 >>> (3 &&& 31)).toNatClampNeg) &&& (((255 : Int64) <<< ((8 * (y1 &&& 7)).toInt64 &&& 63)) ^^^ (-1))) ||| ((112 : Int64) <<< ((8 * (y1 &&& 7)).toInt64 &&& 63)))), hF, hO0, hA1⟩) d_11_3_73
set_option maxRecDepth 100000 in
set_option maxHeartbeats 4000000 in
theorem c_jPre_checkIndex_19 (l : Launch) (D : va_G) (g : Nat → ClassId) (ws : va_W) : q_mI l y_jPre_checkIndex prog_39_method_11_code 3 (.int) 1 0 0 D g [.int 6, .int 7, .null] ws (fun r u => 6 = r ∧ ws = u) := by
  intro sz
  refine q_into (by decide) (Nat.le_of_ble_eq_true rfl) ?_
  intro p e s m below meth c ls hsz C0 V hl
  have hx := C0.1
  have hb := C0.2.1
  have hl : lv_has ls 3 [(0, .int 6), (1, .int 7), (2, .null)] := hl
  refine lv_iload_n hx hb d_39_11_0 rfl (lv_at hl 0 rfl) ?_
  refine lv_if_lt (tgt := 9) hx hb d_39_11_1 (by decide) (fun c1 => absurd c1 (by decide)) (fun c1 => ?_)
  refine lv_iload_n hx hb d_39_11_4 rfl (lv_at hl 0 rfl) ?_
  refine lv_iload_n hx hb d_39_11_5 rfl (lv_at hl 1 rfl) ?_
  refine lv_icmp_lt (tgt := 16) hx hb d_39_11_6 (by decide) (fun c2 => ?_) (fun c2 => absurd (by decide) c2)
  refine lv_iload_n hx hb d_39_11_16 rfl (lv_at hl 0 rfl) ?_
  exact q_reti C0 V (⟨rfl, rfl⟩) d_39_11_17
set_option maxRecDepth 100000 in
set_option maxHeartbeats 4000000 in
theorem c_jPre_checkIndex_20 (l : Launch) (D : va_G) (g : Nat → ClassId) (ws : va_W) (qq1 : Nat) : q_mI l y_jPre_checkIndex prog_39_method_11_code 3 (.int) 1 0 0 D g [.int 6, .int 7, .ref qq1] ws (fun r u => 6 = r ∧ ws = u) := by
  intro sz
  refine q_into (by decide) (Nat.le_of_ble_eq_true rfl) ?_
  intro p e s m below meth c ls hsz C0 V hl
  have hx := C0.1
  have hb := C0.2.1
  have hl : lv_has ls 3 [(0, .int 6), (1, .int 7), (2, .ref qq1)] := hl
  refine lv_iload_n hx hb d_39_11_0 rfl (lv_at hl 0 rfl) ?_
  refine lv_if_lt (tgt := 9) hx hb d_39_11_1 (by decide) (fun c1 => absurd c1 (by decide)) (fun c1 => ?_)
  refine lv_iload_n hx hb d_39_11_4 rfl (lv_at hl 0 rfl) ?_
  refine lv_iload_n hx hb d_39_11_5 rfl (lv_at hl 1 rfl) ?_
  refine lv_icmp_lt (tgt := 16) hx hb d_39_11_6 (by decide) (fun c2 => ?_) (fun c2 => absurd (by decide) c2)
  refine lv_iload_n hx hb d_39_11_16 rfl (lv_at hl 0 rfl) ?_
  exact q_reti C0 V (⟨rfl, rfl⟩) d_39_11_17
set_option maxRecDepth 100000 in
set_option maxHeartbeats 4000000 in
theorem c_jStr_checkIndex_10 (l : Launch) (D : va_G) (g : Nat → ClassId) (ws : va_W) : q_mV l y_jStr_checkIndex prog_31_method_155_code 2 2 0 0 D g [.int 6, .int 7] ws (fun u => ws = u) := by
  intro sz
  refine q_into (by decide) (Nat.le_of_ble_eq_true rfl) ?_
  intro p e s m below meth c ls hsz C0 V hl
  have hx := C0.1
  have hb := C0.2.1
  have hl : lv_has ls 2 [(0, .int 6), (1, .int 7)] := hl
  refine lv_iload_n hx hb d_31_155_0 rfl (lv_at hl 0 rfl) ?_
  refine lv_iload_n hx hb d_31_155_1 rfl (lv_at hl 1 rfl) ?_
  refine q_sfmt C0 V rfl w_679 d_31_155_2 ?_ (fun t1 => ?_)
  ·
    refine q_goi V (q_runS (As := [.int 6, .int 7, .null]) (rest := []) (d := 1) (mc := 0) (ms := 0) C0 V rfl LS_jStr_1059 (c_jPre_checkIndex_19 l D g ws _) rfl hl.1 rfl (Nat.le_of_ble_eq_true rfl) ⟨by decide, by decide⟩ ⟨Nat.le_of_ble_eq_true rfl, Nat.le_of_ble_eq_true rfl⟩ d_31_155_5) (fun v4 u3 H locs hp2 V => ?_)
    obtain ⟨rfl, rfl⟩ := hp2
    refine lv_pop hx hb d_31_155_8 rfl ?_
    exact q_retv C0 V (rfl) d_31_155_9
  ·
    refine q_goi V (q_runS (As := [.int 6, .int 7, .ref t1]) (rest := []) (d := 1) (mc := 0) (ms := 0) C0 V rfl LS_jStr_1059 (c_jPre_checkIndex_20 l D g ws t1 _) rfl hl.1 rfl (Nat.le_of_ble_eq_true rfl) ⟨by decide, by decide⟩ ⟨Nat.le_of_ble_eq_true rfl, Nat.le_of_ble_eq_true rfl⟩ d_31_155_5) (fun v8 u7 H locs hp6 V => ?_)
    obtain ⟨rfl, rfl⟩ := hp6
    refine lv_pop hx hb d_31_155_8 rfl ?_
    exact q_retv C0 V (rfl) d_31_155_9
set_option maxRecDepth 100000 in
set_option maxHeartbeats 4000000 in
theorem c_jLat_charAt_10 (l : Launch) (D : va_G) (g : Nat → ClassId) (ws : va_W) : q_mI l y_jLat_charAt prog_33_method_2_code 2 (.char) 3 0 0 D g [.ref (g (9 + 2 * 25)), .int 6] ws (fun r u => 48 = r ∧ ws = u) := by
  intro sz
  refine q_into (by decide) (Nat.le_of_ble_eq_true rfl) ?_
  intro p e s m below meth c ls hsz C0 V hl
  have hx := C0.1
  have hb := C0.2.1
  have hl : lv_has ls 2 [(0, .ref (g (9 + 2 * 25))), (1, .int 6)] := hl
  refine lv_iload_n hx hb d_33_2_0 rfl (lv_at hl 1 rfl) ?_
  refine lv_aload_n hx hb d_33_2_1 rfl (lv_at hl 0 rfl) ?_
  refine q_slen (i := 25) (v := 7) C0 V rfl (by decide) d_33_2_2 ?_
  refine q_gov V (q_runS (As := [.int 6, .int 7]) (rest := []) (d := 2) (mc := 0) (ms := 0) C0 V rfl LS_jLat_9 (c_jStr_checkIndex_10 l D g ws _) rfl hl.1 rfl (Nat.le_of_ble_eq_true rfl) ⟨by decide, by decide⟩ ⟨Nat.le_of_ble_eq_true rfl, Nat.le_of_ble_eq_true rfl⟩ d_33_2_3) (fun u2 H locs hp1 V => ?_)
  obtain rfl := hp1
  refine lv_aload_n hx hb d_33_2_6 rfl (lv_at hl 0 rfl) ?_
  refine lv_iload_n hx hb d_33_2_7 rfl (lv_at hl 1 rfl) ?_
  refine q_sbal (i := 25) (v := 48) C0 V rfl (by unfold vp_in; decide) rfl d_33_2_8 ?_
  refine lv_sipush (v := 255) hx hb d_33_2_9 (by decide) ?_
  refine lv_iand hx hb d_33_2_12 ?_
  refine q_ti (v := 48) (by decide) ?_
  refine lv_i2c hx hb d_33_2_13 rfl ?_
  refine q_ti (v := 48) (by decide) ?_
  exact q_retn C0 V (rfl) (⟨rfl, rfl⟩) d_33_2_14
set_option maxRecDepth 100000 in
set_option maxHeartbeats 4000000 in
theorem c_jStr_charAt_10 (l : Launch) (D : va_G) (g : Nat → ClassId) (ws : va_W) : q_mI l y_jStr_charAt prog_31_method_56_code 2 (.char) 4 0 0 D g [.ref (g (8 + 2 * 25)), .int 6] ws (fun r u => 48 = r ∧ ws = u) := by
  intro sz
  refine q_into (by decide) (Nat.le_of_ble_eq_true rfl) ?_
  intro p e s m below meth c ls hsz C0 V hl
  have hx := C0.1
  have hb := C0.2.1
  have hl : lv_has ls 2 [(0, .ref (g (8 + 2 * 25))), (1, .int 6)] := hl
  refine lv_aload_n hx hb d_31_56_0 rfl (lv_at hl 0 rfl) ?_
  refine q_goi V (q_runVs (As := []) (rest := []) (d := 1) (mc := 0) (ms := 0) (i := 25) C0 V rfl LV_jStr_492 (c_jStr_isLatin1_2 l D g ws _) rfl rfl rfl hl.1 rfl (Nat.le_of_ble_eq_true rfl) ⟨by decide, by decide⟩ ⟨Nat.le_of_ble_eq_true rfl, Nat.le_of_ble_eq_true rfl⟩ d_31_56_1) (fun v3 u2 H locs hp1 V => ?_)
  obtain ⟨rfl, rfl⟩ := hp1
  refine lv_if_eq (tgt := 16) hx hb d_31_56_4 (by decide) (fun c5 => absurd c5 (by decide)) (fun c5 => ?_)
  refine lv_aload_n hx hb d_31_56_7 rfl (lv_at hl 0 rfl) ?_
  refine q_sval (i := 25) C0 V rfl rfl w_1018 d_31_56_8 ?_
  refine lv_iload_n hx hb d_31_56_11 rfl (lv_at hl 1 rfl) ?_
  refine q_goi V (q_runS (As := [.ref (g (9 + 2 * 25)), .int 6]) (rest := []) (d := 3) (mc := 0) (ms := 0) C0 V rfl LS_jStr_495 (c_jLat_charAt_10 l D g ws _) rfl hl.1 rfl (Nat.le_of_ble_eq_true rfl) ⟨by decide, by decide⟩ ⟨Nat.le_of_ble_eq_true rfl, Nat.le_of_ble_eq_true rfl⟩ d_31_56_12) (fun v8 u7 H locs hp6 V => ?_)
  obtain ⟨rfl, rfl⟩ := hp6
  exact q_retn C0 V (rfl) (⟨rfl, rfl⟩) d_31_56_15
set_option maxRecDepth 100000 in
set_option maxHeartbeats 4000000 in
theorem c_She_addText_2 (l : Launch) (D : va_G) (g : Nat → ClassId) (ws : va_W) (kO0 kA1 qO0 qA1 : Nat) (hO0 : ws[kO0]? = (some (qO0, .inr (1, [.ref qA1, .int 11008, .int 0])) : Option (Nat × va_E))) (hA1 : ws[kA1]? = (some (qA1, .inl (g 1, 1376, .inr (.inl (fun _ => 0)))) : Option (Nat × va_E))) : q_mV l y_She_addText prog_11_method_4_code 3 5 0 0 D g [.ref qO0, .ref (g (8 + 2 * 25))] ws (fun u => ∃ (ex0 : Nat → Int64), q_un ws u [kO0, kA1] ∧ u[kO0]? = (some (qO0, .inr (1, [.ref qA1, .int 11008, .int (((((2 + 1) + 1) + 1) + 1) + 1)])) : Option (Nat × va_E)) ∧ u[kA1]? = (some (qA1, .inl (g 1, 1376, .inr (.inl ex0))) : Option (Nat × va_E))) := by
  intro sz
  refine q_into (by decide) (Nat.le_of_ble_eq_true rfl) ?_
  intro p e s m below meth c ls hsz C0 V hl
  have hx := C0.1
  have hb := C0.2.1
  have hl : lv_has ls 3 [(0, .ref qO0), (1, .ref (g (8 + 2 * 25)))] := hl
  have hF : q_un ws ws [kO0, kA1] := q_u0
  refine lv_iconst (v := 0) hx hb d_11_4_0 (by decide) ?_
  refine lv_istore_n (lv' := [(2, .int 0), (0, .ref qO0), (1, .ref (g (8 + 2 * 25)))]) hx hb d_11_4_1 rfl hl (by decide) rfl (fun ls hl => ?_)
  refine lv_iload_n hx hb d_11_4_2 rfl (lv_at hl 0 rfl) ?_
  refine lv_aload_n hx hb d_11_4_3 rfl (lv_at hl 2 rfl) ?_
  refine q_goi V (q_runVs (As := []) (rest := [.int 0]) (d := 2) (mc := 0) (ms := 0) (i := 25) C0 V rfl LV_She_24 (c_jStr_length_2 l D g ws _) rfl rfl rfl hl.1 rfl (Nat.le_of_ble_eq_true rfl) ⟨by decide, by decide⟩ ⟨Nat.le_of_ble_eq_true rfl, Nat.le_of_ble_eq_true rfl⟩ d_11_4_4) (fun v3 u2 H locs hp1 V => ?_)
  obtain ⟨rfl, rfl⟩ := hp1
  refine lv_icmp_ge (tgt := 25) hx hb d_11_4_7 (by decide) (fun c5 => absurd c5 (by decide)) (fun c5 => ?_)
  refine lv_aload_n hx hb d_11_4_10 rfl (lv_at hl 1 rfl) ?_
  refine lv_aload_n hx hb d_11_4_11 rfl (lv_at hl 2 rfl) ?_
  refine lv_iload_n hx hb d_11_4_12 rfl (lv_at hl 0 rfl) ?_
  refine q_goi V (q_runVs (As := [.int 0]) (rest := [.ref qO0]) (d := 4) (mc := 0) (ms := 0) (i := 25) C0 V rfl LV_She_30 (c_jStr_charAt_4 l D g ws _) rfl rfl rfl hl.1 rfl (Nat.le_of_ble_eq_true rfl) ⟨by decide, by decide⟩ ⟨Nat.le_of_ble_eq_true rfl, Nat.le_of_ble_eq_true rfl⟩ d_11_4_13) (fun v8 u7 H locs hp6 V => ?_)
  obtain ⟨rfl, rfl⟩ := hp6
  refine q_gov V (q_runV (As := [.int 48]) (rest := []) (d := 1) (mc := 0) (ms := 0) (ci := 1) C0 V rfl LV_She_34 (c_She_add_9 l D g ws kO0 kA1 qO0 qA1 hO0 hA1 _) rfl rfl hO0 rfl hl.1 rfl (Nat.le_of_ble_eq_true rfl) ⟨by decide, by decide⟩ ⟨Nat.le_of_ble_eq_true rfl, Nat.le_of_ble_eq_true rfl⟩ d_11_4_16) (fun u11 H locs hp10 V => ?_)
  obtain ⟨hg12, hO0, hA1⟩ := hp10
  replace hF := q_uc hF hg12 (q_sc (.head _) (q_sc (.tail _ (.head _)) (fun _ h => absurd h List.not_mem_nil)))
  refine lv_iinc (v := 1) (lv' := [(2, .int 1), (0, .ref qO0), (1, .ref (g (8 + 2 * 25)))]) hx hb d_11_4_19 hl (k := 0) rfl (by decide) (by decide) rfl (fun ls hl => ?_)
  refine lv_goto (tgt := 2) hx hb d_11_4_22 (by decide) ?_
  refine lv_iload_n hx hb d_11_4_2 rfl (lv_at hl 0 rfl) ?_
  refine lv_aload_n hx hb d_11_4_3 rfl (lv_at hl 2 rfl) ?_
  refine q_goi V (q_runVs (As := []) (rest := [.int 1]) (d := 2) (mc := 0) (ms := 0) (i := 25) C0 V rfl LV_She_24 (c_jStr_length_2 l D g u11 _) rfl rfl rfl hl.1 rfl (Nat.le_of_ble_eq_true rfl) ⟨by decide, by decide⟩ ⟨Nat.le_of_ble_eq_true rfl, Nat.le_of_ble_eq_true rfl⟩ d_11_4_4) (fun v15 u14 H locs hp13 V => ?_)
  obtain ⟨rfl, rfl⟩ := hp13
  refine lv_icmp_ge (tgt := 25) hx hb d_11_4_7 (by decide) (fun c17 => absurd c17 (by decide)) (fun c17 => ?_)
  refine lv_aload_n hx hb d_11_4_10 rfl (lv_at hl 1 rfl) ?_
  refine lv_aload_n hx hb d_11_4_11 rfl (lv_at hl 2 rfl) ?_
  refine lv_iload_n hx hb d_11_4_12 rfl (lv_at hl 0 rfl) ?_
  refine q_goi V (q_runVs (As := [.int 1]) (rest := [.ref qO0]) (d := 4) (mc := 0) (ms := 0) (i := 25) C0 V rfl LV_She_30 (c_jStr_charAt_5 l D g u11 _) rfl rfl rfl hl.1 rfl (Nat.le_of_ble_eq_true rfl) ⟨by decide, by decide⟩ ⟨Nat.le_of_ble_eq_true rfl, Nat.le_of_ble_eq_true rfl⟩ d_11_4_13) (fun v20 u19 H locs hp18 V => ?_)
  obtain ⟨rfl, rfl⟩ := hp18
  refine q_gov V (q_runV (As := [.int 120]) (rest := []) (d := 1) (mc := 0) (ms := 0) (ci := 1) C0 V rfl LV_She_34 (c_She_add_14 l D g u11 kO0 kA1 qO0 qA1 hO0 hA1 _) rfl rfl hO0 rfl hl.1 rfl (Nat.le_of_ble_eq_true rfl) ⟨by decide, by decide⟩ ⟨Nat.le_of_ble_eq_true rfl, Nat.le_of_ble_eq_true rfl⟩ d_11_4_16) (fun u23 H locs hp22 V => ?_)
  obtain ⟨hg24, hO0, hA1⟩ := hp22
  replace hF := q_uc hF hg24 (q_sc (.head _) (q_sc (.tail _ (.head _)) (fun _ h => absurd h List.not_mem_nil)))
  refine lv_iinc (v := 2) (lv' := [(2, .int 2), (0, .ref qO0), (1, .ref (g (8 + 2 * 25)))]) hx hb d_11_4_19 hl (k := 0) rfl (by decide) (by decide) rfl (fun ls hl => ?_)
  refine lv_goto (tgt := 2) hx hb d_11_4_22 (by decide) ?_
  refine lv_iload_n hx hb d_11_4_2 rfl (lv_at hl 0 rfl) ?_
  refine lv_aload_n hx hb d_11_4_3 rfl (lv_at hl 2 rfl) ?_
  refine q_goi V (q_runVs (As := []) (rest := [.int 2]) (d := 2) (mc := 0) (ms := 0) (i := 25) C0 V rfl LV_She_24 (c_jStr_length_2 l D g u23 _) rfl rfl rfl hl.1 rfl (Nat.le_of_ble_eq_true rfl) ⟨by decide, by decide⟩ ⟨Nat.le_of_ble_eq_true rfl, Nat.le_of_ble_eq_true rfl⟩ d_11_4_4) (fun v27 u26 H locs hp25 V => ?_)
  obtain ⟨rfl, rfl⟩ := hp25
  refine lv_icmp_ge (tgt := 25) hx hb d_11_4_7 (by decide) (fun c29 => absurd c29 (by decide)) (fun c29 => ?_)
  refine lv_aload_n hx hb d_11_4_10 rfl (lv_at hl 1 rfl) ?_
  refine lv_aload_n hx hb d_11_4_11 rfl (lv_at hl 2 rfl) ?_
  refine lv_iload_n hx hb d_11_4_12 rfl (lv_at hl 0 rfl) ?_
  refine q_goi V (q_runVs (As := [.int 2]) (rest := [.ref qO0]) (d := 4) (mc := 0) (ms := 0) (i := 25) C0 V rfl LV_She_30 (c_jStr_charAt_6 l D g u23 _) rfl rfl rfl hl.1 rfl (Nat.le_of_ble_eq_true rfl) ⟨by decide, by decide⟩ ⟨Nat.le_of_ble_eq_true rfl, Nat.le_of_ble_eq_true rfl⟩ d_11_4_13) (fun v32 u31 H locs hp30 V => ?_)
  obtain ⟨rfl, rfl⟩ := hp30
  refine q_gov V (q_runV (As := [.int 48]) (rest := []) (d := 1) (mc := 0) (ms := 0) (ci := 1) C0 V rfl LV_She_34 (c_She_add_11 l D g u23 kO0 kA1 qO0 qA1 2 (vp_updL (fun _ => 0) 0 30768) hO0 hA1 (q_Ile (x := 0) (y := 2) (by decide) (by decide) (by omega)) (q_Ile (x := 2) (y := 11007) (by decide) (by decide) (by omega)) _) rfl rfl hO0 rfl hl.1 rfl (Nat.le_of_ble_eq_true rfl) ⟨by decide, by decide⟩ ⟨Nat.le_of_ble_eq_true rfl, Nat.le_of_ble_eq_true rfl⟩ d_11_4_16) (fun u35 H locs hp34 V => ?_)
  obtain ⟨y36, hg37, hO0, hA1⟩ := hp34
  replace hF := q_uc hF hg37 (q_sc (.head _) (q_sc (.tail _ (.head _)) (fun _ h => absurd h List.not_mem_nil)))
  refine lv_iinc (v := 3) (lv' := [(2, .int 3), (0, .ref qO0), (1, .ref (g (8 + 2 * 25)))]) hx hb d_11_4_19 hl (k := 0) rfl (by decide) (by decide) rfl (fun ls hl => ?_)
  refine lv_goto (tgt := 2) hx hb d_11_4_22 (by decide) ?_
  refine lv_iload_n hx hb d_11_4_2 rfl (lv_at hl 0 rfl) ?_
  refine lv_aload_n hx hb d_11_4_3 rfl (lv_at hl 2 rfl) ?_
  refine q_goi V (q_runVs (As := []) (rest := [.int 3]) (d := 2) (mc := 0) (ms := 0) (i := 25) C0 V rfl LV_She_24 (c_jStr_length_2 l D g u35 _) rfl rfl rfl hl.1 rfl (Nat.le_of_ble_eq_true rfl) ⟨by decide, by decide⟩ ⟨Nat.le_of_ble_eq_true rfl, Nat.le_of_ble_eq_true rfl⟩ d_11_4_4) (fun v40 u39 H locs hp38 V => ?_)
  obtain ⟨rfl, rfl⟩ := hp38
  refine lv_icmp_ge (tgt := 25) hx hb d_11_4_7 (by decide) (fun c42 => absurd c42 (by decide)) (fun c42 => ?_)
  refine lv_aload_n hx hb d_11_4_10 rfl (lv_at hl 1 rfl) ?_
  refine lv_aload_n hx hb d_11_4_11 rfl (lv_at hl 2 rfl) ?_
  refine lv_iload_n hx hb d_11_4_12 rfl (lv_at hl 0 rfl) ?_
  refine q_goi V (q_runVs (As := [.int 3]) (rest := [.ref qO0]) (d := 4) (mc := 0) (ms := 0) (i := 25) C0 V rfl LV_She_30 (c_jStr_charAt_7 l D g u35 _) rfl rfl rfl hl.1 rfl (Nat.le_of_ble_eq_true rfl) ⟨by decide, by decide⟩ ⟨Nat.le_of_ble_eq_true rfl, Nat.le_of_ble_eq_true rfl⟩ d_11_4_13) (fun v45 u44 H locs hp43 V => ?_)
  obtain ⟨rfl, rfl⟩ := hp43
  refine q_gov V (q_runV (As := [.int 46]) (rest := []) (d := 1) (mc := 0) (ms := 0) (ci := 1) C0 V rfl LV_She_34 (c_She_add_15 l D g u35 kO0 kA1 qO0 qA1 (2 + 1) y36 hO0 hA1 (q_Ile (x := 0) (y := (2 + 1)) (by decide) (q_addI (x := 2) (y := 1) (by decide) (by decide) (by omega) (by omega)) (by omega)) (q_Ile (x := (2 + 1)) (y := 11007) (q_addI (x := 2) (y := 1) (by decide) (by decide) (by omega) (by omega)) (by decide) (by omega)) _) rfl rfl hO0 rfl hl.1 rfl (Nat.le_of_ble_eq_true rfl) ⟨by decide, by decide⟩ ⟨Nat.le_of_ble_eq_true rfl, Nat.le_of_ble_eq_true rfl⟩ d_11_4_16) (fun u48 H locs hp47 V => ?_)
  obtain ⟨y49, hg50, hO0, hA1⟩ := hp47
  replace hF := q_uc hF hg50 (q_sc (.head _) (q_sc (.tail _ (.head _)) (fun _ h => absurd h List.not_mem_nil)))
  refine lv_iinc (v := 4) (lv' := [(2, .int 4), (0, .ref qO0), (1, .ref (g (8 + 2 * 25)))]) hx hb d_11_4_19 hl (k := 0) rfl (by decide) (by decide) rfl (fun ls hl => ?_)
  refine lv_goto (tgt := 2) hx hb d_11_4_22 (by decide) ?_
  refine lv_iload_n hx hb d_11_4_2 rfl (lv_at hl 0 rfl) ?_
  refine lv_aload_n hx hb d_11_4_3 rfl (lv_at hl 2 rfl) ?_
  refine q_goi V (q_runVs (As := []) (rest := [.int 4]) (d := 2) (mc := 0) (ms := 0) (i := 25) C0 V rfl LV_She_24 (c_jStr_length_2 l D g u48 _) rfl rfl rfl hl.1 rfl (Nat.le_of_ble_eq_true rfl) ⟨by decide, by decide⟩ ⟨Nat.le_of_ble_eq_true rfl, Nat.le_of_ble_eq_true rfl⟩ d_11_4_4) (fun v53 u52 H locs hp51 V => ?_)
  obtain ⟨rfl, rfl⟩ := hp51
  refine lv_icmp_ge (tgt := 25) hx hb d_11_4_7 (by decide) (fun c55 => absurd c55 (by decide)) (fun c55 => ?_)
  refine lv_aload_n hx hb d_11_4_10 rfl (lv_at hl 1 rfl) ?_
  refine lv_aload_n hx hb d_11_4_11 rfl (lv_at hl 2 rfl) ?_
  refine lv_iload_n hx hb d_11_4_12 rfl (lv_at hl 0 rfl) ?_
  refine q_goi V (q_runVs (As := [.int 4]) (rest := [.ref qO0]) (d := 4) (mc := 0) (ms := 0) (i := 25) C0 V rfl LV_She_30 (c_jStr_charAt_8 l D g u48 _) rfl rfl rfl hl.1 rfl (Nat.le_of_ble_eq_true rfl) ⟨by decide, by decide⟩ ⟨Nat.le_of_ble_eq_true rfl, Nat.le_of_ble_eq_true rfl⟩ d_11_4_13) (fun v58 u57 H locs hp56 V => ?_)
  obtain ⟨rfl, rfl⟩ := hp56
  refine q_gov V (q_runV (As := [.int 48]) (rest := []) (d := 1) (mc := 0) (ms := 0) (ci := 1) C0 V rfl LV_She_34 (c_She_add_11 l D g u48 kO0 kA1 qO0 qA1 ((2 + 1) + 1) y49 hO0 hA1 (q_Ile (x := 0) (y := ((2 + 1) + 1)) (by decide) (q_addI (x := (2 + 1)) (y := 1) (q_addI (x := 2) (y := 1) (by decide) (by decide) (by omega) (by omega)) (by decide) (by omega) (by omega)) (by omega)) (q_Ile (x := ((2 + 1) + 1)) (y := 11007) (q_addI (x := (2 + 1)) (y := 1) (q_addI (x := 2) (y := 1) (by decide) (by decide) (by omega) (by omega)) (by decide) (by omega) (by omega)) (by decide) (by omega)) _) rfl rfl hO0 rfl hl.1 rfl (Nat.le_of_ble_eq_true rfl) ⟨by decide, by decide⟩ ⟨Nat.le_of_ble_eq_true rfl, Nat.le_of_ble_eq_true rfl⟩ d_11_4_16) (fun u61 H locs hp60 V => ?_)
  obtain ⟨y62, hg63, hO0, hA1⟩ := hp60
  replace hF := q_uc hF hg63 (q_sc (.head _) (q_sc (.tail _ (.head _)) (fun _ h => absurd h List.not_mem_nil)))
  refine lv_iinc (v := 5) (lv' := [(2, .int 5), (0, .ref qO0), (1, .ref (g (8 + 2 * 25)))]) hx hb d_11_4_19 hl (k := 0) rfl (by decide) (by decide) rfl (fun ls hl => ?_)
  refine lv_goto (tgt := 2) hx hb d_11_4_22 (by decide) ?_
  refine lv_iload_n hx hb d_11_4_2 rfl (lv_at hl 0 rfl) ?_
  refine lv_aload_n hx hb d_11_4_3 rfl (lv_at hl 2 rfl) ?_
  refine q_goi V (q_runVs (As := []) (rest := [.int 5]) (d := 2) (mc := 0) (ms := 0) (i := 25) C0 V rfl LV_She_24 (c_jStr_length_2 l D g u61 _) rfl rfl rfl hl.1 rfl (Nat.le_of_ble_eq_true rfl) ⟨by decide, by decide⟩ ⟨Nat.le_of_ble_eq_true rfl, Nat.le_of_ble_eq_true rfl⟩ d_11_4_4) (fun v66 u65 H locs hp64 V => ?_)
  obtain ⟨rfl, rfl⟩ := hp64
  refine lv_icmp_ge (tgt := 25) hx hb d_11_4_7 (by decide) (fun c68 => absurd c68 (by decide)) (fun c68 => ?_)
  refine lv_aload_n hx hb d_11_4_10 rfl (lv_at hl 1 rfl) ?_
  refine lv_aload_n hx hb d_11_4_11 rfl (lv_at hl 2 rfl) ?_
  refine lv_iload_n hx hb d_11_4_12 rfl (lv_at hl 0 rfl) ?_
  refine q_goi V (q_runVs (As := [.int 5]) (rest := [.ref qO0]) (d := 4) (mc := 0) (ms := 0) (i := 25) C0 V rfl LV_She_30 (c_jStr_charAt_9 l D g u61 _) rfl rfl rfl hl.1 rfl (Nat.le_of_ble_eq_true rfl) ⟨by decide, by decide⟩ ⟨Nat.le_of_ble_eq_true rfl, Nat.le_of_ble_eq_true rfl⟩ d_11_4_13) (fun v71 u70 H locs hp69 V => ?_)
  obtain ⟨rfl, rfl⟩ := hp69
  refine q_gov V (q_runV (As := [.int 112]) (rest := []) (d := 1) (mc := 0) (ms := 0) (ci := 1) C0 V rfl LV_She_34 (c_She_add_16 l D g u61 kO0 kA1 qO0 qA1 (((2 + 1) + 1) + 1) y62 hO0 hA1 (q_Ile (x := 0) (y := (((2 + 1) + 1) + 1)) (by decide) (q_addI (x := ((2 + 1) + 1)) (y := 1) (q_addI (x := (2 + 1)) (y := 1) (q_addI (x := 2) (y := 1) (by decide) (by decide) (by omega) (by omega)) (by decide) (by omega) (by omega)) (by decide) (by omega) (by omega)) (by omega)) (q_Ile (x := (((2 + 1) + 1) + 1)) (y := 11007) (q_addI (x := ((2 + 1) + 1)) (y := 1) (q_addI (x := (2 + 1)) (y := 1) (q_addI (x := 2) (y := 1) (by decide) (by decide) (by omega) (by omega)) (by decide) (by omega) (by omega)) (by decide) (by omega) (by omega)) (by decide) (by omega)) _) rfl rfl hO0 rfl hl.1 rfl (Nat.le_of_ble_eq_true rfl) ⟨by decide, by decide⟩ ⟨Nat.le_of_ble_eq_true rfl, Nat.le_of_ble_eq_true rfl⟩ d_11_4_16) (fun u74 H locs hp73 V => ?_)
  obtain ⟨y75, hg76, hO0, hA1⟩ := hp73
  replace hF := q_uc hF hg76 (q_sc (.head _) (q_sc (.tail _ (.head _)) (fun _ h => absurd h List.not_mem_nil)))
  refine lv_iinc (v := 6) (lv' := [(2, .int 6), (0, .ref qO0), (1, .ref (g (8 + 2 * 25)))]) hx hb d_11_4_19 hl (k := 0) rfl (by decide) (by decide) rfl (fun ls hl => ?_)
  refine lv_goto (tgt := 2) hx hb d_11_4_22 (by decide) ?_
  refine lv_iload_n hx hb d_11_4_2 rfl (lv_at hl 0 rfl) ?_
  refine lv_aload_n hx hb d_11_4_3 rfl (lv_at hl 2 rfl) ?_
  refine q_goi V (q_runVs (As := []) (rest := [.int 6]) (d := 2) (mc := 0) (ms := 0) (i := 25) C0 V rfl LV_She_24 (c_jStr_length_2 l D g u74 _) rfl rfl rfl hl.1 rfl (Nat.le_of_ble_eq_true rfl) ⟨by decide, by decide⟩ ⟨Nat.le_of_ble_eq_true rfl, Nat.le_of_ble_eq_true rfl⟩ d_11_4_4) (fun v79 u78 H locs hp77 V => ?_)
  obtain ⟨rfl, rfl⟩ := hp77
  refine lv_icmp_ge (tgt := 25) hx hb d_11_4_7 (by decide) (fun c81 => absurd c81 (by decide)) (fun c81 => ?_)
  refine lv_aload_n hx hb d_11_4_10 rfl (lv_at hl 1 rfl) ?_
  refine lv_aload_n hx hb d_11_4_11 rfl (lv_at hl 2 rfl) ?_
  refine lv_iload_n hx hb d_11_4_12 rfl (lv_at hl 0 rfl) ?_
  refine q_goi V (q_runVs (As := [.int 6]) (rest := [.ref qO0]) (d := 4) (mc := 0) (ms := 0) (i := 25) C0 V rfl LV_She_30 (c_jStr_charAt_10 l D g u74 _) rfl rfl rfl hl.1 rfl (Nat.le_of_ble_eq_true rfl) ⟨by decide, by decide⟩ ⟨Nat.le_of_ble_eq_true rfl, Nat.le_of_ble_eq_true rfl⟩ d_11_4_13) (fun v84 u83 H locs hp82 V => ?_)
  obtain ⟨rfl, rfl⟩ := hp82
  refine q_gov V (q_runV (As := [.int 48]) (rest := []) (d := 1) (mc := 0) (ms := 0) (ci := 1) C0 V rfl LV_She_34 (c_She_add_11 l D g u74 kO0 kA1 qO0 qA1 ((((2 + 1) + 1) + 1) + 1) y75 hO0 hA1 (q_Ile (x := 0) (y := ((((2 + 1) + 1) + 1) + 1)) (by decide) (q_addI (x := (((2 + 1) + 1) + 1)) (y := 1) (q_addI (x := ((2 + 1) + 1)) (y := 1) (q_addI (x := (2 + 1)) (y := 1) (q_addI (x := 2) (y := 1) (by decide) (by decide) (by omega) (by omega)) (by decide) (by omega) (by omega)) (by decide) (by omega) (by omega)) (by decide) (by omega) (by omega)) (by omega)) (q_Ile (x := ((((2 + 1) + 1) + 1) + 1)) (y := 11007) (q_addI (x := (((2 + 1) + 1) + 1)) (y := 1) (q_addI (x := ((2 + 1) + 1)) (y := 1) (q_addI (x := (2 + 1)) (y := 1) (q_addI (x := 2) (y := 1) (by decide) (by decide) (by omega) (by omega)) (by decide) (by omega) (by omega)) (by decide) (by omega) (by omega)) (by decide) (by omega) (by omega)) (by decide) (by omega)) _) rfl rfl hO0 rfl hl.1 rfl (Nat.le_of_ble_eq_true rfl) ⟨by decide, by decide⟩ ⟨Nat.le_of_ble_eq_true rfl, Nat.le_of_ble_eq_true rfl⟩ d_11_4_16) (fun u87 H locs hp86 V => ?_)
  obtain ⟨y88, hg89, hO0, hA1⟩ := hp86
  replace hF := q_uc hF hg89 (q_sc (.head _) (q_sc (.tail _ (.head _)) (fun _ h => absurd h List.not_mem_nil)))
  refine lv_iinc (v := 7) (lv' := [(2, .int 7), (0, .ref qO0), (1, .ref (g (8 + 2 * 25)))]) hx hb d_11_4_19 hl (k := 0) rfl (by decide) (by decide) rfl (fun ls hl => ?_)
  refine lv_goto (tgt := 2) hx hb d_11_4_22 (by decide) ?_
  refine lv_iload_n hx hb d_11_4_2 rfl (lv_at hl 0 rfl) ?_
  refine lv_aload_n hx hb d_11_4_3 rfl (lv_at hl 2 rfl) ?_
  refine q_goi V (q_runVs (As := []) (rest := [.int 7]) (d := 2) (mc := 0) (ms := 0) (i := 25) C0 V rfl LV_She_24 (c_jStr_length_2 l D g u87 _) rfl rfl rfl hl.1 rfl (Nat.le_of_ble_eq_true rfl) ⟨by decide, by decide⟩ ⟨Nat.le_of_ble_eq_true rfl, Nat.le_of_ble_eq_true rfl⟩ d_11_4_4) (fun v92 u91 H locs hp90 V => ?_)
  obtain ⟨rfl, rfl⟩ := hp90
  refine lv_icmp_ge (tgt := 25) hx hb d_11_4_7 (by decide) (fun c94 => ?_) (fun c94 => absurd (by decide) c94)
  exact q_retv C0 V (⟨y88, hF, hO0, hA1⟩) d_11_4_25
theorem d_12_6_82 : decode prog_12_method_6_code 82 = .ok (.ldc 141, 2) := by decide +kernel
theorem d_12_6_84 : decode prog_12_method_6_code 84 = .ok (.goto 5, 3) := by decide +kernel
set_option maxRecDepth 100000 in
set_option maxHeartbeats 4000000 in
theorem c_Wri_floatText_2 (l : Launch) (D : va_G) (g : Nat → ClassId) (ws : va_W) (kO0 kO1 kO2 kA5 qO0 qO1 qO2 qO3 qO4 qA5 : Nat) (hO0 : ws[kO0]? = (some (qO0, .inr (9, [.ref qO2, .ref qO3, .ref qO4])) : Option (Nat × va_E))) (hO1 : ws[kO1]? = (some (qO1, .inr (6, [.int 23, .int 150, .int 255, .long 0, .int 0, .ref qO3, .int 0])) : Option (Nat × va_E))) (hO2 : ws[kO2]? = (some (qO2, .inr (1, [.ref qA5, .int 11008, .int 0])) : Option (Nat × va_E))) (hA5 : ws[kA5]? = (some (qA5, .inl (g 1, 1376, .inr (.inl (fun _ => 0)))) : Option (Nat × va_E))) : q_mV l y_Wri_floatText prog_12_method_6_code 5 6 0 0 D g [.ref qO0, .ref qO1, .long 0, .int 1] ws (fun u => ∃ (ex0 : Nat → Int64), q_un ws u [kO2, kA5] ∧ u[kO2]? = (some (qO2, .inr (1, [.ref qA5, .int 11008, .int (((((2 + 1) + 1) + 1) + 1) + 1)])) : Option (Nat × va_E)) ∧ u[kA5]? = (some (qA5, .inl (g 1, 1376, .inr (.inl ex0))) : Option (Nat × va_E))) := by
  intro sz
  refine q_into (by decide) (Nat.le_of_ble_eq_true rfl) ?_
  intro p e s m below meth c ls hsz C0 V hl
  have hx := C0.1
  have hb := C0.2.1
  have hl : lv_has ls 5 [(0, .ref qO0), (1, .ref qO1), (2, .long 0), (4, .int 1)] := hl
  have n_A5_O2 := q_df hA5 hO2
  have n_O0_A5 := Ne.symm (q_df hA5 hO0)
  have n_O0_O2 := q_dc hO0 hO2 (q_pd 9 1 rfl)
  have n_O1_A5 := Ne.symm (q_df hA5 hO1)
  have n_O1_O2 := q_dc hO1 hO2 (q_pd 6 1 rfl)
  have hF : q_un ws ws [kO2, kA5] := q_u0
  refine lv_aload_n hx hb d_12_6_0 rfl (lv_at hl 0 rfl) ?_
  refine lv_aload_n hx hb d_12_6_1 rfl (lv_at hl 1 rfl) ?_
  refine lv_lload_n hx hb d_12_6_2 rfl (lv_at hl 2 rfl) ?_
  refine q_goi V (q_runV (As := [.long 0]) (rest := [.ref qO0]) (d := 2) (mc := 0) (ms := 0) (ci := 6) C0 V rfl LV_Wri_118 (c_Flo_isNegative l D g ws kO1 qO1 qO3 hO1 _) rfl rfl hO1 rfl hl.1 rfl (Nat.le_of_ble_eq_true rfl) ⟨by decide, by decide⟩ ⟨Nat.le_of_ble_eq_true rfl, Nat.le_of_ble_eq_true rfl⟩ d_12_6_3) (fun v3 u2 H locs hp1 V => ?_)
  obtain ⟨rfl, rfl⟩ := hp1
  refine lv_if_eq (tgt := 21) hx hb d_12_6_6 (by decide) (fun c5 => ?_) (fun c5 => absurd (by decide) c5)
  refine lv_iconst (v := 0) hx hb d_12_6_21 (by decide) ?_
  refine q_gov V (q_runV (As := [.int 0]) (rest := []) (d := 2) (mc := 0) (ms := 0) (ci := 9) C0 V rfl LV_Wri_27 (c_Wri_begin l D g ws kO0 kO2 qO0 qO2 qO3 qO4 qA5 hO0 hO2 _) rfl rfl hO0 rfl hl.1 rfl (Nat.le_of_ble_eq_true rfl) ⟨by decide, by decide⟩ ⟨Nat.le_of_ble_eq_true rfl, Nat.le_of_ble_eq_true rfl⟩ d_12_6_22) (fun u7 H locs hp6 V => ?_)
  obtain ⟨hg8, hO2⟩ := hp6
  replace hF := q_uc hF hg8 (q_sc (.head _) (fun _ h => absurd h List.not_mem_nil))
  refine lv_aload_n hx hb d_12_6_25 rfl (lv_at hl 1 rfl) ?_
  refine lv_lload_n hx hb d_12_6_26 rfl (lv_at hl 2 rfl) ?_
  replace hO1 := (hg8 _ (q_nc n_O1_O2 List.not_mem_nil)).trans (hO1)
  refine q_goi V (q_runV (As := [.long 0]) (rest := []) (d := 3) (mc := 0) (ms := 0) (ci := 6) C0 V rfl LV_Wri_124 (c_Flo_isNoNumber l D g u7 kO1 qO1 qO3 hO1 _) rfl rfl hO1 rfl hl.1 rfl (Nat.le_of_ble_eq_true rfl) ⟨by decide, by decide⟩ ⟨Nat.le_of_ble_eq_true rfl, Nat.le_of_ble_eq_true rfl⟩ d_12_6_27) (fun v11 u10 H locs hp9 V => ?_)
  obtain ⟨rfl, rfl⟩ := hp9
  refine lv_if_eq (tgt := 45) hx hb d_12_6_30 (by decide) (fun c13 => ?_) (fun c13 => absurd (by decide) c13)
  refine lv_aload_n hx hb d_12_6_45 rfl (lv_at hl 1 rfl) ?_
  refine lv_lload_n hx hb d_12_6_46 rfl (lv_at hl 2 rfl) ?_
  refine q_goi V (q_runV (As := [.long 0]) (rest := []) (d := 2) (mc := 0) (ms := 0) (ci := 6) C0 V rfl LV_Wri_133 (c_Flo_isFinite l D g u7 kO1 qO1 qO3 hO1 _) rfl rfl hO1 rfl hl.1 rfl (Nat.le_of_ble_eq_true rfl) ⟨by decide, by decide⟩ ⟨Nat.le_of_ble_eq_true rfl, Nat.le_of_ble_eq_true rfl⟩ d_12_6_47) (fun v16 u15 H locs hp14 V => ?_)
  obtain ⟨rfl, rfl⟩ := hp14
  refine lv_if_ne (tgt := 65) hx hb d_12_6_50 (by decide) (fun c18 => ?_) (fun c18 => absurd c18 (by decide))
  refine lv_aload_n hx hb d_12_6_65 rfl (lv_at hl 1 rfl) ?_
  refine lv_lload_n hx hb d_12_6_66 rfl (lv_at hl 2 rfl) ?_
  refine q_goi V (q_runV (As := [.long 0]) (rest := []) (d := 2) (mc := 0) (ms := 0) (ci := 6) C0 V rfl LV_Wri_138 (c_Flo_isZero l D g u7 kO1 qO1 qO3 hO1 _) rfl rfl hO1 rfl hl.1 rfl (Nat.le_of_ble_eq_true rfl) ⟨by decide, by decide⟩ ⟨Nat.le_of_ble_eq_true rfl, Nat.le_of_ble_eq_true rfl⟩ d_12_6_67) (fun v21 u20 H locs hp19 V => ?_)
  obtain ⟨rfl, rfl⟩ := hp19
  refine lv_if_eq (tgt := 95) hx hb d_12_6_70 (by decide) (fun c23 => absurd c23 (by decide)) (fun c23 => ?_)
  refine lv_aload_n hx hb d_12_6_73 rfl (lv_at hl 0 rfl) ?_
  replace hO0 := (hg8 _ (q_nc n_O0_O2 List.not_mem_nil)).trans (hO0)
  refine q_get (ci := 9) (j := 0) (v := .ref qO2) C0 V i_Wri rfl rfl hO0 (by decide) w_329 rfl d_12_6_74 ?_
  refine lv_iload hx hb d_12_6_77 (lv_at hl 3 rfl) ?_
  refine lv_if_eq (tgt := 87) hx hb d_12_6_79 (by decide) (fun c24 => absurd c24 (by decide)) (fun c24 => ?_)
  refine q_ldcs (i := 25) C0 V rfl rfl d_12_6_82 ?_
  refine lv_goto (tgt := 89) hx hb d_12_6_84 (by decide) ?_
  replace hA5 := (hg8 _ (q_nc n_A5_O2 List.not_mem_nil)).trans (hA5)
  refine q_gov V (q_runV (As := [.ref (g (8 + 2 * 25))]) (rest := []) (d := 5) (mc := 0) (ms := 0) (ci := 1) C0 V rfl LV_Wri_129 (c_She_addText_2 l D g u7 kO2 kA5 qO2 qA5 hO2 hA5 _) rfl rfl hO2 rfl hl.1 rfl (Nat.le_of_ble_eq_true rfl) ⟨by decide, by decide⟩ ⟨Nat.le_of_ble_eq_true rfl, Nat.le_of_ble_eq_true rfl⟩ d_12_6_89) (fun u26 H locs hp25 V => ?_)
  obtain ⟨y27, hg28, hO2, hA5⟩ := hp25
  replace hF := q_uc hF hg28 (q_sc (.head _) (q_sc (.tail _ (.head _)) (fun _ h => absurd h List.not_mem_nil)))
  refine lv_goto (tgt := 115) hx hb d_12_6_92 (by decide) ?_
  exact q_retv C0 V (⟨y27, hF, hO2, hA5⟩) d_12_6_115
set_option maxRecDepth 100000 in
set_option maxHeartbeats 4000000 in
theorem c_Wri_floatText_3 (l : Launch) (D : va_G) (g : Nat → ClassId) (ws : va_W) (kO0 kO1 kO2 kA5 qO0 qO1 qO2 qO3 qO4 qA5 : Nat) (hO0 : ws[kO0]? = (some (qO0, .inr (9, [.ref qO2, .ref qO3, .ref qO4])) : Option (Nat × va_E))) (hO1 : ws[kO1]? = (some (qO1, .inr (6, [.int 52, .int 1075, .int 2047, .long 0, .int 0, .ref qO3, .int 0])) : Option (Nat × va_E))) (hO2 : ws[kO2]? = (some (qO2, .inr (1, [.ref qA5, .int 11008, .int 0])) : Option (Nat × va_E))) (hA5 : ws[kA5]? = (some (qA5, .inl (g 1, 1376, .inr (.inl (fun _ => 0)))) : Option (Nat × va_E))) : q_mV l y_Wri_floatText prog_12_method_6_code 5 6 0 0 D g [.ref qO0, .ref qO1, .long 0, .int 0] ws (fun u => ∃ (ex0 : Nat → Int64), q_un ws u [kO2, kA5] ∧ u[kO2]? = (some (qO2, .inr (1, [.ref qA5, .int 11008, .int (2 + 1)])) : Option (Nat × va_E)) ∧ u[kA5]? = (some (qA5, .inl (g 1, 1376, .inr (.inl ex0))) : Option (Nat × va_E))) := by
  intro sz
  refine q_into (by decide) (Nat.le_of_ble_eq_true rfl) ?_
  intro p e s m below meth c ls hsz C0 V hl
  have hx := C0.1
  have hb := C0.2.1
  have hl : lv_has ls 5 [(0, .ref qO0), (1, .ref qO1), (2, .long 0), (4, .int 0)] := hl
  have n_A5_O2 := q_df hA5 hO2
  have n_O0_A5 := Ne.symm (q_df hA5 hO0)
  have n_O0_O2 := q_dc hO0 hO2 (q_pd 9 1 rfl)
  have n_O1_A5 := Ne.symm (q_df hA5 hO1)
  have n_O1_O2 := q_dc hO1 hO2 (q_pd 6 1 rfl)
  have hF : q_un ws ws [kO2, kA5] := q_u0
  refine lv_aload_n hx hb d_12_6_0 rfl (lv_at hl 0 rfl) ?_
  refine lv_aload_n hx hb d_12_6_1 rfl (lv_at hl 1 rfl) ?_
  refine lv_lload_n hx hb d_12_6_2 rfl (lv_at hl 2 rfl) ?_
  refine q_goi V (q_runV (As := [.long 0]) (rest := [.ref qO0]) (d := 2) (mc := 0) (ms := 0) (ci := 6) C0 V rfl LV_Wri_118 (c_Flo_isNegative_2 l D g ws kO1 qO1 qO3 hO1 _) rfl rfl hO1 rfl hl.1 rfl (Nat.le_of_ble_eq_true rfl) ⟨by decide, by decide⟩ ⟨Nat.le_of_ble_eq_true rfl, Nat.le_of_ble_eq_true rfl⟩ d_12_6_3) (fun v3 u2 H locs hp1 V => ?_)
  obtain ⟨rfl, rfl⟩ := hp1
  refine lv_if_eq (tgt := 21) hx hb d_12_6_6 (by decide) (fun c5 => ?_) (fun c5 => absurd (by decide) c5)
  refine lv_iconst (v := 0) hx hb d_12_6_21 (by decide) ?_
  refine q_gov V (q_runV (As := [.int 0]) (rest := []) (d := 2) (mc := 0) (ms := 0) (ci := 9) C0 V rfl LV_Wri_27 (c_Wri_begin l D g ws kO0 kO2 qO0 qO2 qO3 qO4 qA5 hO0 hO2 _) rfl rfl hO0 rfl hl.1 rfl (Nat.le_of_ble_eq_true rfl) ⟨by decide, by decide⟩ ⟨Nat.le_of_ble_eq_true rfl, Nat.le_of_ble_eq_true rfl⟩ d_12_6_22) (fun u7 H locs hp6 V => ?_)
  obtain ⟨hg8, hO2⟩ := hp6
  replace hF := q_uc hF hg8 (q_sc (.head _) (fun _ h => absurd h List.not_mem_nil))
  refine lv_aload_n hx hb d_12_6_25 rfl (lv_at hl 1 rfl) ?_
  refine lv_lload_n hx hb d_12_6_26 rfl (lv_at hl 2 rfl) ?_
  replace hO1 := (hg8 _ (q_nc n_O1_O2 List.not_mem_nil)).trans (hO1)
  refine q_goi V (q_runV (As := [.long 0]) (rest := []) (d := 3) (mc := 0) (ms := 0) (ci := 6) C0 V rfl LV_Wri_124 (c_Flo_isNoNumber_2 l D g u7 kO1 qO1 qO3 hO1 _) rfl rfl hO1 rfl hl.1 rfl (Nat.le_of_ble_eq_true rfl) ⟨by decide, by decide⟩ ⟨Nat.le_of_ble_eq_true rfl, Nat.le_of_ble_eq_true rfl⟩ d_12_6_27) (fun v11 u10 H locs hp9 V => ?_)
  obtain ⟨rfl, rfl⟩ := hp9
  refine lv_if_eq (tgt := 45) hx hb d_12_6_30 (by decide) (fun c13 => ?_) (fun c13 => absurd (by decide) c13)
  refine lv_aload_n hx hb d_12_6_45 rfl (lv_at hl 1 rfl) ?_
  refine lv_lload_n hx hb d_12_6_46 rfl (lv_at hl 2 rfl) ?_
  refine q_goi V (q_runV (As := [.long 0]) (rest := []) (d := 2) (mc := 0) (ms := 0) (ci := 6) C0 V rfl LV_Wri_133 (c_Flo_isFinite_2 l D g u7 kO1 qO1 qO3 hO1 _) rfl rfl hO1 rfl hl.1 rfl (Nat.le_of_ble_eq_true rfl) ⟨by decide, by decide⟩ ⟨Nat.le_of_ble_eq_true rfl, Nat.le_of_ble_eq_true rfl⟩ d_12_6_47) (fun v16 u15 H locs hp14 V => ?_)
  obtain ⟨rfl, rfl⟩ := hp14
  refine lv_if_ne (tgt := 65) hx hb d_12_6_50 (by decide) (fun c18 => ?_) (fun c18 => absurd c18 (by decide))
  refine lv_aload_n hx hb d_12_6_65 rfl (lv_at hl 1 rfl) ?_
  refine lv_lload_n hx hb d_12_6_66 rfl (lv_at hl 2 rfl) ?_
  refine q_goi V (q_runV (As := [.long 0]) (rest := []) (d := 2) (mc := 0) (ms := 0) (ci := 6) C0 V rfl LV_Wri_138 (c_Flo_isZero_2 l D g u7 kO1 qO1 qO3 hO1 _) rfl rfl hO1 rfl hl.1 rfl (Nat.le_of_ble_eq_true rfl) ⟨by decide, by decide⟩ ⟨Nat.le_of_ble_eq_true rfl, Nat.le_of_ble_eq_true rfl⟩ d_12_6_67) (fun v21 u20 H locs hp19 V => ?_)
  obtain ⟨rfl, rfl⟩ := hp19
  refine lv_if_eq (tgt := 95) hx hb d_12_6_70 (by decide) (fun c23 => absurd c23 (by decide)) (fun c23 => ?_)
  refine lv_aload_n hx hb d_12_6_73 rfl (lv_at hl 0 rfl) ?_
  replace hO0 := (hg8 _ (q_nc n_O0_O2 List.not_mem_nil)).trans (hO0)
  refine q_get (ci := 9) (j := 0) (v := .ref qO2) C0 V i_Wri rfl rfl hO0 (by decide) w_329 rfl d_12_6_74 ?_
  refine lv_iload hx hb d_12_6_77 (lv_at hl 3 rfl) ?_
  refine lv_if_eq (tgt := 87) hx hb d_12_6_79 (by decide) (fun c24 => ?_) (fun c24 => absurd (by decide) c24)
  refine q_ldcs (i := 26) C0 V rfl rfl d_12_6_87 ?_
  replace hA5 := (hg8 _ (q_nc n_A5_O2 List.not_mem_nil)).trans (hA5)
  refine q_gov V (q_runV (As := [.ref (g (8 + 2 * 26))]) (rest := []) (d := 5) (mc := 0) (ms := 0) (ci := 1) C0 V rfl LV_Wri_129 (c_She_addText l D g u7 kO2 kA5 qO2 qA5 hO2 hA5 _) rfl rfl hO2 rfl hl.1 rfl (Nat.le_of_ble_eq_true rfl) ⟨by decide, by decide⟩ ⟨Nat.le_of_ble_eq_true rfl, Nat.le_of_ble_eq_true rfl⟩ d_12_6_89) (fun u26 H locs hp25 V => ?_)
  obtain ⟨y27, hg28, hO2, hA5⟩ := hp25
  replace hF := q_uc hF hg28 (q_sc (.head _) (q_sc (.tail _ (.head _)) (fun _ h => absurd h List.not_mem_nil)))
  refine lv_goto (tgt := 115) hx hb d_12_6_92 (by decide) ?_
  exact q_retv C0 V (⟨y27, hF, hO2, hA5⟩) d_12_6_115
set_option maxRecDepth 100000 in
set_option maxHeartbeats 4000000 in
theorem c_Wri_floatText_4 (l : Launch) (D : va_G) (g : Nat → ClassId) (ws : va_W) (kO0 kO1 kO2 kA5 qO0 qO1 qO2 qO3 qO4 qA5 : Nat) (hO0 : ws[kO0]? = (some (qO0, .inr (9, [.ref qO2, .ref qO3, .ref qO4])) : Option (Nat × va_E))) (hO1 : ws[kO1]? = (some (qO1, .inr (6, [.int 52, .int 1075, .int 2047, .long 0, .int 0, .ref qO3, .int 0])) : Option (Nat × va_E))) (hO2 : ws[kO2]? = (some (qO2, .inr (1, [.ref qA5, .int 11008, .int 0])) : Option (Nat × va_E))) (hA5 : ws[kA5]? = (some (qA5, .inl (g 1, 1376, .inr (.inl (fun _ => 0)))) : Option (Nat × va_E))) : q_mV l y_Wri_floatText prog_12_method_6_code 5 6 0 0 D g [.ref qO0, .ref qO1, .long 0, .int 1] ws (fun u => ∃ (ex0 : Nat → Int64), q_un ws u [kO2, kA5] ∧ u[kO2]? = (some (qO2, .inr (1, [.ref qA5, .int 11008, .int (((((2 + 1) + 1) + 1) + 1) + 1)])) : Option (Nat × va_E)) ∧ u[kA5]? = (some (qA5, .inl (g 1, 1376, .inr (.inl ex0))) : Option (Nat × va_E))) := by
  intro sz
  refine q_into (by decide) (Nat.le_of_ble_eq_true rfl) ?_
  intro p e s m below meth c ls hsz C0 V hl
  have hx := C0.1
  have hb := C0.2.1
  have hl : lv_has ls 5 [(0, .ref qO0), (1, .ref qO1), (2, .long 0), (4, .int 1)] := hl
  have n_A5_O2 := q_df hA5 hO2
  have n_O0_A5 := Ne.symm (q_df hA5 hO0)
  have n_O0_O2 := q_dc hO0 hO2 (q_pd 9 1 rfl)
  have n_O1_A5 := Ne.symm (q_df hA5 hO1)
  have n_O1_O2 := q_dc hO1 hO2 (q_pd 6 1 rfl)
  have hF : q_un ws ws [kO2, kA5] := q_u0
  refine lv_aload_n hx hb d_12_6_0 rfl (lv_at hl 0 rfl) ?_
  refine lv_aload_n hx hb d_12_6_1 rfl (lv_at hl 1 rfl) ?_
  refine lv_lload_n hx hb d_12_6_2 rfl (lv_at hl 2 rfl) ?_
  refine q_goi V (q_runV (As := [.long 0]) (rest := [.ref qO0]) (d := 2) (mc := 0) (ms := 0) (ci := 6) C0 V rfl LV_Wri_118 (c_Flo_isNegative_2 l D g ws kO1 qO1 qO3 hO1 _) rfl rfl hO1 rfl hl.1 rfl (Nat.le_of_ble_eq_true rfl) ⟨by decide, by decide⟩ ⟨Nat.le_of_ble_eq_true rfl, Nat.le_of_ble_eq_true rfl⟩ d_12_6_3) (fun v3 u2 H locs hp1 V => ?_)
  obtain ⟨rfl, rfl⟩ := hp1
  refine lv_if_eq (tgt := 21) hx hb d_12_6_6 (by decide) (fun c5 => ?_) (fun c5 => absurd (by decide) c5)
  refine lv_iconst (v := 0) hx hb d_12_6_21 (by decide) ?_
  refine q_gov V (q_runV (As := [.int 0]) (rest := []) (d := 2) (mc := 0) (ms := 0) (ci := 9) C0 V rfl LV_Wri_27 (c_Wri_begin l D g ws kO0 kO2 qO0 qO2 qO3 qO4 qA5 hO0 hO2 _) rfl rfl hO0 rfl hl.1 rfl (Nat.le_of_ble_eq_true rfl) ⟨by decide, by decide⟩ ⟨Nat.le_of_ble_eq_true rfl, Nat.le_of_ble_eq_true rfl⟩ d_12_6_22) (fun u7 H locs hp6 V => ?_)
  obtain ⟨hg8, hO2⟩ := hp6
  replace hF := q_uc hF hg8 (q_sc (.head _) (fun _ h => absurd h List.not_mem_nil))
  refine lv_aload_n hx hb d_12_6_25 rfl (lv_at hl 1 rfl) ?_
  refine lv_lload_n hx hb d_12_6_26 rfl (lv_at hl 2 rfl) ?_
  replace hO1 := (hg8 _ (q_nc n_O1_O2 List.not_mem_nil)).trans (hO1)
  refine q_goi V (q_runV (As := [.long 0]) (rest := []) (d := 3) (mc := 0) (ms := 0) (ci := 6) C0 V rfl LV_Wri_124 (c_Flo_isNoNumber_2 l D g u7 kO1 qO1 qO3 hO1 _) rfl rfl hO1 rfl hl.1 rfl (Nat.le_of_ble_eq_true rfl) ⟨by decide, by decide⟩ ⟨Nat.le_of_ble_eq_true rfl, Nat.le_of_ble_eq_true rfl⟩ d_12_6_27) (fun v11 u10 H locs hp9 V => ?_)
  obtain ⟨rfl, rfl⟩ := hp9
  refine lv_if_eq (tgt := 45) hx hb d_12_6_30 (by decide) (fun c13 => ?_) (fun c13 => absurd (by decide) c13)
  refine lv_aload_n hx hb d_12_6_45 rfl (lv_at hl 1 rfl) ?_
  refine lv_lload_n hx hb d_12_6_46 rfl (lv_at hl 2 rfl) ?_
  refine q_goi V (q_runV (As := [.long 0]) (rest := []) (d := 2) (mc := 0) (ms := 0) (ci := 6) C0 V rfl LV_Wri_133 (c_Flo_isFinite_2 l D g u7 kO1 qO1 qO3 hO1 _) rfl rfl hO1 rfl hl.1 rfl (Nat.le_of_ble_eq_true rfl) ⟨by decide, by decide⟩ ⟨Nat.le_of_ble_eq_true rfl, Nat.le_of_ble_eq_true rfl⟩ d_12_6_47) (fun v16 u15 H locs hp14 V => ?_)
  obtain ⟨rfl, rfl⟩ := hp14
  refine lv_if_ne (tgt := 65) hx hb d_12_6_50 (by decide) (fun c18 => ?_) (fun c18 => absurd c18 (by decide))
  refine lv_aload_n hx hb d_12_6_65 rfl (lv_at hl 1 rfl) ?_
  refine lv_lload_n hx hb d_12_6_66 rfl (lv_at hl 2 rfl) ?_
  refine q_goi V (q_runV (As := [.long 0]) (rest := []) (d := 2) (mc := 0) (ms := 0) (ci := 6) C0 V rfl LV_Wri_138 (c_Flo_isZero_2 l D g u7 kO1 qO1 qO3 hO1 _) rfl rfl hO1 rfl hl.1 rfl (Nat.le_of_ble_eq_true rfl) ⟨by decide, by decide⟩ ⟨Nat.le_of_ble_eq_true rfl, Nat.le_of_ble_eq_true rfl⟩ d_12_6_67) (fun v21 u20 H locs hp19 V => ?_)
  obtain ⟨rfl, rfl⟩ := hp19
  refine lv_if_eq (tgt := 95) hx hb d_12_6_70 (by decide) (fun c23 => absurd c23 (by decide)) (fun c23 => ?_)
  refine lv_aload_n hx hb d_12_6_73 rfl (lv_at hl 0 rfl) ?_
  replace hO0 := (hg8 _ (q_nc n_O0_O2 List.not_mem_nil)).trans (hO0)
  refine q_get (ci := 9) (j := 0) (v := .ref qO2) C0 V i_Wri rfl rfl hO0 (by decide) w_329 rfl d_12_6_74 ?_
  refine lv_iload hx hb d_12_6_77 (lv_at hl 3 rfl) ?_
  refine lv_if_eq (tgt := 87) hx hb d_12_6_79 (by decide) (fun c24 => absurd c24 (by decide)) (fun c24 => ?_)
  refine q_ldcs (i := 25) C0 V rfl rfl d_12_6_82 ?_
  refine lv_goto (tgt := 89) hx hb d_12_6_84 (by decide) ?_
  replace hA5 := (hg8 _ (q_nc n_A5_O2 List.not_mem_nil)).trans (hA5)
  refine q_gov V (q_runV (As := [.ref (g (8 + 2 * 25))]) (rest := []) (d := 5) (mc := 0) (ms := 0) (ci := 1) C0 V rfl LV_Wri_129 (c_She_addText_2 l D g u7 kO2 kA5 qO2 qA5 hO2 hA5 _) rfl rfl hO2 rfl hl.1 rfl (Nat.le_of_ble_eq_true rfl) ⟨by decide, by decide⟩ ⟨Nat.le_of_ble_eq_true rfl, Nat.le_of_ble_eq_true rfl⟩ d_12_6_89) (fun u26 H locs hp25 V => ?_)
  obtain ⟨y27, hg28, hO2, hA5⟩ := hp25
  replace hF := q_uc hF hg28 (q_sc (.head _) (q_sc (.tail _ (.head _)) (fun _ h => absurd h List.not_mem_nil)))
  refine lv_goto (tgt := 115) hx hb d_12_6_92 (by decide) ?_
  exact q_retv C0 V (⟨y27, hF, hO2, hA5⟩) d_12_6_115
set_option maxRecDepth 100000 in
set_option maxHeartbeats 4000000 in
theorem c_Dig_writePlain_2 (l : Launch) (D : va_G) (g : Nat → ClassId) (ws : va_W) (kO0 kO1 kA3 qO0 qO1 qA2 qA3 : Nat) (hO0 : ws[kO0]? = (some (qO0, .inr (7, [.int 0, .int 0, .ref qA2])) : Option (Nat × va_E))) (hO1 : ws[kO1]? = (some (qO1, .inr (1, [.ref qA3, .int 11008, .int 0])) : Option (Nat × va_E))) (hA3 : ws[kA3]? = (some (qA3, .inl (g 1, 1376, .inr (.inl (fun _ => 0)))) : Option (Nat × va_E))) : q_mV l y_Dig_writePlain prog_5_method_9_code 6 2 0 0 D g [.ref qO0, .ref qO1, .int 0, .int 0, .int 0] ws (fun u => q_un ws u [kO1, kA3] ∧ u[kO1]? = (some (qO1, .inr (1, [.ref qA3, .int 11008, .int 1])) : Option (Nat × va_E)) ∧ u[kA3]? = (some (qA3, .inl (g 1, 1376, .inr (.inl (vp_updL (fun _ => 0) 0 48)))) : Option (Nat × va_E))) := by
  intro sz
  refine q_into (by decide) (Nat.le_of_ble_eq_true rfl) ?_
  intro p e s m below meth c ls hsz C0 V hl
  have hx := C0.1
  have hb := C0.2.1
  have hl : lv_has ls 6 [(0, .ref qO0), (1, .ref qO1), (2, .int 0), (3, .int 0), (4, .int 0)] := hl
  have n_O0_A3 := Ne.symm (q_df hA3 hO0)
  have n_O0_O1 := q_dc hO0 hO1 (q_pd 7 1 rfl)
  have hF : q_un ws ws [kO1, kA3] := q_u0
  refine lv_aload_n hx hb d_5_9_0 rfl (lv_at hl 0 rfl) ?_
  refine q_get (ci := 7) (j := 1) (v := .int 0) C0 V i_Dig rfl rfl hO0 (by decide) w_266 rfl d_5_9_1 ?_
  refine lv_iconst (v := 0) hx hb d_5_9_4 (by decide) ?_
  refine q_max C0 hl.1 rfl w_1571 w_803 w_7 w_804 ⟨Nat.le_of_ble_eq_true rfl, Nat.le_of_ble_eq_true rfl⟩ ⟨Nat.le_of_ble_eq_true rfl, Nat.le_of_ble_eq_true rfl⟩ d_5_9_5 ?_
  refine q_ti (v := 0) (by decide) ?_
  refine lv_istore (lv' := [(5, .int 0), (0, .ref qO0), (1, .ref qO1), (2, .int 0), (3, .int 0), (4, .int 0)]) hx hb d_5_9_8 hl (by decide) rfl (fun ls hl => ?_)
  refine lv_iload hx hb d_5_9_10 (lv_at hl 0 rfl) ?_
  refine lv_if_lt (tgt := 61) hx hb d_5_9_12 (by decide) (fun c1 => absurd c1 (by decide)) (fun c1 => ?_)
  refine lv_aload_n hx hb d_5_9_15 rfl (lv_at hl 2 rfl) ?_
  refine lv_bipush (v := 48) hx hb d_5_9_16 (by decide) ?_
  refine lv_aload_n hx hb d_5_9_18 rfl (lv_at hl 1 rfl) ?_
  refine lv_aload_n hx hb d_5_9_19 rfl (lv_at hl 1 rfl) ?_
  refine q_get (ci := 7) (j := 1) (v := .int 0) C0 V i_Dig rfl rfl hO0 (by decide) w_266 rfl d_5_9_20 ?_
  refine lv_iload hx hb d_5_9_23 (lv_at hl 0 rfl) ?_
  refine lv_isub hx hb d_5_9_25 ?_
  refine q_ti (v := 0) (by decide) ?_
  refine q_goi V (q_runV (As := [.int 0]) (rest := [.int 48, .ref qO1]) (d := 1) (mc := 0) (ms := 0) (ci := 7) C0 V rfl LV_Dig_49 (c_Dig_figure l D g ws kO0 qO0 qA2 hO0 _) rfl rfl hO0 rfl hl.1 rfl (Nat.le_of_ble_eq_true rfl) ⟨by decide, by decide⟩ ⟨Nat.le_of_ble_eq_true rfl, Nat.le_of_ble_eq_true rfl⟩ d_5_9_26) (fun v4 u3 H locs hp2 V => ?_)
  obtain ⟨rfl, rfl⟩ := hp2
  refine lv_iadd hx hb d_5_9_29 ?_
  refine q_ti (v := 48) (by decide) ?_
  refine q_gov V (q_runV (As := [.int 48]) (rest := []) (d := 1) (mc := 0) (ms := 0) (ci := 1) C0 V rfl LV_Dig_52 (c_She_add_9 l D g ws kO1 kA3 qO1 qA3 hO1 hA3 _) rfl rfl hO1 rfl hl.1 rfl (Nat.le_of_ble_eq_true rfl) ⟨by decide, by decide⟩ ⟨Nat.le_of_ble_eq_true rfl, Nat.le_of_ble_eq_true rfl⟩ d_5_9_30) (fun u7 H locs hp6 V => ?_)
  obtain ⟨hg8, hO1, hA3⟩ := hp6
  replace hF := q_uc hF hg8 (q_sc (.head _) (q_sc (.tail _ (.head _)) (fun _ h => absurd h List.not_mem_nil)))
  refine lv_iload_n hx hb d_5_9_33 rfl (lv_at hl 4 rfl) ?_
  refine lv_if_eq (tgt := 55) hx hb d_5_9_34 (by decide) (fun c9 => ?_) (fun c9 => absurd (by decide) c9)
  refine lv_iinc (v := (-1)) (lv' := [(5, .int (-1)), (0, .ref qO0), (1, .ref qO1), (2, .int 0), (3, .int 0), (4, .int 0)]) hx hb d_5_9_55 hl (k := 0) rfl (by decide) (by decide) rfl (fun ls hl => ?_)
  refine lv_goto (tgt := 10) hx hb d_5_9_58 (by decide) ?_
  refine lv_iload hx hb d_5_9_10 (lv_at hl 0 rfl) ?_
  refine lv_if_lt (tgt := 61) hx hb d_5_9_12 (by decide) (fun c10 => ?_) (fun c10 => absurd (by decide) c10)
  refine lv_iload_n hx hb d_5_9_61 rfl (lv_at hl 3 rfl) ?_
  refine lv_if_gt (tgt := 70) hx hb d_5_9_62 (by decide) (fun c11 => absurd c11 (by decide)) (fun c11 => ?_)
  refine lv_iload hx hb d_5_9_65 (lv_at hl 5 rfl) ?_
  refine lv_if_eq (tgt := 76) hx hb d_5_9_67 (by decide) (fun c12 => ?_) (fun c12 => absurd (by decide) c12)
  refine lv_iconst (v := 1) hx hb d_5_9_76 (by decide) ?_
  refine lv_istore (lv' := [(5, .int 1), (0, .ref qO0), (1, .ref qO1), (2, .int 0), (3, .int 0), (4, .int 0)]) hx hb d_5_9_77 hl (by decide) rfl (fun ls hl => ?_)
  refine lv_iload hx hb d_5_9_79 (lv_at hl 0 rfl) ?_
  refine lv_iload_n hx hb d_5_9_81 rfl (lv_at hl 3 rfl) ?_
  refine lv_icmp_gt (tgt := 109) hx hb d_5_9_82 (by decide) (fun c13 => ?_) (fun c13 => absurd (by decide) c13)
  exact q_retv C0 V (⟨hF, hO1, hA3⟩) d_5_9_109
theorem d_12_3_0 : decode prog_12_method_3_code 0 = .ok (.aload_n 0, 1) := by decide +kernel
theorem d_12_3_1 : decode prog_12_method_3_code 1 = .ok (.aload_n 1, 1) := by decide +kernel
theorem d_12_3_2 : decode prog_12_method_3_code 2 = .ok (.getfield 69, 3) := by decide +kernel
theorem w_173 : (Cond.fieldLink "NumberHouse$Writer" (69 : Nat) "NumberHouse$Dec" "number" "LNumberHouse$Big;") ∈ q_tbl := q_of 173 (by decide +kernel) (by decide +kernel)
theorem d_12_3_5 : decode prog_12_method_3_code 5 = .ok (.getfield 21, 3) := by decide +kernel
theorem w_93 : (Cond.fieldLink "NumberHouse$Writer" (21 : Nat) "NumberHouse$Big" "negative" "Z") ∈ q_tbl := q_of 93 (by decide +kernel) (by decide +kernel)
theorem d_12_3_8 : decode prog_12_method_3_code 8 = .ok (.invokevirtual 27, 3) := by decide +kernel
theorem d_12_3_11 : decode prog_12_method_3_code 11 = .ok (.aload_n 0, 1) := by decide +kernel
theorem d_12_3_12 : decode prog_12_method_3_code 12 = .ok (.getfield 13, 3) := by decide +kernel
theorem d_12_3_15 : decode prog_12_method_3_code 15 = .ok (.getfield 39, 3) := by decide +kernel
theorem d_12_3_18 : decode prog_12_method_3_code 18 = .ok (.aload_n 1, 1) := by decide +kernel
theorem d_12_3_19 : decode prog_12_method_3_code 19 = .ok (.getfield 69, 3) := by decide +kernel
theorem d_12_3_22 : decode prog_12_method_3_code 22 = .ok (.invokevirtual 45, 3) := by decide +kernel
theorem w_1548 : (Cond.methodLink "NumberHouse$Writer" (45 : Nat) ({ cls := "NumberHouse$Big", name := "copy", desc := "(LNumberHouse$Big;)V" } : MethodName)) ∈ q_tbl := q_of 1548 (by decide +kernel) (by decide +kernel)
theorem LV_Wri_45 : q_LV "NumberHouse$Writer" 45 y_Big_copy prog_2_method_4_code 2 none 1 := ⟨w_790, w_4, w_1548, w_788, w_789, ⟨by decide, by decide, by decide +kernel⟩⟩
theorem d_12_3_25 : decode prog_12_method_3_code 25 = .ok (.aload_n 0, 1) := by decide +kernel
theorem d_12_3_26 : decode prog_12_method_3_code 26 = .ok (.getfield 17, 3) := by decide +kernel
theorem d_12_3_29 : decode prog_12_method_3_code 29 = .ok (.aload_n 0, 1) := by decide +kernel
theorem d_12_3_30 : decode prog_12_method_3_code 30 = .ok (.getfield 13, 3) := by decide +kernel
theorem d_12_3_33 : decode prog_12_method_3_code 33 = .ok (.getfield 39, 3) := by decide +kernel
theorem d_12_3_36 : decode prog_12_method_3_code 36 = .ok (.aload_n 1, 1) := by decide +kernel
theorem d_12_3_37 : decode prog_12_method_3_code 37 = .ok (.getfield 72, 3) := by decide +kernel
theorem w_177 : (Cond.fieldLink "NumberHouse$Writer" (72 : Nat) "NumberHouse$Dec" "scale" "I") ∈ q_tbl := q_of 177 (by decide +kernel) (by decide +kernel)
theorem d_12_3_40 : decode prog_12_method_3_code 40 = .ok (.invokevirtual 75, 3) := by decide +kernel
theorem d_12_3_43 : decode prog_12_method_3_code 43 = .ok (.iconst 0, 1) := by decide +kernel
theorem d_12_3_44 : decode prog_12_method_3_code 44 = .ok (.aload_n 1, 1) := by decide +kernel
theorem d_12_3_45 : decode prog_12_method_3_code 45 = .ok (.getfield 72, 3) := by decide +kernel
theorem d_12_3_48 : decode prog_12_method_3_code 48 = .ok (.invokestatic 81, 3) := by decide +kernel
theorem w_1566 : (Cond.methodLink "NumberHouse$Writer" (81 : Nat) ({ cls := "java/lang/Math", name := "max", desc := "(II)I" } : MethodName)) ∈ q_tbl := q_of 1566 (by decide +kernel) (by decide +kernel)
theorem d_12_3_51 : decode prog_12_method_3_code 51 = .ok (.istore_n 3, 1) := by decide +kernel
theorem d_12_3_52 : decode prog_12_method_3_code 52 = .ok (.aload_n 1, 1) := by decide +kernel
theorem d_12_3_53 : decode prog_12_method_3_code 53 = .ok (.getfield 87, 3) := by decide +kernel
theorem w_181 : (Cond.fieldLink "NumberHouse$Writer" (87 : Nat) "NumberHouse$Dec" "figureCount" "I") ∈ q_tbl := q_of 181 (by decide +kernel) (by decide +kernel)
theorem d_12_3_56 : decode prog_12_method_3_code 56 = .ok (.iconst 1, 1) := by decide +kernel
theorem d_12_3_57 : decode prog_12_method_3_code 57 = .ok (.isub, 1) := by decide +kernel
theorem d_12_3_58 : decode prog_12_method_3_code 58 = .ok (.aload_n 1, 1) := by decide +kernel
theorem d_12_3_59 : decode prog_12_method_3_code 59 = .ok (.getfield 72, 3) := by decide +kernel
theorem d_12_3_62 : decode prog_12_method_3_code 62 = .ok (.isub, 1) := by decide +kernel
theorem d_12_3_63 : decode prog_12_method_3_code 63 = .ok (.istore 4, 2) := by decide +kernel
theorem d_12_3_65 : decode prog_12_method_3_code 65 = .ok (.iload_n 2, 1) := by decide +kernel
theorem d_12_3_66 : decode prog_12_method_3_code 66 = .ok (.iconst 1, 1) := by decide +kernel
theorem d_12_3_67 : decode prog_12_method_3_code 67 = .ok (.if_icmp .eq 24, 3) := by decide +kernel
theorem d_12_3_91 : decode prog_12_method_3_code 91 = .ok (.aload_n 0, 1) := by decide +kernel
theorem d_12_3_92 : decode prog_12_method_3_code 92 = .ok (.getfield 17, 3) := by decide +kernel
theorem d_12_3_95 : decode prog_12_method_3_code 95 = .ok (.aload_n 0, 1) := by decide +kernel
theorem d_12_3_96 : decode prog_12_method_3_code 96 = .ok (.getfield 7, 3) := by decide +kernel
theorem d_12_3_99 : decode prog_12_method_3_code 99 = .ok (.iload_n 3, 1) := by decide +kernel
theorem d_12_3_100 : decode prog_12_method_3_code 100 = .ok (.iconst 0, 1) := by decide +kernel
theorem d_12_3_101 : decode prog_12_method_3_code 101 = .ok (.iconst 0, 1) := by decide +kernel
theorem d_12_3_102 : decode prog_12_method_3_code 102 = .ok (.invokevirtual 90, 3) := by decide +kernel
theorem d_12_3_105 : decode prog_12_method_3_code 105 = .ok (.goto 42, 3) := by decide +kernel
theorem d_12_3_147 : decode prog_12_method_3_code 147 = .ok (.return_, 1) := by decide +kernel
theorem d_12_3_70 : decode prog_12_method_3_code 70 = .ok (.aload_n 1, 1) := by decide +kernel
theorem d_12_3_71 : decode prog_12_method_3_code 71 = .ok (.getfield 72, 3) := by decide +kernel
theorem d_12_3_74 : decode prog_12_method_3_code 74 = .ok (.ifCond .eq 17, 3) := by decide +kernel
def y_Wri_decimalText : MethodName := ⟨"NumberHouse$Writer", "decimalText", "(LNumberHouse$Dec;I)V"⟩
set_option maxRecDepth 100000 in
set_option maxHeartbeats 4000000 in
theorem c_Wri_decimalText (l : Launch) (D : va_G) (g : Nat → ClassId) (ws : va_W) (kO0 kO1 kO2 kO3 kO4 kO5 kA6 kO7 kA18 kA19 qO0 qO1 qO2 qO3 qO4 qO5 qA6 qO7 qO8 qO9 qO10 qO11 qO12 qO13 qO14 qO15 qO16 qA17 qA18 qA19 : Nat) (x1 : Int32) (hO0 : ws[kO0]? = (some (qO0, .inr (9, [.ref qO2, .ref qO3, .ref qO4])) : Option (Nat × va_E))) (hO1 : ws[kO1]? = (some (qO1, .inr (3, [.ref qO5, .int 0, .int 1])) : Option (Nat × va_E))) (hO2 : ws[kO2]? = (some (qO2, .inr (1, [.ref qA6, .int 11008, .int 0])) : Option (Nat × va_E))) (hO3 : ws[kO3]? = (some (qO3, .inr (4, [.ref qO7, .ref qO8, .ref qO9, .ref qO10, .ref qO11, .ref qO12, .ref qO13, .ref qO14, .ref qO15, .ref qO16])) : Option (Nat × va_E))) (hO4 : ws[kO4]? = (some (qO4, .inr (7, [.int 0, .int 0, .ref qA17])) : Option (Nat × va_E))) (hO5 : ws[kO5]? = (some (qO5, .inr (2, [.ref qA18, .int 0, .int 0])) : Option (Nat × va_E))) (hA6 : ws[kA6]? = (some (qA6, .inl (g 1, 1376, .inr (.inl (fun _ => 0)))) : Option (Nat × va_E))) (hO7 : ws[kO7]? = (some (qO7, .inr (2, [.ref qA19, .int 0, .int 0])) : Option (Nat × va_E))) (hA18 : ws[kA18]? = (some (qA18, .inl (g 0, 108, .inl (fun _ => 0))) : Option (Nat × va_E))) (hA19 : ws[kA19]? = (some (qA19, .inl (g 0, 220, .inl (fun _ => 0))) : Option (Nat × va_E))) (n_A18_A19 : kA18 ≠ kA19) (n_A18_A6 : kA18 ≠ kA6) (n_A19_A6 : kA19 ≠ kA6) (n_O5_O7 : kO5 ≠ kO7) (x1lo : 0 ≤ x1) (x1hi : x1 ≤ 2) : q_mV l y_Wri_decimalText prog_12_method_3_code 5 3 0 0 D g [.ref qO0, .ref qO1, .int x1] ws (fun u => q_un ws u [kO2, kO4, kA6, kO7, kA19] ∧ u[kO2]? = (some (qO2, .inr (1, [.ref qA6, .int 11008, .int 1])) : Option (Nat × va_E)) ∧ u[kO4]? = (some (qO4, .inr (7, [.int 0, .int 0, .ref qA17])) : Option (Nat × va_E)) ∧ u[kA6]? = (some (qA6, .inl (g 1, 1376, .inr (.inl (vp_updL (fun _ => 0) 0 48)))) : Option (Nat × va_E)) ∧ u[kO7]? = (some (qO7, .inr (2, [.ref qA19, .int 0, .int 0])) : Option (Nat × va_E)) ∧ u[kA19]? = (some (qA19, .inl (g 0, 220, .inl (fun _ => 0))) : Option (Nat × va_E))) := by
  intro sz
  refine q_into (by decide) (Nat.le_of_ble_eq_true rfl) ?_
  intro p e s m below meth c ls hsz C0 V hl
  have hx := C0.1
  have hb := C0.2.1
  have hl : lv_has ls 5 [(0, .ref qO0), (1, .ref qO1), (2, .int x1)] := hl
  have n_A18_O2 := q_df hA18 hO2
  have n_A18_O4 := q_df hA18 hO4
  have n_A18_O7 := q_df hA18 hO7
  have n_A19_O2 := q_df hA19 hO2
  have n_A19_O4 := q_df hA19 hO4
  have n_A6_A19 := Ne.symm n_A19_A6
  have n_A6_O2 := q_df hA6 hO2
  have n_A6_O4 := q_df hA6 hO4
  have n_A6_O7 := q_df hA6 hO7
  have n_O0_A19 := Ne.symm (q_df hA19 hO0)
  have n_O0_A6 := Ne.symm (q_df hA6 hO0)
  have n_O0_O2 := q_dc hO0 hO2 (q_pd 9 1 rfl)
  have n_O0_O4 := q_dc hO0 hO4 (q_pd 9 7 rfl)
  have n_O0_O7 := q_dc hO0 hO7 (q_pd 9 2 rfl)
  have n_O1_A19 := Ne.symm (q_df hA19 hO1)
  have n_O1_A6 := Ne.symm (q_df hA6 hO1)
  have n_O1_O2 := q_dc hO1 hO2 (q_pd 3 1 rfl)
  have n_O1_O4 := q_dc hO1 hO4 (q_pd 3 7 rfl)
  have n_O1_O7 := q_dc hO1 hO7 (q_pd 3 2 rfl)
  have n_O2_A19 := Ne.symm (q_df hA19 hO2)
  have n_O2_O4 := q_dc hO2 hO4 (q_pd 1 7 rfl)
  have n_O2_O7 := q_dc hO2 hO7 (q_pd 1 2 rfl)
  have n_O3_A19 := Ne.symm (q_df hA19 hO3)
  have n_O3_A6 := Ne.symm (q_df hA6 hO3)
  have n_O3_O2 := q_dc hO3 hO2 (q_pd 4 1 rfl)
  have n_O3_O4 := q_dc hO3 hO4 (q_pd 4 7 rfl)
  have n_O3_O7 := q_dc hO3 hO7 (q_pd 4 2 rfl)
  have n_O4_A19 := Ne.symm (q_df hA19 hO4)
  have n_O4_A6 := Ne.symm (q_df hA6 hO4)
  have n_O4_O2 := q_dc hO4 hO2 (q_pd 7 1 rfl)
  have n_O4_O7 := q_dc hO4 hO7 (q_pd 7 2 rfl)
  have n_O5_A19 := Ne.symm (q_df hA19 hO5)
  have n_O5_A6 := Ne.symm (q_df hA6 hO5)
  have n_O5_O2 := q_dc hO5 hO2 (q_pd 2 1 rfl)
  have n_O5_O4 := q_dc hO5 hO4 (q_pd 2 7 rfl)
  have n_O7_A6 := Ne.symm (q_df hA6 hO7)
  have n_O7_O2 := q_dc hO7 hO2 (q_pd 2 1 rfl)
  have n_O7_O4 := q_dc hO7 hO4 (q_pd 2 7 rfl)
  have hF : q_un ws ws [kO2, kO4, kA6, kO7, kA19] := q_u0
  refine lv_aload_n hx hb d_12_3_0 rfl (lv_at hl 0 rfl) ?_
  refine lv_aload_n hx hb d_12_3_1 rfl (lv_at hl 1 rfl) ?_
  refine q_get (ci := 3) (j := 0) (v := .ref qO5) C0 V i_Dec rfl rfl hO1 (by decide) w_173 rfl d_12_3_2 ?_
  refine q_get (ci := 2) (j := 2) (v := .int 0) C0 V i_Big rfl rfl hO5 (by decide) w_93 rfl d_12_3_5 ?_
  refine q_gov V (q_runV (As := [.int 0]) (rest := []) (d := 2) (mc := 0) (ms := 0) (ci := 9) C0 V rfl LV_Wri_27 (c_Wri_begin l D g ws kO0 kO2 qO0 qO2 qO3 qO4 qA6 hO0 hO2 _) rfl rfl hO0 rfl hl.1 rfl (Nat.le_of_ble_eq_true rfl) ⟨by decide, by decide⟩ ⟨Nat.le_of_ble_eq_true rfl, Nat.le_of_ble_eq_true rfl⟩ d_12_3_8) (fun u2 H locs hp1 V => ?_)
  obtain ⟨hg3, hO2⟩ := hp1
  replace hF := q_uc hF hg3 (q_sc (.head _) (fun _ h => absurd h List.not_mem_nil))
  refine lv_aload_n hx hb d_12_3_11 rfl (lv_at hl 0 rfl) ?_
  replace hO0 := (hg3 _ (q_nc n_O0_O2 List.not_mem_nil)).trans (hO0)
  refine q_get (ci := 9) (j := 1) (v := .ref qO3) C0 V i_Wri rfl rfl hO0 (by decide) w_330 rfl d_12_3_12 ?_
  replace hO3 := (hg3 _ (q_nc n_O3_O2 List.not_mem_nil)).trans (hO3)
  refine q_get (ci := 4) (j := 0) (v := .ref qO7) C0 V i_Mil rfl rfl hO3 (by decide) w_110 rfl d_12_3_15 ?_
  refine lv_aload_n hx hb d_12_3_18 rfl (lv_at hl 1 rfl) ?_
  replace hO1 := (hg3 _ (q_nc n_O1_O2 List.not_mem_nil)).trans (hO1)
  refine q_get (ci := 3) (j := 0) (v := .ref qO5) C0 V i_Dec rfl rfl hO1 (by decide) w_173 rfl d_12_3_19 ?_
  replace hO7 := (hg3 _ (q_nc n_O7_O2 List.not_mem_nil)).trans (hO7)
  replace hO5 := (hg3 _ (q_nc n_O5_O2 List.not_mem_nil)).trans (hO5)
  replace hA19 := (hg3 _ (q_nc n_A19_O2 List.not_mem_nil)).trans (hA19)
  replace hA18 := (hg3 _ (q_nc n_A18_O2 List.not_mem_nil)).trans (hA18)
  refine q_gov V (q_runV (As := [.ref qO5]) (rest := []) (d := 2) (mc := 0) (ms := 0) (ci := 2) C0 V rfl LV_Wri_45 (c_Big_copy l D g u2 kO7 kO5 kA19 kA18 qO7 qO5 qA19 qA18 hO7 hO5 hA19 hA18 n_A18_A19 n_O5_O7 _) rfl rfl hO7 rfl hl.1 rfl (Nat.le_of_ble_eq_true rfl) ⟨by decide, by decide⟩ ⟨Nat.le_of_ble_eq_true rfl, Nat.le_of_ble_eq_true rfl⟩ d_12_3_22) (fun u5 H locs hp4 V => ?_)
  obtain ⟨hg6, hO7, hA19⟩ := hp4
  replace hF := q_uc hF hg6 (q_sc (List.mem_of_getElem? (i := 3) rfl) (q_sc (List.mem_of_getElem? (i := 4) rfl) (fun _ h => absurd h List.not_mem_nil)))
  refine lv_aload_n hx hb d_12_3_25 rfl (lv_at hl 0 rfl) ?_
  replace hO0 := (hg6 _ (q_nc n_O0_O7 (q_nc n_O0_A19 List.not_mem_nil))).trans (hO0)
  refine q_get (ci := 9) (j := 2) (v := .ref qO4) C0 V i_Wri rfl rfl hO0 (by decide) w_331 rfl d_12_3_26 ?_
  refine lv_aload_n hx hb d_12_3_29 rfl (lv_at hl 0 rfl) ?_
  refine q_get (ci := 9) (j := 1) (v := .ref qO3) C0 V i_Wri rfl rfl hO0 (by decide) w_330 rfl d_12_3_30 ?_
  replace hO3 := (hg6 _ (q_nc n_O3_O7 (q_nc n_O3_A19 List.not_mem_nil))).trans (hO3)
  refine q_get (ci := 4) (j := 0) (v := .ref qO7) C0 V i_Mil rfl rfl hO3 (by decide) w_110 rfl d_12_3_33 ?_
  refine lv_aload_n hx hb d_12_3_36 rfl (lv_at hl 1 rfl) ?_
  replace hO1 := (hg6 _ (q_nc n_O1_O7 (q_nc n_O1_A19 List.not_mem_nil))).trans (hO1)
  refine q_get (ci := 3) (j := 1) (v := .int 0) C0 V i_Dec rfl rfl hO1 (by decide) w_177 rfl d_12_3_37 ?_
  replace hO4 := (hg6 _ (q_nc n_O4_O7 (q_nc n_O4_A19 List.not_mem_nil))).trans ((hg3 _ (q_nc n_O4_O2 List.not_mem_nil)).trans (hO4))
  refine q_gov V (q_runV (As := [.ref qO7, .int 0]) (rest := []) (d := 2) (mc := 0) (ms := 0) (ci := 7) C0 V rfl LV_Wri_75 (c_Dig_fill l D g u5 kO4 kO7 qO4 qO7 qA17 qA19 hO4 hO7 _) rfl rfl hO4 rfl hl.1 rfl (Nat.le_of_ble_eq_true rfl) ⟨by decide, by decide⟩ ⟨Nat.le_of_ble_eq_true rfl, Nat.le_of_ble_eq_true rfl⟩ d_12_3_40) (fun u8 H locs hp7 V => ?_)
  obtain ⟨hg9, hO4⟩ := hp7
  replace hF := q_uc hF hg9 (q_sc (.tail _ (.head _)) (fun _ h => absurd h List.not_mem_nil))
  refine lv_iconst (v := 0) hx hb d_12_3_43 (by decide) ?_
  refine lv_aload_n hx hb d_12_3_44 rfl (lv_at hl 1 rfl) ?_
  replace hO1 := (hg9 _ (q_nc n_O1_O4 List.not_mem_nil)).trans (hO1)
  refine q_get (ci := 3) (j := 1) (v := .int 0) C0 V i_Dec rfl rfl hO1 (by decide) w_177 rfl d_12_3_45 ?_
  refine q_max C0 hl.1 rfl w_1566 w_803 w_7 w_804 ⟨Nat.le_of_ble_eq_true rfl, Nat.le_of_ble_eq_true rfl⟩ ⟨Nat.le_of_ble_eq_true rfl, Nat.le_of_ble_eq_true rfl⟩ d_12_3_48 ?_
  refine q_ti (v := 0) (by decide) ?_
  refine lv_istore_n (lv' := [(3, .int 0), (0, .ref qO0), (1, .ref qO1), (2, .int x1)]) hx hb d_12_3_51 rfl hl (by decide) rfl (fun ls hl => ?_)
  refine lv_aload_n hx hb d_12_3_52 rfl (lv_at hl 2 rfl) ?_
  refine q_get (ci := 3) (j := 2) (v := .int 1) C0 V i_Dec rfl rfl hO1 (by decide) w_181 rfl d_12_3_53 ?_
  refine lv_iconst (v := 1) hx hb d_12_3_56 (by decide) ?_
  refine lv_isub hx hb d_12_3_57 ?_
  refine q_ti (v := 0) (by decide) ?_
  refine lv_aload_n hx hb d_12_3_58 rfl (lv_at hl 2 rfl) ?_
  refine q_get (ci := 3) (j := 1) (v := .int 0) C0 V i_Dec rfl rfl hO1 (by decide) w_177 rfl d_12_3_59 ?_
  refine lv_isub hx hb d_12_3_62 ?_
  refine q_ti (v := 0) (by decide) ?_
  refine lv_istore (lv' := [(4, .int 0), (3, .int 0), (0, .ref qO0), (1, .ref qO1), (2, .int x1)]) hx hb d_12_3_63 hl (by decide) rfl (fun ls hl => ?_)
  refine lv_iload_n hx hb d_12_3_65 rfl (lv_at hl 4 rfl) ?_
  refine lv_iconst (v := 1) hx hb d_12_3_66 (by decide) ?_
  refine lv_icmp_eq (tgt := 91) hx hb d_12_3_67 (by decide) (fun c10 => ?_) (fun c10 => ?_)
  ·
    refine lv_aload_n hx hb d_12_3_91 rfl (lv_at hl 2 rfl) ?_
    replace hO0 := (hg9 _ (q_nc n_O0_O4 List.not_mem_nil)).trans (hO0)
    refine q_get (ci := 9) (j := 2) (v := .ref qO4) C0 V i_Wri rfl rfl hO0 (by decide) w_331 rfl d_12_3_92 ?_
    refine lv_aload_n hx hb d_12_3_95 rfl (lv_at hl 2 rfl) ?_
    refine q_get (ci := 9) (j := 0) (v := .ref qO2) C0 V i_Wri rfl rfl hO0 (by decide) w_329 rfl d_12_3_96 ?_
    refine lv_iload_n hx hb d_12_3_99 rfl (lv_at hl 1 rfl) ?_
    refine lv_iconst (v := 0) hx hb d_12_3_100 (by decide) ?_
    refine lv_iconst (v := 0) hx hb d_12_3_101 (by decide) ?_
    replace hO2 := (hg9 _ (q_nc n_O2_O4 List.not_mem_nil)).trans ((hg6 _ (q_nc n_O2_O7 (q_nc n_O2_A19 List.not_mem_nil))).trans (hO2))
    replace hA6 := (hg9 _ (q_nc n_A6_O4 List.not_mem_nil)).trans ((hg6 _ (q_nc n_A6_O7 (q_nc n_A6_A19 List.not_mem_nil))).trans ((hg3 _ (q_nc n_A6_O2 List.not_mem_nil)).trans (hA6)))
    refine q_gov V (q_runV (As := [.ref qO2, .int 0, .int 0, .int 0]) (rest := []) (d := 2) (mc := 0) (ms := 0) (ci := 7) C0 V rfl LV_Wri_90 (c_Dig_writePlain_2 l D g u8 kO4 kO2 kA6 qO4 qO2 qA17 qA6 hO4 hO2 hA6 _) rfl rfl hO4 rfl hl.1 rfl (Nat.le_of_ble_eq_true rfl) ⟨by decide, by decide⟩ ⟨Nat.le_of_ble_eq_true rfl, Nat.le_of_ble_eq_true rfl⟩ d_12_3_102) (fun u12 H locs hp11 V => ?_)
    obtain ⟨hg13, hO2, hA6⟩ := hp11
    replace hF := q_uc hF hg13 (q_sc (.head _) (q_sc (.tail _ (.tail _ (.head _))) (fun _ h => absurd h List.not_mem_nil)))
    refine lv_goto (tgt := 147) hx hb d_12_3_105 (by decide) ?_
    replace hO4 := (hg13 _ (q_nc n_O4_O2 (q_nc n_O4_A6 List.not_mem_nil))).trans (hO4)
    replace hO7 := (hg13 _ (q_nc n_O7_O2 (q_nc n_O7_A6 List.not_mem_nil))).trans ((hg9 _ (q_nc n_O7_O4 List.not_mem_nil)).trans (hO7))
    replace hA19 := (hg13 _ (q_nc n_A19_O2 (q_nc n_A19_A6 List.not_mem_nil))).trans ((hg9 _ (q_nc n_A19_O4 List.not_mem_nil)).trans (hA19))
    exact q_retv C0 V (⟨hF, hO2, hO4, hA6, hO7, hA19⟩) d_12_3_147
  ·
    refine lv_aload_n hx hb d_12_3_70 rfl (lv_at hl 3 rfl) ?_
    refine q_get (ci := 3) (j := 1) (v := .int 0) C0 V i_Dec rfl rfl hO1 (by decide) w_177 rfl d_12_3_71 ?_
    refine lv_if_eq (tgt := 91) hx hb d_12_3_74 (by decide) (fun c14 => ?_) (fun c14 => absurd (by decide) c14)
    refine lv_aload_n hx hb d_12_3_91 rfl (lv_at hl 2 rfl) ?_
    replace hO0 := (hg9 _ (q_nc n_O0_O4 List.not_mem_nil)).trans (hO0)
    refine q_get (ci := 9) (j := 2) (v := .ref qO4) C0 V i_Wri rfl rfl hO0 (by decide) w_331 rfl d_12_3_92 ?_
    refine lv_aload_n hx hb d_12_3_95 rfl (lv_at hl 2 rfl) ?_
    refine q_get (ci := 9) (j := 0) (v := .ref qO2) C0 V i_Wri rfl rfl hO0 (by decide) w_329 rfl d_12_3_96 ?_
    refine lv_iload_n hx hb d_12_3_99 rfl (lv_at hl 1 rfl) ?_
    refine lv_iconst (v := 0) hx hb d_12_3_100 (by decide) ?_
    refine lv_iconst (v := 0) hx hb d_12_3_101 (by decide) ?_
    replace hO2 := (hg9 _ (q_nc n_O2_O4 List.not_mem_nil)).trans ((hg6 _ (q_nc n_O2_O7 (q_nc n_O2_A19 List.not_mem_nil))).trans (hO2))
    replace hA6 := (hg9 _ (q_nc n_A6_O4 List.not_mem_nil)).trans ((hg6 _ (q_nc n_A6_O7 (q_nc n_A6_A19 List.not_mem_nil))).trans ((hg3 _ (q_nc n_A6_O2 List.not_mem_nil)).trans (hA6)))
    refine q_gov V (q_runV (As := [.ref qO2, .int 0, .int 0, .int 0]) (rest := []) (d := 2) (mc := 0) (ms := 0) (ci := 7) C0 V rfl LV_Wri_90 (c_Dig_writePlain_2 l D g u8 kO4 kO2 kA6 qO4 qO2 qA17 qA6 hO4 hO2 hA6 _) rfl rfl hO4 rfl hl.1 rfl (Nat.le_of_ble_eq_true rfl) ⟨by decide, by decide⟩ ⟨Nat.le_of_ble_eq_true rfl, Nat.le_of_ble_eq_true rfl⟩ d_12_3_102) (fun u16 H locs hp15 V => ?_)
    obtain ⟨hg17, hO2, hA6⟩ := hp15
    replace hF := q_uc hF hg17 (q_sc (.head _) (q_sc (.tail _ (.tail _ (.head _))) (fun _ h => absurd h List.not_mem_nil)))
    refine lv_goto (tgt := 147) hx hb d_12_3_105 (by decide) ?_
    replace hO4 := (hg17 _ (q_nc n_O4_O2 (q_nc n_O4_A6 List.not_mem_nil))).trans (hO4)
    replace hO7 := (hg17 _ (q_nc n_O7_O2 (q_nc n_O7_A6 List.not_mem_nil))).trans ((hg9 _ (q_nc n_O7_O4 List.not_mem_nil)).trans (hO7))
    replace hA19 := (hg17 _ (q_nc n_A19_O2 (q_nc n_A19_A6 List.not_mem_nil))).trans ((hg9 _ (q_nc n_A19_O4 List.not_mem_nil)).trans (hA19))
    exact q_retv C0 V (⟨hF, hO2, hO4, hA6, hO7, hA19⟩) d_12_3_147
theorem d_11_7_0 : decode prog_11_method_7_code 0 = .ok (.iload_n 1, 1) := by decide +kernel
theorem d_11_7_1 : decode prog_11_method_7_code 1 = .ok (.istore_n 2, 1) := by decide +kernel
theorem d_11_7_2 : decode prog_11_method_7_code 2 = .ok (.aload_n 0, 1) := by decide +kernel
theorem d_11_7_3 : decode prog_11_method_7_code 3 = .ok (.getfield 17, 3) := by decide +kernel
theorem d_11_7_6 : decode prog_11_method_7_code 6 = .ok (.iconst 1, 1) := by decide +kernel
theorem d_11_7_7 : decode prog_11_method_7_code 7 = .ok (.isub, 1) := by decide +kernel
theorem d_11_7_8 : decode prog_11_method_7_code 8 = .ok (.istore_n 3, 1) := by decide +kernel
theorem d_11_7_9 : decode prog_11_method_7_code 9 = .ok (.iload_n 2, 1) := by decide +kernel
theorem d_11_7_10 : decode prog_11_method_7_code 10 = .ok (.iload_n 3, 1) := by decide +kernel
theorem d_11_7_11 : decode prog_11_method_7_code 11 = .ok (.if_icmp .ge 38, 3) := by decide +kernel
theorem d_11_7_49 : decode prog_11_method_7_code 49 = .ok (.return_, 1) := by decide +kernel
def y_She_turn : MethodName := ⟨"NumberHouse$Sheet", "turn", "(I)V"⟩
set_option maxRecDepth 100000 in
set_option maxHeartbeats 4000000 in
theorem c_She_turn (l : Launch) (D : va_G) (g : Nat → ClassId) (ws : va_W) (kO0 qO0 qA1 : Nat) (hO0 : ws[kO0]? = (some (qO0, .inr (1, [.ref qA1, .int 11008, .int 1])) : Option (Nat × va_E))) : q_mV l y_She_turn prog_11_method_7_code 5 1 0 0 D g [.ref qO0, .int 0] ws (fun u => ws = u) := by
  intro sz
  refine q_into (by decide) (Nat.le_of_ble_eq_true rfl) ?_
  intro p e s m below meth c ls hsz C0 V hl
  have hx := C0.1
  have hb := C0.2.1
  have hl : lv_has ls 5 [(0, .ref qO0), (1, .int 0)] := hl
  refine lv_iload_n hx hb d_11_7_0 rfl (lv_at hl 1 rfl) ?_
  refine lv_istore_n (lv' := [(2, .int 0), (0, .ref qO0), (1, .int 0)]) hx hb d_11_7_1 rfl hl (by decide) rfl (fun ls hl => ?_)
  refine lv_aload_n hx hb d_11_7_2 rfl (lv_at hl 1 rfl) ?_
  refine q_get (ci := 1) (j := 2) (v := .int 1) C0 V i_She rfl rfl hO0 (by decide) w_54 rfl d_11_7_3 ?_
  refine lv_iconst (v := 1) hx hb d_11_7_6 (by decide) ?_
  refine lv_isub hx hb d_11_7_7 ?_
  refine q_ti (v := 0) (by decide) ?_
  refine lv_istore_n (lv' := [(3, .int 0), (2, .int 0), (0, .ref qO0), (1, .int 0)]) hx hb d_11_7_8 rfl hl (by decide) rfl (fun ls hl => ?_)
  refine lv_iload_n hx hb d_11_7_9 rfl (lv_at hl 1 rfl) ?_
  refine lv_iload_n hx hb d_11_7_10 rfl (lv_at hl 0 rfl) ?_
  refine lv_icmp_ge (tgt := 49) hx hb d_11_7_11 (by decide) (fun c1 => ?_) (fun c1 => absurd (by decide) c1)
  exact q_retv C0 V (rfl) d_11_7_49
theorem d_12_2_0 : decode prog_12_method_2_code 0 = .ok (.aload_n 0, 1) := by decide +kernel
theorem d_12_2_1 : decode prog_12_method_2_code 1 = .ok (.aload_n 1, 1) := by decide +kernel
theorem d_12_2_2 : decode prog_12_method_2_code 2 = .ok (.getfield 21, 3) := by decide +kernel
theorem d_12_2_5 : decode prog_12_method_2_code 5 = .ok (.invokevirtual 27, 3) := by decide +kernel
theorem d_12_2_8 : decode prog_12_method_2_code 8 = .ok (.aload_n 0, 1) := by decide +kernel
theorem d_12_2_9 : decode prog_12_method_2_code 9 = .ok (.getfield 7, 3) := by decide +kernel
theorem d_12_2_12 : decode prog_12_method_2_code 12 = .ok (.getfield 31, 3) := by decide +kernel
theorem w_55 : (Cond.fieldLink "NumberHouse$Writer" (31 : Nat) "NumberHouse$Sheet" "size" "I") ∈ q_tbl := q_of 55 (by decide +kernel) (by decide +kernel)
theorem d_12_2_15 : decode prog_12_method_2_code 15 = .ok (.istore_n 3, 1) := by decide +kernel
theorem d_12_2_16 : decode prog_12_method_2_code 16 = .ok (.iconst 1, 1) := by decide +kernel
theorem d_12_2_17 : decode prog_12_method_2_code 17 = .ok (.istore 4, 2) := by decide +kernel
theorem d_12_2_19 : decode prog_12_method_2_code 19 = .ok (.iload_n 2, 1) := by decide +kernel
theorem d_12_2_20 : decode prog_12_method_2_code 20 = .ok (.istore 5, 2) := by decide +kernel
theorem d_12_2_22 : decode prog_12_method_2_code 22 = .ok (.iload 4, 2) := by decide +kernel
theorem d_12_2_24 : decode prog_12_method_2_code 24 = .ok (.bipush 31, 2) := by decide +kernel
theorem d_12_2_26 : decode prog_12_method_2_code 26 = .ok (.if_icmp .ge 28, 3) := by decide +kernel
theorem d_12_2_54 : decode prog_12_method_2_code 54 = .ok (.aload_n 0, 1) := by decide +kernel
theorem d_12_2_55 : decode prog_12_method_2_code 55 = .ok (.getfield 13, 3) := by decide +kernel
theorem d_12_2_58 : decode prog_12_method_2_code 58 = .ok (.getfield 39, 3) := by decide +kernel
theorem d_12_2_61 : decode prog_12_method_2_code 61 = .ok (.aload_n 1, 1) := by decide +kernel
theorem d_12_2_62 : decode prog_12_method_2_code 62 = .ok (.invokevirtual 45, 3) := by decide +kernel
theorem d_12_2_65 : decode prog_12_method_2_code 65 = .ok (.iconst 0, 1) := by decide +kernel
theorem d_12_2_66 : decode prog_12_method_2_code 66 = .ok (.istore 6, 2) := by decide +kernel
theorem d_12_2_68 : decode prog_12_method_2_code 68 = .ok (.iload 6, 2) := by decide +kernel
theorem d_12_2_70 : decode prog_12_method_2_code 70 = .ok (.sipush 2100, 3) := by decide +kernel
theorem d_12_2_73 : decode prog_12_method_2_code 73 = .ok (.if_icmp .ge 92, 3) := by decide +kernel
theorem d_12_2_165 : decode prog_12_method_2_code 165 = .ok (.aload_n 0, 1) := by decide +kernel
theorem d_12_2_166 : decode prog_12_method_2_code 166 = .ok (.getfield 7, 3) := by decide +kernel
theorem d_12_2_169 : decode prog_12_method_2_code 169 = .ok (.getfield 31, 3) := by decide +kernel
theorem d_12_2_172 : decode prog_12_method_2_code 172 = .ok (.iload_n 3, 1) := by decide +kernel
theorem d_12_2_173 : decode prog_12_method_2_code 173 = .ok (.if_icmp .ne 12, 3) := by decide +kernel
theorem d_12_2_176 : decode prog_12_method_2_code 176 = .ok (.aload_n 0, 1) := by decide +kernel
theorem d_12_2_177 : decode prog_12_method_2_code 177 = .ok (.getfield 7, 3) := by decide +kernel
theorem d_12_2_180 : decode prog_12_method_2_code 180 = .ok (.bipush 48, 2) := by decide +kernel
theorem d_12_2_182 : decode prog_12_method_2_code 182 = .ok (.invokevirtual 62, 3) := by decide +kernel
theorem w_1546 : (Cond.methodLink "NumberHouse$Writer" (62 : Nat) ({ cls := "NumberHouse$Sheet", name := "add", desc := "(I)V" } : MethodName)) ∈ q_tbl := q_of 1546 (by decide +kernel) (by decide +kernel)
theorem LV_Wri_62 : q_LV "NumberHouse$Writer" 62 y_She_add prog_11_method_3_code 3 none 1 := ⟨w_564, w_2, w_1546, w_562, w_563, ⟨by decide, by decide, by decide +kernel⟩⟩
theorem d_12_2_185 : decode prog_12_method_2_code 185 = .ok (.aload_n 0, 1) := by decide +kernel
theorem d_12_2_186 : decode prog_12_method_2_code 186 = .ok (.getfield 7, 3) := by decide +kernel
theorem d_12_2_189 : decode prog_12_method_2_code 189 = .ok (.iload_n 3, 1) := by decide +kernel
theorem d_12_2_190 : decode prog_12_method_2_code 190 = .ok (.invokevirtual 66, 3) := by decide +kernel
theorem w_1555 : (Cond.code ({ cls := "NumberHouse$Sheet", name := "turn", desc := "(I)V" } : MethodName) prog_11_method_7_code (5 : Nat) (none : Option ClassFile.FieldType)) ∈ q_tbl := q_of 1555 (by decide +kernel) (by decide +kernel)
theorem w_1552 : (Cond.methodLink "NumberHouse$Writer" (66 : Nat) ({ cls := "NumberHouse$Sheet", name := "turn", desc := "(I)V" } : MethodName)) ∈ q_tbl := q_of 1552 (by decide +kernel) (by decide +kernel)
theorem w_1553 : (Cond.instanceMethod ({ cls := "NumberHouse$Sheet", name := "turn", desc := "(I)V" } : MethodName)) ∈ q_tbl := q_of 1553 (by decide +kernel) (by decide +kernel)
theorem w_1554 : (Cond.selects "NumberHouse$Sheet" ({ cls := "NumberHouse$Sheet", name := "turn", desc := "(I)V" } : MethodName) ({ cls := "NumberHouse$Sheet", name := "turn", desc := "(I)V" } : MethodName)) ∈ q_tbl := q_of 1554 (by decide +kernel) (by decide +kernel)
theorem LV_Wri_66 : q_LV "NumberHouse$Writer" 66 y_She_turn prog_11_method_7_code 5 none 1 := ⟨w_1555, w_2, w_1552, w_1553, w_1554, ⟨by decide, by decide, by decide +kernel⟩⟩
theorem d_12_2_193 : decode prog_12_method_2_code 193 = .ok (.return_, 1) := by decide +kernel
theorem d_12_2_76 : decode prog_12_method_2_code 76 = .ok (.aload_n 0, 1) := by decide +kernel
theorem d_12_2_77 : decode prog_12_method_2_code 77 = .ok (.getfield 13, 3) := by decide +kernel
theorem d_12_2_80 : decode prog_12_method_2_code 80 = .ok (.getfield 39, 3) := by decide +kernel
theorem d_12_2_83 : decode prog_12_method_2_code 83 = .ok (.getfield 49, 3) := by decide +kernel
theorem w_87 : (Cond.fieldLink "NumberHouse$Writer" (49 : Nat) "NumberHouse$Big" "size" "I") ∈ q_tbl := q_of 87 (by decide +kernel) (by decide +kernel)
theorem d_12_2_86 : decode prog_12_method_2_code 86 = .ok (.ifCond .le 79, 3) := by decide +kernel
theorem d_12_2_29 : decode prog_12_method_2_code 29 = .ok (.iload 5, 2) := by decide +kernel
theorem d_12_2_31 : decode prog_12_method_2_code 31 = .ok (.i2l, 1) := by decide +kernel
theorem d_12_2_32 : decode prog_12_method_2_code 32 = .ok (.iload_n 2, 1) := by decide +kernel
theorem d_12_2_33 : decode prog_12_method_2_code 33 = .ok (.i2l, 1) := by decide +kernel
theorem d_12_2_34 : decode prog_12_method_2_code 34 = .ok (.lmul, 1) := by decide +kernel
theorem d_12_2_35 : decode prog_12_method_2_code 35 = .ok (.ldc2_w 37, 3) := by decide +kernel
theorem w_1547 : (Cond.constantLong "NumberHouse$Writer" (37 : Nat) (2147483647 : Int64)) ∈ q_tbl := q_of 1547 (by decide +kernel) (by decide +kernel)
theorem d_12_2_38 : decode prog_12_method_2_code 38 = .ok (.lcmp, 1) := by decide +kernel
theorem d_12_2_39 : decode prog_12_method_2_code 39 = .ok (.ifCond .gt 15, 3) := by decide +kernel
theorem d_12_2_42 : decode prog_12_method_2_code 42 = .ok (.iload 5, 2) := by decide +kernel
theorem d_12_2_44 : decode prog_12_method_2_code 44 = .ok (.iload_n 2, 1) := by decide +kernel
theorem d_12_2_45 : decode prog_12_method_2_code 45 = .ok (.imul, 1) := by decide +kernel
theorem d_12_2_46 : decode prog_12_method_2_code 46 = .ok (.istore 5, 2) := by decide +kernel
theorem d_12_2_48 : decode prog_12_method_2_code 48 = .ok (.iinc 4 1, 3) := by decide +kernel
theorem d_12_2_51 : decode prog_12_method_2_code 51 = .ok (.goto (-29), 3) := by decide +kernel
def y_Wri_wholeText : MethodName := ⟨"NumberHouse$Writer", "wholeText", "(LNumberHouse$Big;I)V"⟩
set_option maxRecDepth 100000 in
set_option maxHeartbeats 4000000 in
theorem c_Wri_wholeText (l : Launch) (D : va_G) (g : Nat → ClassId) (ws : va_W) (kO0 kO1 kO2 kO3 kA5 kA6 kO7 kA18 qO0 qO1 qO2 qO3 qO4 qA5 qA6 qO7 qO8 qO9 qO10 qO11 qO12 qO13 qO14 qO15 qO16 qA18 : Nat) (x1 : Int32) (hO0 : ws[kO0]? = (some (qO0, .inr (9, [.ref qO2, .ref qO3, .ref qO4])) : Option (Nat × va_E))) (hO1 : ws[kO1]? = (some (qO1, .inr (2, [.ref qA5, .int 0, .int 0])) : Option (Nat × va_E))) (hO2 : ws[kO2]? = (some (qO2, .inr (1, [.ref qA6, .int 11008, .int 0])) : Option (Nat × va_E))) (hO3 : ws[kO3]? = (some (qO3, .inr (4, [.ref qO7, .ref qO8, .ref qO9, .ref qO10, .ref qO11, .ref qO12, .ref qO13, .ref qO14, .ref qO15, .ref qO16])) : Option (Nat × va_E))) (hA5 : ws[kA5]? = (some (qA5, .inl (g 0, 68, .inl (fun _ => 0))) : Option (Nat × va_E))) (hA6 : ws[kA6]? = (some (qA6, .inl (g 1, 1376, .inr (.inl (fun _ => 0)))) : Option (Nat × va_E))) (hO7 : ws[kO7]? = (some (qO7, .inr (2, [.ref qA18, .int 0, .int 0])) : Option (Nat × va_E))) (hA18 : ws[kA18]? = (some (qA18, .inl (g 0, 220, .inl (fun _ => 0))) : Option (Nat × va_E))) (n_A18_A6 : kA18 ≠ kA6) (n_A5_A18 : kA5 ≠ kA18) (n_A5_A6 : kA5 ≠ kA6) (n_O1_O7 : kO1 ≠ kO7) (x1lo : 2 ≤ x1) (x1hi : x1 ≤ 36) : q_mV l y_Wri_wholeText prog_12_method_2_code 9 3 0 0 D g [.ref qO0, .ref qO1, .int x1] ws (fun u => q_un ws u [kO2, kA6, kO7, kA18] ∧ u[kO2]? = (some (qO2, .inr (1, [.ref qA6, .int 11008, .int 1])) : Option (Nat × va_E)) ∧ u[kA6]? = (some (qA6, .inl (g 1, 1376, .inr (.inl (vp_updL (fun _ => 0) 0 48)))) : Option (Nat × va_E)) ∧ u[kO7]? = (some (qO7, .inr (2, [.ref qA18, .int 0, .int 0])) : Option (Nat × va_E)) ∧ u[kA18]? = (some (qA18, .inl (g 0, 220, .inl (fun _ => 0))) : Option (Nat × va_E))) := by
  intro sz
  refine q_into (by decide) (Nat.le_of_ble_eq_true rfl) ?_
  intro p e s m below meth c ls hsz C0 V hl
  have hx := C0.1
  have hb := C0.2.1
  have hl : lv_has ls 9 [(0, .ref qO0), (1, .ref qO1), (2, .int x1)] := hl
  have n_A18_O2 := q_df hA18 hO2
  have n_A5_O2 := q_df hA5 hO2
  have n_A5_O7 := q_df hA5 hO7
  have n_A6_A18 := Ne.symm n_A18_A6
  have n_A6_O2 := q_df hA6 hO2
  have n_A6_O7 := q_df hA6 hO7
  have n_O0_A18 := Ne.symm (q_df hA18 hO0)
  have n_O0_A6 := Ne.symm (q_df hA6 hO0)
  have n_O0_O2 := q_dc hO0 hO2 (q_pd 9 1 rfl)
  have n_O0_O7 := q_dc hO0 hO7 (q_pd 9 2 rfl)
  have n_O1_A18 := Ne.symm (q_df hA18 hO1)
  have n_O1_A6 := Ne.symm (q_df hA6 hO1)
  have n_O1_O2 := q_dc hO1 hO2 (q_pd 2 1 rfl)
  have n_O2_A18 := Ne.symm (q_df hA18 hO2)
  have n_O2_O7 := q_dc hO2 hO7 (q_pd 1 2 rfl)
  have n_O3_A18 := Ne.symm (q_df hA18 hO3)
  have n_O3_A6 := Ne.symm (q_df hA6 hO3)
  have n_O3_O2 := q_dc hO3 hO2 (q_pd 4 1 rfl)
  have n_O3_O7 := q_dc hO3 hO7 (q_pd 4 2 rfl)
  have n_O7_A6 := Ne.symm (q_df hA6 hO7)
  have n_O7_O2 := q_dc hO7 hO2 (q_pd 2 1 rfl)
  have hF : q_un ws ws [kO2, kA6, kO7, kA18] := q_u0
  refine lv_aload_n hx hb d_12_2_0 rfl (lv_at hl 0 rfl) ?_
  refine lv_aload_n hx hb d_12_2_1 rfl (lv_at hl 1 rfl) ?_
  refine q_get (ci := 2) (j := 2) (v := .int 0) C0 V i_Big rfl rfl hO1 (by decide) w_93 rfl d_12_2_2 ?_
  refine q_gov V (q_runV (As := [.int 0]) (rest := []) (d := 2) (mc := 0) (ms := 0) (ci := 9) C0 V rfl LV_Wri_27 (c_Wri_begin l D g ws kO0 kO2 qO0 qO2 qO3 qO4 qA6 hO0 hO2 _) rfl rfl hO0 rfl hl.1 rfl (Nat.le_of_ble_eq_true rfl) ⟨by decide, by decide⟩ ⟨Nat.le_of_ble_eq_true rfl, Nat.le_of_ble_eq_true rfl⟩ d_12_2_5) (fun u2 H locs hp1 V => ?_)
  obtain ⟨hg3, hO2⟩ := hp1
  replace hF := q_uc hF hg3 (q_sc (.head _) (fun _ h => absurd h List.not_mem_nil))
  refine lv_aload_n hx hb d_12_2_8 rfl (lv_at hl 0 rfl) ?_
  replace hO0 := (hg3 _ (q_nc n_O0_O2 List.not_mem_nil)).trans (hO0)
  refine q_get (ci := 9) (j := 0) (v := .ref qO2) C0 V i_Wri rfl rfl hO0 (by decide) w_329 rfl d_12_2_9 ?_
  refine q_get (ci := 1) (j := 2) (v := .int 0) C0 V i_She rfl rfl hO2 (by decide) w_55 rfl d_12_2_12 ?_
  refine lv_istore_n (lv' := [(3, .int 0), (0, .ref qO0), (1, .ref qO1), (2, .int x1)]) hx hb d_12_2_15 rfl hl (by decide) rfl (fun ls hl => ?_)
  refine lv_iconst (v := 1) hx hb d_12_2_16 (by decide) ?_
  refine lv_istore (lv' := [(4, .int 1), (3, .int 0), (0, .ref qO0), (1, .ref qO1), (2, .int x1)]) hx hb d_12_2_17 hl (by decide) rfl (fun ls hl => ?_)
  refine lv_iload_n hx hb d_12_2_19 rfl (lv_at hl 4 rfl) ?_
  refine lv_istore (lv' := [(5, .int x1), (4, .int 1), (3, .int 0), (0, .ref qO0), (1, .ref qO1), (2, .int x1)]) hx hb d_12_2_20 hl (by decide) rfl (fun ls hl => ?_)
  replace hO1 := (hg3 _ (q_nc n_O1_O2 List.not_mem_nil)).trans (hO1)
  replace hO3 := (hg3 _ (q_nc n_O3_O2 List.not_mem_nil)).trans (hO3)
  replace hA5 := (hg3 _ (q_nc n_A5_O2 List.not_mem_nil)).trans (hA5)
  replace hA6 := (hg3 _ (q_nc n_A6_O2 List.not_mem_nil)).trans (hA6)
  replace hO7 := (hg3 _ (q_nc n_O7_O2 List.not_mem_nil)).trans (hO7)
  replace hA18 := (hg3 _ (q_nc n_A18_O2 List.not_mem_nil)).trans (hA18)
  refine q_loop (X := Int32 × Int32) (fun z H locs ls w6 => (1 ≤ z.1.toInt ∧ (z.1.toInt ≤ 31 ∨ z.1.toInt = 1)) ∧ q_Wd D g (va_A ws sz) s w6 H locs ∧ lv_has ls 9 [(5, .int z.2), (4, .int z.1), (3, .int 0), (0, .ref qO0), (1, .ref qO1), (2, .int x1)] ∧ q_un ws w6 [kO2, kA6, kO7, kA18] ∧ w6[kO0]? = (some (qO0, .inr (9, [.ref qO2, .ref qO3, .ref qO4])) : Option (Nat × va_E)) ∧ w6[kO1]? = (some (qO1, .inr (2, [.ref qA5, .int 0, .int 0])) : Option (Nat × va_E)) ∧ w6[kO2]? = (some (qO2, .inr (1, [.ref qA6, .int 11008, .int 0])) : Option (Nat × va_E)) ∧ w6[kO3]? = (some (qO3, .inr (4, [.ref qO7, .ref qO8, .ref qO9, .ref qO10, .ref qO11, .ref qO12, .ref qO13, .ref qO14, .ref qO15, .ref qO16])) : Option (Nat × va_E)) ∧ w6[kA5]? = (some (qA5, .inl (g 0, 68, .inl (fun _ => 0))) : Option (Nat × va_E)) ∧ w6[kA6]? = (some (qA6, .inl (g 1, 1376, .inr (.inl (fun _ => 0)))) : Option (Nat × va_E)) ∧ w6[kO7]? = (some (qO7, .inr (2, [.ref qA18, .int 0, .int 0])) : Option (Nat × va_E)) ∧ w6[kA18]? = (some (qA18, .inl (g 0, 220, .inl (fun _ => 0))) : Option (Nat × va_E))) (fun z => (31 - z.1.toInt).toNat) ?_ ((1 : Int32), (x1 : Int32)) _ _ _ u2 ⟨⟨(by dsimp only; decide), Or.inr (by dsimp only; decide)⟩, V, hl, hF, hO0, hO1, hO2, hO3, hA5, hA6, hO7, hA18⟩
  rintro ⟨lx4, lx5⟩ H locs ls w6 ⟨i7, V, hl, hF, hO0, hO1, hO2, hO3, hA5, hA6, hO7, hA18⟩ ih8
  replace i7 : 1 ≤ lx4.toInt ∧ (lx4.toInt ≤ 31 ∨ lx4.toInt = 1) := i7
  replace hl : lv_has ls 9 [(5, .int lx5), (4, .int lx4), (3, .int 0), (0, .ref qO0), (1, .ref qO1), (2, .int x1)] := hl
  replace hO0 : w6[kO0]? = (some (qO0, .inr (9, [.ref qO2, .ref qO3, .ref qO4])) : Option (Nat × va_E)) := hO0
  replace hO1 : w6[kO1]? = (some (qO1, .inr (2, [.ref qA5, .int 0, .int 0])) : Option (Nat × va_E)) := hO1
  replace hO2 : w6[kO2]? = (some (qO2, .inr (1, [.ref qA6, .int 11008, .int 0])) : Option (Nat × va_E)) := hO2
  replace hO3 : w6[kO3]? = (some (qO3, .inr (4, [.ref qO7, .ref qO8, .ref qO9, .ref qO10, .ref qO11, .ref qO12, .ref qO13, .ref qO14, .ref qO15, .ref qO16])) : Option (Nat × va_E)) := hO3
  replace hA5 : w6[kA5]? = (some (qA5, .inl (g 0, 68, .inl (fun _ => 0))) : Option (Nat × va_E)) := hA5
  replace hA6 : w6[kA6]? = (some (qA6, .inl (g 1, 1376, .inr (.inl (fun _ => 0)))) : Option (Nat × va_E)) := hA6
  replace hO7 : w6[kO7]? = (some (qO7, .inr (2, [.ref qA18, .int 0, .int 0])) : Option (Nat × va_E)) := hO7
  replace hA18 : w6[kA18]? = (some (qA18, .inl (g 0, 220, .inl (fun _ => 0))) : Option (Nat × va_E)) := hA18
  refine lv_iload hx hb d_12_2_22 (lv_at hl 1 rfl) ?_
  refine lv_bipush (v := 31) hx hb d_12_2_24 (by decide) ?_
  refine lv_icmp_ge (tgt := 54) hx hb d_12_2_26 (by decide) (fun c9 => ?_) (fun c9 => ?_)
  ·
    refine lv_aload_n hx hb d_12_2_54 rfl (lv_at hl 3 rfl) ?_
    refine q_get (ci := 9) (j := 1) (v := .ref qO3) C0 V i_Wri rfl rfl hO0 (by decide) w_330 rfl d_12_2_55 ?_
    refine q_get (ci := 4) (j := 0) (v := .ref qO7) C0 V i_Mil rfl rfl hO3 (by decide) w_110 rfl d_12_2_58 ?_
    refine lv_aload_n hx hb d_12_2_61 rfl (lv_at hl 4 rfl) ?_
    refine q_gov V (q_runV (As := [.ref qO1]) (rest := []) (d := 2) (mc := 0) (ms := 0) (ci := 2) C0 V rfl LV_Wri_45 (c_Big_copy_3 l D g w6 kO7 kO1 kA18 kA5 qO7 qO1 qA18 qA5 hO7 hO1 hA18 hA5 n_A5_A18 n_O1_O7 _) rfl rfl hO7 rfl hl.1 rfl (Nat.le_of_ble_eq_true rfl) ⟨by decide, by decide⟩ ⟨Nat.le_of_ble_eq_true rfl, Nat.le_of_ble_eq_true rfl⟩ d_12_2_62) (fun u11 H locs hp10 V => ?_)
    obtain ⟨hg12, hO7, hA18⟩ := hp10
    replace hF := q_uc hF hg12 (q_sc (.tail _ (.tail _ (.head _))) (q_sc (List.mem_of_getElem? (i := 3) rfl) (fun _ h => absurd h List.not_mem_nil)))
    refine lv_iconst (v := 0) hx hb d_12_2_65 (by decide) ?_
    refine lv_istore (lv' := [(6, .int 0), (5, .int lx5), (4, .int lx4), (3, .int 0), (0, .ref qO0), (1, .ref qO1), (2, .int x1)]) hx hb d_12_2_66 hl (by decide) rfl (fun ls hl => ?_)
    replace hO0 := (hg12 _ (q_nc n_O0_O7 (q_nc n_O0_A18 List.not_mem_nil))).trans (hO0)
    replace hO1 := (hg12 _ (q_nc n_O1_O7 (q_nc n_O1_A18 List.not_mem_nil))).trans (hO1)
    replace hO2 := (hg12 _ (q_nc n_O2_O7 (q_nc n_O2_A18 List.not_mem_nil))).trans (hO2)
    replace hO3 := (hg12 _ (q_nc n_O3_O7 (q_nc n_O3_A18 List.not_mem_nil))).trans (hO3)
    replace hA5 := (hg12 _ (q_nc n_A5_O7 (q_nc n_A5_A18 List.not_mem_nil))).trans (hA5)
    replace hA6 := (hg12 _ (q_nc n_A6_O7 (q_nc n_A6_A18 List.not_mem_nil))).trans (hA6)
    refine q_loop (X := Int32) (fun z H locs ls w14 => (0 ≤ z.toInt ∧ (z.toInt ≤ 2100 ∨ z.toInt = 0)) ∧ q_Wd D g (va_A ws sz) s w14 H locs ∧ lv_has ls 9 [(6, .int z), (5, .int lx5), (4, .int lx4), (3, .int 0), (0, .ref qO0), (1, .ref qO1), (2, .int x1)] ∧ q_un ws w14 [kO2, kA6, kO7, kA18] ∧ w14[kO0]? = (some (qO0, .inr (9, [.ref qO2, .ref qO3, .ref qO4])) : Option (Nat × va_E)) ∧ w14[kO1]? = (some (qO1, .inr (2, [.ref qA5, .int 0, .int 0])) : Option (Nat × va_E)) ∧ w14[kO2]? = (some (qO2, .inr (1, [.ref qA6, .int 11008, .int 0])) : Option (Nat × va_E)) ∧ w14[kO3]? = (some (qO3, .inr (4, [.ref qO7, .ref qO8, .ref qO9, .ref qO10, .ref qO11, .ref qO12, .ref qO13, .ref qO14, .ref qO15, .ref qO16])) : Option (Nat × va_E)) ∧ w14[kA5]? = (some (qA5, .inl (g 0, 68, .inl (fun _ => 0))) : Option (Nat × va_E)) ∧ w14[kA6]? = (some (qA6, .inl (g 1, 1376, .inr (.inl (fun _ => 0)))) : Option (Nat × va_E)) ∧ w14[kO7]? = (some (qO7, .inr (2, [.ref qA18, .int 0, .int 0])) : Option (Nat × va_E)) ∧ w14[kA18]? = (some (qA18, .inl (g 0, 220, .inl (fun _ => 0))) : Option (Nat × va_E))) (fun z => (2100 - z.toInt).toNat) ?_ ((0 : Int32)) _ _ _ u11 ⟨⟨by decide, Or.inr (by decide)⟩, V, hl, hF, hO0, hO1, hO2, hO3, hA5, hA6, hO7, hA18⟩
    rintro lx13 H locs ls w14 ⟨i15, V, hl, hF, hO0, hO1, hO2, hO3, hA5, hA6, hO7, hA18⟩ ih16
    replace i15 : 0 ≤ lx13.toInt ∧ (lx13.toInt ≤ 2100 ∨ lx13.toInt = 0) := i15
    replace hl : lv_has ls 9 [(6, .int lx13), (5, .int lx5), (4, .int lx4), (3, .int 0), (0, .ref qO0), (1, .ref qO1), (2, .int x1)] := hl
    replace hO0 : w14[kO0]? = (some (qO0, .inr (9, [.ref qO2, .ref qO3, .ref qO4])) : Option (Nat × va_E)) := hO0
    replace hO1 : w14[kO1]? = (some (qO1, .inr (2, [.ref qA5, .int 0, .int 0])) : Option (Nat × va_E)) := hO1
    replace hO2 : w14[kO2]? = (some (qO2, .inr (1, [.ref qA6, .int 11008, .int 0])) : Option (Nat × va_E)) := hO2
    replace hO3 : w14[kO3]? = (some (qO3, .inr (4, [.ref qO7, .ref qO8, .ref qO9, .ref qO10, .ref qO11, .ref qO12, .ref qO13, .ref qO14, .ref qO15, .ref qO16])) : Option (Nat × va_E)) := hO3
    replace hA5 : w14[kA5]? = (some (qA5, .inl (g 0, 68, .inl (fun _ => 0))) : Option (Nat × va_E)) := hA5
    replace hA6 : w14[kA6]? = (some (qA6, .inl (g 1, 1376, .inr (.inl (fun _ => 0)))) : Option (Nat × va_E)) := hA6
    replace hO7 : w14[kO7]? = (some (qO7, .inr (2, [.ref qA18, .int 0, .int 0])) : Option (Nat × va_E)) := hO7
    replace hA18 : w14[kA18]? = (some (qA18, .inl (g 0, 220, .inl (fun _ => 0))) : Option (Nat × va_E)) := hA18
    refine lv_iload hx hb d_12_2_68 (lv_at hl 0 rfl) ?_
    refine lv_sipush (v := 2100) hx hb d_12_2_70 (by decide) ?_
    refine lv_icmp_ge (tgt := 165) hx hb d_12_2_73 (by decide) (fun c17 => ?_) (fun c17 => ?_)
    ·
      refine lv_aload_n hx hb d_12_2_165 rfl (lv_at hl 4 rfl) ?_
      refine q_get (ci := 9) (j := 0) (v := .ref qO2) C0 V i_Wri rfl rfl hO0 (by decide) w_329 rfl d_12_2_166 ?_
      refine q_get (ci := 1) (j := 2) (v := .int 0) C0 V i_She rfl rfl hO2 (by decide) w_55 rfl d_12_2_169 ?_
      refine lv_iload_n hx hb d_12_2_172 rfl (lv_at hl 3 rfl) ?_
      refine lv_icmp_ne (tgt := 185) hx hb d_12_2_173 (by decide) (fun c18 => absurd (by decide) c18) (fun c18 => ?_)
      refine lv_aload_n hx hb d_12_2_176 rfl (lv_at hl 4 rfl) ?_
      refine q_get (ci := 9) (j := 0) (v := .ref qO2) C0 V i_Wri rfl rfl hO0 (by decide) w_329 rfl d_12_2_177 ?_
      refine lv_bipush (v := 48) hx hb d_12_2_180 (by decide) ?_
      refine q_gov V (q_runV (As := [.int 48]) (rest := []) (d := 1) (mc := 0) (ms := 0) (ci := 1) C0 V rfl LV_Wri_62 (c_She_add_9 l D g w14 kO2 kA6 qO2 qA6 hO2 hA6 _) rfl rfl hO2 rfl hl.1 rfl (Nat.le_of_ble_eq_true rfl) ⟨by decide, by decide⟩ ⟨Nat.le_of_ble_eq_true rfl, Nat.le_of_ble_eq_true rfl⟩ d_12_2_182) (fun u20 H locs hp19 V => ?_)
      obtain ⟨hg21, hO2, hA6⟩ := hp19
      replace hF := q_uc hF hg21 (q_sc (.head _) (q_sc (.tail _ (.head _)) (fun _ h => absurd h List.not_mem_nil)))
      refine lv_aload_n hx hb d_12_2_185 rfl (lv_at hl 4 rfl) ?_
      replace hO0 := (hg21 _ (q_nc n_O0_O2 (q_nc n_O0_A6 List.not_mem_nil))).trans (hO0)
      refine q_get (ci := 9) (j := 0) (v := .ref qO2) C0 V i_Wri rfl rfl hO0 (by decide) w_329 rfl d_12_2_186 ?_
      refine lv_iload_n hx hb d_12_2_189 rfl (lv_at hl 3 rfl) ?_
      refine q_gov V (q_runV (As := [.int 0]) (rest := []) (d := 1) (mc := 0) (ms := 0) (ci := 1) C0 V rfl LV_Wri_66 (c_She_turn l D g u20 kO2 qO2 qA6 hO2 _) rfl rfl hO2 rfl hl.1 rfl (Nat.le_of_ble_eq_true rfl) ⟨by decide, by decide⟩ ⟨Nat.le_of_ble_eq_true rfl, Nat.le_of_ble_eq_true rfl⟩ d_12_2_190) (fun u23 H locs hp22 V => ?_)
      obtain rfl := hp22
      replace hO7 := (hg21 _ (q_nc n_O7_O2 (q_nc n_O7_A6 List.not_mem_nil))).trans (hO7)
      replace hA18 := (hg21 _ (q_nc n_A18_O2 (q_nc n_A18_A6 List.not_mem_nil))).trans (hA18)
      exact q_retv C0 V (⟨hF, hO2, hA6, hO7, hA18⟩) d_12_2_193
    ·
      refine lv_aload_n hx hb d_12_2_76 rfl (lv_at hl 4 rfl) ?_
      refine q_get (ci := 9) (j := 1) (v := .ref qO3) C0 V i_Wri rfl rfl hO0 (by decide) w_330 rfl d_12_2_77 ?_
      refine q_get (ci := 4) (j := 0) (v := .ref qO7) C0 V i_Mil rfl rfl hO3 (by decide) w_110 rfl d_12_2_80 ?_
      refine q_get (ci := 2) (j := 1) (v := .int 0) C0 V i_Big rfl rfl hO7 (by decide) w_87 rfl d_12_2_83 ?_
      refine lv_if_le (tgt := 165) hx hb d_12_2_86 (by decide) (fun c25 => ?_) (fun c25 => absurd (by decide) c25)
      refine lv_aload_n hx hb d_12_2_165 rfl (lv_at hl 4 rfl) ?_
      refine q_get (ci := 9) (j := 0) (v := .ref qO2) C0 V i_Wri rfl rfl hO0 (by decide) w_329 rfl d_12_2_166 ?_
      refine q_get (ci := 1) (j := 2) (v := .int 0) C0 V i_She rfl rfl hO2 (by decide) w_55 rfl d_12_2_169 ?_
      refine lv_iload_n hx hb d_12_2_172 rfl (lv_at hl 3 rfl) ?_
      refine lv_icmp_ne (tgt := 185) hx hb d_12_2_173 (by decide) (fun c26 => absurd (by decide) c26) (fun c26 => ?_)
      refine lv_aload_n hx hb d_12_2_176 rfl (lv_at hl 4 rfl) ?_
      refine q_get (ci := 9) (j := 0) (v := .ref qO2) C0 V i_Wri rfl rfl hO0 (by decide) w_329 rfl d_12_2_177 ?_
      refine lv_bipush (v := 48) hx hb d_12_2_180 (by decide) ?_
      refine q_gov V (q_runV (As := [.int 48]) (rest := []) (d := 1) (mc := 0) (ms := 0) (ci := 1) C0 V rfl LV_Wri_62 (c_She_add_9 l D g w14 kO2 kA6 qO2 qA6 hO2 hA6 _) rfl rfl hO2 rfl hl.1 rfl (Nat.le_of_ble_eq_true rfl) ⟨by decide, by decide⟩ ⟨Nat.le_of_ble_eq_true rfl, Nat.le_of_ble_eq_true rfl⟩ d_12_2_182) (fun u28 H locs hp27 V => ?_)
      obtain ⟨hg29, hO2, hA6⟩ := hp27
      replace hF := q_uc hF hg29 (q_sc (.head _) (q_sc (.tail _ (.head _)) (fun _ h => absurd h List.not_mem_nil)))
      refine lv_aload_n hx hb d_12_2_185 rfl (lv_at hl 4 rfl) ?_
      replace hO0 := (hg29 _ (q_nc n_O0_O2 (q_nc n_O0_A6 List.not_mem_nil))).trans (hO0)
      refine q_get (ci := 9) (j := 0) (v := .ref qO2) C0 V i_Wri rfl rfl hO0 (by decide) w_329 rfl d_12_2_186 ?_
      refine lv_iload_n hx hb d_12_2_189 rfl (lv_at hl 3 rfl) ?_
      refine q_gov V (q_runV (As := [.int 0]) (rest := []) (d := 1) (mc := 0) (ms := 0) (ci := 1) C0 V rfl LV_Wri_66 (c_She_turn l D g u28 kO2 qO2 qA6 hO2 _) rfl rfl hO2 rfl hl.1 rfl (Nat.le_of_ble_eq_true rfl) ⟨by decide, by decide⟩ ⟨Nat.le_of_ble_eq_true rfl, Nat.le_of_ble_eq_true rfl⟩ d_12_2_190) (fun u31 H locs hp30 V => ?_)
      obtain rfl := hp30
      replace hO7 := (hg29 _ (q_nc n_O7_O2 (q_nc n_O7_A6 List.not_mem_nil))).trans (hO7)
      replace hA18 := (hg29 _ (q_nc n_A18_O2 (q_nc n_A18_A6 List.not_mem_nil))).trans (hA18)
      exact q_retv C0 V (⟨hF, hO2, hA6, hO7, hA18⟩) d_12_2_193
  ·
    refine lv_iload hx hb d_12_2_29 (lv_at hl 0 rfl) ?_
    refine lv_i2l hx hb d_12_2_31 rfl ?_
    refine lv_iload_n hx hb d_12_2_32 rfl (lv_at hl 5 rfl) ?_
    refine lv_i2l hx hb d_12_2_33 rfl ?_
    refine lv_lmul hx hb d_12_2_34 ?_
    refine q_ldc2 C0 rfl w_1547 d_12_2_35 ?_
    refine W.lcmp hx hb d_12_2_38 ?_
    refine lv_if_gt (tgt := 54) hx hb d_12_2_39 (by decide) (fun c33 => ?_) (fun c33 => ?_)
    ·
      refine lv_aload_n hx hb d_12_2_54 rfl (lv_at hl 3 rfl) ?_
      refine q_get (ci := 9) (j := 1) (v := .ref qO3) C0 V i_Wri rfl rfl hO0 (by decide) w_330 rfl d_12_2_55 ?_
      refine q_get (ci := 4) (j := 0) (v := .ref qO7) C0 V i_Mil rfl rfl hO3 (by decide) w_110 rfl d_12_2_58 ?_
      refine lv_aload_n hx hb d_12_2_61 rfl (lv_at hl 4 rfl) ?_
      refine q_gov V (q_runV (As := [.ref qO1]) (rest := []) (d := 2) (mc := 0) (ms := 0) (ci := 2) C0 V rfl LV_Wri_45 (c_Big_copy_3 l D g w6 kO7 kO1 kA18 kA5 qO7 qO1 qA18 qA5 hO7 hO1 hA18 hA5 n_A5_A18 n_O1_O7 _) rfl rfl hO7 rfl hl.1 rfl (Nat.le_of_ble_eq_true rfl) ⟨by decide, by decide⟩ ⟨Nat.le_of_ble_eq_true rfl, Nat.le_of_ble_eq_true rfl⟩ d_12_2_62) (fun u35 H locs hp34 V => ?_)
      obtain ⟨hg36, hO7, hA18⟩ := hp34
      replace hF := q_uc hF hg36 (q_sc (.tail _ (.tail _ (.head _))) (q_sc (List.mem_of_getElem? (i := 3) rfl) (fun _ h => absurd h List.not_mem_nil)))
      refine lv_iconst (v := 0) hx hb d_12_2_65 (by decide) ?_
      refine lv_istore (lv' := [(6, .int 0), (5, .int lx5), (4, .int lx4), (3, .int 0), (0, .ref qO0), (1, .ref qO1), (2, .int x1)]) hx hb d_12_2_66 hl (by decide) rfl (fun ls hl => ?_)
      replace hO0 := (hg36 _ (q_nc n_O0_O7 (q_nc n_O0_A18 List.not_mem_nil))).trans (hO0)
      replace hO1 := (hg36 _ (q_nc n_O1_O7 (q_nc n_O1_A18 List.not_mem_nil))).trans (hO1)
      replace hO2 := (hg36 _ (q_nc n_O2_O7 (q_nc n_O2_A18 List.not_mem_nil))).trans (hO2)
      replace hO3 := (hg36 _ (q_nc n_O3_O7 (q_nc n_O3_A18 List.not_mem_nil))).trans (hO3)
      replace hA5 := (hg36 _ (q_nc n_A5_O7 (q_nc n_A5_A18 List.not_mem_nil))).trans (hA5)
      replace hA6 := (hg36 _ (q_nc n_A6_O7 (q_nc n_A6_A18 List.not_mem_nil))).trans (hA6)
      refine q_loop (X := Int32) (fun z H locs ls w38 => (0 ≤ z.toInt ∧ (z.toInt ≤ 2100 ∨ z.toInt = 0)) ∧ q_Wd D g (va_A ws sz) s w38 H locs ∧ lv_has ls 9 [(6, .int z), (5, .int lx5), (4, .int lx4), (3, .int 0), (0, .ref qO0), (1, .ref qO1), (2, .int x1)] ∧ q_un ws w38 [kO2, kA6, kO7, kA18] ∧ w38[kO0]? = (some (qO0, .inr (9, [.ref qO2, .ref qO3, .ref qO4])) : Option (Nat × va_E)) ∧ w38[kO1]? = (some (qO1, .inr (2, [.ref qA5, .int 0, .int 0])) : Option (Nat × va_E)) ∧ w38[kO2]? = (some (qO2, .inr (1, [.ref qA6, .int 11008, .int 0])) : Option (Nat × va_E)) ∧ w38[kO3]? = (some (qO3, .inr (4, [.ref qO7, .ref qO8, .ref qO9, .ref qO10, .ref qO11, .ref qO12, .ref qO13, .ref qO14, .ref qO15, .ref qO16])) : Option (Nat × va_E)) ∧ w38[kA5]? = (some (qA5, .inl (g 0, 68, .inl (fun _ => 0))) : Option (Nat × va_E)) ∧ w38[kA6]? = (some (qA6, .inl (g 1, 1376, .inr (.inl (fun _ => 0)))) : Option (Nat × va_E)) ∧ w38[kO7]? = (some (qO7, .inr (2, [.ref qA18, .int 0, .int 0])) : Option (Nat × va_E)) ∧ w38[kA18]? = (some (qA18, .inl (g 0, 220, .inl (fun _ => 0))) : Option (Nat × va_E))) (fun z => (2100 - z.toInt).toNat) ?_ ((0 : Int32)) _ _ _ u35 ⟨⟨by decide, Or.inr (by decide)⟩, V, hl, hF, hO0, hO1, hO2, hO3, hA5, hA6, hO7, hA18⟩
      rintro lx37 H locs ls w38 ⟨i39, V, hl, hF, hO0, hO1, hO2, hO3, hA5, hA6, hO7, hA18⟩ ih40
      replace i39 : 0 ≤ lx37.toInt ∧ (lx37.toInt ≤ 2100 ∨ lx37.toInt = 0) := i39
      replace hl : lv_has ls 9 [(6, .int lx37), (5, .int lx5), (4, .int lx4), (3, .int 0), (0, .ref qO0), (1, .ref qO1), (2, .int x1)] := hl
      replace hO0 : w38[kO0]? = (some (qO0, .inr (9, [.ref qO2, .ref qO3, .ref qO4])) : Option (Nat × va_E)) := hO0
      replace hO1 : w38[kO1]? = (some (qO1, .inr (2, [.ref qA5, .int 0, .int 0])) : Option (Nat × va_E)) := hO1
      replace hO2 : w38[kO2]? = (some (qO2, .inr (1, [.ref qA6, .int 11008, .int 0])) : Option (Nat × va_E)) := hO2
      replace hO3 : w38[kO3]? = (some (qO3, .inr (4, [.ref qO7, .ref qO8, .ref qO9, .ref qO10, .ref qO11, .ref qO12, .ref qO13, .ref qO14, .ref qO15, .ref qO16])) : Option (Nat × va_E)) := hO3
      replace hA5 : w38[kA5]? = (some (qA5, .inl (g 0, 68, .inl (fun _ => 0))) : Option (Nat × va_E)) := hA5
      replace hA6 : w38[kA6]? = (some (qA6, .inl (g 1, 1376, .inr (.inl (fun _ => 0)))) : Option (Nat × va_E)) := hA6
      replace hO7 : w38[kO7]? = (some (qO7, .inr (2, [.ref qA18, .int 0, .int 0])) : Option (Nat × va_E)) := hO7
      replace hA18 : w38[kA18]? = (some (qA18, .inl (g 0, 220, .inl (fun _ => 0))) : Option (Nat × va_E)) := hA18
      refine lv_iload hx hb d_12_2_68 (lv_at hl 0 rfl) ?_
      refine lv_sipush (v := 2100) hx hb d_12_2_70 (by decide) ?_
      refine lv_icmp_ge (tgt := 165) hx hb d_12_2_73 (by decide) (fun c41 => ?_) (fun c41 => ?_)
      ·
        refine lv_aload_n hx hb d_12_2_165 rfl (lv_at hl 4 rfl) ?_
        refine q_get (ci := 9) (j := 0) (v := .ref qO2) C0 V i_Wri rfl rfl hO0 (by decide) w_329 rfl d_12_2_166 ?_
        refine q_get (ci := 1) (j := 2) (v := .int 0) C0 V i_She rfl rfl hO2 (by decide) w_55 rfl d_12_2_169 ?_
        refine lv_iload_n hx hb d_12_2_172 rfl (lv_at hl 3 rfl) ?_
        refine lv_icmp_ne (tgt := 185) hx hb d_12_2_173 (by decide) (fun c42 => absurd (by decide) c42) (fun c42 => ?_)
        refine lv_aload_n hx hb d_12_2_176 rfl (lv_at hl 4 rfl) ?_
        refine q_get (ci := 9) (j := 0) (v := .ref qO2) C0 V i_Wri rfl rfl hO0 (by decide) w_329 rfl d_12_2_177 ?_
        refine lv_bipush (v := 48) hx hb d_12_2_180 (by decide) ?_
        refine q_gov V (q_runV (As := [.int 48]) (rest := []) (d := 1) (mc := 0) (ms := 0) (ci := 1) C0 V rfl LV_Wri_62 (c_She_add_9 l D g w38 kO2 kA6 qO2 qA6 hO2 hA6 _) rfl rfl hO2 rfl hl.1 rfl (Nat.le_of_ble_eq_true rfl) ⟨by decide, by decide⟩ ⟨Nat.le_of_ble_eq_true rfl, Nat.le_of_ble_eq_true rfl⟩ d_12_2_182) (fun u44 H locs hp43 V => ?_)
        obtain ⟨hg45, hO2, hA6⟩ := hp43
        replace hF := q_uc hF hg45 (q_sc (.head _) (q_sc (.tail _ (.head _)) (fun _ h => absurd h List.not_mem_nil)))
        refine lv_aload_n hx hb d_12_2_185 rfl (lv_at hl 4 rfl) ?_
        replace hO0 := (hg45 _ (q_nc n_O0_O2 (q_nc n_O0_A6 List.not_mem_nil))).trans (hO0)
        refine q_get (ci := 9) (j := 0) (v := .ref qO2) C0 V i_Wri rfl rfl hO0 (by decide) w_329 rfl d_12_2_186 ?_
        refine lv_iload_n hx hb d_12_2_189 rfl (lv_at hl 3 rfl) ?_
        refine q_gov V (q_runV (As := [.int 0]) (rest := []) (d := 1) (mc := 0) (ms := 0) (ci := 1) C0 V rfl LV_Wri_66 (c_She_turn l D g u44 kO2 qO2 qA6 hO2 _) rfl rfl hO2 rfl hl.1 rfl (Nat.le_of_ble_eq_true rfl) ⟨by decide, by decide⟩ ⟨Nat.le_of_ble_eq_true rfl, Nat.le_of_ble_eq_true rfl⟩ d_12_2_190) (fun u47 H locs hp46 V => ?_)
        obtain rfl := hp46
        replace hO7 := (hg45 _ (q_nc n_O7_O2 (q_nc n_O7_A6 List.not_mem_nil))).trans (hO7)
        replace hA18 := (hg45 _ (q_nc n_A18_O2 (q_nc n_A18_A6 List.not_mem_nil))).trans (hA18)
        exact q_retv C0 V (⟨hF, hO2, hA6, hO7, hA18⟩) d_12_2_193
      ·
        refine lv_aload_n hx hb d_12_2_76 rfl (lv_at hl 4 rfl) ?_
        refine q_get (ci := 9) (j := 1) (v := .ref qO3) C0 V i_Wri rfl rfl hO0 (by decide) w_330 rfl d_12_2_77 ?_
        refine q_get (ci := 4) (j := 0) (v := .ref qO7) C0 V i_Mil rfl rfl hO3 (by decide) w_110 rfl d_12_2_80 ?_
        refine q_get (ci := 2) (j := 1) (v := .int 0) C0 V i_Big rfl rfl hO7 (by decide) w_87 rfl d_12_2_83 ?_
        refine lv_if_le (tgt := 165) hx hb d_12_2_86 (by decide) (fun c49 => ?_) (fun c49 => absurd (by decide) c49)
        refine lv_aload_n hx hb d_12_2_165 rfl (lv_at hl 4 rfl) ?_
        refine q_get (ci := 9) (j := 0) (v := .ref qO2) C0 V i_Wri rfl rfl hO0 (by decide) w_329 rfl d_12_2_166 ?_
        refine q_get (ci := 1) (j := 2) (v := .int 0) C0 V i_She rfl rfl hO2 (by decide) w_55 rfl d_12_2_169 ?_
        refine lv_iload_n hx hb d_12_2_172 rfl (lv_at hl 3 rfl) ?_
        refine lv_icmp_ne (tgt := 185) hx hb d_12_2_173 (by decide) (fun c50 => absurd (by decide) c50) (fun c50 => ?_)
        refine lv_aload_n hx hb d_12_2_176 rfl (lv_at hl 4 rfl) ?_
        refine q_get (ci := 9) (j := 0) (v := .ref qO2) C0 V i_Wri rfl rfl hO0 (by decide) w_329 rfl d_12_2_177 ?_
        refine lv_bipush (v := 48) hx hb d_12_2_180 (by decide) ?_
        refine q_gov V (q_runV (As := [.int 48]) (rest := []) (d := 1) (mc := 0) (ms := 0) (ci := 1) C0 V rfl LV_Wri_62 (c_She_add_9 l D g w38 kO2 kA6 qO2 qA6 hO2 hA6 _) rfl rfl hO2 rfl hl.1 rfl (Nat.le_of_ble_eq_true rfl) ⟨by decide, by decide⟩ ⟨Nat.le_of_ble_eq_true rfl, Nat.le_of_ble_eq_true rfl⟩ d_12_2_182) (fun u52 H locs hp51 V => ?_)
        obtain ⟨hg53, hO2, hA6⟩ := hp51
        replace hF := q_uc hF hg53 (q_sc (.head _) (q_sc (.tail _ (.head _)) (fun _ h => absurd h List.not_mem_nil)))
        refine lv_aload_n hx hb d_12_2_185 rfl (lv_at hl 4 rfl) ?_
        replace hO0 := (hg53 _ (q_nc n_O0_O2 (q_nc n_O0_A6 List.not_mem_nil))).trans (hO0)
        refine q_get (ci := 9) (j := 0) (v := .ref qO2) C0 V i_Wri rfl rfl hO0 (by decide) w_329 rfl d_12_2_186 ?_
        refine lv_iload_n hx hb d_12_2_189 rfl (lv_at hl 3 rfl) ?_
        refine q_gov V (q_runV (As := [.int 0]) (rest := []) (d := 1) (mc := 0) (ms := 0) (ci := 1) C0 V rfl LV_Wri_66 (c_She_turn l D g u52 kO2 qO2 qA6 hO2 _) rfl rfl hO2 rfl hl.1 rfl (Nat.le_of_ble_eq_true rfl) ⟨by decide, by decide⟩ ⟨Nat.le_of_ble_eq_true rfl, Nat.le_of_ble_eq_true rfl⟩ d_12_2_190) (fun u55 H locs hp54 V => ?_)
        obtain rfl := hp54
        replace hO7 := (hg53 _ (q_nc n_O7_O2 (q_nc n_O7_A6 List.not_mem_nil))).trans (hO7)
        replace hA18 := (hg53 _ (q_nc n_A18_O2 (q_nc n_A18_A6 List.not_mem_nil))).trans (hA18)
        exact q_retv C0 V (⟨hF, hO2, hA6, hO7, hA18⟩) d_12_2_193
    ·
      refine lv_iload hx hb d_12_2_42 (lv_at hl 0 rfl) ?_
      refine lv_iload_n hx hb d_12_2_44 rfl (lv_at hl 5 rfl) ?_
      refine lv_imul hx hb d_12_2_45 ?_
      refine lv_istore (lv' := [(5, .int (lx5 * x1)), (4, .int lx4), (3, .int 0), (0, .ref qO0), (1, .ref qO1), (2, .int x1)]) hx hb d_12_2_46 hl (by decide) rfl (fun ls hl => ?_)
      refine lv_iinc (v := lx4 + 1) (lv' := [(4, .int (lx4 + 1)), (5, .int (lx5 * x1)), (3, .int 0), (0, .ref qO0), (1, .ref qO1), (2, .int x1)]) hx hb d_12_2_48 hl (k := 1) rfl (rfl) (by decide) rfl (fun ls hl => ?_)
      refine lv_goto (tgt := 22) hx hb d_12_2_51 (by decide) ?_
      exact ih8 ((lx4 + 1 : Int32), (lx5 * x1 : Int32)) _ _ _ _ (show (31 - (lx4 + 1).toInt).toNat < (31 - lx4.toInt).toNat from by have t1 : lx4.toInt < 31 := q_nleI c9; have e : (lx4 + 1).toInt = (lx4.toInt + 1) := (q_addI (x := lx4.toInt) (y := 1) rfl (by decide) (by have t1 : lx4.toInt < 31 := q_nleI c9; omega) (by have t1 : lx4.toInt < 31 := q_nleI c9; omega)); omega) ⟨(show 1 ≤ (lx4 + 1).toInt ∧ ((lx4 + 1).toInt ≤ 31 ∨ (lx4 + 1).toInt = 1) from by have t1 : lx4.toInt < 31 := q_nleI c9; have e : (lx4 + 1).toInt = (lx4.toInt + 1) := (q_addI (x := lx4.toInt) (y := 1) rfl (by decide) (by have t1 : lx4.toInt < 31 := q_nleI c9; omega) (by have t1 : lx4.toInt < 31 := q_nleI c9; omega)); omega), V, q_lw hl (q_lw1 1 rfl (q_lw1 0 rfl (q_lw1 2 rfl (q_lw1 3 rfl (q_lw1 4 rfl (q_lw1 5 rfl q_lw0)))))), hF, hO0, hO1, hO2, hO3, hA5, hA6, hO7, hA18⟩
theorem d_1_17_0 : decode prog_1_method_17_code 0 = .ok (.iload_n 1, 1) := by decide +kernel
theorem d_1_17_1 : decode prog_1_method_17_code 1 = .ok (.iload_n 2, 1) := by decide +kernel
theorem d_1_17_2 : decode prog_1_method_17_code 2 = .ok (.invokestatic 118, 3) := by decide +kernel
theorem d_1_17_5 : decode prog_1_method_17_code 5 = .ok (.iload_n 1, 1) := by decide +kernel
theorem d_1_17_6 : decode prog_1_method_17_code 6 = .ok (.ifCond .ne 39, 3) := by decide +kernel
theorem d_1_17_45 : decode prog_1_method_17_code 45 = .ok (.iload_n 1, 1) := by decide +kernel
theorem d_1_17_46 : decode prog_1_method_17_code 46 = .ok (.iconst 1, 1) := by decide +kernel
theorem d_1_17_47 : decode prog_1_method_17_code 47 = .ok (.if_icmp .ne 37, 3) := by decide +kernel
theorem d_1_17_84 : decode prog_1_method_17_code 84 = .ok (.iload_n 3, 1) := by decide +kernel
theorem d_1_17_85 : decode prog_1_method_17_code 85 = .ok (.ifCond .lt 12, 3) := by decide +kernel
theorem d_1_17_97 : decode prog_1_method_17_code 97 = .ok (.iconst 0, 1) := by decide +kernel
theorem d_1_17_98 : decode prog_1_method_17_code 98 = .ok (.invokestatic 104, 3) := by decide +kernel
theorem d_1_17_88 : decode prog_1_method_17_code 88 = .ok (.iload_n 3, 1) := by decide +kernel
theorem d_1_17_89 : decode prog_1_method_17_code 89 = .ok (.iconst 1, 1) := by decide +kernel
theorem d_1_17_90 : decode prog_1_method_17_code 90 = .ok (.if_icmp .gt 7, 3) := by decide +kernel
theorem d_1_17_93 : decode prog_1_method_17_code 93 = .ok (.iconst 1, 1) := by decide +kernel
theorem d_1_17_94 : decode prog_1_method_17_code 94 = .ok (.goto 4, 3) := by decide +kernel
theorem d_1_17_101 : decode prog_1_method_17_code 101 = .ok (.aload_n 0, 1) := by decide +kernel
theorem d_1_17_102 : decode prog_1_method_17_code 102 = .ok (.getfield 89, 3) := by decide +kernel
theorem d_1_17_105 : decode prog_1_method_17_code 105 = .ok (.aload_n 0, 1) := by decide +kernel
theorem d_1_17_106 : decode prog_1_method_17_code 106 = .ok (.iload_n 1, 1) := by decide +kernel
theorem d_1_17_107 : decode prog_1_method_17_code 107 = .ok (.invokevirtual 130, 3) := by decide +kernel
theorem d_1_17_110 : decode prog_1_method_17_code 110 = .ok (.aload_n 0, 1) := by decide +kernel
theorem d_1_17_111 : decode prog_1_method_17_code 111 = .ok (.iload_n 1, 1) := by decide +kernel
theorem d_1_17_112 : decode prog_1_method_17_code 112 = .ok (.invokevirtual 157, 3) := by decide +kernel
theorem d_1_17_115 : decode prog_1_method_17_code 115 = .ok (.iload_n 2, 1) := by decide +kernel
theorem d_1_17_116 : decode prog_1_method_17_code 116 = .ok (.laload, 1) := by decide +kernel
theorem d_1_17_117 : decode prog_1_method_17_code 117 = .ok (.iload_n 3, 1) := by decide +kernel
theorem d_1_17_118 : decode prog_1_method_17_code 118 = .ok (.iconst 1, 1) := by decide +kernel
theorem d_1_17_119 : decode prog_1_method_17_code 119 = .ok (.if_icmp .ne 7, 3) := by decide +kernel
theorem d_1_17_126 : decode prog_1_method_17_code 126 = .ok (.iconst 0, 1) := by decide +kernel
theorem d_1_17_127 : decode prog_1_method_17_code 127 = .ok (.invokevirtual 332, 3) := by decide +kernel
theorem w_1601 : (Cond.code ({ cls := "NumberHouse$Writer", name := "floatText", desc := "(LNumberHouse$Floats;JZ)V" } : MethodName) prog_12_method_6_code (5 : Nat) (none : Option ClassFile.FieldType)) ∈ q_tbl := q_of 1601 (by decide +kernel) (by decide +kernel)
theorem w_1598 : (Cond.methodLink "NumberHouse" (332 : Nat) ({ cls := "NumberHouse$Writer", name := "floatText", desc := "(LNumberHouse$Floats;JZ)V" } : MethodName)) ∈ q_tbl := q_of 1598 (by decide +kernel) (by decide +kernel)
theorem w_1599 : (Cond.instanceMethod ({ cls := "NumberHouse$Writer", name := "floatText", desc := "(LNumberHouse$Floats;JZ)V" } : MethodName)) ∈ q_tbl := q_of 1599 (by decide +kernel) (by decide +kernel)
theorem w_1600 : (Cond.selects "NumberHouse$Writer" ({ cls := "NumberHouse$Writer", name := "floatText", desc := "(LNumberHouse$Floats;JZ)V" } : MethodName) ({ cls := "NumberHouse$Writer", name := "floatText", desc := "(LNumberHouse$Floats;JZ)V" } : MethodName)) ∈ q_tbl := q_of 1600 (by decide +kernel) (by decide +kernel)
theorem LV_NH_332 : q_LV "NumberHouse" 332 y_Wri_floatText prog_12_method_6_code 5 none 3 := ⟨w_1601, w_11, w_1598, w_1599, w_1600, ⟨by decide, by decide, by decide +kernel⟩⟩
theorem d_1_17_130 : decode prog_1_method_17_code 130 = .ok (.aload_n 0, 1) := by decide +kernel
theorem d_1_17_131 : decode prog_1_method_17_code 131 = .ok (.getfield 18, 3) := by decide +kernel
theorem d_1_17_134 : decode prog_1_method_17_code 134 = .ok (.getfield 108, 3) := by decide +kernel
theorem d_1_17_137 : decode prog_1_method_17_code 137 = .ok (.ireturn, 1) := by decide +kernel
theorem d_1_17_122 : decode prog_1_method_17_code 122 = .ok (.iconst 1, 1) := by decide +kernel
theorem d_1_17_123 : decode prog_1_method_17_code 123 = .ok (.goto 4, 3) := by decide +kernel
theorem d_1_17_50 : decode prog_1_method_17_code 50 = .ok (.iload_n 3, 1) := by decide +kernel
theorem d_1_17_51 : decode prog_1_method_17_code 51 = .ok (.ifCond .lt 12, 3) := by decide +kernel
theorem d_1_17_63 : decode prog_1_method_17_code 63 = .ok (.iconst 0, 1) := by decide +kernel
theorem d_1_17_64 : decode prog_1_method_17_code 64 = .ok (.invokestatic 104, 3) := by decide +kernel
theorem d_1_17_54 : decode prog_1_method_17_code 54 = .ok (.iload_n 3, 1) := by decide +kernel
theorem d_1_17_55 : decode prog_1_method_17_code 55 = .ok (.iconst 2, 1) := by decide +kernel
theorem d_1_17_56 : decode prog_1_method_17_code 56 = .ok (.if_icmp .gt 7, 3) := by decide +kernel
theorem d_1_17_59 : decode prog_1_method_17_code 59 = .ok (.iconst 1, 1) := by decide +kernel
theorem d_1_17_60 : decode prog_1_method_17_code 60 = .ok (.goto 4, 3) := by decide +kernel
theorem d_1_17_67 : decode prog_1_method_17_code 67 = .ok (.aload_n 0, 1) := by decide +kernel
theorem d_1_17_68 : decode prog_1_method_17_code 68 = .ok (.getfield 89, 3) := by decide +kernel
theorem d_1_17_71 : decode prog_1_method_17_code 71 = .ok (.aload_n 0, 1) := by decide +kernel
theorem d_1_17_72 : decode prog_1_method_17_code 72 = .ok (.getfield 29, 3) := by decide +kernel
theorem d_1_17_75 : decode prog_1_method_17_code 75 = .ok (.iload_n 2, 1) := by decide +kernel
theorem d_1_17_76 : decode prog_1_method_17_code 76 = .ok (.aaload, 1) := by decide +kernel
theorem d_1_17_77 : decode prog_1_method_17_code 77 = .ok (.iload_n 3, 1) := by decide +kernel
theorem d_1_17_78 : decode prog_1_method_17_code 78 = .ok (.invokevirtual 329, 3) := by decide +kernel
theorem w_1564 : (Cond.code ({ cls := "NumberHouse$Writer", name := "decimalText", desc := "(LNumberHouse$Dec;I)V" } : MethodName) prog_12_method_3_code (5 : Nat) (none : Option ClassFile.FieldType)) ∈ q_tbl := q_of 1564 (by decide +kernel) (by decide +kernel)
theorem w_1561 : (Cond.methodLink "NumberHouse" (329 : Nat) ({ cls := "NumberHouse$Writer", name := "decimalText", desc := "(LNumberHouse$Dec;I)V" } : MethodName)) ∈ q_tbl := q_of 1561 (by decide +kernel) (by decide +kernel)
theorem w_1562 : (Cond.instanceMethod ({ cls := "NumberHouse$Writer", name := "decimalText", desc := "(LNumberHouse$Dec;I)V" } : MethodName)) ∈ q_tbl := q_of 1562 (by decide +kernel) (by decide +kernel)
theorem w_1563 : (Cond.selects "NumberHouse$Writer" ({ cls := "NumberHouse$Writer", name := "decimalText", desc := "(LNumberHouse$Dec;I)V" } : MethodName) ({ cls := "NumberHouse$Writer", name := "decimalText", desc := "(LNumberHouse$Dec;I)V" } : MethodName)) ∈ q_tbl := q_of 1563 (by decide +kernel) (by decide +kernel)
theorem LV_NH_329 : q_LV "NumberHouse" 329 y_Wri_decimalText prog_12_method_3_code 5 none 2 := ⟨w_1564, w_11, w_1561, w_1562, w_1563, ⟨by decide, by decide, by decide +kernel⟩⟩
theorem d_1_17_81 : decode prog_1_method_17_code 81 = .ok (.goto 49, 3) := by decide +kernel
theorem d_1_17_9 : decode prog_1_method_17_code 9 = .ok (.iload_n 3, 1) := by decide +kernel
theorem d_1_17_10 : decode prog_1_method_17_code 10 = .ok (.iconst 2, 1) := by decide +kernel
theorem d_1_17_11 : decode prog_1_method_17_code 11 = .ok (.if_icmp .lt 13, 3) := by decide +kernel
theorem d_1_17_24 : decode prog_1_method_17_code 24 = .ok (.iconst 0, 1) := by decide +kernel
theorem d_1_17_25 : decode prog_1_method_17_code 25 = .ok (.invokestatic 104, 3) := by decide +kernel
theorem d_1_17_14 : decode prog_1_method_17_code 14 = .ok (.iload_n 3, 1) := by decide +kernel
theorem d_1_17_15 : decode prog_1_method_17_code 15 = .ok (.bipush 36, 2) := by decide +kernel
theorem d_1_17_17 : decode prog_1_method_17_code 17 = .ok (.if_icmp .gt 7, 3) := by decide +kernel
theorem d_1_17_20 : decode prog_1_method_17_code 20 = .ok (.iconst 1, 1) := by decide +kernel
theorem d_1_17_21 : decode prog_1_method_17_code 21 = .ok (.goto 4, 3) := by decide +kernel
theorem d_1_17_28 : decode prog_1_method_17_code 28 = .ok (.aload_n 0, 1) := by decide +kernel
theorem d_1_17_29 : decode prog_1_method_17_code 29 = .ok (.getfield 89, 3) := by decide +kernel
theorem d_1_17_32 : decode prog_1_method_17_code 32 = .ok (.aload_n 0, 1) := by decide +kernel
theorem d_1_17_33 : decode prog_1_method_17_code 33 = .ok (.getfield 23, 3) := by decide +kernel
theorem d_1_17_36 : decode prog_1_method_17_code 36 = .ok (.iload_n 2, 1) := by decide +kernel
theorem d_1_17_37 : decode prog_1_method_17_code 37 = .ok (.aaload, 1) := by decide +kernel
theorem d_1_17_38 : decode prog_1_method_17_code 38 = .ok (.iload_n 3, 1) := by decide +kernel
theorem d_1_17_39 : decode prog_1_method_17_code 39 = .ok (.invokevirtual 327, 3) := by decide +kernel
theorem w_1540 : (Cond.code ({ cls := "NumberHouse$Writer", name := "wholeText", desc := "(LNumberHouse$Big;I)V" } : MethodName) prog_12_method_2_code (9 : Nat) (none : Option ClassFile.FieldType)) ∈ q_tbl := q_of 1540 (by decide +kernel) (by decide +kernel)
theorem w_1537 : (Cond.methodLink "NumberHouse" (327 : Nat) ({ cls := "NumberHouse$Writer", name := "wholeText", desc := "(LNumberHouse$Big;I)V" } : MethodName)) ∈ q_tbl := q_of 1537 (by decide +kernel) (by decide +kernel)
theorem w_1538 : (Cond.instanceMethod ({ cls := "NumberHouse$Writer", name := "wholeText", desc := "(LNumberHouse$Big;I)V" } : MethodName)) ∈ q_tbl := q_of 1538 (by decide +kernel) (by decide +kernel)
theorem w_1539 : (Cond.selects "NumberHouse$Writer" ({ cls := "NumberHouse$Writer", name := "wholeText", desc := "(LNumberHouse$Big;I)V" } : MethodName) ({ cls := "NumberHouse$Writer", name := "wholeText", desc := "(LNumberHouse$Big;I)V" } : MethodName)) ∈ q_tbl := q_of 1539 (by decide +kernel) (by decide +kernel)
theorem LV_NH_327 : q_LV "NumberHouse" 327 y_Wri_wholeText prog_12_method_2_code 9 none 2 := ⟨w_1540, w_11, w_1537, w_1538, w_1539, ⟨by decide, by decide, by decide +kernel⟩⟩
theorem d_1_17_42 : decode prog_1_method_17_code 42 = .ok (.goto 88, 3) := by decide +kernel
def y_NH_print : MethodName := ⟨"NumberHouse", "print", "(III)I"⟩
set_option maxRecDepth 100000 in
set_option maxHeartbeats 4000000 in
/-- print on a fresh object -/
theorem c_NH_print (l : Launch) (D : va_G) (g : Nat → ClassId) (ws : va_W) (hlt : l.stackTraces = false) ( qO0 qO1 qO2 qA3 qA4 qA5 qA6 qO7 qO8 qO9 qO10 qO11 qO12 qO13 qO14 qA16 qO17 qO18 qO19 qO20 qO21 qO22 qO23 qO24 qO25 qO26 qA28 qA35 : Nat) (x1 : Int32) (x2 : Int32) (x3 : Int32) (f4 : Nat → Option Nat) (f5 : Nat → Option Nat) (hO0 : ws[0]? = (some (qO0, .inr (0, [.ref qO1, .ref qO2, .ref qA3, .ref qA4, .ref qA5, .ref qA6, .ref qO7, .ref qO8, .ref qO9, .ref qO10, .ref qO11, .ref qO12, .ref qO13, .ref qO14])) : Option (Nat × va_E))) (hO2 : ws[3]? = (some (qO2, .inr (1, [.ref qA16, .int 11008, .int 0])) : Option (Nat × va_E))) (hA3 : ws[5]? = (some (qA3, .inl (g 4, 10, .inr (.inr (.inr (.inr f4))))) : Option (Nat × va_E))) (hA4 : ws[6]? = (some (qA4, .inl (g 5, 10, .inr (.inr (.inr (.inr f5))))) : Option (Nat × va_E))) (hA5 : ws[7]? = (some (qA5, .inl (g 1, 10, .inr (.inl (fun _ => 0)))) : Option (Nat × va_E))) (hA6 : ws[8]? = (some (qA6, .inl (g 1, 10, .inr (.inl (fun _ => 0)))) : Option (Nat × va_E))) (hO7 : ws[9]? = (some (qO7, .inr (4, [.ref qO17, .ref qO18, .ref qO19, .ref qO20, .ref qO21, .ref qO22, .ref qO23, .ref qO24, .ref qO25, .ref qO26])) : Option (Nat × va_E))) (hO9 : ws[34]? = (some (qO9, .inr (6, [.int 52, .int 1075, .int 2047, .long 0, .int 0, .ref qO7, .int 0])) : Option (Nat × va_E))) (hO10 : ws[35]? = (some (qO10, .inr (6, [.int 23, .int 150, .int 255, .long 0, .int 0, .ref qO7, .int 0])) : Option (Nat × va_E))) (hO11 : ws[36]? = (some (qO11, .inr (7, [.int 0, .int 0, .ref qA28])) : Option (Nat × va_E))) (hO13 : ws[39]? = (some (qO13, .inr (9, [.ref qO2, .ref qO7, .ref qO11])) : Option (Nat × va_E))) (hA16 : ws[4]? = (some (qA16, .inl (g 1, 1376, .inr (.inl (fun _ => 0)))) : Option (Nat × va_E))) (hO17 : ws[10]? = (some (qO17, .inr (2, [.ref qA35, .int 0, .int 0])) : Option (Nat × va_E))) (hA35 : ws[11]? = (some (qA35, .inl (g 0, 220, .inl (fun _ => 0))) : Option (Nat × va_E))) (qW qWL qD qDN qDL : Nat → Nat) (hfW : ∀ i, i < 10 → f4 i = some (qW i)) (FW : ∀ i, i < 10 → ws[66 + 5 * i]? = (some (qW i, .inr (2, [.ref (qWL i), .int 0, .int 0])) : Option (Nat × va_E))) (FWL : ∀ i, i < 10 → ws[67 + 5 * i]? = (some (qWL i, .inl (g 0, 68, .inl (fun _ => 0))) : Option (Nat × va_E))) (hfD : ∀ i, i < 10 → f5 i = some (qD i)) (FD : ∀ i, i < 10 → ws[68 + 5 * i]? = (some (qD i, .inr (3, [.ref (qDN i), .int 0, .int 1])) : Option (Nat × va_E))) (FDN : ∀ i, i < 10 → ws[69 + 5 * i]? = (some (qDN i, .inr (2, [.ref (qDL i), .int 0, .int 0])) : Option (Nat × va_E))) (FDL : ∀ i, i < 10 → ws[70 + 5 * i]? = (some (qDL i, .inl (g 0, 108, .inl (fun _ => 0))) : Option (Nat × va_E))) : q_xI l y_NH_print prog_1_method_17_code 4 (.int) 9 2 12 D g [.ref qO0, .int x1, .int x2, .int x3] ws (fun r u => (((0 ≤ x1.toInt ∧ x1.toInt ≤ 3) ∧ (0 ≤ x2.toInt ∧ x2.toInt ≤ 9) ∧ (x1.toInt = 0 → (2 ≤ x3.toInt ∧ x3.toInt ≤ 36)) ∧ (x1.toInt = 1 → (0 ≤ x3.toInt ∧ x3.toInt ≤ 2)) ∧ (2 ≤ x1.toInt → (0 ≤ x3.toInt ∧ x3.toInt ≤ 1))) ∧ ((x1.toInt ≤ 1 ∧ r.toInt = 1) ∨ (2 ≤ x1.toInt ∧ x3.toInt = 0 ∧ r.toInt = 3) ∨ (2 ≤ x1.toInt ∧ x3.toInt = 1 ∧ r.toInt = 7))) ∧ q_ge 116 ws u) (fun E u => (("java/lang/IllegalArgumentException" = E ∧ (¬ ((0 ≤ x1.toInt ∧ x1.toInt ≤ 3) ∧ (0 ≤ x2.toInt ∧ x2.toInt ≤ 9) ∧ (x1.toInt = 0 → (2 ≤ x3.toInt ∧ x3.toInt ≤ 36)) ∧ (x1.toInt = 1 → (0 ≤ x3.toInt ∧ x3.toInt ≤ 2)) ∧ (2 ≤ x1.toInt → (0 ≤ x3.toInt ∧ x3.toInt ≤ 1)))))) ∧ q_ge 116 ws u) := by
  intro sz
  refine q_intoX (by decide) (Nat.le_of_ble_eq_true rfl) ?_
  intro p e s m below meth c ls hsz C0 V hno hl
  have hx := C0.1
  have hb := C0.2.1
  have hl : lv_has ls 4 [(0, .ref qO0), (1, .int x1), (2, .int x2), (3, .int x3)] := hl
  have hF : q_ge 116 ws ws := q_g0
  refine lv_iload_n hx hb d_1_17_0 rfl (lv_at hl 1 rfl) ?_
  refine lv_iload_n hx hb d_1_17_1 rfl (lv_at hl 2 rfl) ?_
  refine q_goxv V (q_runSX (As := [.int x1, .int x2]) (rest := []) (d := 8) (mc := 1) (ms := 6) C0 V rfl LS_NH_118 (c_NH_needRegister l D g ws hlt x1 x2 _) rfl hl.1 rfl (Nat.le_of_ble_eq_true rfl) ⟨by decide, by decide⟩ ⟨Nat.le_of_ble_eq_true rfl, Nat.le_of_ble_eq_true rfl⟩ d_1_17_2) (fun qx Ex ce u2 H locs hp1 V hce hcv hcl => ?_) (fun u2 H locs hp1 V => ?_)
  ·
    rcases hp1 with ⟨c3, rfl, rfl⟩ | ⟨c5, c6, rfl, rfl⟩ | ⟨c8, c9, c10, rfl, rfl⟩ | ⟨c12, c13, c14, c15, rfl, rfl⟩
    ·
      exact q_outT hno C0 V (⟨⟨rfl, (show ¬ ((0 ≤ x1.toInt ∧ x1.toInt ≤ 3) ∧ (0 ≤ x2.toInt ∧ x2.toInt ≤ 9) ∧ (x1.toInt = 0 → (2 ≤ x3.toInt ∧ x3.toInt ≤ 36)) ∧ (x1.toInt = 1 → (0 ≤ x3.toInt ∧ x3.toInt ≤ 2)) ∧ (2 ≤ x1.toInt → (0 ≤ x3.toInt ∧ x3.toInt ≤ 1))) from by have t1 : x1.toInt < 0 := q_ltI c3; omega)⟩, hF⟩) hce hcv hcl (Nat.le_of_ble_eq_true rfl) (Nat.le_of_ble_eq_true rfl)
    ·
      exact q_outT hno C0 V (⟨⟨rfl, (show ¬ ((0 ≤ x1.toInt ∧ x1.toInt ≤ 3) ∧ (0 ≤ x2.toInt ∧ x2.toInt ≤ 9) ∧ (x1.toInt = 0 → (2 ≤ x3.toInt ∧ x3.toInt ≤ 36)) ∧ (x1.toInt = 1 → (0 ≤ x3.toInt ∧ x3.toInt ≤ 2)) ∧ (2 ≤ x1.toInt → (0 ≤ x3.toInt ∧ x3.toInt ≤ 1))) from by have t1 : 0 ≤ x1.toInt := q_nltI c5; have t2 : 3 < x1.toInt := q_ltI c6; omega)⟩, hF⟩) hce hcv hcl (Nat.le_of_ble_eq_true rfl) (Nat.le_of_ble_eq_true rfl)
    ·
      exact q_outT hno C0 V (⟨⟨rfl, (show ¬ ((0 ≤ x1.toInt ∧ x1.toInt ≤ 3) ∧ (0 ≤ x2.toInt ∧ x2.toInt ≤ 9) ∧ (x1.toInt = 0 → (2 ≤ x3.toInt ∧ x3.toInt ≤ 36)) ∧ (x1.toInt = 1 → (0 ≤ x3.toInt ∧ x3.toInt ≤ 2)) ∧ (2 ≤ x1.toInt → (0 ≤ x3.toInt ∧ x3.toInt ≤ 1))) from by have t1 : 0 ≤ x1.toInt := q_nltI c8; have t2 : x1.toInt ≤ 3 := q_nltI c9; have t3 : x2.toInt < 0 := q_ltI c10; omega)⟩, hF⟩) hce hcv hcl (Nat.le_of_ble_eq_true rfl) (Nat.le_of_ble_eq_true rfl)
    ·
      exact q_outT hno C0 V (⟨⟨rfl, (show ¬ ((0 ≤ x1.toInt ∧ x1.toInt ≤ 3) ∧ (0 ≤ x2.toInt ∧ x2.toInt ≤ 9) ∧ (x1.toInt = 0 → (2 ≤ x3.toInt ∧ x3.toInt ≤ 36)) ∧ (x1.toInt = 1 → (0 ≤ x3.toInt ∧ x3.toInt ≤ 2)) ∧ (2 ≤ x1.toInt → (0 ≤ x3.toInt ∧ x3.toInt ≤ 1))) from by have t1 : 0 ≤ x1.toInt := q_nltI c12; have t2 : x1.toInt ≤ 3 := q_nltI c13; have t3 : 0 ≤ x2.toInt := q_nltI c14; have t4 : 10 ≤ x2.toInt := q_leI c15; omega)⟩, hF⟩) hce hcv hcl (Nat.le_of_ble_eq_true rfl) (Nat.le_of_ble_eq_true rfl)
  ·
    obtain ⟨c17, c18, c19, c20, rfl⟩ := hp1
    refine lv_iload_n hx hb d_1_17_5 rfl (lv_at hl 1 rfl) ?_
    refine lv_if_ne (tgt := 45) hx hb d_1_17_6 (by decide) (fun c22 => ?_) (fun c22 => ?_)
    ·
      refine lv_iload_n hx hb d_1_17_45 rfl (lv_at hl 1 rfl) ?_
      refine lv_iconst (v := 1) hx hb d_1_17_46 (by decide) ?_
      refine lv_icmp_ne (tgt := 84) hx hb d_1_17_47 (by decide) (fun c23 => ?_) (fun c23 => ?_)
      ·
        refine lv_iload_n hx hb d_1_17_84 rfl (lv_at hl 3 rfl) ?_
        refine lv_if_lt (tgt := 97) hx hb d_1_17_85 (by decide) (fun c24 => ?_) (fun c24 => ?_)
        ·
          refine lv_iconst (v := 0) hx hb d_1_17_97 (by decide) ?_
          refine q_goxv V (q_runSX (As := [.int 0]) (rest := []) (d := 7) (mc := 1) (ms := 6) C0 V rfl LS_NH_104 (c_NH_need l D g ws hlt 0 _) rfl hl.1 rfl (Nat.le_of_ble_eq_true rfl) ⟨by decide, by decide⟩ ⟨Nat.le_of_ble_eq_true rfl, Nat.le_of_ble_eq_true rfl⟩ d_1_17_98) (fun qx Ex ce u26 H locs hp25 V hce hcv hcl => ?_) (fun u26 H locs hp25 V => ?_)
          ·
            obtain ⟨c27, rfl, rfl⟩ := hp25
            exact q_outT hno C0 V (⟨⟨rfl, (show ¬ ((0 ≤ x1.toInt ∧ x1.toInt ≤ 3) ∧ (0 ≤ x2.toInt ∧ x2.toInt ≤ 9) ∧ (x1.toInt = 0 → (2 ≤ x3.toInt ∧ x3.toInt ≤ 36)) ∧ (x1.toInt = 1 → (0 ≤ x3.toInt ∧ x3.toInt ≤ 2)) ∧ (2 ≤ x1.toInt → (0 ≤ x3.toInt ∧ x3.toInt ≤ 1))) from by have t1 : 0 ≤ x1.toInt := q_nltI c17; have t2 : x1.toInt ≤ 3 := q_nltI c18; have t3 : 0 ≤ x2.toInt := q_nltI c19; have t4 : x2.toInt < 10 := q_nleI c20; have t5 : x1.toInt ≠ 0 := q_neI c22; have t6 : x1.toInt ≠ 1 := q_neI c23; have t7 : x3.toInt < 0 := q_ltI c24; omega)⟩, hF⟩) hce hcv hcl (Nat.le_of_ble_eq_true rfl) (Nat.le_of_ble_eq_true rfl)
          ·
            obtain ⟨c29, rfl⟩ := hp25
            exact absurd c29 (by decide)
        ·
          refine lv_iload_n hx hb d_1_17_88 rfl (lv_at hl 3 rfl) ?_
          refine lv_iconst (v := 1) hx hb d_1_17_89 (by decide) ?_
          refine lv_icmp_gt (tgt := 97) hx hb d_1_17_90 (by decide) (fun c31 => ?_) (fun c31 => ?_)
          ·
            refine lv_iconst (v := 0) hx hb d_1_17_97 (by decide) ?_
            refine q_goxv V (q_runSX (As := [.int 0]) (rest := []) (d := 7) (mc := 1) (ms := 6) C0 V rfl LS_NH_104 (c_NH_need l D g ws hlt 0 _) rfl hl.1 rfl (Nat.le_of_ble_eq_true rfl) ⟨by decide, by decide⟩ ⟨Nat.le_of_ble_eq_true rfl, Nat.le_of_ble_eq_true rfl⟩ d_1_17_98) (fun qx Ex ce u33 H locs hp32 V hce hcv hcl => ?_) (fun u33 H locs hp32 V => ?_)
            ·
              obtain ⟨c34, rfl, rfl⟩ := hp32
              exact q_outT hno C0 V (⟨⟨rfl, (show ¬ ((0 ≤ x1.toInt ∧ x1.toInt ≤ 3) ∧ (0 ≤ x2.toInt ∧ x2.toInt ≤ 9) ∧ (x1.toInt = 0 → (2 ≤ x3.toInt ∧ x3.toInt ≤ 36)) ∧ (x1.toInt = 1 → (0 ≤ x3.toInt ∧ x3.toInt ≤ 2)) ∧ (2 ≤ x1.toInt → (0 ≤ x3.toInt ∧ x3.toInt ≤ 1))) from by have t1 : 0 ≤ x1.toInt := q_nltI c17; have t2 : x1.toInt ≤ 3 := q_nltI c18; have t3 : 0 ≤ x2.toInt := q_nltI c19; have t4 : x2.toInt < 10 := q_nleI c20; have t5 : x1.toInt ≠ 0 := q_neI c22; have t6 : x1.toInt ≠ 1 := q_neI c23; have t7 : 0 ≤ x3.toInt := q_nltI c24; have t8 : 1 < x3.toInt := q_ltI c31; omega)⟩, hF⟩) hce hcv hcl (Nat.le_of_ble_eq_true rfl) (Nat.le_of_ble_eq_true rfl)
            ·
              obtain ⟨c36, rfl⟩ := hp32
              exact absurd c36 (by decide)
          ·
            refine lv_iconst (v := 1) hx hb d_1_17_93 (by decide) ?_
            refine lv_goto (tgt := 98) hx hb d_1_17_94 (by decide) ?_
            refine q_goxv V (q_runSX (As := [.int 1]) (rest := []) (d := 7) (mc := 1) (ms := 6) C0 V rfl LS_NH_104 (c_NH_need l D g ws hlt 1 _) rfl hl.1 rfl (Nat.le_of_ble_eq_true rfl) ⟨by decide, by decide⟩ ⟨Nat.le_of_ble_eq_true rfl, Nat.le_of_ble_eq_true rfl⟩ d_1_17_98) (fun qx Ex ce u39 H locs hp38 V hce hcv hcl => ?_) (fun u39 H locs hp38 V => ?_)
            ·
              obtain ⟨c40, rfl, rfl⟩ := hp38
              exact absurd c40 (by decide)
            ·
              obtain ⟨c42, rfl⟩ := hp38
              refine lv_aload_n hx hb d_1_17_101 rfl (lv_at hl 0 rfl) ?_
              refine q_get (ci := 0) (j := 12) (v := .ref qO13) C0 V i_NH rfl rfl hO0 (by decide) w_436 rfl d_1_17_102 ?_
              refine lv_aload_n hx hb d_1_17_105 rfl (lv_at hl 0 rfl) ?_
              refine lv_iload_n hx hb d_1_17_106 rfl (lv_at hl 1 rfl) ?_
              refine q_gor (post := fun r u => (¬ x1 = 2 ∧ qO10 = r ∧ ws = u) ∨ (x1 = 2 ∧ qO9 = r ∧ ws = u)) V (q_runV (As := [.int x1]) (rest := [.ref qO13]) (d := 1) (mc := 0) (ms := 0) (ci := 0) C0 V rfl LV_NH_130 (c_NH_floatsOf l D g ws qO0 qO1 qO2 qA3 qA4 qA5 qA6 qO7 qO8 qO9 qO10 qO11 qO12 qO13 qO14 x1 hO0 (q_Ile (x := 2) (y := x1.toInt) (by decide) rfl (by have t1 : 0 ≤ x1.toInt := q_nltI c17; have t2 : x1.toInt ≤ 3 := q_nltI c18; have t3 : x1.toInt ≠ 0 := q_neI c22; have t4 : x1.toInt ≠ 1 := q_neI c23; omega)) (q_Ile (x := x1.toInt) (y := 3) rfl (by decide) (by have t1 : 0 ≤ x1.toInt := q_nltI c17; have t2 : x1.toInt ≤ 3 := q_nltI c18; have t3 : x1.toInt ≠ 0 := q_neI c22; have t4 : x1.toInt ≠ 1 := q_neI c23; omega)) _) rfl rfl hO0 rfl hl.1 rfl (Nat.le_of_ble_eq_true rfl) ⟨by decide, by decide⟩ ⟨Nat.le_of_ble_eq_true rfl, Nat.le_of_ble_eq_true rfl⟩ d_1_17_107) (fun v46 u45 H locs hp44 V => ?_)
              rcases hp44 with ⟨c47, rfl, rfl⟩ | ⟨c49, rfl, rfl⟩
              ·
                refine lv_aload_n hx hb d_1_17_110 rfl (lv_at hl 0 rfl) ?_
                refine lv_iload_n hx hb d_1_17_111 rfl (lv_at hl 1 rfl) ?_
                refine q_ti (v := 3) (q_Ieq (x := x1.toInt) (y := 3) rfl (by decide) (by have t1 : 0 ≤ x1.toInt := q_nltI c17; have t2 : x1.toInt ≤ 3 := q_nltI c18; have t3 : x1.toInt ≠ 0 := q_neI c22; have t4 : x1.toInt ≠ 1 := q_neI c23; have t5 : x1.toInt ≠ 2 := q_neI c47; omega)) ?_
                refine q_gor (post := fun r u => qA6 = r ∧ ws = u) V (q_runV (As := [.int 3]) (rest := [.ref qO10, .ref qO13]) (d := 1) (mc := 0) (ms := 0) (ci := 0) C0 V rfl LV_NH_157 (c_NH_floatRow l D g ws qO0 qO1 qO2 qA3 qA4 qA5 qA6 qO7 qO8 qO9 qO10 qO11 qO12 qO13 qO14 hO0 _) rfl rfl hO0 rfl hl.1 rfl (Nat.le_of_ble_eq_true rfl) ⟨by decide, by decide⟩ ⟨Nat.le_of_ble_eq_true rfl, Nat.le_of_ble_eq_true rfl⟩ d_1_17_112) (fun v53 u52 H locs hp51 V => ?_)
                obtain ⟨rfl, rfl⟩ := hp51
                refine lv_iload_n hx hb d_1_17_115 rfl (lv_at hl 2 rfl) ?_
                refine q_lald C0 V hA6 (q_ix (x := x2.toInt) rfl (by have t1 : 0 ≤ x2.toInt := q_nltI c19; have t2 : x2.toInt < 10 := q_nleI c20; omega) (by have t1 : 0 ≤ x2.toInt := q_nltI c19; have t2 : x2.toInt < 10 := q_nleI c20; omega)) d_1_17_116 ?_
                refine q_tl (v := 0) (by first | rfl | decide | simp [upd, vp_updL, sb_cl0]) ?_
                refine lv_iload_n hx hb d_1_17_117 rfl (lv_at hl 3 rfl) ?_
                refine lv_iconst (v := 1) hx hb d_1_17_118 (by decide) ?_
                refine lv_icmp_ne (tgt := 126) hx hb d_1_17_119 (by decide) (fun c55 => ?_) (fun c55 => ?_)
                ·
                  refine lv_iconst (v := 0) hx hb d_1_17_126 (by decide) ?_
                  refine q_gov V (q_runV (As := [.ref qO10, .long 0, .int 0]) (rest := []) (d := 6) (mc := 0) (ms := 0) (ci := 9) C0 V rfl LV_NH_332 (c_Wri_floatText l D g ws 39 35 3 4 qO13 qO10 qO2 qO7 qO11 qA16 hO13 hO10 hO2 hA16 _) rfl rfl hO13 rfl hl.1 rfl (Nat.le_of_ble_eq_true rfl) ⟨by decide, by decide⟩ ⟨Nat.le_of_ble_eq_true rfl, Nat.le_of_ble_eq_true rfl⟩ d_1_17_127) (fun u57 H locs hp56 V => ?_)
                  obtain ⟨y58, hg59, hO2, hA16⟩ := hp56
                  replace hF := q_gc hF hg59 (q_al (Nat.le_of_ble_eq_true rfl) (q_al (Nat.le_of_ble_eq_true rfl) (fun _ h => absurd h List.not_mem_nil)))
                  refine lv_aload_n hx hb d_1_17_130 rfl (lv_at hl 0 rfl) ?_
                  replace hO0 := (hg59 _ (q_nc (q_pd 0 3 rfl) (q_nc (q_pd 0 4 rfl) List.not_mem_nil))).trans (hO0)
                  refine q_get (ci := 0) (j := 1) (v := .ref qO2) C0 V i_NH rfl rfl hO0 (by decide) w_425 rfl d_1_17_131 ?_
                  refine q_get (ci := 1) (j := 2) (v := .int (2 + 1)) C0 V i_She rfl rfl hO2 (by decide) w_56 rfl d_1_17_134 ?_
                  exact q_retX (q_reti C0 V (⟨(show ((0 ≤ x1.toInt ∧ x1.toInt ≤ 3) ∧ (0 ≤ x2.toInt ∧ x2.toInt ≤ 9) ∧ (x1.toInt = 0 → (2 ≤ x3.toInt ∧ x3.toInt ≤ 36)) ∧ (x1.toInt = 1 → (0 ≤ x3.toInt ∧ x3.toInt ≤ 2)) ∧ (2 ≤ x1.toInt → (0 ≤ x3.toInt ∧ x3.toInt ≤ 1))) ∧ ((x1.toInt ≤ 1 ∧ (2 + 1 : Int32).toInt = 1) ∨ (2 ≤ x1.toInt ∧ x3.toInt = 0 ∧ (2 + 1 : Int32).toInt = 3) ∨ (2 ≤ x1.toInt ∧ x3.toInt = 1 ∧ (2 + 1 : Int32).toInt = 7)) from by have t1 : 0 ≤ x1.toInt := q_nltI c17; have t2 : x1.toInt ≤ 3 := q_nltI c18; have t3 : 0 ≤ x2.toInt := q_nltI c19; have t4 : x2.toInt < 10 := q_nleI c20; have t5 : x1.toInt ≠ 0 := q_neI c22; have t6 : x1.toInt ≠ 1 := q_neI c23; have t7 : 0 ≤ x3.toInt := q_nltI c24; have t8 : x3.toInt ≤ 1 := q_nltI c31; have t9 : x1.toInt ≠ 2 := q_neI c47; have t10 : x3.toInt ≠ 1 := q_neI c55; have e0 : (2 + 1 : Int32).toInt = (2 + 1) := (q_addI (x := 2) (y := 1) (by decide) (by decide) (by omega) (by omega)); omega), hF⟩) d_1_17_137)
                ·
                  refine lv_iconst (v := 1) hx hb d_1_17_122 (by decide) ?_
                  refine lv_goto (tgt := 127) hx hb d_1_17_123 (by decide) ?_
                  refine q_gov V (q_runV (As := [.ref qO10, .long 0, .int 1]) (rest := []) (d := 6) (mc := 0) (ms := 0) (ci := 9) C0 V rfl LV_NH_332 (c_Wri_floatText_2 l D g ws 39 35 3 4 qO13 qO10 qO2 qO7 qO11 qA16 hO13 hO10 hO2 hA16 _) rfl rfl hO13 rfl hl.1 rfl (Nat.le_of_ble_eq_true rfl) ⟨by decide, by decide⟩ ⟨Nat.le_of_ble_eq_true rfl, Nat.le_of_ble_eq_true rfl⟩ d_1_17_127) (fun u61 H locs hp60 V => ?_)
                  obtain ⟨y62, hg63, hO2, hA16⟩ := hp60
                  replace hF := q_gc hF hg63 (q_al (Nat.le_of_ble_eq_true rfl) (q_al (Nat.le_of_ble_eq_true rfl) (fun _ h => absurd h List.not_mem_nil)))
                  refine lv_aload_n hx hb d_1_17_130 rfl (lv_at hl 0 rfl) ?_
                  replace hO0 := (hg63 _ (q_nc (q_pd 0 3 rfl) (q_nc (q_pd 0 4 rfl) List.not_mem_nil))).trans (hO0)
                  refine q_get (ci := 0) (j := 1) (v := .ref qO2) C0 V i_NH rfl rfl hO0 (by decide) w_425 rfl d_1_17_131 ?_
                  refine q_get (ci := 1) (j := 2) (v := .int (((((2 + 1) + 1) + 1) + 1) + 1)) C0 V i_She rfl rfl hO2 (by decide) w_56 rfl d_1_17_134 ?_
                  exact q_retX (q_reti C0 V (⟨(show ((0 ≤ x1.toInt ∧ x1.toInt ≤ 3) ∧ (0 ≤ x2.toInt ∧ x2.toInt ≤ 9) ∧ (x1.toInt = 0 → (2 ≤ x3.toInt ∧ x3.toInt ≤ 36)) ∧ (x1.toInt = 1 → (0 ≤ x3.toInt ∧ x3.toInt ≤ 2)) ∧ (2 ≤ x1.toInt → (0 ≤ x3.toInt ∧ x3.toInt ≤ 1))) ∧ ((x1.toInt ≤ 1 ∧ (((((2 + 1) + 1) + 1) + 1) + 1 : Int32).toInt = 1) ∨ (2 ≤ x1.toInt ∧ x3.toInt = 0 ∧ (((((2 + 1) + 1) + 1) + 1) + 1 : Int32).toInt = 3) ∨ (2 ≤ x1.toInt ∧ x3.toInt = 1 ∧ (((((2 + 1) + 1) + 1) + 1) + 1 : Int32).toInt = 7)) from by have t1 : 0 ≤ x1.toInt := q_nltI c17; have t2 : x1.toInt ≤ 3 := q_nltI c18; have t3 : 0 ≤ x2.toInt := q_nltI c19; have t4 : x2.toInt < 10 := q_nleI c20; have t5 : x1.toInt ≠ 0 := q_neI c22; have t6 : x1.toInt ≠ 1 := q_neI c23; have t7 : 0 ≤ x3.toInt := q_nltI c24; have t8 : x3.toInt ≤ 1 := q_nltI c31; have t9 : x1.toInt ≠ 2 := q_neI c47; have t10 : x3.toInt = 1 := q_eqI c55; have e0 : (((((2 + 1) + 1) + 1) + 1) + 1 : Int32).toInt = (((((2 + 1) + 1) + 1) + 1) + 1) := (q_addI (x := ((((2 + 1) + 1) + 1) + 1)) (y := 1) (q_addI (x := (((2 + 1) + 1) + 1)) (y := 1) (q_addI (x := ((2 + 1) + 1)) (y := 1) (q_addI (x := (2 + 1)) (y := 1) (q_addI (x := 2) (y := 1) (by decide) (by decide) (by omega) (by omega)) (by decide) (by omega) (by omega)) (by decide) (by omega) (by omega)) (by decide) (by omega) (by omega)) (by decide) (by omega) (by omega)); omega), hF⟩) d_1_17_137)
              ·
                refine lv_aload_n hx hb d_1_17_110 rfl (lv_at hl 0 rfl) ?_
                refine lv_iload_n hx hb d_1_17_111 rfl (lv_at hl 1 rfl) ?_
                refine q_ti (v := 2) c49 ?_
                refine q_gor (post := fun r u => qA5 = r ∧ ws = u) V (q_runV (As := [.int 2]) (rest := [.ref qO9, .ref qO13]) (d := 1) (mc := 0) (ms := 0) (ci := 0) C0 V rfl LV_NH_157 (c_NH_floatRow_2 l D g ws qO0 qO1 qO2 qA3 qA4 qA5 qA6 qO7 qO8 qO9 qO10 qO11 qO12 qO13 qO14 hO0 _) rfl rfl hO0 rfl hl.1 rfl (Nat.le_of_ble_eq_true rfl) ⟨by decide, by decide⟩ ⟨Nat.le_of_ble_eq_true rfl, Nat.le_of_ble_eq_true rfl⟩ d_1_17_112) (fun v66 u65 H locs hp64 V => ?_)
                obtain ⟨rfl, rfl⟩ := hp64
                refine lv_iload_n hx hb d_1_17_115 rfl (lv_at hl 2 rfl) ?_
                refine q_lald C0 V hA5 (q_ix (x := x2.toInt) rfl (by have t1 : 0 ≤ x2.toInt := q_nltI c19; have t2 : x2.toInt < 10 := q_nleI c20; omega) (by have t1 : 0 ≤ x2.toInt := q_nltI c19; have t2 : x2.toInt < 10 := q_nleI c20; omega)) d_1_17_116 ?_
                refine q_tl (v := 0) (by first | rfl | decide | simp [upd, vp_updL, sb_cl0]) ?_
                refine lv_iload_n hx hb d_1_17_117 rfl (lv_at hl 3 rfl) ?_
                refine lv_iconst (v := 1) hx hb d_1_17_118 (by decide) ?_
                refine lv_icmp_ne (tgt := 126) hx hb d_1_17_119 (by decide) (fun c68 => ?_) (fun c68 => ?_)
                ·
                  refine lv_iconst (v := 0) hx hb d_1_17_126 (by decide) ?_
                  refine q_gov V (q_runV (As := [.ref qO9, .long 0, .int 0]) (rest := []) (d := 6) (mc := 0) (ms := 0) (ci := 9) C0 V rfl LV_NH_332 (c_Wri_floatText_3 l D g ws 39 34 3 4 qO13 qO9 qO2 qO7 qO11 qA16 hO13 hO9 hO2 hA16 _) rfl rfl hO13 rfl hl.1 rfl (Nat.le_of_ble_eq_true rfl) ⟨by decide, by decide⟩ ⟨Nat.le_of_ble_eq_true rfl, Nat.le_of_ble_eq_true rfl⟩ d_1_17_127) (fun u70 H locs hp69 V => ?_)
                  obtain ⟨y71, hg72, hO2, hA16⟩ := hp69
                  replace hF := q_gc hF hg72 (q_al (Nat.le_of_ble_eq_true rfl) (q_al (Nat.le_of_ble_eq_true rfl) (fun _ h => absurd h List.not_mem_nil)))
                  refine lv_aload_n hx hb d_1_17_130 rfl (lv_at hl 0 rfl) ?_
                  replace hO0 := (hg72 _ (q_nc (q_pd 0 3 rfl) (q_nc (q_pd 0 4 rfl) List.not_mem_nil))).trans (hO0)
                  refine q_get (ci := 0) (j := 1) (v := .ref qO2) C0 V i_NH rfl rfl hO0 (by decide) w_425 rfl d_1_17_131 ?_
                  refine q_get (ci := 1) (j := 2) (v := .int (2 + 1)) C0 V i_She rfl rfl hO2 (by decide) w_56 rfl d_1_17_134 ?_
                  exact q_retX (q_reti C0 V (⟨(show ((0 ≤ x1.toInt ∧ x1.toInt ≤ 3) ∧ (0 ≤ x2.toInt ∧ x2.toInt ≤ 9) ∧ (x1.toInt = 0 → (2 ≤ x3.toInt ∧ x3.toInt ≤ 36)) ∧ (x1.toInt = 1 → (0 ≤ x3.toInt ∧ x3.toInt ≤ 2)) ∧ (2 ≤ x1.toInt → (0 ≤ x3.toInt ∧ x3.toInt ≤ 1))) ∧ ((x1.toInt ≤ 1 ∧ (2 + 1 : Int32).toInt = 1) ∨ (2 ≤ x1.toInt ∧ x3.toInt = 0 ∧ (2 + 1 : Int32).toInt = 3) ∨ (2 ≤ x1.toInt ∧ x3.toInt = 1 ∧ (2 + 1 : Int32).toInt = 7)) from by have t1 : 0 ≤ x1.toInt := q_nltI c17; have t2 : x1.toInt ≤ 3 := q_nltI c18; have t3 : 0 ≤ x2.toInt := q_nltI c19; have t4 : x2.toInt < 10 := q_nleI c20; have t5 : x1.toInt ≠ 0 := q_neI c22; have t6 : x1.toInt ≠ 1 := q_neI c23; have t7 : 0 ≤ x3.toInt := q_nltI c24; have t8 : x3.toInt ≤ 1 := q_nltI c31; have t9 : x1.toInt = 2 := q_eqI c49; have t10 : x3.toInt ≠ 1 := q_neI c68; have e0 : (2 + 1 : Int32).toInt = (2 + 1) := (q_addI (x := 2) (y := 1) (by decide) (by decide) (by omega) (by omega)); omega), hF⟩) d_1_17_137)
                ·
                  refine lv_iconst (v := 1) hx hb d_1_17_122 (by decide) ?_
                  refine lv_goto (tgt := 127) hx hb d_1_17_123 (by decide) ?_
                  refine q_gov V (q_runV (As := [.ref qO9, .long 0, .int 1]) (rest := []) (d := 6) (mc := 0) (ms := 0) (ci := 9) C0 V rfl LV_NH_332 (c_Wri_floatText_4 l D g ws 39 34 3 4 qO13 qO9 qO2 qO7 qO11 qA16 hO13 hO9 hO2 hA16 _) rfl rfl hO13 rfl hl.1 rfl (Nat.le_of_ble_eq_true rfl) ⟨by decide, by decide⟩ ⟨Nat.le_of_ble_eq_true rfl, Nat.le_of_ble_eq_true rfl⟩ d_1_17_127) (fun u74 H locs hp73 V => ?_)
                  obtain ⟨y75, hg76, hO2, hA16⟩ := hp73
                  replace hF := q_gc hF hg76 (q_al (Nat.le_of_ble_eq_true rfl) (q_al (Nat.le_of_ble_eq_true rfl) (fun _ h => absurd h List.not_mem_nil)))
                  refine lv_aload_n hx hb d_1_17_130 rfl (lv_at hl 0 rfl) ?_
                  replace hO0 := (hg76 _ (q_nc (q_pd 0 3 rfl) (q_nc (q_pd 0 4 rfl) List.not_mem_nil))).trans (hO0)
                  refine q_get (ci := 0) (j := 1) (v := .ref qO2) C0 V i_NH rfl rfl hO0 (by decide) w_425 rfl d_1_17_131 ?_
                  refine q_get (ci := 1) (j := 2) (v := .int (((((2 + 1) + 1) + 1) + 1) + 1)) C0 V i_She rfl rfl hO2 (by decide) w_56 rfl d_1_17_134 ?_
                  exact q_retX (q_reti C0 V (⟨(show ((0 ≤ x1.toInt ∧ x1.toInt ≤ 3) ∧ (0 ≤ x2.toInt ∧ x2.toInt ≤ 9) ∧ (x1.toInt = 0 → (2 ≤ x3.toInt ∧ x3.toInt ≤ 36)) ∧ (x1.toInt = 1 → (0 ≤ x3.toInt ∧ x3.toInt ≤ 2)) ∧ (2 ≤ x1.toInt → (0 ≤ x3.toInt ∧ x3.toInt ≤ 1))) ∧ ((x1.toInt ≤ 1 ∧ (((((2 + 1) + 1) + 1) + 1) + 1 : Int32).toInt = 1) ∨ (2 ≤ x1.toInt ∧ x3.toInt = 0 ∧ (((((2 + 1) + 1) + 1) + 1) + 1 : Int32).toInt = 3) ∨ (2 ≤ x1.toInt ∧ x3.toInt = 1 ∧ (((((2 + 1) + 1) + 1) + 1) + 1 : Int32).toInt = 7)) from by have t1 : 0 ≤ x1.toInt := q_nltI c17; have t2 : x1.toInt ≤ 3 := q_nltI c18; have t3 : 0 ≤ x2.toInt := q_nltI c19; have t4 : x2.toInt < 10 := q_nleI c20; have t5 : x1.toInt ≠ 0 := q_neI c22; have t6 : x1.toInt ≠ 1 := q_neI c23; have t7 : 0 ≤ x3.toInt := q_nltI c24; have t8 : x3.toInt ≤ 1 := q_nltI c31; have t9 : x1.toInt = 2 := q_eqI c49; have t10 : x3.toInt = 1 := q_eqI c68; have e0 : (((((2 + 1) + 1) + 1) + 1) + 1 : Int32).toInt = (((((2 + 1) + 1) + 1) + 1) + 1) := (q_addI (x := ((((2 + 1) + 1) + 1) + 1)) (y := 1) (q_addI (x := (((2 + 1) + 1) + 1)) (y := 1) (q_addI (x := ((2 + 1) + 1)) (y := 1) (q_addI (x := (2 + 1)) (y := 1) (q_addI (x := 2) (y := 1) (by decide) (by decide) (by omega) (by omega)) (by decide) (by omega) (by omega)) (by decide) (by omega) (by omega)) (by decide) (by omega) (by omega)) (by decide) (by omega) (by omega)); omega), hF⟩) d_1_17_137)
      ·
        refine lv_iload_n hx hb d_1_17_50 rfl (lv_at hl 3 rfl) ?_
        refine lv_if_lt (tgt := 63) hx hb d_1_17_51 (by decide) (fun c77 => ?_) (fun c77 => ?_)
        ·
          refine lv_iconst (v := 0) hx hb d_1_17_63 (by decide) ?_
          refine q_goxv V (q_runSX (As := [.int 0]) (rest := []) (d := 7) (mc := 1) (ms := 6) C0 V rfl LS_NH_104 (c_NH_need l D g ws hlt 0 _) rfl hl.1 rfl (Nat.le_of_ble_eq_true rfl) ⟨by decide, by decide⟩ ⟨Nat.le_of_ble_eq_true rfl, Nat.le_of_ble_eq_true rfl⟩ d_1_17_64) (fun qx Ex ce u79 H locs hp78 V hce hcv hcl => ?_) (fun u79 H locs hp78 V => ?_)
          ·
            obtain ⟨c80, rfl, rfl⟩ := hp78
            exact q_outT hno C0 V (⟨⟨rfl, (show ¬ ((0 ≤ x1.toInt ∧ x1.toInt ≤ 3) ∧ (0 ≤ x2.toInt ∧ x2.toInt ≤ 9) ∧ (x1.toInt = 0 → (2 ≤ x3.toInt ∧ x3.toInt ≤ 36)) ∧ (x1.toInt = 1 → (0 ≤ x3.toInt ∧ x3.toInt ≤ 2)) ∧ (2 ≤ x1.toInt → (0 ≤ x3.toInt ∧ x3.toInt ≤ 1))) from by have t1 : 0 ≤ x1.toInt := q_nltI c17; have t2 : x1.toInt ≤ 3 := q_nltI c18; have t3 : 0 ≤ x2.toInt := q_nltI c19; have t4 : x2.toInt < 10 := q_nleI c20; have t5 : x1.toInt ≠ 0 := q_neI c22; have t6 : x1.toInt = 1 := q_eqI c23; have t7 : x3.toInt < 0 := q_ltI c77; omega)⟩, hF⟩) hce hcv hcl (Nat.le_of_ble_eq_true rfl) (Nat.le_of_ble_eq_true rfl)
          ·
            obtain ⟨c82, rfl⟩ := hp78
            exact absurd c82 (by decide)
        ·
          refine lv_iload_n hx hb d_1_17_54 rfl (lv_at hl 3 rfl) ?_
          refine lv_iconst (v := 2) hx hb d_1_17_55 (by decide) ?_
          refine lv_icmp_gt (tgt := 63) hx hb d_1_17_56 (by decide) (fun c84 => ?_) (fun c84 => ?_)
          ·
            refine lv_iconst (v := 0) hx hb d_1_17_63 (by decide) ?_
            refine q_goxv V (q_runSX (As := [.int 0]) (rest := []) (d := 7) (mc := 1) (ms := 6) C0 V rfl LS_NH_104 (c_NH_need l D g ws hlt 0 _) rfl hl.1 rfl (Nat.le_of_ble_eq_true rfl) ⟨by decide, by decide⟩ ⟨Nat.le_of_ble_eq_true rfl, Nat.le_of_ble_eq_true rfl⟩ d_1_17_64) (fun qx Ex ce u86 H locs hp85 V hce hcv hcl => ?_) (fun u86 H locs hp85 V => ?_)
            ·
              obtain ⟨c87, rfl, rfl⟩ := hp85
              exact q_outT hno C0 V (⟨⟨rfl, (show ¬ ((0 ≤ x1.toInt ∧ x1.toInt ≤ 3) ∧ (0 ≤ x2.toInt ∧ x2.toInt ≤ 9) ∧ (x1.toInt = 0 → (2 ≤ x3.toInt ∧ x3.toInt ≤ 36)) ∧ (x1.toInt = 1 → (0 ≤ x3.toInt ∧ x3.toInt ≤ 2)) ∧ (2 ≤ x1.toInt → (0 ≤ x3.toInt ∧ x3.toInt ≤ 1))) from by have t1 : 0 ≤ x1.toInt := q_nltI c17; have t2 : x1.toInt ≤ 3 := q_nltI c18; have t3 : 0 ≤ x2.toInt := q_nltI c19; have t4 : x2.toInt < 10 := q_nleI c20; have t5 : x1.toInt ≠ 0 := q_neI c22; have t6 : x1.toInt = 1 := q_eqI c23; have t7 : 0 ≤ x3.toInt := q_nltI c77; have t8 : 2 < x3.toInt := q_ltI c84; omega)⟩, hF⟩) hce hcv hcl (Nat.le_of_ble_eq_true rfl) (Nat.le_of_ble_eq_true rfl)
            ·
              obtain ⟨c89, rfl⟩ := hp85
              exact absurd c89 (by decide)
          ·
            refine lv_iconst (v := 1) hx hb d_1_17_59 (by decide) ?_
            refine lv_goto (tgt := 64) hx hb d_1_17_60 (by decide) ?_
            refine q_goxv V (q_runSX (As := [.int 1]) (rest := []) (d := 7) (mc := 1) (ms := 6) C0 V rfl LS_NH_104 (c_NH_need l D g ws hlt 1 _) rfl hl.1 rfl (Nat.le_of_ble_eq_true rfl) ⟨by decide, by decide⟩ ⟨Nat.le_of_ble_eq_true rfl, Nat.le_of_ble_eq_true rfl⟩ d_1_17_64) (fun qx Ex ce u92 H locs hp91 V hce hcv hcl => ?_) (fun u92 H locs hp91 V => ?_)
            ·
              obtain ⟨c93, rfl, rfl⟩ := hp91
              exact absurd c93 (by decide)
            ·
              obtain ⟨c95, rfl⟩ := hp91
              refine lv_aload_n hx hb d_1_17_67 rfl (lv_at hl 0 rfl) ?_
              refine q_get (ci := 0) (j := 12) (v := .ref qO13) C0 V i_NH rfl rfl hO0 (by decide) w_436 rfl d_1_17_68 ?_
              refine lv_aload_n hx hb d_1_17_71 rfl (lv_at hl 0 rfl) ?_
              refine q_get (ci := 0) (j := 3) (v := .ref qA4) C0 V i_NH rfl rfl hO0 (by decide) w_427 rfl d_1_17_72 ?_
              refine lv_iload_n hx hb d_1_17_75 rfl (lv_at hl 2 rfl) ?_
              have r97 : x2.toNatClampNeg < 10 := (q_r10 (x := x2.toInt) rfl (by have t1 : 0 ≤ x2.toInt := q_nltI c19; have t2 : x2.toInt < 10 := q_nleI c20; omega) (by have t1 : 0 ≤ x2.toInt := q_nltI c19; have t2 : x2.toInt < 10 := q_nleI c20; omega))
              have hr98 : ws[68 + 5 * x2.toNatClampNeg]? = (some (qD x2.toNatClampNeg, .inr (3, [.ref (qDN x2.toNatClampNeg), .int 0, .int 1])) : Option (Nat × va_E)) := FD _ r97
              have hr99 : ws[69 + 5 * x2.toNatClampNeg]? = (some (qDN x2.toNatClampNeg, .inr (2, [.ref (qDL x2.toNatClampNeg), .int 0, .int 0])) : Option (Nat × va_E)) := FDN _ r97
              have hr100 : ws[70 + 5 * x2.toNatClampNeg]? = (some (qDL x2.toNatClampNeg, .inl (g 0, 108, .inl (fun _ => 0))) : Option (Nat × va_E)) := FDL _ r97
              have hh : x2.toNatClampNeg < 10 := (q_r10 (x := x2.toInt) rfl (by have t1 : 0 ≤ x2.toInt := q_nltI c19; have t2 : x2.toInt < 10 := q_nleI c20; omega) (by have t1 : 0 ≤ x2.toInt := q_nltI c19; have t2 : x2.toInt < 10 := q_nleI c20; omega))
              refine q_aald (t := 5) (q := qD x2.toNatClampNeg) C0 V hA4 rfl (q_ix (x := x2.toInt) rfl (by have t1 : 0 ≤ x2.toInt := q_nltI c19; have t2 : x2.toInt < 10 := q_nleI c20; omega) (by have t1 : 0 ≤ x2.toInt := q_nltI c19; have t2 : x2.toInt < 10 := q_nleI c20; omega)) (hfD _ hh) d_1_17_76 ?_
              refine lv_iload_n hx hb d_1_17_77 rfl (lv_at hl 3 rfl) ?_
              refine q_gov V (q_runV (As := [.ref (qD x2.toNatClampNeg), .int x3]) (rest := []) (d := 3) (mc := 0) (ms := 0) (ci := 9) C0 V rfl LV_NH_329 (c_Wri_decimalText l D g ws 39 (68 + 5 * x2.toNatClampNeg) 3 9 36 (69 + 5 * x2.toNatClampNeg) 4 10 (70 + 5 * x2.toNatClampNeg) 11 qO13 (qD x2.toNatClampNeg) qO2 qO7 qO11 (qDN x2.toNatClampNeg) qA16 qO17 qO18 qO19 qO20 qO21 qO22 qO23 qO24 qO25 qO26 qA28 (qDL x2.toNatClampNeg) qA35 x3 hO13 hr98 hO2 hO7 hO11 hr99 hA16 hO17 hr100 hA35 (q_f5 rfl) (q_f5 rfl) (q_pd 11 4 rfl) (q_f5 rfl) (q_Ile (x := 0) (y := x3.toInt) (by decide) rfl (by have t1 : 0 ≤ x3.toInt := q_nltI c77; have t2 : x3.toInt ≤ 2 := q_nltI c84; omega)) (q_Ile (x := x3.toInt) (y := 2) rfl (by decide) (by have t1 : 0 ≤ x3.toInt := q_nltI c77; have t2 : x3.toInt ≤ 2 := q_nltI c84; omega)) _) rfl rfl hO13 rfl hl.1 rfl (Nat.le_of_ble_eq_true rfl) ⟨by decide, by decide⟩ ⟨Nat.le_of_ble_eq_true rfl, Nat.le_of_ble_eq_true rfl⟩ d_1_17_78) (fun u102 H locs hp101 V => ?_)
              obtain ⟨hg103, hO2, hO11, hA16, hO17, hA35⟩ := hp101
              replace hF := q_gc hF hg103 (q_al (Nat.le_of_ble_eq_true rfl) (q_al (Nat.le_of_ble_eq_true rfl) (q_al (Nat.le_of_ble_eq_true rfl) (q_al (Nat.le_of_ble_eq_true rfl) (q_al (Nat.le_of_ble_eq_true rfl) (fun _ h => absurd h List.not_mem_nil))))))
              refine lv_goto (tgt := 130) hx hb d_1_17_81 (by decide) ?_
              refine lv_aload_n hx hb d_1_17_130 rfl (lv_at hl 0 rfl) ?_
              replace hO0 := (hg103 _ (q_nc (q_pd 0 3 rfl) (q_nc (q_pd 0 36 rfl) (q_nc (q_pd 0 4 rfl) (q_nc (q_pd 0 10 rfl) (q_nc (q_pd 0 11 rfl) List.not_mem_nil)))))).trans (hO0)
              refine q_get (ci := 0) (j := 1) (v := .ref qO2) C0 V i_NH rfl rfl hO0 (by decide) w_425 rfl d_1_17_131 ?_
              refine q_get (ci := 1) (j := 2) (v := .int 1) C0 V i_She rfl rfl hO2 (by decide) w_56 rfl d_1_17_134 ?_
              exact q_retX (q_reti C0 V (⟨(show ((0 ≤ x1.toInt ∧ x1.toInt ≤ 3) ∧ (0 ≤ x2.toInt ∧ x2.toInt ≤ 9) ∧ (x1.toInt = 0 → (2 ≤ x3.toInt ∧ x3.toInt ≤ 36)) ∧ (x1.toInt = 1 → (0 ≤ x3.toInt ∧ x3.toInt ≤ 2)) ∧ (2 ≤ x1.toInt → (0 ≤ x3.toInt ∧ x3.toInt ≤ 1))) ∧ ((x1.toInt ≤ 1 ∧ (1 : Int32).toInt = 1) ∨ (2 ≤ x1.toInt ∧ x3.toInt = 0 ∧ (1 : Int32).toInt = 3) ∨ (2 ≤ x1.toInt ∧ x3.toInt = 1 ∧ (1 : Int32).toInt = 7)) from by have t1 : 0 ≤ x1.toInt := q_nltI c17; have t2 : x1.toInt ≤ 3 := q_nltI c18; have t3 : 0 ≤ x2.toInt := q_nltI c19; have t4 : x2.toInt < 10 := q_nleI c20; have t5 : x1.toInt ≠ 0 := q_neI c22; have t6 : x1.toInt = 1 := q_eqI c23; have t7 : 0 ≤ x3.toInt := q_nltI c77; have t8 : x3.toInt ≤ 2 := q_nltI c84; have e0 : (1 : Int32).toInt = 1 := (by decide); omega), hF⟩) d_1_17_137)
    ·
      refine lv_iload_n hx hb d_1_17_9 rfl (lv_at hl 3 rfl) ?_
      refine lv_iconst (v := 2) hx hb d_1_17_10 (by decide) ?_
      refine lv_icmp_lt (tgt := 24) hx hb d_1_17_11 (by decide) (fun c104 => ?_) (fun c104 => ?_)
      ·
        refine lv_iconst (v := 0) hx hb d_1_17_24 (by decide) ?_
        refine q_goxv V (q_runSX (As := [.int 0]) (rest := []) (d := 7) (mc := 1) (ms := 6) C0 V rfl LS_NH_104 (c_NH_need l D g ws hlt 0 _) rfl hl.1 rfl (Nat.le_of_ble_eq_true rfl) ⟨by decide, by decide⟩ ⟨Nat.le_of_ble_eq_true rfl, Nat.le_of_ble_eq_true rfl⟩ d_1_17_25) (fun qx Ex ce u106 H locs hp105 V hce hcv hcl => ?_) (fun u106 H locs hp105 V => ?_)
        ·
          obtain ⟨c107, rfl, rfl⟩ := hp105
          exact q_outT hno C0 V (⟨⟨rfl, (show ¬ ((0 ≤ x1.toInt ∧ x1.toInt ≤ 3) ∧ (0 ≤ x2.toInt ∧ x2.toInt ≤ 9) ∧ (x1.toInt = 0 → (2 ≤ x3.toInt ∧ x3.toInt ≤ 36)) ∧ (x1.toInt = 1 → (0 ≤ x3.toInt ∧ x3.toInt ≤ 2)) ∧ (2 ≤ x1.toInt → (0 ≤ x3.toInt ∧ x3.toInt ≤ 1))) from by have t1 : 0 ≤ x1.toInt := q_nltI c17; have t2 : x1.toInt ≤ 3 := q_nltI c18; have t3 : 0 ≤ x2.toInt := q_nltI c19; have t4 : x2.toInt < 10 := q_nleI c20; have t5 : x1.toInt = 0 := q_eqI c22; have t6 : x3.toInt < 2 := q_ltI c104; omega)⟩, hF⟩) hce hcv hcl (Nat.le_of_ble_eq_true rfl) (Nat.le_of_ble_eq_true rfl)
        ·
          obtain ⟨c109, rfl⟩ := hp105
          exact absurd c109 (by decide)
      ·
        refine lv_iload_n hx hb d_1_17_14 rfl (lv_at hl 3 rfl) ?_
        refine lv_bipush (v := 36) hx hb d_1_17_15 (by decide) ?_
        refine lv_icmp_gt (tgt := 24) hx hb d_1_17_17 (by decide) (fun c111 => ?_) (fun c111 => ?_)
        ·
          refine lv_iconst (v := 0) hx hb d_1_17_24 (by decide) ?_
          refine q_goxv V (q_runSX (As := [.int 0]) (rest := []) (d := 7) (mc := 1) (ms := 6) C0 V rfl LS_NH_104 (c_NH_need l D g ws hlt 0 _) rfl hl.1 rfl (Nat.le_of_ble_eq_true rfl) ⟨by decide, by decide⟩ ⟨Nat.le_of_ble_eq_true rfl, Nat.le_of_ble_eq_true rfl⟩ d_1_17_25) (fun qx Ex ce u113 H locs hp112 V hce hcv hcl => ?_) (fun u113 H locs hp112 V => ?_)
          ·
            obtain ⟨c114, rfl, rfl⟩ := hp112
            exact q_outT hno C0 V (⟨⟨rfl, (show ¬ ((0 ≤ x1.toInt ∧ x1.toInt ≤ 3) ∧ (0 ≤ x2.toInt ∧ x2.toInt ≤ 9) ∧ (x1.toInt = 0 → (2 ≤ x3.toInt ∧ x3.toInt ≤ 36)) ∧ (x1.toInt = 1 → (0 ≤ x3.toInt ∧ x3.toInt ≤ 2)) ∧ (2 ≤ x1.toInt → (0 ≤ x3.toInt ∧ x3.toInt ≤ 1))) from by have t1 : 0 ≤ x1.toInt := q_nltI c17; have t2 : x1.toInt ≤ 3 := q_nltI c18; have t3 : 0 ≤ x2.toInt := q_nltI c19; have t4 : x2.toInt < 10 := q_nleI c20; have t5 : x1.toInt = 0 := q_eqI c22; have t6 : 2 ≤ x3.toInt := q_nltI c104; have t7 : 36 < x3.toInt := q_ltI c111; omega)⟩, hF⟩) hce hcv hcl (Nat.le_of_ble_eq_true rfl) (Nat.le_of_ble_eq_true rfl)
          ·
            obtain ⟨c116, rfl⟩ := hp112
            exact absurd c116 (by decide)
        ·
          refine lv_iconst (v := 1) hx hb d_1_17_20 (by decide) ?_
          refine lv_goto (tgt := 25) hx hb d_1_17_21 (by decide) ?_
          refine q_goxv V (q_runSX (As := [.int 1]) (rest := []) (d := 7) (mc := 1) (ms := 6) C0 V rfl LS_NH_104 (c_NH_need l D g ws hlt 1 _) rfl hl.1 rfl (Nat.le_of_ble_eq_true rfl) ⟨by decide, by decide⟩ ⟨Nat.le_of_ble_eq_true rfl, Nat.le_of_ble_eq_true rfl⟩ d_1_17_25) (fun qx Ex ce u119 H locs hp118 V hce hcv hcl => ?_) (fun u119 H locs hp118 V => ?_)
          ·
            obtain ⟨c120, rfl, rfl⟩ := hp118
            exact absurd c120 (by decide)
          ·
            obtain ⟨c122, rfl⟩ := hp118
            refine lv_aload_n hx hb d_1_17_28 rfl (lv_at hl 0 rfl) ?_
            refine q_get (ci := 0) (j := 12) (v := .ref qO13) C0 V i_NH rfl rfl hO0 (by decide) w_436 rfl d_1_17_29 ?_
            refine lv_aload_n hx hb d_1_17_32 rfl (lv_at hl 0 rfl) ?_
            refine q_get (ci := 0) (j := 2) (v := .ref qA3) C0 V i_NH rfl rfl hO0 (by decide) w_426 rfl d_1_17_33 ?_
            refine lv_iload_n hx hb d_1_17_36 rfl (lv_at hl 2 rfl) ?_
            have r124 : x2.toNatClampNeg < 10 := (q_r10 (x := x2.toInt) rfl (by have t1 : 0 ≤ x2.toInt := q_nltI c19; have t2 : x2.toInt < 10 := q_nleI c20; omega) (by have t1 : 0 ≤ x2.toInt := q_nltI c19; have t2 : x2.toInt < 10 := q_nleI c20; omega))
            have hr125 : ws[66 + 5 * x2.toNatClampNeg]? = (some (qW x2.toNatClampNeg, .inr (2, [.ref (qWL x2.toNatClampNeg), .int 0, .int 0])) : Option (Nat × va_E)) := FW _ r124
            have hr126 : ws[67 + 5 * x2.toNatClampNeg]? = (some (qWL x2.toNatClampNeg, .inl (g 0, 68, .inl (fun _ => 0))) : Option (Nat × va_E)) := FWL _ r124
            have hh : x2.toNatClampNeg < 10 := (q_r10 (x := x2.toInt) rfl (by have t1 : 0 ≤ x2.toInt := q_nltI c19; have t2 : x2.toInt < 10 := q_nleI c20; omega) (by have t1 : 0 ≤ x2.toInt := q_nltI c19; have t2 : x2.toInt < 10 := q_nleI c20; omega))
            refine q_aald (t := 4) (q := qW x2.toNatClampNeg) C0 V hA3 rfl (q_ix (x := x2.toInt) rfl (by have t1 : 0 ≤ x2.toInt := q_nltI c19; have t2 : x2.toInt < 10 := q_nleI c20; omega) (by have t1 : 0 ≤ x2.toInt := q_nltI c19; have t2 : x2.toInt < 10 := q_nleI c20; omega)) (hfW _ hh) d_1_17_37 ?_
            refine lv_iload_n hx hb d_1_17_38 rfl (lv_at hl 3 rfl) ?_
            refine q_gov V (q_runV (As := [.ref (qW x2.toNatClampNeg), .int x3]) (rest := []) (d := 3) (mc := 0) (ms := 0) (ci := 9) C0 V rfl LV_NH_327 (c_Wri_wholeText l D g ws 39 (66 + 5 * x2.toNatClampNeg) 3 9 (67 + 5 * x2.toNatClampNeg) 4 10 11 qO13 (qW x2.toNatClampNeg) qO2 qO7 qO11 (qWL x2.toNatClampNeg) qA16 qO17 qO18 qO19 qO20 qO21 qO22 qO23 qO24 qO25 qO26 qA35 x3 hO13 hr125 hO2 hO7 hr126 hA16 hO17 hA35 (q_pd 11 4 rfl) (q_f5 rfl) (q_f5 rfl) (q_f5 rfl) (q_Ile (x := 2) (y := x3.toInt) (by decide) rfl (by have t1 : 2 ≤ x3.toInt := q_nltI c104; have t2 : x3.toInt ≤ 36 := q_nltI c111; omega)) (q_Ile (x := x3.toInt) (y := 36) rfl (by decide) (by have t1 : 2 ≤ x3.toInt := q_nltI c104; have t2 : x3.toInt ≤ 36 := q_nltI c111; omega)) _) rfl rfl hO13 rfl hl.1 rfl (Nat.le_of_ble_eq_true rfl) ⟨by decide, by decide⟩ ⟨Nat.le_of_ble_eq_true rfl, Nat.le_of_ble_eq_true rfl⟩ d_1_17_39) (fun u128 H locs hp127 V => ?_)
            obtain ⟨hg129, hO2, hA16, hO17, hA35⟩ := hp127
            replace hF := q_gc hF hg129 (q_al (Nat.le_of_ble_eq_true rfl) (q_al (Nat.le_of_ble_eq_true rfl) (q_al (Nat.le_of_ble_eq_true rfl) (q_al (Nat.le_of_ble_eq_true rfl) (fun _ h => absurd h List.not_mem_nil)))))
            refine lv_goto (tgt := 130) hx hb d_1_17_42 (by decide) ?_
            refine lv_aload_n hx hb d_1_17_130 rfl (lv_at hl 0 rfl) ?_
            replace hO0 := (hg129 _ (q_nc (q_pd 0 3 rfl) (q_nc (q_pd 0 4 rfl) (q_nc (q_pd 0 10 rfl) (q_nc (q_pd 0 11 rfl) List.not_mem_nil))))).trans (hO0)
            refine q_get (ci := 0) (j := 1) (v := .ref qO2) C0 V i_NH rfl rfl hO0 (by decide) w_425 rfl d_1_17_131 ?_
            refine q_get (ci := 1) (j := 2) (v := .int 1) C0 V i_She rfl rfl hO2 (by decide) w_56 rfl d_1_17_134 ?_
            exact q_retX (q_reti C0 V (⟨(show ((0 ≤ x1.toInt ∧ x1.toInt ≤ 3) ∧ (0 ≤ x2.toInt ∧ x2.toInt ≤ 9) ∧ (x1.toInt = 0 → (2 ≤ x3.toInt ∧ x3.toInt ≤ 36)) ∧ (x1.toInt = 1 → (0 ≤ x3.toInt ∧ x3.toInt ≤ 2)) ∧ (2 ≤ x1.toInt → (0 ≤ x3.toInt ∧ x3.toInt ≤ 1))) ∧ ((x1.toInt ≤ 1 ∧ (1 : Int32).toInt = 1) ∨ (2 ≤ x1.toInt ∧ x3.toInt = 0 ∧ (1 : Int32).toInt = 3) ∨ (2 ≤ x1.toInt ∧ x3.toInt = 1 ∧ (1 : Int32).toInt = 7)) from by have t1 : 0 ≤ x1.toInt := q_nltI c17; have t2 : x1.toInt ≤ 3 := q_nltI c18; have t3 : 0 ≤ x2.toInt := q_nltI c19; have t4 : x2.toInt < 10 := q_nleI c20; have t5 : x1.toInt = 0 := q_eqI c22; have t6 : 2 ≤ x3.toInt := q_nltI c104; have t7 : x3.toInt ≤ 36 := q_nltI c111; have e0 : (1 : Int32).toInt = 1 := (by decide); omega), hF⟩) d_1_17_137)
