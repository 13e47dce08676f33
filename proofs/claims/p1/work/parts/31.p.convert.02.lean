set_option maxRecDepth 100000 in
set_option maxHeartbeats 4000000 in
theorem c_DR_at (l : Launch) (D : va_G) (g : Nat → ClassId) (ws : va_W) (kO0 kA1 qO0 qA1 qA2 qA3 qA4 qA5 qA6 qA7 qA8 qA9 qA10 : Nat) (hO0 : ws[kO0]? = (some (qO0, .inr (14, [.int 0, .ref qA1, .int 1, .ref qA2, .ref qA3, .ref qA4, .ref qA5, .ref qA6, .int 0, .long 0, .int 0, .int 0, .ref qA7, .int 0, .ref qA8, .int 0, .ref qA9, .int 0, .ref qA10, .int 0, .int 0])) : Option (Nat × va_E))) (hA1 : ws[kA1]? = (some (qA1, .inl (g 0, 4100, .inl (q_fil (upd (upd (fun _ => 0) 0 48) 1 46) 2 48 1076))) : Option (Nat × va_E))) : q_mI l y_DR_at prog_15_method_18_code 2 (.int) 1 0 0 D g [.ref qO0, .int 0] ws (fun r u => 48 = r ∧ ws = u) := by
  intro sz
  refine q_into (by decide) (Nat.le_of_ble_eq_true rfl) ?_
  intro p e s m below meth c ls hsz C0 V hl
  have hx := C0.1
  have hb := C0.2.1
  have hl : lv_has ls 2 [(0, .ref qO0), (1, .int 0)] := hl
  refine lv_iload_n hx hb d_15_18_0 rfl (lv_at hl 1 rfl) ?_
  refine lv_aload_n hx hb d_15_18_1 rfl (lv_at hl 0 rfl) ?_
  refine q_get (ci := 14) (j := 2) (v := .int 1) C0 V i_DR rfl rfl hO0 (by decide) w_2001 rfl d_15_18_2 ?_
  refine lv_icmp_ge (tgt := 17) hx hb d_15_18_5 (by decide) (fun c1 => absurd c1 (by decide)) (fun c1 => ?_)
  refine lv_aload_n hx hb d_15_18_8 rfl (lv_at hl 0 rfl) ?_
  refine q_get (ci := 14) (j := 1) (v := .ref qA1) C0 V i_DR rfl rfl hO0 (by decide) w_1998 rfl d_15_18_9 ?_
  refine lv_iload_n hx hb d_15_18_12 rfl (lv_at hl 1 rfl) ?_
  refine q_iald C0 V hA1 (by unfold vp_in; decide) d_15_18_13 ?_
  refine q_ti (v := 48) (by first | rfl | decide | simp [upd, vp_updL, sb_cl0]) ?_
  refine lv_goto (tgt := 18) hx hb d_15_18_14 (by decide) ?_
  exact q_reti C0 V (⟨rfl, rfl⟩) d_15_18_18
theorem d_15_19_0 : decode prog_15_method_19_code 0 = .ok (.iload_n 0, 1) := by decide +kernel
theorem d_15_19_1 : decode prog_15_method_19_code 1 = .ok (.bipush 48, 2) := by decide +kernel
theorem d_15_19_3 : decode prog_15_method_19_code 3 = .ok (.if_icmp .lt 13, 3) := by decide +kernel
theorem d_15_19_6 : decode prog_15_method_19_code 6 = .ok (.iload_n 0, 1) := by decide +kernel
theorem d_15_19_7 : decode prog_15_method_19_code 7 = .ok (.bipush 57, 2) := by decide +kernel
theorem d_15_19_9 : decode prog_15_method_19_code 9 = .ok (.if_icmp .gt 7, 3) := by decide +kernel
theorem d_15_19_12 : decode prog_15_method_19_code 12 = .ok (.iconst 1, 1) := by decide +kernel
theorem d_15_19_13 : decode prog_15_method_19_code 13 = .ok (.goto 4, 3) := by decide +kernel
theorem d_15_19_17 : decode prog_15_method_19_code 17 = .ok (.ireturn, 1) := by decide +kernel
def y_DR_isDigit : MethodName := ⟨"NumberHouseModel$DecimalRows", "isDigit", "(I)Z"⟩
set_option maxRecDepth 100000 in
set_option maxHeartbeats 4000000 in
theorem c_DR_isDigit (l : Launch) (D : va_G) (g : Nat → ClassId) (ws : va_W) : q_mI l y_DR_isDigit prog_15_method_19_code 1 (.boolean) 1 0 0 D g [.int 48] ws (fun r u => 1 = r ∧ ws = u) := by
  intro sz
  refine q_into (by decide) (Nat.le_of_ble_eq_true rfl) ?_
  intro p e s m below meth c ls hsz C0 V hl
  have hx := C0.1
  have hb := C0.2.1
  have hl : lv_has ls 1 [(0, .int 48)] := hl
  refine lv_iload_n hx hb d_15_19_0 rfl (lv_at hl 0 rfl) ?_
  refine lv_bipush (v := 48) hx hb d_15_19_1 (by decide) ?_
  refine lv_icmp_lt (tgt := 16) hx hb d_15_19_3 (by decide) (fun c1 => absurd c1 (by decide)) (fun c1 => ?_)
  refine lv_iload_n hx hb d_15_19_6 rfl (lv_at hl 0 rfl) ?_
  refine lv_bipush (v := 57) hx hb d_15_19_7 (by decide) ?_
  refine lv_icmp_gt (tgt := 16) hx hb d_15_19_9 (by decide) (fun c2 => absurd c2 (by decide)) (fun c2 => ?_)
  refine lv_iconst (v := 1) hx hb d_15_19_12 (by decide) ?_
  refine lv_goto (tgt := 17) hx hb d_15_19_13 (by decide) ?_
  exact q_retz C0 V (rfl) (⟨rfl, rfl⟩) d_15_19_17
theorem d_15_18_17 : decode prog_15_method_18_code 17 = .ok (.iconst 0, 1) := by decide +kernel
set_option maxRecDepth 100000 in
set_option maxHeartbeats 4000000 in
theorem c_DR_at_3 (l : Launch) (D : va_G) (g : Nat → ClassId) (ws : va_W) (kO0 qO0 qA1 qA2 qA3 qA4 qA5 qA6 qA7 qA8 qA9 qA10 : Nat) (hO0 : ws[kO0]? = (some (qO0, .inr (14, [.int 0, .ref qA1, .int 1, .ref qA2, .ref qA3, .ref qA4, .ref qA5, .ref qA6, .int 1, .long 0, .int 0, .int 0, .ref qA7, .int 0, .ref qA8, .int 0, .ref qA9, .int 0, .ref qA10, .int 0, .int 0])) : Option (Nat × va_E))) : q_mI l y_DR_at prog_15_method_18_code 2 (.int) 1 0 0 D g [.ref qO0, .int 1] ws (fun r u => 0 = r ∧ ws = u) := by
  intro sz
  refine q_into (by decide) (Nat.le_of_ble_eq_true rfl) ?_
  intro p e s m below meth c ls hsz C0 V hl
  have hx := C0.1
  have hb := C0.2.1
  have hl : lv_has ls 2 [(0, .ref qO0), (1, .int 1)] := hl
  refine lv_iload_n hx hb d_15_18_0 rfl (lv_at hl 1 rfl) ?_
  refine lv_aload_n hx hb d_15_18_1 rfl (lv_at hl 0 rfl) ?_
  refine q_get (ci := 14) (j := 2) (v := .int 1) C0 V i_DR rfl rfl hO0 (by decide) w_2001 rfl d_15_18_2 ?_
  refine lv_icmp_ge (tgt := 17) hx hb d_15_18_5 (by decide) (fun c1 => ?_) (fun c1 => absurd (by decide) c1)
  refine lv_iconst (v := 0) hx hb d_15_18_17 (by decide) ?_
  exact q_reti C0 V (⟨rfl, rfl⟩) d_15_18_18
theorem d_15_19_16 : decode prog_15_method_19_code 16 = .ok (.iconst 0, 1) := by decide +kernel
set_option maxRecDepth 100000 in
set_option maxHeartbeats 4000000 in
theorem c_DR_isDigit_2 (l : Launch) (D : va_G) (g : Nat → ClassId) (ws : va_W) : q_mI l y_DR_isDigit prog_15_method_19_code 1 (.boolean) 1 0 0 D g [.int 0] ws (fun r u => 0 = r ∧ ws = u) := by
  intro sz
  refine q_into (by decide) (Nat.le_of_ble_eq_true rfl) ?_
  intro p e s m below meth c ls hsz C0 V hl
  have hx := C0.1
  have hb := C0.2.1
  have hl : lv_has ls 1 [(0, .int 0)] := hl
  refine lv_iload_n hx hb d_15_19_0 rfl (lv_at hl 0 rfl) ?_
  refine lv_bipush (v := 48) hx hb d_15_19_1 (by decide) ?_
  refine lv_icmp_lt (tgt := 16) hx hb d_15_19_3 (by decide) (fun c1 => ?_) (fun c1 => absurd (by decide) c1)
  refine lv_iconst (v := 0) hx hb d_15_19_16 (by decide) ?_
  exact q_retz C0 V (rfl) (⟨rfl, rfl⟩) d_15_19_17
theorem d_15_20_0 : decode prog_15_method_20_code 0 = .ok (.aload_n 0, 1) := by decide +kernel
theorem d_15_20_1 : decode prog_15_method_20_code 1 = .ok (.iconst 0, 1) := by decide +kernel
theorem d_15_20_2 : decode prog_15_method_20_code 2 = .ok (.invokevirtual 102, 3) := by decide +kernel
theorem w_2403 : (Cond.code ({ cls := "NumberHouseModel$DecimalRows", name := "at", desc := "(I)I" } : MethodName) prog_15_method_18_code (2 : Nat) (some .int)) ∈ q_tbl := q_of 2403 (by decide +kernel) (by decide +kernel)
theorem w_2400 : (Cond.methodLink "NumberHouseModel$DecimalRows" (102 : Nat) ({ cls := "NumberHouseModel$DecimalRows", name := "at", desc := "(I)I" } : MethodName)) ∈ q_tbl := q_of 2400 (by decide +kernel) (by decide +kernel)
theorem w_2402 : (Cond.instanceMethod ({ cls := "NumberHouseModel$DecimalRows", name := "at", desc := "(I)I" } : MethodName)) ∈ q_tbl := q_of 2402 (by decide +kernel) (by decide +kernel)
theorem ws_62 : Cond.selects "NumberHouseModel$DecimalRows" (⟨"NumberHouseModel$DecimalRows", "at", "(I)I"⟩ : MethodName) (⟨"NumberHouseModel$DecimalRows", "at", "(I)I"⟩ : MethodName) ∈ q_tbl := q_ofs 62 (by decide +kernel) (by decide +kernel)
theorem LV_DR_102 : q_LV "NumberHouseModel$DecimalRows" 102 y_DR_at prog_15_method_18_code 2 (some .int) 1 := ⟨w_2403, w_16, w_2400, w_2402, ws_62, ⟨by decide, by decide, by decide +kernel⟩⟩
theorem d_15_20_5 : decode prog_15_method_20_code 5 = .ok (.bipush 43, 2) := by decide +kernel
theorem d_15_20_7 : decode prog_15_method_20_code 7 = .ok (.if_icmp .eq 13, 3) := by decide +kernel
theorem d_15_20_10 : decode prog_15_method_20_code 10 = .ok (.aload_n 0, 1) := by decide +kernel
theorem d_15_20_11 : decode prog_15_method_20_code 11 = .ok (.iconst 0, 1) := by decide +kernel
theorem d_15_20_12 : decode prog_15_method_20_code 12 = .ok (.invokevirtual 102, 3) := by decide +kernel
theorem d_15_20_15 : decode prog_15_method_20_code 15 = .ok (.bipush 45, 2) := by decide +kernel
theorem d_15_20_17 : decode prog_15_method_20_code 17 = .ok (.if_icmp .ne 7, 3) := by decide +kernel
theorem d_15_20_24 : decode prog_15_method_20_code 24 = .ok (.iconst 0, 1) := by decide +kernel
theorem d_15_20_25 : decode prog_15_method_20_code 25 = .ok (.istore_n 1, 1) := by decide +kernel
theorem d_15_20_26 : decode prog_15_method_20_code 26 = .ok (.aload_n 0, 1) := by decide +kernel
theorem d_15_20_27 : decode prog_15_method_20_code 27 = .ok (.aload_n 0, 1) := by decide +kernel
theorem d_15_20_28 : decode prog_15_method_20_code 28 = .ok (.iconst 0, 1) := by decide +kernel
theorem d_15_20_29 : decode prog_15_method_20_code 29 = .ok (.invokevirtual 102, 3) := by decide +kernel
theorem d_15_20_32 : decode prog_15_method_20_code 32 = .ok (.bipush 45, 2) := by decide +kernel
theorem d_15_20_34 : decode prog_15_method_20_code 34 = .ok (.if_icmp .ne 7, 3) := by decide +kernel
theorem d_15_20_41 : decode prog_15_method_20_code 41 = .ok (.iconst 0, 1) := by decide +kernel
theorem d_15_20_42 : decode prog_15_method_20_code 42 = .ok (.putfield 56, 3) := by decide +kernel
theorem d_15_20_45 : decode prog_15_method_20_code 45 = .ok (.aload_n 0, 1) := by decide +kernel
theorem d_15_20_46 : decode prog_15_method_20_code 46 = .ok (.iconst 0, 1) := by decide +kernel
theorem d_15_20_47 : decode prog_15_method_20_code 47 = .ok (.putfield 45, 3) := by decide +kernel
theorem d_15_20_50 : decode prog_15_method_20_code 50 = .ok (.aload_n 0, 1) := by decide +kernel
theorem d_15_20_51 : decode prog_15_method_20_code 51 = .ok (.lconst 0, 1) := by decide +kernel
theorem d_15_20_52 : decode prog_15_method_20_code 52 = .ok (.putfield 48, 3) := by decide +kernel
theorem d_15_20_55 : decode prog_15_method_20_code 55 = .ok (.aload_n 0, 1) := by decide +kernel
theorem d_15_20_56 : decode prog_15_method_20_code 56 = .ok (.iconst 0, 1) := by decide +kernel
theorem d_15_20_57 : decode prog_15_method_20_code 57 = .ok (.putfield 52, 3) := by decide +kernel
theorem d_15_20_60 : decode prog_15_method_20_code 60 = .ok (.iconst 0, 1) := by decide +kernel
theorem d_15_20_61 : decode prog_15_method_20_code 61 = .ok (.istore_n 2, 1) := by decide +kernel
theorem d_15_20_62 : decode prog_15_method_20_code 62 = .ok (.aload_n 0, 1) := by decide +kernel
theorem d_15_20_63 : decode prog_15_method_20_code 63 = .ok (.iload_n 1, 1) := by decide +kernel
theorem d_15_20_64 : decode prog_15_method_20_code 64 = .ok (.invokevirtual 102, 3) := by decide +kernel
theorem d_15_20_67 : decode prog_15_method_20_code 67 = .ok (.invokestatic 106, 3) := by decide +kernel
theorem w_2406 : (Cond.code ({ cls := "NumberHouseModel$DecimalRows", name := "isDigit", desc := "(I)Z" } : MethodName) prog_15_method_19_code (1 : Nat) (some .boolean)) ∈ q_tbl := q_of 2406 (by decide +kernel) (by decide +kernel)
theorem w_2404 : (Cond.methodLink "NumberHouseModel$DecimalRows" (106 : Nat) ({ cls := "NumberHouseModel$DecimalRows", name := "isDigit", desc := "(I)Z" } : MethodName)) ∈ q_tbl := q_of 2404 (by decide +kernel) (by decide +kernel)
theorem w_2405 : (Cond.static ({ cls := "NumberHouseModel$DecimalRows", name := "isDigit", desc := "(I)Z" } : MethodName)) ∈ q_tbl := q_of 2405 (by decide +kernel) (by decide +kernel)
theorem LS_DR_106 : q_LS "NumberHouseModel$DecimalRows" 106 y_DR_isDigit prog_15_method_19_code 1 (some .boolean) 1 := ⟨w_2406, w_16, w_2404, w_2405, ⟨by decide, by decide, by decide +kernel⟩⟩
theorem d_15_20_70 : decode prog_15_method_20_code 70 = .ok (.ifCond .ne 17, 3) := by decide +kernel
theorem d_15_20_87 : decode prog_15_method_20_code 87 = .ok (.iload_n 2, 1) := by decide +kernel
theorem d_15_20_88 : decode prog_15_method_20_code 88 = .ok (.ifCond .ne 13, 3) := by decide +kernel
theorem d_15_20_91 : decode prog_15_method_20_code 91 = .ok (.aload_n 0, 1) := by decide +kernel
theorem d_15_20_92 : decode prog_15_method_20_code 92 = .ok (.iload_n 1, 1) := by decide +kernel
theorem d_15_20_93 : decode prog_15_method_20_code 93 = .ok (.invokevirtual 102, 3) := by decide +kernel
theorem d_15_20_96 : decode prog_15_method_20_code 96 = .ok (.bipush 46, 2) := by decide +kernel
theorem d_15_20_98 : decode prog_15_method_20_code 98 = .ok (.if_icmp .ne 7, 3) := by decide +kernel
theorem d_15_20_105 : decode prog_15_method_20_code 105 = .ok (.iconst 0, 1) := by decide +kernel
theorem d_15_20_106 : decode prog_15_method_20_code 106 = .ok (.istore_n 2, 1) := by decide +kernel
theorem d_15_20_107 : decode prog_15_method_20_code 107 = .ok (.aload_n 0, 1) := by decide +kernel
theorem d_15_20_108 : decode prog_15_method_20_code 108 = .ok (.iload_n 1, 1) := by decide +kernel
theorem d_15_20_109 : decode prog_15_method_20_code 109 = .ok (.invokevirtual 102, 3) := by decide +kernel
theorem d_15_20_112 : decode prog_15_method_20_code 112 = .ok (.bipush 46, 2) := by decide +kernel
theorem d_15_20_114 : decode prog_15_method_20_code 114 = .ok (.if_icmp .eq 51, 3) := by decide +kernel
theorem d_15_20_117 : decode prog_15_method_20_code 117 = .ok (.aload_n 0, 1) := by decide +kernel
theorem d_15_20_118 : decode prog_15_method_20_code 118 = .ok (.getfield 26, 3) := by decide +kernel
theorem d_15_20_121 : decode prog_15_method_20_code 121 = .ok (.aload_n 0, 1) := by decide +kernel
theorem d_15_20_122 : decode prog_15_method_20_code 122 = .ok (.getfield 45, 3) := by decide +kernel
theorem d_15_20_125 : decode prog_15_method_20_code 125 = .ok (.aload_n 0, 1) := by decide +kernel
theorem d_15_20_126 : decode prog_15_method_20_code 126 = .ok (.iload_n 1, 1) := by decide +kernel
theorem d_15_20_127 : decode prog_15_method_20_code 127 = .ok (.invokevirtual 102, 3) := by decide +kernel
theorem d_15_20_130 : decode prog_15_method_20_code 130 = .ok (.bipush 48, 2) := by decide +kernel
theorem d_15_20_132 : decode prog_15_method_20_code 132 = .ok (.isub, 1) := by decide +kernel
theorem d_15_20_133 : decode prog_15_method_20_code 133 = .ok (.iastore, 1) := by decide +kernel
theorem d_15_20_134 : decode prog_15_method_20_code 134 = .ok (.aload_n 0, 1) := by decide +kernel
theorem d_15_20_135 : decode prog_15_method_20_code 135 = .ok (.dup, 1) := by decide +kernel
theorem d_15_20_136 : decode prog_15_method_20_code 136 = .ok (.getfield 45, 3) := by decide +kernel
theorem d_15_20_139 : decode prog_15_method_20_code 139 = .ok (.iconst 1, 1) := by decide +kernel
theorem d_15_20_140 : decode prog_15_method_20_code 140 = .ok (.iadd, 1) := by decide +kernel
theorem d_15_20_141 : decode prog_15_method_20_code 141 = .ok (.putfield 45, 3) := by decide +kernel
theorem d_15_20_144 : decode prog_15_method_20_code 144 = .ok (.aload_n 0, 1) := by decide +kernel
theorem d_15_20_145 : decode prog_15_method_20_code 145 = .ok (.iload_n 2, 1) := by decide +kernel
theorem d_15_20_146 : decode prog_15_method_20_code 146 = .ok (.ifCond .eq 12, 3) := by decide +kernel
theorem d_15_20_158 : decode prog_15_method_20_code 158 = .ok (.aload_n 0, 1) := by decide +kernel
theorem d_15_20_159 : decode prog_15_method_20_code 159 = .ok (.getfield 48, 3) := by decide +kernel
theorem d_15_20_162 : decode prog_15_method_20_code 162 = .ok (.putfield 48, 3) := by decide +kernel
theorem d_15_20_165 : decode prog_15_method_20_code 165 = .ok (.iinc 1 1, 3) := by decide +kernel
theorem d_15_20_168 : decode prog_15_method_20_code 168 = .ok (.goto (-106), 3) := by decide +kernel
theorem d_15_20_73 : decode prog_15_method_20_code 73 = .ok (.aload_n 0, 1) := by decide +kernel
theorem d_15_20_74 : decode prog_15_method_20_code 74 = .ok (.iload_n 1, 1) := by decide +kernel
theorem d_15_20_75 : decode prog_15_method_20_code 75 = .ok (.invokevirtual 102, 3) := by decide +kernel
theorem d_15_20_78 : decode prog_15_method_20_code 78 = .ok (.bipush 46, 2) := by decide +kernel
theorem d_15_20_80 : decode prog_15_method_20_code 80 = .ok (.if_icmp .ne 91, 3) := by decide +kernel
theorem d_15_20_171 : decode prog_15_method_20_code 171 = .ok (.aload_n 0, 1) := by decide +kernel
theorem d_15_20_172 : decode prog_15_method_20_code 172 = .ok (.getfield 45, 3) := by decide +kernel
theorem d_15_20_175 : decode prog_15_method_20_code 175 = .ok (.ifCond .ne 5, 3) := by decide +kernel
theorem d_15_20_180 : decode prog_15_method_20_code 180 = .ok (.aload_n 0, 1) := by decide +kernel
theorem d_15_20_181 : decode prog_15_method_20_code 181 = .ok (.iload_n 1, 1) := by decide +kernel
theorem d_15_20_182 : decode prog_15_method_20_code 182 = .ok (.invokevirtual 102, 3) := by decide +kernel
theorem d_15_20_185 : decode prog_15_method_20_code 185 = .ok (.bipush 101, 2) := by decide +kernel
theorem d_15_20_187 : decode prog_15_method_20_code 187 = .ok (.if_icmp .eq 13, 3) := by decide +kernel
theorem d_15_20_190 : decode prog_15_method_20_code 190 = .ok (.aload_n 0, 1) := by decide +kernel
theorem d_15_20_191 : decode prog_15_method_20_code 191 = .ok (.iload_n 1, 1) := by decide +kernel
theorem d_15_20_192 : decode prog_15_method_20_code 192 = .ok (.invokevirtual 102, 3) := by decide +kernel
theorem d_15_20_195 : decode prog_15_method_20_code 195 = .ok (.bipush 69, 2) := by decide +kernel
theorem d_15_20_197 : decode prog_15_method_20_code 197 = .ok (.if_icmp .ne 136, 3) := by decide +kernel
theorem d_15_20_333 : decode prog_15_method_20_code 333 = .ok (.iload_n 1, 1) := by decide +kernel
theorem d_15_20_334 : decode prog_15_method_20_code 334 = .ok (.aload_n 0, 1) := by decide +kernel
theorem d_15_20_335 : decode prog_15_method_20_code 335 = .ok (.getfield 99, 3) := by decide +kernel
theorem d_15_20_338 : decode prog_15_method_20_code 338 = .ok (.if_icmp .ne 7, 3) := by decide +kernel
theorem d_15_20_341 : decode prog_15_method_20_code 341 = .ok (.iconst 1, 1) := by decide +kernel
theorem d_15_20_342 : decode prog_15_method_20_code 342 = .ok (.goto 4, 3) := by decide +kernel
theorem d_15_20_346 : decode prog_15_method_20_code 346 = .ok (.ireturn, 1) := by decide +kernel
def y_DR_says : MethodName := ⟨"NumberHouseModel$DecimalRows", "says", "()Z"⟩
set_option maxRecDepth 100000 in
set_option maxHeartbeats 4000000 in
theorem c_DR_says (l : Launch) (D : va_G) (g : Nat → ClassId) (ws : va_W) (kO0 kA1 kA6 qO0 qA1 qA2 qA3 qA4 qA5 qA6 qA7 qA8 qA9 qA10 : Nat) (hO0 : ws[kO0]? = (some (qO0, .inr (14, [.int 0, .ref qA1, .int 1, .ref qA2, .ref qA3, .ref qA4, .ref qA5, .ref qA6, .int 0, .long 0, .int 0, .int 0, .ref qA7, .int 0, .ref qA8, .int 0, .ref qA9, .int 0, .ref qA10, .int 0, .int 0])) : Option (Nat × va_E))) (hA1 : ws[kA1]? = (some (qA1, .inl (g 0, 4100, .inl (q_fil (upd (upd (fun _ => 0) 0 48) 1 46) 2 48 1076))) : Option (Nat × va_E))) (hA6 : ws[kA6]? = (some (qA6, .inl (g 0, 4400, .inl (fun _ => 0))) : Option (Nat × va_E))) (n_A1_A6 : kA1 ≠ kA6) : q_mI l y_DR_says prog_15_method_20_code 7 (.boolean) 2 0 0 D g [.ref qO0] ws (fun r u => 1 = r ∧ q_un ws u [kO0, kA6] ∧ u[kO0]? = (some (qO0, .inr (14, [.int 0, .ref qA1, .int 1, .ref qA2, .ref qA3, .ref qA4, .ref qA5, .ref qA6, .int 1, .long 0, .int 0, .int 0, .ref qA7, .int 0, .ref qA8, .int 0, .ref qA9, .int 0, .ref qA10, .int 0, .int 0])) : Option (Nat × va_E)) ∧ u[kA6]? = (some (qA6, .inl (g 0, 4400, .inl (fun _ => 0))) : Option (Nat × va_E))) := by
  intro sz
  refine q_into (by decide) (Nat.le_of_ble_eq_true rfl) ?_
  intro p e s m below meth c ls hsz C0 V hl
  have hx := C0.1
  have hb := C0.2.1
  have hl : lv_has ls 7 [(0, .ref qO0)] := hl
  have n_A1_O0 := q_df hA1 hO0
  have n_A6_O0 := q_df hA6 hO0
  have n_O0_A6 := Ne.symm (q_df hA6 hO0)
  have hF : q_un ws ws [kO0, kA6] := q_u0
  refine lv_aload_n hx hb d_15_20_0 rfl (lv_at hl 0 rfl) ?_
  refine lv_iconst (v := 0) hx hb d_15_20_1 (by decide) ?_
  refine q_goi V (q_runV (As := [.int 0]) (rest := []) (d := 1) (mc := 0) (ms := 0) (ci := 14) C0 V rfl LV_DR_102 (c_DR_at l D g ws kO0 kA1 qO0 qA1 qA2 qA3 qA4 qA5 qA6 qA7 qA8 qA9 qA10 hO0 hA1 _) rfl rfl hO0 rfl hl.1 rfl (Nat.le_of_ble_eq_true rfl) ⟨by decide, by decide⟩ ⟨Nat.le_of_ble_eq_true rfl, Nat.le_of_ble_eq_true rfl⟩ d_15_20_2) (fun v3 u2 H locs hp1 V => ?_)
  obtain ⟨rfl, rfl⟩ := hp1
  refine lv_bipush (v := 43) hx hb d_15_20_5 (by decide) ?_
  refine lv_icmp_eq (tgt := 20) hx hb d_15_20_7 (by decide) (fun c5 => absurd c5 (by decide)) (fun c5 => ?_)
  refine lv_aload_n hx hb d_15_20_10 rfl (lv_at hl 0 rfl) ?_
  refine lv_iconst (v := 0) hx hb d_15_20_11 (by decide) ?_
  refine q_goi V (q_runV (As := [.int 0]) (rest := []) (d := 1) (mc := 0) (ms := 0) (ci := 14) C0 V rfl LV_DR_102 (c_DR_at l D g ws kO0 kA1 qO0 qA1 qA2 qA3 qA4 qA5 qA6 qA7 qA8 qA9 qA10 hO0 hA1 _) rfl rfl hO0 rfl hl.1 rfl (Nat.le_of_ble_eq_true rfl) ⟨by decide, by decide⟩ ⟨Nat.le_of_ble_eq_true rfl, Nat.le_of_ble_eq_true rfl⟩ d_15_20_12) (fun v8 u7 H locs hp6 V => ?_)
  obtain ⟨rfl, rfl⟩ := hp6
  refine lv_bipush (v := 45) hx hb d_15_20_15 (by decide) ?_
  refine lv_icmp_ne (tgt := 24) hx hb d_15_20_17 (by decide) (fun c10 => ?_) (fun c10 => absurd c10 (by decide))
  refine lv_iconst (v := 0) hx hb d_15_20_24 (by decide) ?_
  refine lv_istore_n (lv' := [(1, .int 0), (0, .ref qO0)]) hx hb d_15_20_25 rfl hl (by decide) rfl (fun ls hl => ?_)
  refine lv_aload_n hx hb d_15_20_26 rfl (lv_at hl 1 rfl) ?_
  refine lv_aload_n hx hb d_15_20_27 rfl (lv_at hl 1 rfl) ?_
  refine lv_iconst (v := 0) hx hb d_15_20_28 (by decide) ?_
  refine q_goi V (q_runV (As := [.int 0]) (rest := [.ref qO0]) (d := 1) (mc := 0) (ms := 0) (ci := 14) C0 V rfl LV_DR_102 (c_DR_at l D g ws kO0 kA1 qO0 qA1 qA2 qA3 qA4 qA5 qA6 qA7 qA8 qA9 qA10 hO0 hA1 _) rfl rfl hO0 rfl hl.1 rfl (Nat.le_of_ble_eq_true rfl) ⟨by decide, by decide⟩ ⟨Nat.le_of_ble_eq_true rfl, Nat.le_of_ble_eq_true rfl⟩ d_15_20_29) (fun v13 u12 H locs hp11 V => ?_)
  obtain ⟨rfl, rfl⟩ := hp11
  refine lv_bipush (v := 45) hx hb d_15_20_32 (by decide) ?_
  refine lv_icmp_ne (tgt := 41) hx hb d_15_20_34 (by decide) (fun c15 => ?_) (fun c15 => absurd c15 (by decide))
  refine lv_iconst (v := 0) hx hb d_15_20_41 (by decide) ?_
  refine q_put (ci := 14) (j := 11) (v := .int 0) (ty := .boolean) C0 V i_DR o_DR n_DR rfl rfl hO0 (by decide) w_2014 rfl rfl rfl rfl (Nat.le_of_ble_eq_true rfl) d_15_20_42 (fun H locs w16 hu17 hO0 V => ?_)
  replace hO0 : w16[kO0]? = (some (qO0, .inr (14, [.int 0, .ref qA1, .int 1, .ref qA2, .ref qA3, .ref qA4, .ref qA5, .ref qA6, .int 0, .long 0, .int 0, .int 0, .ref qA7, .int 0, .ref qA8, .int 0, .ref qA9, .int 0, .ref qA10, .int 0, .int 0])) : Option (Nat × va_E)) := hO0
  replace hF := q_us hF hu17 (.head _)
  refine lv_aload_n hx hb d_15_20_45 rfl (lv_at hl 1 rfl) ?_
  refine lv_iconst (v := 0) hx hb d_15_20_46 (by decide) ?_
  refine q_put (ci := 14) (j := 8) (v := .int 0) (ty := .int) C0 V i_DR o_DR n_DR rfl rfl hO0 (by decide) w_2011 rfl rfl rfl rfl (Nat.le_of_ble_eq_true rfl) d_15_20_47 (fun H locs w18 hu19 hO0 V => ?_)
  replace hO0 : w18[kO0]? = (some (qO0, .inr (14, [.int 0, .ref qA1, .int 1, .ref qA2, .ref qA3, .ref qA4, .ref qA5, .ref qA6, .int 0, .long 0, .int 0, .int 0, .ref qA7, .int 0, .ref qA8, .int 0, .ref qA9, .int 0, .ref qA10, .int 0, .int 0])) : Option (Nat × va_E)) := hO0
  replace hF := q_us hF hu19 (.head _)
  refine lv_aload_n hx hb d_15_20_50 rfl (lv_at hl 1 rfl) ?_
  refine lv_lconst (v := 0) hx hb d_15_20_51 (by decide) ?_
  refine q_put (ci := 14) (j := 9) (v := .long 0) (ty := .long) C0 V i_DR o_DR n_DR rfl rfl hO0 (by decide) w_2012 rfl rfl rfl rfl (Nat.le_of_ble_eq_true rfl) d_15_20_52 (fun H locs w20 hu21 hO0 V => ?_)
  replace hO0 : w20[kO0]? = (some (qO0, .inr (14, [.int 0, .ref qA1, .int 1, .ref qA2, .ref qA3, .ref qA4, .ref qA5, .ref qA6, .int 0, .long 0, .int 0, .int 0, .ref qA7, .int 0, .ref qA8, .int 0, .ref qA9, .int 0, .ref qA10, .int 0, .int 0])) : Option (Nat × va_E)) := hO0
  replace hF := q_us hF hu21 (.head _)
  refine lv_aload_n hx hb d_15_20_55 rfl (lv_at hl 1 rfl) ?_
  refine lv_iconst (v := 0) hx hb d_15_20_56 (by decide) ?_
  refine q_put (ci := 14) (j := 10) (v := .int 0) (ty := .boolean) C0 V i_DR o_DR n_DR rfl rfl hO0 (by decide) w_2013 rfl rfl rfl rfl (Nat.le_of_ble_eq_true rfl) d_15_20_57 (fun H locs w22 hu23 hO0 V => ?_)
  replace hO0 : w22[kO0]? = (some (qO0, .inr (14, [.int 0, .ref qA1, .int 1, .ref qA2, .ref qA3, .ref qA4, .ref qA5, .ref qA6, .int 0, .long 0, .int 0, .int 0, .ref qA7, .int 0, .ref qA8, .int 0, .ref qA9, .int 0, .ref qA10, .int 0, .int 0])) : Option (Nat × va_E)) := hO0
  replace hF := q_us hF hu23 (.head _)
  refine lv_iconst (v := 0) hx hb d_15_20_60 (by decide) ?_
  refine lv_istore_n (lv' := [(2, .int 0), (1, .int 0), (0, .ref qO0)]) hx hb d_15_20_61 rfl hl (by decide) rfl (fun ls hl => ?_)
  refine lv_aload_n hx hb d_15_20_62 rfl (lv_at hl 2 rfl) ?_
  refine lv_iload_n hx hb d_15_20_63 rfl (lv_at hl 1 rfl) ?_
  replace hA1 := (hu23 _ n_A1_O0).trans ((hu21 _ n_A1_O0).trans ((hu19 _ n_A1_O0).trans ((hu17 _ n_A1_O0).trans (hA1))))
  refine q_goi V (q_runV (As := [.int 0]) (rest := []) (d := 1) (mc := 0) (ms := 0) (ci := 14) C0 V rfl LV_DR_102 (c_DR_at l D g w22 kO0 kA1 qO0 qA1 qA2 qA3 qA4 qA5 qA6 qA7 qA8 qA9 qA10 hO0 hA1 _) rfl rfl hO0 rfl hl.1 rfl (Nat.le_of_ble_eq_true rfl) ⟨by decide, by decide⟩ ⟨Nat.le_of_ble_eq_true rfl, Nat.le_of_ble_eq_true rfl⟩ d_15_20_64) (fun v26 u25 H locs hp24 V => ?_)
  obtain ⟨rfl, rfl⟩ := hp24
  refine q_goi V (q_runS (As := [.int 48]) (rest := []) (d := 1) (mc := 0) (ms := 0) C0 V rfl LS_DR_106 (c_DR_isDigit l D g w22 _) rfl hl.1 rfl (Nat.le_of_ble_eq_true rfl) ⟨by decide, by decide⟩ ⟨Nat.le_of_ble_eq_true rfl, Nat.le_of_ble_eq_true rfl⟩ d_15_20_67) (fun v30 u29 H locs hp28 V => ?_)
  obtain ⟨rfl, rfl⟩ := hp28
  refine lv_if_ne (tgt := 87) hx hb d_15_20_70 (by decide) (fun c32 => ?_) (fun c32 => absurd c32 (by decide))
  refine lv_iload_n hx hb d_15_20_87 rfl (lv_at hl 0 rfl) ?_
  refine lv_if_ne (tgt := 101) hx hb d_15_20_88 (by decide) (fun c33 => absurd (by decide) c33) (fun c33 => ?_)
  refine lv_aload_n hx hb d_15_20_91 rfl (lv_at hl 2 rfl) ?_
  refine lv_iload_n hx hb d_15_20_92 rfl (lv_at hl 1 rfl) ?_
  refine q_goi V (q_runV (As := [.int 0]) (rest := []) (d := 1) (mc := 0) (ms := 0) (ci := 14) C0 V rfl LV_DR_102 (c_DR_at l D g w22 kO0 kA1 qO0 qA1 qA2 qA3 qA4 qA5 qA6 qA7 qA8 qA9 qA10 hO0 hA1 _) rfl rfl hO0 rfl hl.1 rfl (Nat.le_of_ble_eq_true rfl) ⟨by decide, by decide⟩ ⟨Nat.le_of_ble_eq_true rfl, Nat.le_of_ble_eq_true rfl⟩ d_15_20_93) (fun v36 u35 H locs hp34 V => ?_)
  obtain ⟨rfl, rfl⟩ := hp34
  refine lv_bipush (v := 46) hx hb d_15_20_96 (by decide) ?_
  refine lv_icmp_ne (tgt := 105) hx hb d_15_20_98 (by decide) (fun c38 => ?_) (fun c38 => absurd c38 (by decide))
  refine lv_iconst (v := 0) hx hb d_15_20_105 (by decide) ?_
  refine lv_istore_n (lv' := [(2, .int 0), (1, .int 0), (0, .ref qO0)]) hx hb d_15_20_106 rfl hl (by decide) rfl (fun ls hl => ?_)
  refine lv_aload_n hx hb d_15_20_107 rfl (lv_at hl 2 rfl) ?_
  refine lv_iload_n hx hb d_15_20_108 rfl (lv_at hl 1 rfl) ?_
  refine q_goi V (q_runV (As := [.int 0]) (rest := []) (d := 1) (mc := 0) (ms := 0) (ci := 14) C0 V rfl LV_DR_102 (c_DR_at l D g w22 kO0 kA1 qO0 qA1 qA2 qA3 qA4 qA5 qA6 qA7 qA8 qA9 qA10 hO0 hA1 _) rfl rfl hO0 rfl hl.1 rfl (Nat.le_of_ble_eq_true rfl) ⟨by decide, by decide⟩ ⟨Nat.le_of_ble_eq_true rfl, Nat.le_of_ble_eq_true rfl⟩ d_15_20_109) (fun v41 u40 H locs hp39 V => ?_)
  obtain ⟨rfl, rfl⟩ := hp39
  refine lv_bipush (v := 46) hx hb d_15_20_112 (by decide) ?_
  refine lv_icmp_eq (tgt := 165) hx hb d_15_20_114 (by decide) (fun c43 => absurd c43 (by decide)) (fun c43 => ?_)
  refine lv_aload_n hx hb d_15_20_117 rfl (lv_at hl 2 rfl) ?_
  refine q_get (ci := 14) (j := 7) (v := .ref qA6) C0 V i_DR rfl rfl hO0 (by decide) w_2010 rfl d_15_20_118 ?_
  refine lv_aload_n hx hb d_15_20_121 rfl (lv_at hl 2 rfl) ?_
  refine q_get (ci := 14) (j := 8) (v := .int 0) C0 V i_DR rfl rfl hO0 (by decide) w_2011 rfl d_15_20_122 ?_
  refine lv_aload_n hx hb d_15_20_125 rfl (lv_at hl 2 rfl) ?_
  refine lv_iload_n hx hb d_15_20_126 rfl (lv_at hl 1 rfl) ?_
  refine q_goi V (q_runV (As := [.int 0]) (rest := [.int 0, .ref qA6]) (d := 1) (mc := 0) (ms := 0) (ci := 14) C0 V rfl LV_DR_102 (c_DR_at l D g w22 kO0 kA1 qO0 qA1 qA2 qA3 qA4 qA5 qA6 qA7 qA8 qA9 qA10 hO0 hA1 _) rfl rfl hO0 rfl hl.1 rfl (Nat.le_of_ble_eq_true rfl) ⟨by decide, by decide⟩ ⟨Nat.le_of_ble_eq_true rfl, Nat.le_of_ble_eq_true rfl⟩ d_15_20_127) (fun v46 u45 H locs hp44 V => ?_)
  obtain ⟨rfl, rfl⟩ := hp44
  refine lv_bipush (v := 48) hx hb d_15_20_130 (by decide) ?_
  refine lv_isub hx hb d_15_20_132 ?_
  refine q_ti (v := 0) (by decide) ?_
  replace hA6 := (hu23 _ n_A6_O0).trans ((hu21 _ n_A6_O0).trans ((hu19 _ n_A6_O0).trans ((hu17 _ n_A6_O0).trans (hA6))))
  refine q_iast C0 V hA6 (by unfold vp_in; decide) d_15_20_133 (fun H locs w48 hu49 hA6 V => ?_)
  replace hA6 := q_re (y := (qA6, .inl (g 0, 4400, .inl (fun _ => 0)))) hA6 (q_eI q_upd0)
  replace hA6 : w48[kA6]? = (some (qA6, .inl (g 0, 4400, .inl (fun _ => 0))) : Option (Nat × va_E)) := hA6
  replace hF := q_us hF hu49 (.tail _ (.head _))
  refine lv_aload_n hx hb d_15_20_134 rfl (lv_at hl 2 rfl) ?_
  refine lv_dup hx hb d_15_20_135 rfl ?_
  replace hO0 := (hu49 _ n_O0_A6).trans (hO0)
  refine q_get (ci := 14) (j := 8) (v := .int 0) C0 V i_DR rfl rfl hO0 (by decide) w_2011 rfl d_15_20_136 ?_
  refine lv_iconst (v := 1) hx hb d_15_20_139 (by decide) ?_
  refine lv_iadd hx hb d_15_20_140 ?_
  refine q_ti (v := 1) (by decide) ?_
  refine q_put (ci := 14) (j := 8) (v := .int 1) (ty := .int) C0 V i_DR o_DR n_DR rfl rfl hO0 (by decide) w_2011 rfl rfl rfl rfl (Nat.le_of_ble_eq_true rfl) d_15_20_141 (fun H locs w50 hu51 hO0 V => ?_)
  replace hO0 : w50[kO0]? = (some (qO0, .inr (14, [.int 0, .ref qA1, .int 1, .ref qA2, .ref qA3, .ref qA4, .ref qA5, .ref qA6, .int 1, .long 0, .int 0, .int 0, .ref qA7, .int 0, .ref qA8, .int 0, .ref qA9, .int 0, .ref qA10, .int 0, .int 0])) : Option (Nat × va_E)) := hO0
  replace hF := q_us hF hu51 (.head _)
  refine lv_aload_n hx hb d_15_20_144 rfl (lv_at hl 2 rfl) ?_
  refine lv_iload_n hx hb d_15_20_145 rfl (lv_at hl 0 rfl) ?_
  refine lv_if_eq (tgt := 158) hx hb d_15_20_146 (by decide) (fun c52 => ?_) (fun c52 => absurd (by decide) c52)
  refine lv_aload_n hx hb d_15_20_158 rfl (lv_at hl 2 rfl) ?_
  refine q_get (ci := 14) (j := 9) (v := .long 0) C0 V i_DR rfl rfl hO0 (by decide) w_2012 rfl d_15_20_159 ?_
  refine q_put (ci := 14) (j := 9) (v := .long 0) (ty := .long) C0 V i_DR o_DR n_DR rfl rfl hO0 (by decide) w_2012 rfl rfl rfl rfl (Nat.le_of_ble_eq_true rfl) d_15_20_162 (fun H locs w53 hu54 hO0 V => ?_)
  replace hO0 : w53[kO0]? = (some (qO0, .inr (14, [.int 0, .ref qA1, .int 1, .ref qA2, .ref qA3, .ref qA4, .ref qA5, .ref qA6, .int 1, .long 0, .int 0, .int 0, .ref qA7, .int 0, .ref qA8, .int 0, .ref qA9, .int 0, .ref qA10, .int 0, .int 0])) : Option (Nat × va_E)) := hO0
  replace hF := q_us hF hu54 (.head _)
  refine lv_iinc (v := 1) (lv' := [(1, .int 1), (2, .int 0), (0, .ref qO0)]) hx hb d_15_20_165 hl (k := 1) rfl (by decide) (by decide) rfl (fun ls hl => ?_)
  refine lv_goto (tgt := 62) hx hb d_15_20_168 (by decide) ?_
  refine lv_aload_n hx hb d_15_20_62 rfl (lv_at hl 2 rfl) ?_
  refine lv_iload_n hx hb d_15_20_63 rfl (lv_at hl 0 rfl) ?_
  refine q_goi V (q_runV (As := [.int 1]) (rest := []) (d := 1) (mc := 0) (ms := 0) (ci := 14) C0 V rfl LV_DR_102 (c_DR_at_3 l D g w53 kO0 qO0 qA1 qA2 qA3 qA4 qA5 qA6 qA7 qA8 qA9 qA10 hO0 _) rfl rfl hO0 rfl hl.1 rfl (Nat.le_of_ble_eq_true rfl) ⟨by decide, by decide⟩ ⟨Nat.le_of_ble_eq_true rfl, Nat.le_of_ble_eq_true rfl⟩ d_15_20_64) (fun v57 u56 H locs hp55 V => ?_)
  obtain ⟨rfl, rfl⟩ := hp55
  refine q_goi V (q_runS (As := [.int 0]) (rest := []) (d := 1) (mc := 0) (ms := 0) C0 V rfl LS_DR_106 (c_DR_isDigit_2 l D g w53 _) rfl hl.1 rfl (Nat.le_of_ble_eq_true rfl) ⟨by decide, by decide⟩ ⟨Nat.le_of_ble_eq_true rfl, Nat.le_of_ble_eq_true rfl⟩ d_15_20_67) (fun v61 u60 H locs hp59 V => ?_)
  obtain ⟨rfl, rfl⟩ := hp59
  refine lv_if_ne (tgt := 87) hx hb d_15_20_70 (by decide) (fun c63 => absurd (by decide) c63) (fun c63 => ?_)
  refine lv_aload_n hx hb d_15_20_73 rfl (lv_at hl 2 rfl) ?_
  refine lv_iload_n hx hb d_15_20_74 rfl (lv_at hl 0 rfl) ?_
  refine q_goi V (q_runV (As := [.int 1]) (rest := []) (d := 1) (mc := 0) (ms := 0) (ci := 14) C0 V rfl LV_DR_102 (c_DR_at_3 l D g w53 kO0 qO0 qA1 qA2 qA3 qA4 qA5 qA6 qA7 qA8 qA9 qA10 hO0 _) rfl rfl hO0 rfl hl.1 rfl (Nat.le_of_ble_eq_true rfl) ⟨by decide, by decide⟩ ⟨Nat.le_of_ble_eq_true rfl, Nat.le_of_ble_eq_true rfl⟩ d_15_20_75) (fun v66 u65 H locs hp64 V => ?_)
  obtain ⟨rfl, rfl⟩ := hp64
  refine lv_bipush (v := 46) hx hb d_15_20_78 (by decide) ?_
  refine lv_icmp_ne (tgt := 171) hx hb d_15_20_80 (by decide) (fun c68 => ?_) (fun c68 => absurd c68 (by decide))
  refine lv_aload_n hx hb d_15_20_171 rfl (lv_at hl 2 rfl) ?_
  refine q_get (ci := 14) (j := 8) (v := .int 1) C0 V i_DR rfl rfl hO0 (by decide) w_2011 rfl d_15_20_172 ?_
  refine lv_if_ne (tgt := 180) hx hb d_15_20_175 (by decide) (fun c69 => ?_) (fun c69 => absurd c69 (by decide))
  refine lv_aload_n hx hb d_15_20_180 rfl (lv_at hl 2 rfl) ?_
  refine lv_iload_n hx hb d_15_20_181 rfl (lv_at hl 0 rfl) ?_
  refine q_goi V (q_runV (As := [.int 1]) (rest := []) (d := 1) (mc := 0) (ms := 0) (ci := 14) C0 V rfl LV_DR_102 (c_DR_at_3 l D g w53 kO0 qO0 qA1 qA2 qA3 qA4 qA5 qA6 qA7 qA8 qA9 qA10 hO0 _) rfl rfl hO0 rfl hl.1 rfl (Nat.le_of_ble_eq_true rfl) ⟨by decide, by decide⟩ ⟨Nat.le_of_ble_eq_true rfl, Nat.le_of_ble_eq_true rfl⟩ d_15_20_182) (fun v72 u71 H locs hp70 V => ?_)
  obtain ⟨rfl, rfl⟩ := hp70
  refine lv_bipush (v := 101) hx hb d_15_20_185 (by decide) ?_
  refine lv_icmp_eq (tgt := 200) hx hb d_15_20_187 (by decide) (fun c74 => absurd c74 (by decide)) (fun c74 => ?_)
  refine lv_aload_n hx hb d_15_20_190 rfl (lv_at hl 2 rfl) ?_
  refine lv_iload_n hx hb d_15_20_191 rfl (lv_at hl 0 rfl) ?_
  refine q_goi V (q_runV (As := [.int 1]) (rest := []) (d := 1) (mc := 0) (ms := 0) (ci := 14) C0 V rfl LV_DR_102 (c_DR_at_3 l D g w53 kO0 qO0 qA1 qA2 qA3 qA4 qA5 qA6 qA7 qA8 qA9 qA10 hO0 _) rfl rfl hO0 rfl hl.1 rfl (Nat.le_of_ble_eq_true rfl) ⟨by decide, by decide⟩ ⟨Nat.le_of_ble_eq_true rfl, Nat.le_of_ble_eq_true rfl⟩ d_15_20_192) (fun v77 u76 H locs hp75 V => ?_)
  obtain ⟨rfl, rfl⟩ := hp75
  refine lv_bipush (v := 69) hx hb d_15_20_195 (by decide) ?_
  refine lv_icmp_ne (tgt := 333) hx hb d_15_20_197 (by decide) (fun c79 => ?_) (fun c79 => absurd c79 (by decide))
  refine lv_iload_n hx hb d_15_20_333 rfl (lv_at hl 0 rfl) ?_
  refine lv_aload_n hx hb d_15_20_334 rfl (lv_at hl 2 rfl) ?_
  refine q_get (ci := 14) (j := 2) (v := .int 1) C0 V i_DR rfl rfl hO0 (by decide) w_2001 rfl d_15_20_335 ?_
  refine lv_icmp_ne (tgt := 345) hx hb d_15_20_338 (by decide) (fun c80 => absurd (by decide) c80) (fun c80 => ?_)
  refine lv_iconst (v := 1) hx hb d_15_20_341 (by decide) ?_
  refine lv_goto (tgt := 346) hx hb d_15_20_342 (by decide) ?_
  replace hA6 := (hu54 _ n_A6_O0).trans ((hu51 _ n_A6_O0).trans (hA6))
  exact q_retz C0 V (rfl) (⟨rfl, hF, hO0, hA6⟩) d_15_20_346
set_option maxRecDepth 100000 in
set_option maxHeartbeats 4000000 in
theorem c_DR_trim_5 (l : Launch) (D : va_G) (g : Nat → ClassId) (ws : va_W) (kO0 kA6 qO0 qA1 qA2 qA3 qA4 qA5 qA6 qA7 qA8 qA9 qA10 : Nat) (hO0 : ws[kO0]? = (some (qO0, .inr (14, [.int 0, .ref qA1, .int 1, .ref qA2, .ref qA3, .ref qA4, .ref qA5, .ref qA6, .int 1, .long 0, .int 0, .int 0, .ref qA7, .int 0, .ref qA8, .int 0, .ref qA9, .int 0, .ref qA10, .int 0, .int 3])) : Option (Nat × va_E))) (hA6 : ws[kA6]? = (some (qA6, .inl (g 0, 4400, .inl (fun _ => 0))) : Option (Nat × va_E))) : q_mV l y_DR_trim prog_15_method_7_code 3 1 0 0 D g [.ref qO0] ws (fun u => q_un ws u [kO0, kA6] ∧ u[kO0]? = (some (qO0, .inr (14, [.int 0, .ref qA1, .int 1, .ref qA2, .ref qA3, .ref qA4, .ref qA5, .ref qA6, .int 1, .long 0, .int 0, .int 0, .ref qA7, .int 0, .ref qA8, .int 0, .ref qA9, .int 0, .ref qA10, .int 0, .int 3])) : Option (Nat × va_E)) ∧ u[kA6]? = (some (qA6, .inl (g 0, 4400, .inl (fun _ => 0))) : Option (Nat × va_E))) := by
  intro sz
  refine q_into (by decide) (Nat.le_of_ble_eq_true rfl) ?_
  intro p e s m below meth c ls hsz C0 V hl
  have hx := C0.1
  have hb := C0.2.1
  have hl : lv_has ls 3 [(0, .ref qO0)] := hl
  have n_A6_O0 := q_df hA6 hO0
  have n_O0_A6 := Ne.symm (q_df hA6 hO0)
  have hF : q_un ws ws [kO0, kA6] := q_u0
  refine lv_iconst (v := 0) hx hb d_15_7_0 (by decide) ?_
  refine lv_istore_n (lv' := [(1, .int 0), (0, .ref qO0)]) hx hb d_15_7_1 rfl hl (by decide) rfl (fun ls hl => ?_)
  refine lv_iload_n hx hb d_15_7_2 rfl (lv_at hl 0 rfl) ?_
  refine lv_iconst (v := 1) hx hb d_15_7_3 (by decide) ?_
  refine lv_iadd hx hb d_15_7_4 ?_
  refine q_ti (v := 1) (by decide) ?_
  refine lv_aload_n hx hb d_15_7_5 rfl (lv_at hl 1 rfl) ?_
  refine q_get (ci := 14) (j := 8) (v := .int 1) C0 V i_DR rfl rfl hO0 (by decide) w_2011 rfl d_15_7_6 ?_
  refine lv_icmp_ge (tgt := 27) hx hb d_15_7_9 (by decide) (fun c1 => ?_) (fun c1 => absurd (by decide) c1)
  refine lv_iconst (v := 0) hx hb d_15_7_27 (by decide) ?_
  refine lv_istore_n (lv' := [(2, .int 0), (1, .int 0), (0, .ref qO0)]) hx hb d_15_7_28 rfl hl (by decide) rfl (fun ls hl => ?_)
  refine lv_iload_n hx hb d_15_7_29 rfl (lv_at hl 0 rfl) ?_
  refine lv_iload_n hx hb d_15_7_30 rfl (lv_at hl 1 rfl) ?_
  refine lv_iadd hx hb d_15_7_31 ?_
  refine q_ti (v := 0) (by decide) ?_
  refine lv_aload_n hx hb d_15_7_32 rfl (lv_at hl 2 rfl) ?_
  refine q_get (ci := 14) (j := 8) (v := .int 1) C0 V i_DR rfl rfl hO0 (by decide) w_2011 rfl d_15_7_33 ?_
  refine lv_icmp_ge (tgt := 59) hx hb d_15_7_36 (by decide) (fun c2 => absurd c2 (by decide)) (fun c2 => ?_)
  refine lv_aload_n hx hb d_15_7_39 rfl (lv_at hl 2 rfl) ?_
  refine q_get (ci := 14) (j := 7) (v := .ref qA6) C0 V i_DR rfl rfl hO0 (by decide) w_2010 rfl d_15_7_40 ?_
  refine lv_iload_n hx hb d_15_7_43 rfl (lv_at hl 0 rfl) ?_
  refine lv_aload_n hx hb d_15_7_44 rfl (lv_at hl 2 rfl) ?_
  refine q_get (ci := 14) (j := 7) (v := .ref qA6) C0 V i_DR rfl rfl hO0 (by decide) w_2010 rfl d_15_7_45 ?_
  refine lv_iload_n hx hb d_15_7_48 rfl (lv_at hl 0 rfl) ?_
  refine lv_iload_n hx hb d_15_7_49 rfl (lv_at hl 1 rfl) ?_
  refine lv_iadd hx hb d_15_7_50 ?_
  refine q_ti (v := 0) (by decide) ?_
  refine q_iald C0 V hA6 (by unfold vp_in; decide) d_15_7_51 ?_
  refine q_ti (v := 0) (by first | rfl | decide | simp [upd, vp_updL, sb_cl0]) ?_
  refine q_iast C0 V hA6 (by unfold vp_in; decide) d_15_7_52 (fun H locs w3 hu4 hA6 V => ?_)
  replace hA6 := q_re (y := (qA6, .inl (g 0, 4400, .inl (fun _ => 0)))) hA6 (q_eI q_upd0)
  replace hA6 : w3[kA6]? = (some (qA6, .inl (g 0, 4400, .inl (fun _ => 0))) : Option (Nat × va_E)) := hA6
  replace hF := q_us hF hu4 (.tail _ (.head _))
  refine lv_iinc (v := 1) (lv' := [(2, .int 1), (1, .int 0), (0, .ref qO0)]) hx hb d_15_7_53 hl (k := 0) rfl (by decide) (by decide) rfl (fun ls hl => ?_)
  refine lv_goto (tgt := 29) hx hb d_15_7_56 (by decide) ?_
  refine lv_iload_n hx hb d_15_7_29 rfl (lv_at hl 0 rfl) ?_
  refine lv_iload_n hx hb d_15_7_30 rfl (lv_at hl 1 rfl) ?_
  refine lv_iadd hx hb d_15_7_31 ?_
  refine q_ti (v := 1) (by decide) ?_
  refine lv_aload_n hx hb d_15_7_32 rfl (lv_at hl 2 rfl) ?_
  replace hO0 := (hu4 _ n_O0_A6).trans (hO0)
  refine q_get (ci := 14) (j := 8) (v := .int 1) C0 V i_DR rfl rfl hO0 (by decide) w_2011 rfl d_15_7_33 ?_
  refine lv_icmp_ge (tgt := 59) hx hb d_15_7_36 (by decide) (fun c5 => ?_) (fun c5 => absurd (by decide) c5)
  refine lv_aload_n hx hb d_15_7_59 rfl (lv_at hl 2 rfl) ?_
  refine q_get (ci := 14) (j := 8) (v := .int 1) C0 V i_DR rfl rfl hO0 (by decide) w_2011 rfl d_15_7_60 ?_
  refine lv_if_ne (tgt := 81) hx hb d_15_7_63 (by decide) (fun c6 => ?_) (fun c6 => absurd c6 (by decide))
  refine lv_aload_n hx hb d_15_7_81 rfl (lv_at hl 2 rfl) ?_
  refine lv_aload_n hx hb d_15_7_82 rfl (lv_at hl 2 rfl) ?_
  refine q_get (ci := 14) (j := 8) (v := .int 1) C0 V i_DR rfl rfl hO0 (by decide) w_2011 rfl d_15_7_83 ?_
  refine lv_iload_n hx hb d_15_7_86 rfl (lv_at hl 1 rfl) ?_
  refine lv_isub hx hb d_15_7_87 ?_
  refine q_ti (v := 1) (by decide) ?_
  refine q_put (ci := 14) (j := 8) (v := .int 1) (ty := .int) C0 V i_DR o_DR n_DR rfl rfl hO0 (by decide) w_2011 rfl rfl rfl rfl (Nat.le_of_ble_eq_true rfl) d_15_7_88 (fun H locs w7 hu8 hO0 V => ?_)
  replace hO0 : w7[kO0]? = (some (qO0, .inr (14, [.int 0, .ref qA1, .int 1, .ref qA2, .ref qA3, .ref qA4, .ref qA5, .ref qA6, .int 1, .long 0, .int 0, .int 0, .ref qA7, .int 0, .ref qA8, .int 0, .ref qA9, .int 0, .ref qA10, .int 0, .int 3])) : Option (Nat × va_E)) := hO0
  replace hF := q_us hF hu8 (.head _)
  refine lv_aload_n hx hb d_15_7_91 rfl (lv_at hl 2 rfl) ?_
  refine lv_aload_n hx hb d_15_7_92 rfl (lv_at hl 2 rfl) ?_
  refine q_get (ci := 14) (j := 11) (v := .int 0) C0 V i_DR rfl rfl hO0 (by decide) w_2014 rfl d_15_7_93 ?_
  refine lv_if_eq (tgt := 112) hx hb d_15_7_96 (by decide) (fun c9 => ?_) (fun c9 => absurd (by decide) c9)
  refine lv_iconst (v := 0) hx hb d_15_7_112 (by decide) ?_
  refine q_put (ci := 14) (j := 11) (v := .int 0) (ty := .boolean) C0 V i_DR o_DR n_DR rfl rfl hO0 (by decide) w_2014 rfl rfl rfl rfl (Nat.le_of_ble_eq_true rfl) d_15_7_113 (fun H locs w10 hu11 hO0 V => ?_)
  replace hO0 : w10[kO0]? = (some (qO0, .inr (14, [.int 0, .ref qA1, .int 1, .ref qA2, .ref qA3, .ref qA4, .ref qA5, .ref qA6, .int 1, .long 0, .int 0, .int 0, .ref qA7, .int 0, .ref qA8, .int 0, .ref qA9, .int 0, .ref qA10, .int 0, .int 3])) : Option (Nat × va_E)) := hO0
  replace hF := q_us hF hu11 (.head _)
  replace hA6 := (hu11 _ n_A6_O0).trans ((hu8 _ n_A6_O0).trans (hA6))
  exact q_retv C0 V (⟨hF, hO0, hA6⟩) d_15_7_116
set_option maxRecDepth 100000 in
set_option maxHeartbeats 4000000 in
theorem c_DR_store_5 (l : Launch) (D : va_G) (g : Nat → ClassId) (ws : va_W) (kO0 kA2 kA3 kA4 kA5 kA6 qO0 qA1 qA2 qA3 qA4 qA5 qA6 qA7 qA8 qA9 qA10 : Nat) (x1 : Int32) (hO0 : ws[kO0]? = (some (qO0, .inr (14, [.int 0, .ref qA1, .int 1, .ref qA2, .ref qA3, .ref qA4, .ref qA5, .ref qA6, .int 1, .long 0, .int 0, .int 0, .ref qA7, .int 0, .ref qA8, .int 0, .ref qA9, .int 0, .ref qA10, .int 0, .int 3])) : Option (Nat × va_E))) (hA2 : ws[kA2]? = (some (qA2, .inl (g 0, 10000, .inl (fun _ => 0))) : Option (Nat × va_E))) (hA3 : ws[kA3]? = (some (qA3, .inl (g 0, 10, .inl (upd (upd (upd (upd (upd (upd (upd (upd (upd (upd (fun _ => 0) 0 1) 1 1) 2 1) 3 1) 4 1) 5 1) 6 1) 7 1) 8 1) 9 1))) : Option (Nat × va_E))) (hA4 : ws[kA4]? = (some (qA4, .inl (g 3, 10, .inl (fun _ => 0))) : Option (Nat × va_E))) (hA5 : ws[kA5]? = (some (qA5, .inl (g 0, 10, .inl (fun _ => 0))) : Option (Nat × va_E))) (hA6 : ws[kA6]? = (some (qA6, .inl (g 0, 4400, .inl (fun _ => 0))) : Option (Nat × va_E))) (n_A2_A3 : kA2 ≠ kA3) (n_A2_A4 : kA2 ≠ kA4) (n_A2_A5 : kA2 ≠ kA5) (n_A2_A6 : kA2 ≠ kA6) (n_A3_A4 : kA3 ≠ kA4) (n_A3_A5 : kA3 ≠ kA5) (n_A3_A6 : kA3 ≠ kA6) (n_A4_A5 : kA4 ≠ kA5) (n_A4_A6 : kA4 ≠ kA6) (n_A5_A6 : kA5 ≠ kA6) (x1lo : 0 ≤ x1) (x1hi : x1 ≤ 9) : q_mV l y_DR_store prog_15_method_8_code 3 2 0 0 D g [.ref qO0, .int x1] ws (fun u => q_un ws u [kO0, kA2, kA3, kA4, kA5, kA6] ∧ u[kO0]? = (some (qO0, .inr (14, [.int 0, .ref qA1, .int 1, .ref qA2, .ref qA3, .ref qA4, .ref qA5, .ref qA6, .int 1, .long 0, .int 0, .int 0, .ref qA7, .int 0, .ref qA8, .int 0, .ref qA9, .int 0, .ref qA10, .int 0, .int 3])) : Option (Nat × va_E)) ∧ u[kA2]? = (some (qA2, .inl (g 0, 10000, .inl (fun _ => 0))) : Option (Nat × va_E)) ∧ u[kA3]? = (some (qA3, .inl (g 0, 10, .inl (upd (upd (upd (upd (upd (upd (upd (upd (upd (upd (upd (fun _ => 0) 0 1) 1 1) 2 1) 3 1) 4 1) 5 1) 6 1) 7 1) 8 1) 9 1) x1.toNatClampNeg 1))) : Option (Nat × va_E)) ∧ u[kA4]? = (some (qA4, .inl (g 3, 10, .inl (fun _ => 0))) : Option (Nat × va_E)) ∧ u[kA5]? = (some (qA5, .inl (g 0, 10, .inl (fun _ => 0))) : Option (Nat × va_E)) ∧ u[kA6]? = (some (qA6, .inl (g 0, 4400, .inl (fun _ => 0))) : Option (Nat × va_E))) := by
  intro sz
  refine q_into (by decide) (Nat.le_of_ble_eq_true rfl) ?_
  intro p e s m below meth c ls hsz C0 V hl
  have hx := C0.1
  have hb := C0.2.1
  have hl : lv_has ls 3 [(0, .ref qO0), (1, .int x1)] := hl
  have n_A2_O0 := q_df hA2 hO0
  have n_A3_A2 := Ne.symm n_A2_A3
  have n_A3_O0 := q_df hA3 hO0
  have n_A4_A2 := Ne.symm n_A2_A4
  have n_A4_A3 := Ne.symm n_A3_A4
  have n_A4_O0 := q_df hA4 hO0
  have n_A5_A2 := Ne.symm n_A2_A5
  have n_A5_A3 := Ne.symm n_A3_A5
  have n_A5_A4 := Ne.symm n_A4_A5
  have n_A5_O0 := q_df hA5 hO0
  have n_A6_A2 := Ne.symm n_A2_A6
  have n_A6_A3 := Ne.symm n_A3_A6
  have n_A6_A4 := Ne.symm n_A4_A6
  have n_A6_A5 := Ne.symm n_A5_A6
  have n_O0_A2 := Ne.symm (q_df hA2 hO0)
  have n_O0_A3 := Ne.symm (q_df hA3 hO0)
  have n_O0_A4 := Ne.symm (q_df hA4 hO0)
  have n_O0_A5 := Ne.symm (q_df hA5 hO0)
  have hF : q_un ws ws [kO0, kA2, kA3, kA4, kA5, kA6] := q_u0
  refine lv_aload_n hx hb d_15_8_0 rfl (lv_at hl 0 rfl) ?_
  refine q_gov V (q_runV (As := []) (rest := []) (d := 1) (mc := 0) (ms := 0) (ci := 14) C0 V rfl LV_DR_59 (c_DR_trim_5 l D g ws kO0 kA6 qO0 qA1 qA2 qA3 qA4 qA5 qA6 qA7 qA8 qA9 qA10 hO0 hA6 _) rfl rfl hO0 rfl hl.1 rfl (Nat.le_of_ble_eq_true rfl) ⟨by decide, by decide⟩ ⟨Nat.le_of_ble_eq_true rfl, Nat.le_of_ble_eq_true rfl⟩ d_15_8_1) (fun u2 H locs hp1 V => ?_)
  obtain ⟨hg3, hO0, hA6⟩ := hp1
  replace hF := q_uc hF hg3 (q_sc (.head _) (q_sc (List.mem_of_getElem? (i := 5) rfl) (fun _ h => absurd h List.not_mem_nil)))
  refine lv_aload_n hx hb d_15_8_4 rfl (lv_at hl 0 rfl) ?_
  refine q_get (ci := 14) (j := 8) (v := .int 1) C0 V i_DR rfl rfl hO0 (by decide) w_2011 rfl d_15_8_5 ?_
  refine lv_sipush (v := 1000) hx hb d_15_8_8 (by decide) ?_
  refine lv_icmp_gt (tgt := 36) hx hb d_15_8_11 (by decide) (fun c4 => absurd c4 (by decide)) (fun c4 => ?_)
  refine lv_aload_n hx hb d_15_8_14 rfl (lv_at hl 0 rfl) ?_
  refine q_get (ci := 14) (j := 9) (v := .long 0) C0 V i_DR rfl rfl hO0 (by decide) w_2012 rfl d_15_8_15 ?_
  refine q_ldc2 C0 rfl w_2417 d_15_8_18 ?_
  refine W.lcmp hx hb d_15_8_21 ?_
  refine q_ti (v := 1) (by decide) ?_
  refine lv_if_lt (tgt := 36) hx hb d_15_8_22 (by decide) (fun c5 => absurd c5 (by decide)) (fun c5 => ?_)
  refine lv_aload_n hx hb d_15_8_25 rfl (lv_at hl 0 rfl) ?_
  refine q_get (ci := 14) (j := 9) (v := .long 0) C0 V i_DR rfl rfl hO0 (by decide) w_2012 rfl d_15_8_26 ?_
  refine q_ldc2 C0 rfl w_2418 d_15_8_29 ?_
  refine W.lcmp hx hb d_15_8_32 ?_
  refine q_ti (v := (-1)) (by decide) ?_
  refine lv_if_le (tgt := 45) hx hb d_15_8_33 (by decide) (fun c6 => ?_) (fun c6 => absurd (by decide) c6)
  refine lv_iconst (v := 0) hx hb d_15_8_45 (by decide) ?_
  refine lv_istore_n (lv' := [(2, .int 0), (0, .ref qO0), (1, .int x1)]) hx hb d_15_8_46 rfl hl (by decide) rfl (fun ls hl => ?_)
  refine lv_iload_n hx hb d_15_8_47 rfl (lv_at hl 0 rfl) ?_
  refine lv_aload_n hx hb d_15_8_48 rfl (lv_at hl 1 rfl) ?_
  refine q_get (ci := 14) (j := 8) (v := .int 1) C0 V i_DR rfl rfl hO0 (by decide) w_2011 rfl d_15_8_49 ?_
  refine lv_icmp_ge (tgt := 79) hx hb d_15_8_52 (by decide) (fun c7 => absurd c7 (by decide)) (fun c7 => ?_)
  refine lv_aload_n hx hb d_15_8_55 rfl (lv_at hl 1 rfl) ?_
  refine q_get (ci := 14) (j := 3) (v := .ref qA2) C0 V i_DR rfl rfl hO0 (by decide) w_2002 rfl d_15_8_56 ?_
  refine lv_sipush (v := 1000) hx hb d_15_8_59 (by decide) ?_
  refine lv_iload_n hx hb d_15_8_62 rfl (lv_at hl 2 rfl) ?_
  refine lv_imul hx hb d_15_8_63 ?_
  refine lv_iload_n hx hb d_15_8_64 rfl (lv_at hl 0 rfl) ?_
  refine lv_iadd hx hb d_15_8_65 ?_
  refine q_ti (v := 1000 * x1) (by simp) ?_
  refine lv_aload_n hx hb d_15_8_66 rfl (lv_at hl 1 rfl) ?_
  refine q_get (ci := 14) (j := 7) (v := .ref qA6) C0 V i_DR rfl rfl hO0 (by decide) w_2010 rfl d_15_8_67 ?_
  refine lv_iload_n hx hb d_15_8_70 rfl (lv_at hl 0 rfl) ?_
  refine q_iald C0 V hA6 (by unfold vp_in; decide) d_15_8_71 ?_
  refine q_ti (v := 0) (by first | rfl | decide | simp [upd, vp_updL, sb_cl0]) ?_
  replace hA2 := (hg3 _ (q_nc n_A2_O0 (q_nc n_A2_A6 List.not_mem_nil))).trans (hA2)
  refine q_iast C0 V hA2 (q_ix (x := (1000 * x1.toInt)) (q_mulI (x := 1000) (y := x1.toInt) (by decide) rfl (by have t1 : 0 ≤ x1.toInt := q_leI x1lo; have t2 : x1.toInt ≤ 9 := q_leI x1hi; omega) (by have t1 : 0 ≤ x1.toInt := q_leI x1lo; have t2 : x1.toInt ≤ 9 := q_leI x1hi; omega)) (by have t1 : 0 ≤ x1.toInt := q_leI x1lo; have t2 : x1.toInt ≤ 9 := q_leI x1hi; omega) (by have t1 : 0 ≤ x1.toInt := q_leI x1lo; have t2 : x1.toInt ≤ 9 := q_leI x1hi; omega)) d_15_8_72 (fun H locs w8 hu9 hA2 V => ?_)
  replace hA2 := q_re (y := (qA2, .inl (g 0, 10000, .inl (fun _ => 0)))) hA2 (q_eI q_upd0)
  replace hA2 : w8[kA2]? = (some (qA2, .inl (g 0, 10000, .inl (fun _ => 0))) : Option (Nat × va_E)) := hA2
  replace hF := q_us hF hu9 (.tail _ (.head _))
  refine lv_iinc (v := 1) (lv' := [(2, .int 1), (0, .ref qO0), (1, .int x1)]) hx hb d_15_8_73 hl (k := 0) rfl (by decide) (by decide) rfl (fun ls hl => ?_)
  refine lv_goto (tgt := 47) hx hb d_15_8_76 (by decide) ?_
  refine lv_iload_n hx hb d_15_8_47 rfl (lv_at hl 0 rfl) ?_
  refine lv_aload_n hx hb d_15_8_48 rfl (lv_at hl 1 rfl) ?_
  replace hO0 := (hu9 _ n_O0_A2).trans (hO0)
  refine q_get (ci := 14) (j := 8) (v := .int 1) C0 V i_DR rfl rfl hO0 (by decide) w_2011 rfl d_15_8_49 ?_
  refine lv_icmp_ge (tgt := 79) hx hb d_15_8_52 (by decide) (fun c10 => ?_) (fun c10 => absurd (by decide) c10)
  refine lv_aload_n hx hb d_15_8_79 rfl (lv_at hl 1 rfl) ?_
  refine q_get (ci := 14) (j := 4) (v := .ref qA3) C0 V i_DR rfl rfl hO0 (by decide) w_2004 rfl d_15_8_80 ?_
  refine lv_iload_n hx hb d_15_8_83 rfl (lv_at hl 2 rfl) ?_
  refine lv_aload_n hx hb d_15_8_84 rfl (lv_at hl 1 rfl) ?_
  refine q_get (ci := 14) (j := 8) (v := .int 1) C0 V i_DR rfl rfl hO0 (by decide) w_2011 rfl d_15_8_85 ?_
  replace hA3 := (hu9 _ n_A3_A2).trans ((hg3 _ (q_nc n_A3_O0 (q_nc n_A3_A6 List.not_mem_nil))).trans (hA3))
  refine q_iast C0 V hA3 (q_ix (x := x1.toInt) rfl (by have t1 : 0 ≤ x1.toInt := q_leI x1lo; have t2 : x1.toInt ≤ 9 := q_leI x1hi; omega) (by have t1 : 0 ≤ x1.toInt := q_leI x1lo; have t2 : x1.toInt ≤ 9 := q_leI x1hi; omega)) d_15_8_88 (fun H locs w11 hu12 hA3 V => ?_)
  replace hA3 : w11[kA3]? = (some (qA3, .inl (g 0, 10, .inl (upd (upd (upd (upd (upd (upd (upd (upd (upd (upd (upd (fun _ => 0) 0 1) 1 1) 2 1) 3 1) 4 1) 5 1) 6 1) 7 1) 8 1) 9 1) x1.toNatClampNeg 1))) : Option (Nat × va_E)) := hA3
  replace hF := q_us hF hu12 (.tail _ (.tail _ (.head _)))
  refine lv_aload_n hx hb d_15_8_89 rfl (lv_at hl 1 rfl) ?_
  replace hO0 := (hu12 _ n_O0_A3).trans (hO0)
  refine q_get (ci := 14) (j := 5) (v := .ref qA4) C0 V i_DR rfl rfl hO0 (by decide) w_2006 rfl d_15_8_90 ?_
  refine lv_iload_n hx hb d_15_8_93 rfl (lv_at hl 2 rfl) ?_
  refine lv_aload_n hx hb d_15_8_94 rfl (lv_at hl 1 rfl) ?_
  refine q_get (ci := 14) (j := 11) (v := .int 0) C0 V i_DR rfl rfl hO0 (by decide) w_2014 rfl d_15_8_95 ?_
  replace hA4 := (hu12 _ n_A4_A3).trans ((hu9 _ n_A4_A2).trans ((hg3 _ (q_nc n_A4_O0 (q_nc n_A4_A6 List.not_mem_nil))).trans (hA4)))
  refine q_zast C0 V hA4 (q_ix (x := x1.toInt) rfl (by have t1 : 0 ≤ x1.toInt := q_leI x1lo; have t2 : x1.toInt ≤ 9 := q_leI x1hi; omega) (by have t1 : 0 ≤ x1.toInt := q_leI x1lo; have t2 : x1.toInt ≤ 9 := q_leI x1hi; omega)) d_15_8_98 (fun H locs w13 hu14 hA4 V => ?_)
  replace hA4 := q_re (y := (qA4, .inl (g 3, 10, .inl (fun _ => 0)))) hA4 (q_eI q_upd0)
  replace hA4 : w13[kA4]? = (some (qA4, .inl (g 3, 10, .inl (fun _ => 0))) : Option (Nat × va_E)) := hA4
  replace hF := q_us hF hu14 (List.mem_of_getElem? (i := 3) rfl)
  refine lv_aload_n hx hb d_15_8_99 rfl (lv_at hl 1 rfl) ?_
  replace hO0 := (hu14 _ n_O0_A4).trans (hO0)
  refine q_get (ci := 14) (j := 6) (v := .ref qA5) C0 V i_DR rfl rfl hO0 (by decide) w_2008 rfl d_15_8_100 ?_
  refine lv_iload_n hx hb d_15_8_103 rfl (lv_at hl 2 rfl) ?_
  refine lv_aload_n hx hb d_15_8_104 rfl (lv_at hl 1 rfl) ?_
  refine q_get (ci := 14) (j := 9) (v := .long 0) C0 V i_DR rfl rfl hO0 (by decide) w_2012 rfl d_15_8_105 ?_
  refine lv_l2i hx hb d_15_8_108 rfl ?_
  refine q_ti (v := 0) (by decide) ?_
  replace hA5 := (hu14 _ n_A5_A4).trans ((hu12 _ n_A5_A3).trans ((hu9 _ n_A5_A2).trans ((hg3 _ (q_nc n_A5_O0 (q_nc n_A5_A6 List.not_mem_nil))).trans (hA5))))
  refine q_iast C0 V hA5 (q_ix (x := x1.toInt) rfl (by have t1 : 0 ≤ x1.toInt := q_leI x1lo; have t2 : x1.toInt ≤ 9 := q_leI x1hi; omega) (by have t1 : 0 ≤ x1.toInt := q_leI x1lo; have t2 : x1.toInt ≤ 9 := q_leI x1hi; omega)) d_15_8_109 (fun H locs w15 hu16 hA5 V => ?_)
  replace hA5 := q_re (y := (qA5, .inl (g 0, 10, .inl (fun _ => 0)))) hA5 (q_eI q_upd0)
  replace hA5 : w15[kA5]? = (some (qA5, .inl (g 0, 10, .inl (fun _ => 0))) : Option (Nat × va_E)) := hA5
  replace hF := q_us hF hu16 (List.mem_of_getElem? (i := 4) rfl)
  replace hO0 := (hu16 _ n_O0_A5).trans (hO0)
  replace hA2 := (hu16 _ n_A2_A5).trans ((hu14 _ n_A2_A4).trans ((hu12 _ n_A2_A3).trans (hA2)))
  replace hA3 := (hu16 _ n_A3_A5).trans ((hu14 _ n_A3_A4).trans (hA3))
  replace hA4 := (hu16 _ n_A4_A5).trans (hA4)
  replace hA6 := (hu16 _ n_A6_A5).trans ((hu14 _ n_A6_A4).trans ((hu12 _ n_A6_A3).trans ((hu9 _ n_A6_A2).trans (hA6))))
  exact q_retv C0 V (⟨hF, hO0, hA2, hA3, hA4, hA5, hA6⟩) d_15_8_110
theorem d_15_21_0 : decode prog_15_method_21_code 0 = .ok (.aload_n 0, 1) := by decide +kernel
theorem d_15_21_1 : decode prog_15_method_21_code 1 = .ok (.iload_n 1, 1) := by decide +kernel
theorem d_15_21_2 : decode prog_15_method_21_code 2 = .ok (.invokestatic 113, 3) := by decide +kernel
theorem d_15_21_5 : decode prog_15_method_21_code 5 = .ok (.ifCond .eq 7, 3) := by decide +kernel
theorem d_15_21_12 : decode prog_15_method_21_code 12 = .ok (.aload_n 0, 1) := by decide +kernel
theorem d_15_21_13 : decode prog_15_method_21_code 13 = .ok (.invokevirtual 116, 3) := by decide +kernel
theorem w_2399 : (Cond.code ({ cls := "NumberHouseModel$DecimalRows", name := "says", desc := "()Z" } : MethodName) prog_15_method_20_code (7 : Nat) (some .boolean)) ∈ q_tbl := q_of 2399 (by decide +kernel) (by decide +kernel)
theorem w_2396 : (Cond.methodLink "NumberHouseModel$DecimalRows" (116 : Nat) ({ cls := "NumberHouseModel$DecimalRows", name := "says", desc := "()Z" } : MethodName)) ∈ q_tbl := q_of 2396 (by decide +kernel) (by decide +kernel)
theorem w_2398 : (Cond.instanceMethod ({ cls := "NumberHouseModel$DecimalRows", name := "says", desc := "()Z" } : MethodName)) ∈ q_tbl := q_of 2398 (by decide +kernel) (by decide +kernel)
theorem ws_61 : Cond.selects "NumberHouseModel$DecimalRows" (⟨"NumberHouseModel$DecimalRows", "says", "()Z"⟩ : MethodName) (⟨"NumberHouseModel$DecimalRows", "says", "()Z"⟩ : MethodName) ∈ q_tbl := q_ofs 61 (by decide +kernel) (by decide +kernel)
theorem LV_DR_116 : q_LV "NumberHouseModel$DecimalRows" 116 y_DR_says prog_15_method_20_code 7 (some .boolean) 0 := ⟨w_2399, w_16, w_2396, w_2398, ws_61, ⟨by decide, by decide, by decide +kernel⟩⟩
theorem d_15_21_16 : decode prog_15_method_21_code 16 = .ok (.ifCond .ne 7, 3) := by decide +kernel
theorem d_15_21_23 : decode prog_15_method_21_code 23 = .ok (.iconst 0, 1) := by decide +kernel
theorem d_15_21_24 : decode prog_15_method_21_code 24 = .ok (.putfield 41, 3) := by decide +kernel
theorem d_15_21_27 : decode prog_15_method_21_code 27 = .ok (.aload_n 0, 1) := by decide +kernel
theorem d_15_21_28 : decode prog_15_method_21_code 28 = .ok (.getfield 41, 3) := by decide +kernel
theorem d_15_21_31 : decode prog_15_method_21_code 31 = .ok (.ifCond .ne 32, 3) := by decide +kernel
theorem d_15_21_34 : decode prog_15_method_21_code 34 = .ok (.aload_n 0, 1) := by decide +kernel
theorem d_15_21_35 : decode prog_15_method_21_code 35 = .ok (.iconst 3, 1) := by decide +kernel
theorem d_15_21_36 : decode prog_15_method_21_code 36 = .ok (.putfield 66, 3) := by decide +kernel
theorem d_15_21_39 : decode prog_15_method_21_code 39 = .ok (.aload_n 0, 1) := by decide +kernel
theorem d_15_21_40 : decode prog_15_method_21_code 40 = .ok (.iload_n 1, 1) := by decide +kernel
theorem d_15_21_41 : decode prog_15_method_21_code 41 = .ok (.invokevirtual 89, 3) := by decide +kernel
theorem d_15_21_44 : decode prog_15_method_21_code 44 = .ok (.aload_n 0, 1) := by decide +kernel
theorem d_15_21_45 : decode prog_15_method_21_code 45 = .ok (.aload_n 0, 1) := by decide +kernel
theorem d_15_21_46 : decode prog_15_method_21_code 46 = .ok (.getfield 41, 3) := by decide +kernel
theorem d_15_21_49 : decode prog_15_method_21_code 49 = .ok (.ifCond .ne 7, 3) := by decide +kernel
theorem d_15_21_52 : decode prog_15_method_21_code 52 = .ok (.iconst 0, 1) := by decide +kernel
theorem d_15_21_53 : decode prog_15_method_21_code 53 = .ok (.goto 7, 3) := by decide +kernel
theorem d_15_21_60 : decode prog_15_method_21_code 60 = .ok (.putfield 99, 3) := by decide +kernel
theorem d_15_21_63 : decode prog_15_method_21_code 63 = .ok (.return_, 1) := by decide +kernel
def y_DR_read : MethodName := ⟨"NumberHouseModel$DecimalRows", "read", "(I)V"⟩
set_option maxRecDepth 100000 in
set_option maxHeartbeats 4000000 in
theorem c_DR_read (l : Launch) (D : va_G) (g : Nat → ClassId) (ws : va_W) (kO0 kA1 kA2 kA3 kA4 kA5 kA6 qO0 qA1 qA2 qA3 qA4 qA5 qA6 qA7 qA8 qA9 qA10 : Nat) (x1 : Int32) (hO0 : ws[kO0]? = (some (qO0, .inr (14, [.int 0, .ref qA1, .int 1, .ref qA2, .ref qA3, .ref qA4, .ref qA5, .ref qA6, .int 0, .long 0, .int 0, .int 0, .ref qA7, .int 0, .ref qA8, .int 0, .ref qA9, .int 0, .ref qA10, .int 0, .int 0])) : Option (Nat × va_E))) (hA1 : ws[kA1]? = (some (qA1, .inl (g 0, 4100, .inl (q_fil (upd (upd (fun _ => 0) 0 48) 1 46) 2 48 1076))) : Option (Nat × va_E))) (hA2 : ws[kA2]? = (some (qA2, .inl (g 0, 10000, .inl (fun _ => 0))) : Option (Nat × va_E))) (hA3 : ws[kA3]? = (some (qA3, .inl (g 0, 10, .inl (upd (upd (upd (upd (upd (upd (upd (upd (upd (upd (fun _ => 0) 0 1) 1 1) 2 1) 3 1) 4 1) 5 1) 6 1) 7 1) 8 1) 9 1))) : Option (Nat × va_E))) (hA4 : ws[kA4]? = (some (qA4, .inl (g 3, 10, .inl (fun _ => 0))) : Option (Nat × va_E))) (hA5 : ws[kA5]? = (some (qA5, .inl (g 0, 10, .inl (fun _ => 0))) : Option (Nat × va_E))) (hA6 : ws[kA6]? = (some (qA6, .inl (g 0, 4400, .inl (fun _ => 0))) : Option (Nat × va_E))) (n_A1_A2 : kA1 ≠ kA2) (n_A1_A3 : kA1 ≠ kA3) (n_A1_A4 : kA1 ≠ kA4) (n_A1_A5 : kA1 ≠ kA5) (n_A1_A6 : kA1 ≠ kA6) (n_A2_A3 : kA2 ≠ kA3) (n_A2_A4 : kA2 ≠ kA4) (n_A2_A5 : kA2 ≠ kA5) (n_A2_A6 : kA2 ≠ kA6) (n_A3_A4 : kA3 ≠ kA4) (n_A3_A5 : kA3 ≠ kA5) (n_A3_A6 : kA3 ≠ kA6) (n_A4_A5 : kA4 ≠ kA5) (n_A4_A6 : kA4 ≠ kA6) (n_A5_A6 : kA5 ≠ kA6) (x1lo : 0 ≤ x1) (x1hi : x1 ≤ 9) : q_mV l y_DR_read prog_15_method_21_code 2 3 0 0 D g [.ref qO0, .int x1] ws (fun u => q_un ws u [kO0, kA2, kA3, kA4, kA5, kA6] ∧ u[kO0]? = (some (qO0, .inr (14, [.int 0, .ref qA1, .int 0, .ref qA2, .ref qA3, .ref qA4, .ref qA5, .ref qA6, .int 1, .long 0, .int 0, .int 0, .ref qA7, .int 0, .ref qA8, .int 0, .ref qA9, .int 0, .ref qA10, .int 0, .int 3])) : Option (Nat × va_E)) ∧ u[kA2]? = (some (qA2, .inl (g 0, 10000, .inl (fun _ => 0))) : Option (Nat × va_E)) ∧ u[kA3]? = (some (qA3, .inl (g 0, 10, .inl (upd (upd (upd (upd (upd (upd (upd (upd (upd (upd (upd (fun _ => 0) 0 1) 1 1) 2 1) 3 1) 4 1) 5 1) 6 1) 7 1) 8 1) 9 1) x1.toNatClampNeg 1))) : Option (Nat × va_E)) ∧ u[kA4]? = (some (qA4, .inl (g 3, 10, .inl (fun _ => 0))) : Option (Nat × va_E)) ∧ u[kA5]? = (some (qA5, .inl (g 0, 10, .inl (fun _ => 0))) : Option (Nat × va_E)) ∧ u[kA6]? = (some (qA6, .inl (g 0, 4400, .inl (fun _ => 0))) : Option (Nat × va_E))) := by
  intro sz
  refine q_into (by decide) (Nat.le_of_ble_eq_true rfl) ?_
  intro p e s m below meth c ls hsz C0 V hl
  have hx := C0.1
  have hb := C0.2.1
  have hl : lv_has ls 2 [(0, .ref qO0), (1, .int x1)] := hl
  have n_A1_O0 := q_df hA1 hO0
  have n_A2_O0 := q_df hA2 hO0
  have n_A3_O0 := q_df hA3 hO0
  have n_A4_O0 := q_df hA4 hO0
  have n_A5_O0 := q_df hA5 hO0
  have n_A6_O0 := q_df hA6 hO0
  have hF : q_un ws ws [kO0, kA2, kA3, kA4, kA5, kA6] := q_u0
  refine lv_aload_n hx hb d_15_21_0 rfl (lv_at hl 0 rfl) ?_
  refine lv_iload_n hx hb d_15_21_1 rfl (lv_at hl 1 rfl) ?_
  refine q_goi V (q_runS (As := [.int x1]) (rest := [.ref qO0]) (d := 1) (mc := 0) (ms := 0) C0 V rfl LS_DR_113 (c_DR_no l D g ws x1 x1lo x1hi _) rfl hl.1 rfl (Nat.le_of_ble_eq_true rfl) ⟨by decide, by decide⟩ ⟨Nat.le_of_ble_eq_true rfl, Nat.le_of_ble_eq_true rfl⟩ d_15_21_2) (fun v3 u2 H locs hp1 V => ?_)
  obtain ⟨rfl, rfl⟩ := hp1
  refine lv_if_eq (tgt := 12) hx hb d_15_21_5 (by decide) (fun c5 => ?_) (fun c5 => absurd (by decide) c5)
  refine lv_aload_n hx hb d_15_21_12 rfl (lv_at hl 0 rfl) ?_
  refine q_goi V (q_runV (As := []) (rest := [.ref qO0]) (d := 2) (mc := 0) (ms := 0) (ci := 14) C0 V rfl LV_DR_116 (c_DR_says l D g ws kO0 kA1 kA6 qO0 qA1 qA2 qA3 qA4 qA5 qA6 qA7 qA8 qA9 qA10 hO0 hA1 hA6 n_A1_A6 _) rfl rfl hO0 rfl hl.1 rfl (Nat.le_of_ble_eq_true rfl) ⟨by decide, by decide⟩ ⟨Nat.le_of_ble_eq_true rfl, Nat.le_of_ble_eq_true rfl⟩ d_15_21_13) (fun v8 u7 H locs hp6 V => ?_)
  obtain ⟨rfl, hg9, hO0, hA6⟩ := hp6
  replace hF := q_uc hF hg9 (q_sc (.head _) (q_sc (List.mem_of_getElem? (i := 5) rfl) (fun _ h => absurd h List.not_mem_nil)))
  refine lv_if_ne (tgt := 23) hx hb d_15_21_16 (by decide) (fun c10 => ?_) (fun c10 => absurd c10 (by decide))
  refine lv_iconst (v := 0) hx hb d_15_21_23 (by decide) ?_
  refine q_put (ci := 14) (j := 0) (v := .int 0) (ty := .int) C0 V i_DR o_DR n_DR rfl rfl hO0 (by decide) w_1996 rfl rfl rfl rfl (Nat.le_of_ble_eq_true rfl) d_15_21_24 (fun H locs w11 hu12 hO0 V => ?_)
  replace hO0 : w11[kO0]? = (some (qO0, .inr (14, [.int 0, .ref qA1, .int 1, .ref qA2, .ref qA3, .ref qA4, .ref qA5, .ref qA6, .int 1, .long 0, .int 0, .int 0, .ref qA7, .int 0, .ref qA8, .int 0, .ref qA9, .int 0, .ref qA10, .int 0, .int 0])) : Option (Nat × va_E)) := hO0
  replace hF := q_us hF hu12 (.head _)
  refine lv_aload_n hx hb d_15_21_27 rfl (lv_at hl 0 rfl) ?_
  refine q_get (ci := 14) (j := 0) (v := .int 0) C0 V i_DR rfl rfl hO0 (by decide) w_1996 rfl d_15_21_28 ?_
  refine lv_if_ne (tgt := 63) hx hb d_15_21_31 (by decide) (fun c13 => absurd (by decide) c13) (fun c13 => ?_)
  refine lv_aload_n hx hb d_15_21_34 rfl (lv_at hl 0 rfl) ?_
  refine lv_iconst (v := 3) hx hb d_15_21_35 (by decide) ?_
  refine q_put (ci := 14) (j := 20) (v := .int 3) (ty := .int) C0 V i_DR o_DR n_DR rfl rfl hO0 (by decide) w_2024 rfl rfl rfl rfl (Nat.le_of_ble_eq_true rfl) d_15_21_36 (fun H locs w14 hu15 hO0 V => ?_)
  replace hO0 : w14[kO0]? = (some (qO0, .inr (14, [.int 0, .ref qA1, .int 1, .ref qA2, .ref qA3, .ref qA4, .ref qA5, .ref qA6, .int 1, .long 0, .int 0, .int 0, .ref qA7, .int 0, .ref qA8, .int 0, .ref qA9, .int 0, .ref qA10, .int 0, .int 3])) : Option (Nat × va_E)) := hO0
  replace hF := q_us hF hu15 (.head _)
  refine lv_aload_n hx hb d_15_21_39 rfl (lv_at hl 0 rfl) ?_
  refine lv_iload_n hx hb d_15_21_40 rfl (lv_at hl 1 rfl) ?_
  replace hA2 := (hu15 _ n_A2_O0).trans ((hu12 _ n_A2_O0).trans ((hg9 _ (q_nc n_A2_O0 (q_nc n_A2_A6 List.not_mem_nil))).trans (hA2)))
  replace hA3 := (hu15 _ n_A3_O0).trans ((hu12 _ n_A3_O0).trans ((hg9 _ (q_nc n_A3_O0 (q_nc n_A3_A6 List.not_mem_nil))).trans (hA3)))
  replace hA4 := (hu15 _ n_A4_O0).trans ((hu12 _ n_A4_O0).trans ((hg9 _ (q_nc n_A4_O0 (q_nc n_A4_A6 List.not_mem_nil))).trans (hA4)))
  replace hA5 := (hu15 _ n_A5_O0).trans ((hu12 _ n_A5_O0).trans ((hg9 _ (q_nc n_A5_O0 (q_nc n_A5_A6 List.not_mem_nil))).trans (hA5)))
  replace hA6 := (hu15 _ n_A6_O0).trans ((hu12 _ n_A6_O0).trans (hA6))
  refine q_gov V (q_runV (As := [.int x1]) (rest := []) (d := 2) (mc := 0) (ms := 0) (ci := 14) C0 V rfl LV_DR_89 (c_DR_store_5 l D g w14 kO0 kA2 kA3 kA4 kA5 kA6 qO0 qA1 qA2 qA3 qA4 qA5 qA6 qA7 qA8 qA9 qA10 x1 hO0 hA2 hA3 hA4 hA5 hA6 n_A2_A3 n_A2_A4 n_A2_A5 n_A2_A6 n_A3_A4 n_A3_A5 n_A3_A6 n_A4_A5 n_A4_A6 n_A5_A6 x1lo x1hi _) rfl rfl hO0 rfl hl.1 rfl (Nat.le_of_ble_eq_true rfl) ⟨by decide, by decide⟩ ⟨Nat.le_of_ble_eq_true rfl, Nat.le_of_ble_eq_true rfl⟩ d_15_21_41) (fun u17 H locs hp16 V => ?_)
  obtain ⟨hg18, hO0, hA2, hA3, hA4, hA5, hA6⟩ := hp16
  replace hF := q_uc hF hg18 (q_sc (.head _) (q_sc (.tail _ (.head _)) (q_sc (.tail _ (.tail _ (.head _))) (q_sc (List.mem_of_getElem? (i := 3) rfl) (q_sc (List.mem_of_getElem? (i := 4) rfl) (q_sc (List.mem_of_getElem? (i := 5) rfl) (fun _ h => absurd h List.not_mem_nil)))))))
  refine lv_aload_n hx hb d_15_21_44 rfl (lv_at hl 0 rfl) ?_
  refine lv_aload_n hx hb d_15_21_45 rfl (lv_at hl 0 rfl) ?_
  refine q_get (ci := 14) (j := 0) (v := .int 0) C0 V i_DR rfl rfl hO0 (by decide) w_1996 rfl d_15_21_46 ?_
  refine lv_if_ne (tgt := 56) hx hb d_15_21_49 (by decide) (fun c19 => absurd (by decide) c19) (fun c19 => ?_)
  refine lv_iconst (v := 0) hx hb d_15_21_52 (by decide) ?_
  refine lv_goto (tgt := 60) hx hb d_15_21_53 (by decide) ?_
  refine q_put (ci := 14) (j := 2) (v := .int 0) (ty := .int) C0 V i_DR o_DR n_DR rfl rfl hO0 (by decide) w_2001 rfl rfl rfl rfl (Nat.le_of_ble_eq_true rfl) d_15_21_60 (fun H locs w20 hu21 hO0 V => ?_)
  replace hO0 : w20[kO0]? = (some (qO0, .inr (14, [.int 0, .ref qA1, .int 0, .ref qA2, .ref qA3, .ref qA4, .ref qA5, .ref qA6, .int 1, .long 0, .int 0, .int 0, .ref qA7, .int 0, .ref qA8, .int 0, .ref qA9, .int 0, .ref qA10, .int 0, .int 3])) : Option (Nat × va_E)) := hO0
  replace hF := q_us hF hu21 (.head _)
  replace hA2 := (hu21 _ n_A2_O0).trans (hA2)
  replace hA3 := (hu21 _ n_A3_O0).trans (hA3)
  replace hA4 := (hu21 _ n_A4_O0).trans (hA4)
  replace hA5 := (hu21 _ n_A5_O0).trans (hA5)
  replace hA6 := (hu21 _ n_A6_O0).trans (hA6)
  exact q_retv C0 V (⟨hF, hO0, hA2, hA3, hA4, hA5, hA6⟩) d_15_21_63
theorem d_19_12_0 : decode prog_19_method_12_code 0 = .ok (.lconst 0, 1) := by decide +kernel
theorem d_19_12_1 : decode prog_19_method_12_code 1 = .ok (.lstore_n 2, 1) := by decide +kernel
theorem d_19_12_2 : decode prog_19_method_12_code 2 = .ok (.aload_n 0, 1) := by decide +kernel
theorem d_19_12_3 : decode prog_19_method_12_code 3 = .ok (.invokestatic 59, 3) := by decide +kernel
theorem d_19_12_6 : decode prog_19_method_12_code 6 = .ok (.iconst 1, 1) := by decide +kernel
theorem d_19_12_7 : decode prog_19_method_12_code 7 = .ok (.isub, 1) := by decide +kernel
theorem d_19_12_8 : decode prog_19_method_12_code 8 = .ok (.istore 4, 2) := by decide +kernel
theorem d_19_12_10 : decode prog_19_method_12_code 10 = .ok (.iload 4, 2) := by decide +kernel
theorem d_19_12_12 : decode prog_19_method_12_code 12 = .ok (.ifCond .lt 34, 3) := by decide +kernel
theorem d_19_12_46 : decode prog_19_method_12_code 46 = .ok (.lload_n 2, 1) := by decide +kernel
theorem d_19_12_47 : decode prog_19_method_12_code 47 = .ok (.l2i, 1) := by decide +kernel
theorem d_19_12_48 : decode prog_19_method_12_code 48 = .ok (.ireturn, 1) := by decide +kernel
def y_WR_shrink : MethodName := ⟨"NumberHouseModel$WholeRows", "shrink", "([II)I"⟩
set_option maxRecDepth 100000 in
set_option maxHeartbeats 4000000 in
theorem c_WR_shrink (l : Launch) (D : va_G) (g : Nat → ClassId) (ws : va_W) (kA0 qA0 : Nat) (hA0 : ws[kA0]? = (some (qA0, .inl (g 0, 264, .inl (fun _ => 0))) : Option (Nat × va_E))) : q_mI l y_WR_shrink prog_19_method_12_code 5 (.int) 2 0 0 D g [.ref qA0, .int 10] ws (fun r u => 0 = r ∧ ws = u) := by
  intro sz
  refine q_into (by decide) (Nat.le_of_ble_eq_true rfl) ?_
  intro p e s m below meth c ls hsz C0 V hl
  have hx := C0.1
  have hb := C0.2.1
  have hl : lv_has ls 5 [(0, .ref qA0), (1, .int 10)] := hl
  refine lv_lconst (v := 0) hx hb d_19_12_0 (by decide) ?_
  refine lv_lstore_n (lv' := [(2, .long 0), (0, .ref qA0), (1, .int 10)]) hx hb d_19_12_1 rfl hl (by decide) rfl (fun ls hl => ?_)
  refine lv_aload_n hx hb d_19_12_2 rfl (lv_at hl 1 rfl) ?_
  refine q_goi V (q_runS (As := [.ref qA0]) (rest := []) (d := 1) (mc := 0) (ms := 0) C0 V rfl LS_WR_59 (c_WR_size l D g ws kA0 qA0 hA0 _) rfl hl.1 rfl (Nat.le_of_ble_eq_true rfl) ⟨by decide, by decide⟩ ⟨Nat.le_of_ble_eq_true rfl, Nat.le_of_ble_eq_true rfl⟩ d_19_12_3) (fun v3 u2 H locs hp1 V => ?_)
  obtain ⟨rfl, rfl⟩ := hp1
  refine lv_iconst (v := 1) hx hb d_19_12_6 (by decide) ?_
  refine lv_isub hx hb d_19_12_7 ?_
  refine q_ti (v := (-1)) (by decide) ?_
  refine lv_istore (lv' := [(4, .int (-1)), (2, .long 0), (0, .ref qA0), (1, .int 10)]) hx hb d_19_12_8 hl (by decide) rfl (fun ls hl => ?_)
  refine lv_iload hx hb d_19_12_10 (lv_at hl 0 rfl) ?_
  refine lv_if_lt (tgt := 46) hx hb d_19_12_12 (by decide) (fun c5 => ?_) (fun c5 => absurd (by decide) c5)
  refine lv_lload_n hx hb d_19_12_46 rfl (lv_at hl 1 rfl) ?_
  refine lv_l2i hx hb d_19_12_47 rfl ?_
  refine q_ti (v := 0) (by decide) ?_
  exact q_reti C0 V (⟨rfl, rfl⟩) d_19_12_48
theorem d_19_42_0 : decode prog_19_method_42_code 0 = .ok (.aload_n 0, 1) := by decide +kernel
theorem d_19_42_1 : decode prog_19_method_42_code 1 = .ok (.iload_n 1, 1) := by decide +kernel
theorem d_19_42_2 : decode prog_19_method_42_code 2 = .ok (.invokestatic 91, 3) := by decide +kernel
theorem d_19_42_5 : decode prog_19_method_42_code 5 = .ok (.ifCond .ne 14, 3) := by decide +kernel
theorem d_19_42_8 : decode prog_19_method_42_code 8 = .ok (.iload_n 2, 1) := by decide +kernel
theorem d_19_42_9 : decode prog_19_method_42_code 9 = .ok (.iconst 2, 1) := by decide +kernel
theorem d_19_42_10 : decode prog_19_method_42_code 10 = .ok (.if_icmp .lt 9, 3) := by decide +kernel
theorem d_19_42_13 : decode prog_19_method_42_code 13 = .ok (.iload_n 2, 1) := by decide +kernel
theorem d_19_42_14 : decode prog_19_method_42_code 14 = .ok (.bipush 36, 2) := by decide +kernel
theorem d_19_42_16 : decode prog_19_method_42_code 16 = .ok (.if_icmp .le 7, 3) := by decide +kernel
theorem d_19_42_23 : decode prog_19_method_42_code 23 = .ok (.iconst 0, 1) := by decide +kernel
theorem d_19_42_24 : decode prog_19_method_42_code 24 = .ok (.putfield 53, 3) := by decide +kernel
theorem d_19_42_27 : decode prog_19_method_42_code 27 = .ok (.aload_n 0, 1) := by decide +kernel
theorem d_19_42_28 : decode prog_19_method_42_code 28 = .ok (.getfield 53, 3) := by decide +kernel
theorem d_19_42_31 : decode prog_19_method_42_code 31 = .ok (.ifCond .le 5, 3) := by decide +kernel
theorem d_19_42_36 : decode prog_19_method_42_code 36 = .ok (.aload_n 0, 1) := by decide +kernel
theorem d_19_42_37 : decode prog_19_method_42_code 37 = .ok (.iload_n 1, 1) := by decide +kernel
theorem d_19_42_38 : decode prog_19_method_42_code 38 = .ok (.aload_n 0, 1) := by decide +kernel
theorem d_19_42_39 : decode prog_19_method_42_code 39 = .ok (.getfield 35, 3) := by decide +kernel
theorem d_19_42_42 : decode prog_19_method_42_code 42 = .ok (.invokevirtual 107, 3) := by decide +kernel
theorem d_19_42_45 : decode prog_19_method_42_code 45 = .ok (.aload_n 0, 1) := by decide +kernel
theorem d_19_42_46 : decode prog_19_method_42_code 46 = .ok (.iconst 0, 1) := by decide +kernel
theorem d_19_42_47 : decode prog_19_method_42_code 47 = .ok (.putfield 155, 3) := by decide +kernel
theorem w_1945 : (Cond.fieldLink "NumberHouseModel$WholeRows" (155 : Nat) "NumberHouseModel$WholeRows" "printed" "I") ∈ q_tbl := q_of 1945 (by decide +kernel) (by decide +kernel)
theorem d_19_42_50 : decode prog_19_method_42_code 50 = .ok (.aload_n 0, 1) := by decide +kernel
theorem d_19_42_51 : decode prog_19_method_42_code 51 = .ok (.getfield 35, 3) := by decide +kernel
theorem d_19_42_54 : decode prog_19_method_42_code 54 = .ok (.invokestatic 59, 3) := by decide +kernel
theorem d_19_42_57 : decode prog_19_method_42_code 57 = .ok (.ifCond .gt 10, 3) := by decide +kernel
theorem d_19_42_60 : decode prog_19_method_42_code 60 = .ok (.aload_n 0, 1) := by decide +kernel
theorem d_19_42_61 : decode prog_19_method_42_code 61 = .ok (.getfield 155, 3) := by decide +kernel
theorem d_19_42_64 : decode prog_19_method_42_code 64 = .ok (.ifCond .ne 54, 3) := by decide +kernel
theorem d_19_42_67 : decode prog_19_method_42_code 67 = .ok (.aload_n 0, 1) := by decide +kernel
theorem d_19_42_68 : decode prog_19_method_42_code 68 = .ok (.getfield 35, 3) := by decide +kernel
theorem d_19_42_71 : decode prog_19_method_42_code 71 = .ok (.iload_n 2, 1) := by decide +kernel
theorem d_19_42_72 : decode prog_19_method_42_code 72 = .ok (.invokestatic 158, 3) := by decide +kernel
theorem w_2953 : (Cond.code ({ cls := "NumberHouseModel$WholeRows", name := "shrink", desc := "([II)I" } : MethodName) prog_19_method_12_code (5 : Nat) (some .int)) ∈ q_tbl := q_of 2953 (by decide +kernel) (by decide +kernel)
theorem w_2951 : (Cond.methodLink "NumberHouseModel$WholeRows" (158 : Nat) ({ cls := "NumberHouseModel$WholeRows", name := "shrink", desc := "([II)I" } : MethodName)) ∈ q_tbl := q_of 2951 (by decide +kernel) (by decide +kernel)
theorem w_2952 : (Cond.static ({ cls := "NumberHouseModel$WholeRows", name := "shrink", desc := "([II)I" } : MethodName)) ∈ q_tbl := q_of 2952 (by decide +kernel) (by decide +kernel)
theorem LS_WR_158 : q_LS "NumberHouseModel$WholeRows" 158 y_WR_shrink prog_19_method_12_code 5 (some .int) 2 := ⟨w_2953, w_15, w_2951, w_2952, ⟨by decide, by decide, by decide +kernel⟩⟩
theorem d_19_42_75 : decode prog_19_method_42_code 75 = .ok (.istore_n 3, 1) := by decide +kernel
theorem d_19_42_76 : decode prog_19_method_42_code 76 = .ok (.aload_n 0, 1) := by decide +kernel
theorem d_19_42_77 : decode prog_19_method_42_code 77 = .ok (.getfield 50, 3) := by decide +kernel
theorem d_19_42_80 : decode prog_19_method_42_code 80 = .ok (.aload_n 0, 1) := by decide +kernel
theorem d_19_42_81 : decode prog_19_method_42_code 81 = .ok (.getfield 155, 3) := by decide +kernel
theorem d_19_42_84 : decode prog_19_method_42_code 84 = .ok (.iload_n 3, 1) := by decide +kernel
theorem d_19_42_85 : decode prog_19_method_42_code 85 = .ok (.bipush 10, 2) := by decide +kernel
theorem d_19_42_87 : decode prog_19_method_42_code 87 = .ok (.if_icmp .ge 10, 3) := by decide +kernel
theorem d_19_42_90 : decode prog_19_method_42_code 90 = .ok (.bipush 48, 2) := by decide +kernel
theorem d_19_42_92 : decode prog_19_method_42_code 92 = .ok (.iload_n 3, 1) := by decide +kernel
theorem d_19_42_93 : decode prog_19_method_42_code 93 = .ok (.iadd, 1) := by decide +kernel
theorem d_19_42_94 : decode prog_19_method_42_code 94 = .ok (.goto 10, 3) := by decide +kernel
theorem d_19_42_104 : decode prog_19_method_42_code 104 = .ok (.iastore, 1) := by decide +kernel
theorem d_19_42_105 : decode prog_19_method_42_code 105 = .ok (.aload_n 0, 1) := by decide +kernel
theorem d_19_42_106 : decode prog_19_method_42_code 106 = .ok (.dup, 1) := by decide +kernel
theorem d_19_42_107 : decode prog_19_method_42_code 107 = .ok (.getfield 155, 3) := by decide +kernel
theorem d_19_42_110 : decode prog_19_method_42_code 110 = .ok (.iconst 1, 1) := by decide +kernel
theorem d_19_42_111 : decode prog_19_method_42_code 111 = .ok (.iadd, 1) := by decide +kernel
theorem d_19_42_112 : decode prog_19_method_42_code 112 = .ok (.putfield 155, 3) := by decide +kernel
theorem d_19_42_115 : decode prog_19_method_42_code 115 = .ok (.goto (-65), 3) := by decide +kernel
theorem d_19_42_118 : decode prog_19_method_42_code 118 = .ok (.aload_n 0, 1) := by decide +kernel
theorem d_19_42_119 : decode prog_19_method_42_code 119 = .ok (.getfield 16, 3) := by decide +kernel
theorem d_19_42_122 : decode prog_19_method_42_code 122 = .ok (.iload_n 1, 1) := by decide +kernel
theorem d_19_42_123 : decode prog_19_method_42_code 123 = .ok (.baload, 1) := by decide +kernel
theorem d_19_42_124 : decode prog_19_method_42_code 124 = .ok (.ifCond .eq 24, 3) := by decide +kernel
theorem d_19_42_148 : decode prog_19_method_42_code 148 = .ok (.iconst 0, 1) := by decide +kernel
theorem d_19_42_149 : decode prog_19_method_42_code 149 = .ok (.istore_n 3, 1) := by decide +kernel
theorem d_19_42_150 : decode prog_19_method_42_code 150 = .ok (.aload_n 0, 1) := by decide +kernel
theorem d_19_42_151 : decode prog_19_method_42_code 151 = .ok (.getfield 155, 3) := by decide +kernel
theorem d_19_42_154 : decode prog_19_method_42_code 154 = .ok (.iconst 1, 1) := by decide +kernel
theorem d_19_42_155 : decode prog_19_method_42_code 155 = .ok (.isub, 1) := by decide +kernel
theorem d_19_42_156 : decode prog_19_method_42_code 156 = .ok (.istore 4, 2) := by decide +kernel
theorem d_19_42_158 : decode prog_19_method_42_code 158 = .ok (.iload_n 3, 1) := by decide +kernel
theorem d_19_42_159 : decode prog_19_method_42_code 159 = .ok (.iload 4, 2) := by decide +kernel
theorem d_19_42_161 : decode prog_19_method_42_code 161 = .ok (.if_icmp .ge 42, 3) := by decide +kernel
theorem d_19_42_203 : decode prog_19_method_42_code 203 = .ok (.aload_n 0, 1) := by decide +kernel
theorem d_19_42_204 : decode prog_19_method_42_code 204 = .ok (.getfield 155, 3) := by decide +kernel
theorem d_19_42_207 : decode prog_19_method_42_code 207 = .ok (.ireturn, 1) := by decide +kernel
def y_WR_written : MethodName := ⟨"NumberHouseModel$WholeRows", "written", "(II)I"⟩
