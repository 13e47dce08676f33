/-! the constructors of the class -/
theorem d_8_1_0 : decode prog_8_method_1_code 0 = .ok (.aload_n 0, 1) := by decide +kernel
theorem d_8_1_1 : decode prog_8_method_1_code 1 = .ok (.invokespecial 3, 3) := by decide +kernel
set_option maxRecDepth 100000 in
theorem w_77 : (Cond.methodLink "NumberHouse$Mill" (3 : Nat) ({ cls := "java/lang/Object", name := "<init>", desc := "()V" } : MethodName)) ∈ q_tbl := q_of1 77 rfl (by decide +kernel)
theorem d_8_1_4 : decode prog_8_method_1_code 4 = .ok (.aload_n 0, 1) := by decide +kernel
theorem d_8_1_5 : decode prog_8_method_1_code 5 = .ok (.new 9, 3) := by decide +kernel
set_option maxRecDepth 100000 in
theorem w_78 : (Cond.classLink "NumberHouse$Mill" (9 : Nat) "NumberHouse$Big") ∈ q_tbl := q_of1 78 rfl (by decide +kernel)
theorem d_8_1_8 : decode prog_8_method_1_code 8 = .ok (.dup, 1) := by decide +kernel
theorem d_8_1_9 : decode prog_8_method_1_code 9 = .ok (.sipush 220, 3) := by decide +kernel
theorem d_8_1_12 : decode prog_8_method_1_code 12 = .ok (.invokespecial 13, 3) := by decide +kernel
set_option maxRecDepth 100000 in
theorem w_80 : (Cond.methodLink "NumberHouse$Mill" (13 : Nat) ({ cls := "NumberHouse$Big", name := "<init>", desc := "(I)V" } : MethodName)) ∈ q_tbl := q_of1 80 rfl (by decide +kernel)
theorem LI_Mil_13 : q_LI "NumberHouse$Mill" 13 y_Big_init prog_2_method_1_code 2 1 := ⟨w_82, w_4, w_80, w_81, rfl, ⟨by decide, by decide, by decide +kernel⟩⟩
theorem d_8_1_15 : decode prog_8_method_1_code 15 = .ok (.putfield 16, 3) := by decide +kernel
set_option maxRecDepth 100000 in
theorem w_108 : (Cond.fieldLink "NumberHouse$Mill" (16 : Nat) "NumberHouse$Mill" "number" "LNumberHouse$Big;") ∈ q_tbl := q_of1 108 rfl (by decide +kernel)
theorem d_8_1_18 : decode prog_8_method_1_code 18 = .ok (.aload_n 0, 1) := by decide +kernel
theorem d_8_1_19 : decode prog_8_method_1_code 19 = .ok (.new 9, 3) := by decide +kernel
theorem d_8_1_22 : decode prog_8_method_1_code 22 = .ok (.dup, 1) := by decide +kernel
theorem d_8_1_23 : decode prog_8_method_1_code 23 = .ok (.sipush 220, 3) := by decide +kernel
theorem d_8_1_26 : decode prog_8_method_1_code 26 = .ok (.invokespecial 13, 3) := by decide +kernel
theorem d_8_1_29 : decode prog_8_method_1_code 29 = .ok (.putfield 20, 3) := by decide +kernel
set_option maxRecDepth 100000 in
theorem w_114 : (Cond.fieldLink "NumberHouse$Mill" (20 : Nat) "NumberHouse$Mill" "quotient" "LNumberHouse$Big;") ∈ q_tbl := q_of1 114 rfl (by decide +kernel)
theorem d_8_1_32 : decode prog_8_method_1_code 32 = .ok (.aload_n 0, 1) := by decide +kernel
theorem d_8_1_33 : decode prog_8_method_1_code 33 = .ok (.new 9, 3) := by decide +kernel
theorem d_8_1_36 : decode prog_8_method_1_code 36 = .ok (.dup, 1) := by decide +kernel
theorem d_8_1_37 : decode prog_8_method_1_code 37 = .ok (.sipush 220, 3) := by decide +kernel
theorem d_8_1_40 : decode prog_8_method_1_code 40 = .ok (.invokespecial 13, 3) := by decide +kernel
theorem d_8_1_43 : decode prog_8_method_1_code 43 = .ok (.putfield 23, 3) := by decide +kernel
set_option maxRecDepth 100000 in
theorem w_117 : (Cond.fieldLink "NumberHouse$Mill" (23 : Nat) "NumberHouse$Mill" "power" "LNumberHouse$Big;") ∈ q_tbl := q_of1 117 rfl (by decide +kernel)
theorem d_8_1_46 : decode prog_8_method_1_code 46 = .ok (.aload_n 0, 1) := by decide +kernel
theorem d_8_1_47 : decode prog_8_method_1_code 47 = .ok (.new 9, 3) := by decide +kernel
theorem d_8_1_50 : decode prog_8_method_1_code 50 = .ok (.dup, 1) := by decide +kernel
theorem d_8_1_51 : decode prog_8_method_1_code 51 = .ok (.sipush 220, 3) := by decide +kernel
theorem d_8_1_54 : decode prog_8_method_1_code 54 = .ok (.invokespecial 13, 3) := by decide +kernel
theorem d_8_1_57 : decode prog_8_method_1_code 57 = .ok (.putfield 26, 3) := by decide +kernel
set_option maxRecDepth 100000 in
theorem w_120 : (Cond.fieldLink "NumberHouse$Mill" (26 : Nat) "NumberHouse$Mill" "root" "LNumberHouse$Big;") ∈ q_tbl := q_of1 120 rfl (by decide +kernel)
theorem d_8_1_60 : decode prog_8_method_1_code 60 = .ok (.aload_n 0, 1) := by decide +kernel
theorem d_8_1_61 : decode prog_8_method_1_code 61 = .ok (.new 9, 3) := by decide +kernel
theorem d_8_1_64 : decode prog_8_method_1_code 64 = .ok (.dup, 1) := by decide +kernel
theorem d_8_1_65 : decode prog_8_method_1_code 65 = .ok (.sipush 220, 3) := by decide +kernel
theorem d_8_1_68 : decode prog_8_method_1_code 68 = .ok (.invokespecial 13, 3) := by decide +kernel
theorem d_8_1_71 : decode prog_8_method_1_code 71 = .ok (.putfield 29, 3) := by decide +kernel
set_option maxRecDepth 100000 in
theorem w_123 : (Cond.fieldLink "NumberHouse$Mill" (29 : Nat) "NumberHouse$Mill" "work" "LNumberHouse$Big;") ∈ q_tbl := q_of1 123 rfl (by decide +kernel)
theorem d_8_1_74 : decode prog_8_method_1_code 74 = .ok (.aload_n 0, 1) := by decide +kernel
theorem d_8_1_75 : decode prog_8_method_1_code 75 = .ok (.new 9, 3) := by decide +kernel
theorem d_8_1_78 : decode prog_8_method_1_code 78 = .ok (.dup, 1) := by decide +kernel
theorem d_8_1_79 : decode prog_8_method_1_code 79 = .ok (.sipush 220, 3) := by decide +kernel
theorem d_8_1_82 : decode prog_8_method_1_code 82 = .ok (.invokespecial 13, 3) := by decide +kernel
theorem d_8_1_85 : decode prog_8_method_1_code 85 = .ok (.putfield 32, 3) := by decide +kernel
set_option maxRecDepth 100000 in
theorem w_124 : (Cond.fieldLink "NumberHouse$Mill" (32 : Nat) "NumberHouse$Mill" "spare" "LNumberHouse$Big;") ∈ q_tbl := q_of1 124 rfl (by decide +kernel)
theorem d_8_1_88 : decode prog_8_method_1_code 88 = .ok (.aload_n 0, 1) := by decide +kernel
theorem d_8_1_89 : decode prog_8_method_1_code 89 = .ok (.new 9, 3) := by decide +kernel
theorem d_8_1_92 : decode prog_8_method_1_code 92 = .ok (.dup, 1) := by decide +kernel
theorem d_8_1_93 : decode prog_8_method_1_code 93 = .ok (.sipush 220, 3) := by decide +kernel
theorem d_8_1_96 : decode prog_8_method_1_code 96 = .ok (.invokespecial 13, 3) := by decide +kernel
theorem d_8_1_99 : decode prog_8_method_1_code 99 = .ok (.putfield 35, 3) := by decide +kernel
set_option maxRecDepth 100000 in
theorem w_125 : (Cond.fieldLink "NumberHouse$Mill" (35 : Nat) "NumberHouse$Mill" "one" "LNumberHouse$Big;") ∈ q_tbl := q_of1 125 rfl (by decide +kernel)
theorem d_8_1_102 : decode prog_8_method_1_code 102 = .ok (.aload_n 0, 1) := by decide +kernel
theorem d_8_1_103 : decode prog_8_method_1_code 103 = .ok (.new 9, 3) := by decide +kernel
theorem d_8_1_106 : decode prog_8_method_1_code 106 = .ok (.dup, 1) := by decide +kernel
theorem d_8_1_107 : decode prog_8_method_1_code 107 = .ok (.sipush 220, 3) := by decide +kernel
theorem d_8_1_110 : decode prog_8_method_1_code 110 = .ok (.invokespecial 13, 3) := by decide +kernel
theorem d_8_1_113 : decode prog_8_method_1_code 113 = .ok (.putfield 38, 3) := by decide +kernel
set_option maxRecDepth 100000 in
theorem w_128 : (Cond.fieldLink "NumberHouse$Mill" (38 : Nat) "NumberHouse$Mill" "two" "LNumberHouse$Big;") ∈ q_tbl := q_of1 128 rfl (by decide +kernel)
theorem d_8_1_116 : decode prog_8_method_1_code 116 = .ok (.aload_n 0, 1) := by decide +kernel
theorem d_8_1_117 : decode prog_8_method_1_code 117 = .ok (.new 9, 3) := by decide +kernel
theorem d_8_1_120 : decode prog_8_method_1_code 120 = .ok (.dup, 1) := by decide +kernel
theorem d_8_1_121 : decode prog_8_method_1_code 121 = .ok (.sipush 220, 3) := by decide +kernel
theorem d_8_1_124 : decode prog_8_method_1_code 124 = .ok (.invokespecial 13, 3) := by decide +kernel
theorem d_8_1_127 : decode prog_8_method_1_code 127 = .ok (.putfield 41, 3) := by decide +kernel
set_option maxRecDepth 100000 in
theorem w_131 : (Cond.fieldLink "NumberHouse$Mill" (41 : Nat) "NumberHouse$Mill" "three" "LNumberHouse$Big;") ∈ q_tbl := q_of1 131 rfl (by decide +kernel)
theorem d_8_1_130 : decode prog_8_method_1_code 130 = .ok (.aload_n 0, 1) := by decide +kernel
theorem d_8_1_131 : decode prog_8_method_1_code 131 = .ok (.new 9, 3) := by decide +kernel
theorem d_8_1_134 : decode prog_8_method_1_code 134 = .ok (.dup, 1) := by decide +kernel
theorem d_8_1_135 : decode prog_8_method_1_code 135 = .ok (.sipush 220, 3) := by decide +kernel
theorem d_8_1_138 : decode prog_8_method_1_code 138 = .ok (.invokespecial 13, 3) := by decide +kernel
theorem d_8_1_141 : decode prog_8_method_1_code 141 = .ok (.putfield 44, 3) := by decide +kernel
set_option maxRecDepth 100000 in
theorem w_133 : (Cond.fieldLink "NumberHouse$Mill" (44 : Nat) "NumberHouse$Mill" "four" "LNumberHouse$Big;") ∈ q_tbl := q_of1 133 rfl (by decide +kernel)
theorem d_8_1_144 : decode prog_8_method_1_code 144 = .ok (.return_, 1) := by decide +kernel
def y_Mil_init : MethodName := ⟨"NumberHouse$Mill", "<init>", "()V"⟩
set_option maxRecDepth 100000 in
set_option maxHeartbeats 4000000 in
theorem c_Mil_init (l : Launch) (D : va_G) (g : Nat → ClassId) (ws : va_W) ( qO0 : Nat) (hN : ws.length = 10) (hO0 : ws[9]? = (some (qO0, .inr (4, [.null, .null, .null, .null, .null, .null, .null, .null, .null, .null])) : Option (Nat × va_E))) : q_mV l y_Mil_init prog_8_method_1_code 1 3 20 2230 D g [.ref qO0] ws (fun u => ∃ (q1 : Nat) (q7 : Nat) (q13 : Nat) (q19 : Nat) (q25 : Nat) (q31 : Nat) (q37 : Nat) (q43 : Nat) (q49 : Nat) (q55 : Nat) (q61 : Nat) (q67 : Nat) (q73 : Nat) (q79 : Nat) (q85 : Nat) (q91 : Nat) (q97 : Nat) (q103 : Nat) (q109 : Nat) (q115 : Nat), q_un ws u [9, 10, 11, 12, 13, 14, 15, 16, 17, 18, 19, 20, 21, 22, 23, 24, 25, 26, 27, 28, 29] ∧ u[9]? = (some (qO0, .inr (4, [.ref q1, .ref q13, .ref q25, .ref q37, .ref q49, .ref q61, .ref q73, .ref q85, .ref q97, .ref q109])) : Option (Nat × va_E)) ∧ u[10]? = (some (q1, .inr (2, [.ref q7, .int 0, .int 0])) : Option (Nat × va_E)) ∧ u[11]? = (some (q7, .inl (g 0, 220, .inl (fun _ => 0))) : Option (Nat × va_E)) ∧ u[12]? = (some (q13, .inr (2, [.ref q19, .int 0, .int 0])) : Option (Nat × va_E)) ∧ u[13]? = (some (q19, .inl (g 0, 220, .inl (fun _ => 0))) : Option (Nat × va_E)) ∧ u[14]? = (some (q25, .inr (2, [.ref q31, .int 0, .int 0])) : Option (Nat × va_E)) ∧ u[15]? = (some (q31, .inl (g 0, 220, .inl (fun _ => 0))) : Option (Nat × va_E)) ∧ u[16]? = (some (q37, .inr (2, [.ref q43, .int 0, .int 0])) : Option (Nat × va_E)) ∧ u[17]? = (some (q43, .inl (g 0, 220, .inl (fun _ => 0))) : Option (Nat × va_E)) ∧ u[18]? = (some (q49, .inr (2, [.ref q55, .int 0, .int 0])) : Option (Nat × va_E)) ∧ u[19]? = (some (q55, .inl (g 0, 220, .inl (fun _ => 0))) : Option (Nat × va_E)) ∧ u[20]? = (some (q61, .inr (2, [.ref q67, .int 0, .int 0])) : Option (Nat × va_E)) ∧ u[21]? = (some (q67, .inl (g 0, 220, .inl (fun _ => 0))) : Option (Nat × va_E)) ∧ u[22]? = (some (q73, .inr (2, [.ref q79, .int 0, .int 0])) : Option (Nat × va_E)) ∧ u[23]? = (some (q79, .inl (g 0, 220, .inl (fun _ => 0))) : Option (Nat × va_E)) ∧ u[24]? = (some (q85, .inr (2, [.ref q91, .int 0, .int 0])) : Option (Nat × va_E)) ∧ u[25]? = (some (q91, .inl (g 0, 220, .inl (fun _ => 0))) : Option (Nat × va_E)) ∧ u[26]? = (some (q97, .inr (2, [.ref q103, .int 0, .int 0])) : Option (Nat × va_E)) ∧ u[27]? = (some (q103, .inl (g 0, 220, .inl (fun _ => 0))) : Option (Nat × va_E)) ∧ u[28]? = (some (q109, .inr (2, [.ref q115, .int 0, .int 0])) : Option (Nat × va_E)) ∧ u[29]? = (some (q115, .inl (g 0, 220, .inl (fun _ => 0))) : Option (Nat × va_E)) ∧ u.length = 30) := by
  intro sz
  refine q_into (by decide) (Nat.le_of_ble_eq_true rfl) ?_
  intro p e s m below meth c ls hsz C0 V hl
  have hx := C0.1
  have hb := C0.2.1
  have hl : lv_has ls 1 [(0, .ref qO0)] := hl
  have hF : q_un ws ws [9, 10, 11, 12, 13, 14, 15, 16, 17, 18, 19, 20, 21, 22, 23, 24, 25, 26, 27, 28, 29] := q_u0
  refine lv_aload_n hx hb d_8_1_0 rfl (lv_at hl 0 rfl) ?_
  refine q_obj C0 hl.1 rfl w_77 w_44 w_45 ⟨by decide, by decide⟩ d_8_1_1 ?_
  refine lv_aload_n hx hb d_8_1_4 rfl (lv_at hl 0 rfl) ?_
  refine q_new (ci := 2) (fs := [.null, .int 0, .int 0]) C0 V hN i_Big o_Big rfl w_78 w_79 w_4 rfl (fun j hj => by rcases (show j = 0 ∨ j = 1 ∨ j = 2 by omega) with rfl | rfl | rfl <;> rfl) (Nat.le_of_ble_eq_true rfl) (Nat.le_of_ble_eq_true rfl) d_8_1_5 (fun q1 H w2 hu3 hn4 hN V => ?_)
  have hn0 : w2[10]? = (some (q1, .inr (2, [.null, .int 0, .int 0])) : Option (Nat × va_E)) := hn4
  replace hF := q_us hF hu3 (.tail _ (.head _))
  replace hN : w2.length = 11 := hN
  refine lv_dup hx hb d_8_1_8 rfl ?_
  refine lv_sipush (v := 220) hx hb d_8_1_9 (by decide) ?_
  refine q_gov V (q_runI (As := [.int 220]) (rest := [.ref q1, .ref qO0]) (d := 2) (mc := 1) (ms := 220) C0 V rfl LI_Mil_13 (c_Big_init_3 l D g w2 10 q1 11 hN hn0 _) rfl hl.1 rfl (Nat.le_of_ble_eq_true rfl) ⟨by decide, by decide⟩ ⟨Nat.le_of_ble_eq_true rfl, Nat.le_of_ble_eq_true rfl⟩ d_8_1_12) (fun u6 H locs hp5 V => ?_)
  obtain ⟨q7, hg8, hn0, hq9, hN⟩ := hp5
  replace hF := q_uc hF hg8 (q_sc (.tail _ (.head _)) (q_sc (.tail _ (.tail _ (.head _))) (fun _ h => absurd h List.not_mem_nil)))
  have hn1 : u6[11]? = (some (q7, .inl (g 0, 220, .inl (fun _ => 0))) : Option (Nat × va_E)) := hq9
  replace hN : u6.length = 12 := hN
  replace hO0 := (hg8 _ (q_nc (q_pd 9 10 rfl) (q_nc (q_pd 9 11 rfl) List.not_mem_nil))).trans ((hu3 _ (q_pd 9 10 rfl)).trans (hO0))
  have ho12 := hO0
  refine q_putF (ci := 4) (j := 0) (v := .ref q1) (ty := .object "NumberHouse$Big") C0 V i_Mil o_Mil n_Mil rfl rfl rfl rfl rfl hO0 (by decide) w_108 rfl rfl rfl (Nat.le_of_ble_eq_true rfl) d_8_1_15 (fun H locs w10 hu11 hO0 V => ?_)
  replace hO0 : w10[9]? = (some (qO0, .inr (4, [.ref q1, .null, .null, .null, .null, .null, .null, .null, .null, .null])) : Option (Nat × va_E)) := hO0
  replace hN : w10.length = 12 := (q_len1 hu11 hO0 ho12).trans hN
  replace hF := q_us hF hu11 (.head _)
  refine lv_aload_n hx hb d_8_1_18 rfl (lv_at hl 0 rfl) ?_
  refine q_new (ci := 2) (fs := [.null, .int 0, .int 0]) C0 V hN i_Big o_Big rfl w_78 w_79 w_4 rfl (fun j hj => by rcases (show j = 0 ∨ j = 1 ∨ j = 2 by omega) with rfl | rfl | rfl <;> rfl) (Nat.le_of_ble_eq_true rfl) (Nat.le_of_ble_eq_true rfl) d_8_1_19 (fun q13 H w14 hu15 hn16 hN V => ?_)
  have hn2 : w14[12]? = (some (q13, .inr (2, [.null, .int 0, .int 0])) : Option (Nat × va_E)) := hn16
  replace hF := q_us hF hu15 (List.mem_of_getElem? (i := 3) rfl)
  replace hN : w14.length = 13 := hN
  refine lv_dup hx hb d_8_1_22 rfl ?_
  refine lv_sipush (v := 220) hx hb d_8_1_23 (by decide) ?_
  refine q_gov V (q_runI (As := [.int 220]) (rest := [.ref q13, .ref qO0]) (d := 2) (mc := 1) (ms := 220) C0 V rfl LI_Mil_13 (c_Big_init_3 l D g w14 12 q13 13 hN hn2 _) rfl hl.1 rfl (Nat.le_of_ble_eq_true rfl) ⟨by decide, by decide⟩ ⟨Nat.le_of_ble_eq_true rfl, Nat.le_of_ble_eq_true rfl⟩ d_8_1_26) (fun u18 H locs hp17 V => ?_)
  obtain ⟨q19, hg20, hn2, hq21, hN⟩ := hp17
  replace hF := q_uc hF hg20 (q_sc (List.mem_of_getElem? (i := 3) rfl) (q_sc (List.mem_of_getElem? (i := 4) rfl) (fun _ h => absurd h List.not_mem_nil)))
  have hn3 : u18[13]? = (some (q19, .inl (g 0, 220, .inl (fun _ => 0))) : Option (Nat × va_E)) := hq21
  replace hN : u18.length = 14 := hN
  replace hO0 := (hg20 _ (q_nc (q_pd 9 12 rfl) (q_nc (q_pd 9 13 rfl) List.not_mem_nil))).trans ((hu15 _ (q_pd 9 12 rfl)).trans (hO0))
  have ho24 := hO0
  refine q_putF (ci := 4) (j := 1) (v := .ref q13) (ty := .object "NumberHouse$Big") C0 V i_Mil o_Mil n_Mil rfl rfl rfl rfl rfl hO0 (by decide) w_114 rfl rfl rfl (Nat.le_of_ble_eq_true rfl) d_8_1_29 (fun H locs w22 hu23 hO0 V => ?_)
  replace hO0 : w22[9]? = (some (qO0, .inr (4, [.ref q1, .ref q13, .null, .null, .null, .null, .null, .null, .null, .null])) : Option (Nat × va_E)) := hO0
  replace hN : w22.length = 14 := (q_len1 hu23 hO0 ho24).trans hN
  replace hF := q_us hF hu23 (.head _)
  refine lv_aload_n hx hb d_8_1_32 rfl (lv_at hl 0 rfl) ?_
  refine q_new (ci := 2) (fs := [.null, .int 0, .int 0]) C0 V hN i_Big o_Big rfl w_78 w_79 w_4 rfl (fun j hj => by rcases (show j = 0 ∨ j = 1 ∨ j = 2 by omega) with rfl | rfl | rfl <;> rfl) (Nat.le_of_ble_eq_true rfl) (Nat.le_of_ble_eq_true rfl) d_8_1_33 (fun q25 H w26 hu27 hn28 hN V => ?_)
  have hn4 : w26[14]? = (some (q25, .inr (2, [.null, .int 0, .int 0])) : Option (Nat × va_E)) := hn28
  replace hF := q_us hF hu27 (List.mem_of_getElem? (i := 5) rfl)
  replace hN : w26.length = 15 := hN
  refine lv_dup hx hb d_8_1_36 rfl ?_
  refine lv_sipush (v := 220) hx hb d_8_1_37 (by decide) ?_
  refine q_gov V (q_runI (As := [.int 220]) (rest := [.ref q25, .ref qO0]) (d := 2) (mc := 1) (ms := 220) C0 V rfl LI_Mil_13 (c_Big_init_3 l D g w26 14 q25 15 hN hn4 _) rfl hl.1 rfl (Nat.le_of_ble_eq_true rfl) ⟨by decide, by decide⟩ ⟨Nat.le_of_ble_eq_true rfl, Nat.le_of_ble_eq_true rfl⟩ d_8_1_40) (fun u30 H locs hp29 V => ?_)
  obtain ⟨q31, hg32, hn4, hq33, hN⟩ := hp29
  replace hF := q_uc hF hg32 (q_sc (List.mem_of_getElem? (i := 5) rfl) (q_sc (List.mem_of_getElem? (i := 6) rfl) (fun _ h => absurd h List.not_mem_nil)))
  have hn5 : u30[15]? = (some (q31, .inl (g 0, 220, .inl (fun _ => 0))) : Option (Nat × va_E)) := hq33
  replace hN : u30.length = 16 := hN
  replace hO0 := (hg32 _ (q_nc (q_pd 9 14 rfl) (q_nc (q_pd 9 15 rfl) List.not_mem_nil))).trans ((hu27 _ (q_pd 9 14 rfl)).trans (hO0))
  have ho36 := hO0
  refine q_putF (ci := 4) (j := 2) (v := .ref q25) (ty := .object "NumberHouse$Big") C0 V i_Mil o_Mil n_Mil rfl rfl rfl rfl rfl hO0 (by decide) w_117 rfl rfl rfl (Nat.le_of_ble_eq_true rfl) d_8_1_43 (fun H locs w34 hu35 hO0 V => ?_)
  replace hO0 : w34[9]? = (some (qO0, .inr (4, [.ref q1, .ref q13, .ref q25, .null, .null, .null, .null, .null, .null, .null])) : Option (Nat × va_E)) := hO0
  replace hN : w34.length = 16 := (q_len1 hu35 hO0 ho36).trans hN
  replace hF := q_us hF hu35 (.head _)
  refine lv_aload_n hx hb d_8_1_46 rfl (lv_at hl 0 rfl) ?_
  refine q_new (ci := 2) (fs := [.null, .int 0, .int 0]) C0 V hN i_Big o_Big rfl w_78 w_79 w_4 rfl (fun j hj => by rcases (show j = 0 ∨ j = 1 ∨ j = 2 by omega) with rfl | rfl | rfl <;> rfl) (Nat.le_of_ble_eq_true rfl) (Nat.le_of_ble_eq_true rfl) d_8_1_47 (fun q37 H w38 hu39 hn40 hN V => ?_)
  have hn6 : w38[16]? = (some (q37, .inr (2, [.null, .int 0, .int 0])) : Option (Nat × va_E)) := hn40
  replace hF := q_us hF hu39 (List.mem_of_getElem? (i := 7) rfl)
  replace hN : w38.length = 17 := hN
  refine lv_dup hx hb d_8_1_50 rfl ?_
  refine lv_sipush (v := 220) hx hb d_8_1_51 (by decide) ?_
  refine q_gov V (q_runI (As := [.int 220]) (rest := [.ref q37, .ref qO0]) (d := 2) (mc := 1) (ms := 220) C0 V rfl LI_Mil_13 (c_Big_init_3 l D g w38 16 q37 17 hN hn6 _) rfl hl.1 rfl (Nat.le_of_ble_eq_true rfl) ⟨by decide, by decide⟩ ⟨Nat.le_of_ble_eq_true rfl, Nat.le_of_ble_eq_true rfl⟩ d_8_1_54) (fun u42 H locs hp41 V => ?_)
  obtain ⟨q43, hg44, hn6, hq45, hN⟩ := hp41
  replace hF := q_uc hF hg44 (q_sc (List.mem_of_getElem? (i := 7) rfl) (q_sc (List.mem_of_getElem? (i := 8) rfl) (fun _ h => absurd h List.not_mem_nil)))
  have hn7 : u42[17]? = (some (q43, .inl (g 0, 220, .inl (fun _ => 0))) : Option (Nat × va_E)) := hq45
  replace hN : u42.length = 18 := hN
  replace hO0 := (hg44 _ (q_nc (q_pd 9 16 rfl) (q_nc (q_pd 9 17 rfl) List.not_mem_nil))).trans ((hu39 _ (q_pd 9 16 rfl)).trans (hO0))
  have ho48 := hO0
  refine q_putF (ci := 4) (j := 3) (v := .ref q37) (ty := .object "NumberHouse$Big") C0 V i_Mil o_Mil n_Mil rfl rfl rfl rfl rfl hO0 (by decide) w_120 rfl rfl rfl (Nat.le_of_ble_eq_true rfl) d_8_1_57 (fun H locs w46 hu47 hO0 V => ?_)
  replace hO0 : w46[9]? = (some (qO0, .inr (4, [.ref q1, .ref q13, .ref q25, .ref q37, .null, .null, .null, .null, .null, .null])) : Option (Nat × va_E)) := hO0
  replace hN : w46.length = 18 := (q_len1 hu47 hO0 ho48).trans hN
  replace hF := q_us hF hu47 (.head _)
  refine lv_aload_n hx hb d_8_1_60 rfl (lv_at hl 0 rfl) ?_
  refine q_new (ci := 2) (fs := [.null, .int 0, .int 0]) C0 V hN i_Big o_Big rfl w_78 w_79 w_4 rfl (fun j hj => by rcases (show j = 0 ∨ j = 1 ∨ j = 2 by omega) with rfl | rfl | rfl <;> rfl) (Nat.le_of_ble_eq_true rfl) (Nat.le_of_ble_eq_true rfl) d_8_1_61 (fun q49 H w50 hu51 hn52 hN V => ?_)
  have hn8 : w50[18]? = (some (q49, .inr (2, [.null, .int 0, .int 0])) : Option (Nat × va_E)) := hn52
  replace hF := q_us hF hu51 (List.mem_of_getElem? (i := 9) rfl)
  replace hN : w50.length = 19 := hN
  refine lv_dup hx hb d_8_1_64 rfl ?_
  refine lv_sipush (v := 220) hx hb d_8_1_65 (by decide) ?_
  refine q_gov V (q_runI (As := [.int 220]) (rest := [.ref q49, .ref qO0]) (d := 2) (mc := 1) (ms := 220) C0 V rfl LI_Mil_13 (c_Big_init_3 l D g w50 18 q49 19 hN hn8 _) rfl hl.1 rfl (Nat.le_of_ble_eq_true rfl) ⟨by decide, by decide⟩ ⟨Nat.le_of_ble_eq_true rfl, Nat.le_of_ble_eq_true rfl⟩ d_8_1_68) (fun u54 H locs hp53 V => ?_)
  obtain ⟨q55, hg56, hn8, hq57, hN⟩ := hp53
  replace hF := q_uc hF hg56 (q_sc (List.mem_of_getElem? (i := 9) rfl) (q_sc (List.mem_of_getElem? (i := 10) rfl) (fun _ h => absurd h List.not_mem_nil)))
  have hn9 : u54[19]? = (some (q55, .inl (g 0, 220, .inl (fun _ => 0))) : Option (Nat × va_E)) := hq57
  replace hN : u54.length = 20 := hN
  replace hO0 := (hg56 _ (q_nc (q_pd 9 18 rfl) (q_nc (q_pd 9 19 rfl) List.not_mem_nil))).trans ((hu51 _ (q_pd 9 18 rfl)).trans (hO0))
  have ho60 := hO0
  refine q_putF (ci := 4) (j := 4) (v := .ref q49) (ty := .object "NumberHouse$Big") C0 V i_Mil o_Mil n_Mil rfl rfl rfl rfl rfl hO0 (by decide) w_123 rfl rfl rfl (Nat.le_of_ble_eq_true rfl) d_8_1_71 (fun H locs w58 hu59 hO0 V => ?_)
  replace hO0 : w58[9]? = (some (qO0, .inr (4, [.ref q1, .ref q13, .ref q25, .ref q37, .ref q49, .null, .null, .null, .null, .null])) : Option (Nat × va_E)) := hO0
  replace hN : w58.length = 20 := (q_len1 hu59 hO0 ho60).trans hN
  replace hF := q_us hF hu59 (.head _)
  refine lv_aload_n hx hb d_8_1_74 rfl (lv_at hl 0 rfl) ?_
  refine q_new (ci := 2) (fs := [.null, .int 0, .int 0]) C0 V hN i_Big o_Big rfl w_78 w_79 w_4 rfl (fun j hj => by rcases (show j = 0 ∨ j = 1 ∨ j = 2 by omega) with rfl | rfl | rfl <;> rfl) (Nat.le_of_ble_eq_true rfl) (Nat.le_of_ble_eq_true rfl) d_8_1_75 (fun q61 H w62 hu63 hn64 hN V => ?_)
  have hn10 : w62[20]? = (some (q61, .inr (2, [.null, .int 0, .int 0])) : Option (Nat × va_E)) := hn64
  replace hF := q_us hF hu63 (List.mem_of_getElem? (i := 11) rfl)
  replace hN : w62.length = 21 := hN
  refine lv_dup hx hb d_8_1_78 rfl ?_
  refine lv_sipush (v := 220) hx hb d_8_1_79 (by decide) ?_
  refine q_gov V (q_runI (As := [.int 220]) (rest := [.ref q61, .ref qO0]) (d := 2) (mc := 1) (ms := 220) C0 V rfl LI_Mil_13 (c_Big_init_3 l D g w62 20 q61 21 hN hn10 _) rfl hl.1 rfl (Nat.le_of_ble_eq_true rfl) ⟨by decide, by decide⟩ ⟨Nat.le_of_ble_eq_true rfl, Nat.le_of_ble_eq_true rfl⟩ d_8_1_82) (fun u66 H locs hp65 V => ?_)
  obtain ⟨q67, hg68, hn10, hq69, hN⟩ := hp65
  replace hF := q_uc hF hg68 (q_sc (List.mem_of_getElem? (i := 11) rfl) (q_sc (List.mem_of_getElem? (i := 12) rfl) (fun _ h => absurd h List.not_mem_nil)))
  have hn11 : u66[21]? = (some (q67, .inl (g 0, 220, .inl (fun _ => 0))) : Option (Nat × va_E)) := hq69
  replace hN : u66.length = 22 := hN
  replace hO0 := (hg68 _ (q_nc (q_pd 9 20 rfl) (q_nc (q_pd 9 21 rfl) List.not_mem_nil))).trans ((hu63 _ (q_pd 9 20 rfl)).trans (hO0))
  have ho72 := hO0
  refine q_putF (ci := 4) (j := 5) (v := .ref q61) (ty := .object "NumberHouse$Big") C0 V i_Mil o_Mil n_Mil rfl rfl rfl rfl rfl hO0 (by decide) w_124 rfl rfl rfl (Nat.le_of_ble_eq_true rfl) d_8_1_85 (fun H locs w70 hu71 hO0 V => ?_)
  replace hO0 : w70[9]? = (some (qO0, .inr (4, [.ref q1, .ref q13, .ref q25, .ref q37, .ref q49, .ref q61, .null, .null, .null, .null])) : Option (Nat × va_E)) := hO0
  replace hN : w70.length = 22 := (q_len1 hu71 hO0 ho72).trans hN
  replace hF := q_us hF hu71 (.head _)
  refine lv_aload_n hx hb d_8_1_88 rfl (lv_at hl 0 rfl) ?_
  refine q_new (ci := 2) (fs := [.null, .int 0, .int 0]) C0 V hN i_Big o_Big rfl w_78 w_79 w_4 rfl (fun j hj => by rcases (show j = 0 ∨ j = 1 ∨ j = 2 by omega) with rfl | rfl | rfl <;> rfl) (Nat.le_of_ble_eq_true rfl) (Nat.le_of_ble_eq_true rfl) d_8_1_89 (fun q73 H w74 hu75 hn76 hN V => ?_)
  have hn12 : w74[22]? = (some (q73, .inr (2, [.null, .int 0, .int 0])) : Option (Nat × va_E)) := hn76
  replace hF := q_us hF hu75 (List.mem_of_getElem? (i := 13) rfl)
  replace hN : w74.length = 23 := hN
  refine lv_dup hx hb d_8_1_92 rfl ?_
  refine lv_sipush (v := 220) hx hb d_8_1_93 (by decide) ?_
  refine q_gov V (q_runI (As := [.int 220]) (rest := [.ref q73, .ref qO0]) (d := 2) (mc := 1) (ms := 220) C0 V rfl LI_Mil_13 (c_Big_init_3 l D g w74 22 q73 23 hN hn12 _) rfl hl.1 rfl (Nat.le_of_ble_eq_true rfl) ⟨by decide, by decide⟩ ⟨Nat.le_of_ble_eq_true rfl, Nat.le_of_ble_eq_true rfl⟩ d_8_1_96) (fun u78 H locs hp77 V => ?_)
  obtain ⟨q79, hg80, hn12, hq81, hN⟩ := hp77
  replace hF := q_uc hF hg80 (q_sc (List.mem_of_getElem? (i := 13) rfl) (q_sc (List.mem_of_getElem? (i := 14) rfl) (fun _ h => absurd h List.not_mem_nil)))
  have hn13 : u78[23]? = (some (q79, .inl (g 0, 220, .inl (fun _ => 0))) : Option (Nat × va_E)) := hq81
  replace hN : u78.length = 24 := hN
  replace hO0 := (hg80 _ (q_nc (q_pd 9 22 rfl) (q_nc (q_pd 9 23 rfl) List.not_mem_nil))).trans ((hu75 _ (q_pd 9 22 rfl)).trans (hO0))
  have ho84 := hO0
  refine q_putF (ci := 4) (j := 6) (v := .ref q73) (ty := .object "NumberHouse$Big") C0 V i_Mil o_Mil n_Mil rfl rfl rfl rfl rfl hO0 (by decide) w_125 rfl rfl rfl (Nat.le_of_ble_eq_true rfl) d_8_1_99 (fun H locs w82 hu83 hO0 V => ?_)
  replace hO0 : w82[9]? = (some (qO0, .inr (4, [.ref q1, .ref q13, .ref q25, .ref q37, .ref q49, .ref q61, .ref q73, .null, .null, .null])) : Option (Nat × va_E)) := hO0
  replace hN : w82.length = 24 := (q_len1 hu83 hO0 ho84).trans hN
  replace hF := q_us hF hu83 (.head _)
  refine lv_aload_n hx hb d_8_1_102 rfl (lv_at hl 0 rfl) ?_
  refine q_new (ci := 2) (fs := [.null, .int 0, .int 0]) C0 V hN i_Big o_Big rfl w_78 w_79 w_4 rfl (fun j hj => by rcases (show j = 0 ∨ j = 1 ∨ j = 2 by omega) with rfl | rfl | rfl <;> rfl) (Nat.le_of_ble_eq_true rfl) (Nat.le_of_ble_eq_true rfl) d_8_1_103 (fun q85 H w86 hu87 hn88 hN V => ?_)
  have hn14 : w86[24]? = (some (q85, .inr (2, [.null, .int 0, .int 0])) : Option (Nat × va_E)) := hn88
  replace hF := q_us hF hu87 (List.mem_of_getElem? (i := 15) rfl)
  replace hN : w86.length = 25 := hN
  refine lv_dup hx hb d_8_1_106 rfl ?_
  refine lv_sipush (v := 220) hx hb d_8_1_107 (by decide) ?_
  refine q_gov V (q_runI (As := [.int 220]) (rest := [.ref q85, .ref qO0]) (d := 2) (mc := 1) (ms := 220) C0 V rfl LI_Mil_13 (c_Big_init_3 l D g w86 24 q85 25 hN hn14 _) rfl hl.1 rfl (Nat.le_of_ble_eq_true rfl) ⟨by decide, by decide⟩ ⟨Nat.le_of_ble_eq_true rfl, Nat.le_of_ble_eq_true rfl⟩ d_8_1_110) (fun u90 H locs hp89 V => ?_)
  obtain ⟨q91, hg92, hn14, hq93, hN⟩ := hp89
  replace hF := q_uc hF hg92 (q_sc (List.mem_of_getElem? (i := 15) rfl) (q_sc (List.mem_of_getElem? (i := 16) rfl) (fun _ h => absurd h List.not_mem_nil)))
  have hn15 : u90[25]? = (some (q91, .inl (g 0, 220, .inl (fun _ => 0))) : Option (Nat × va_E)) := hq93
  replace hN : u90.length = 26 := hN
  replace hO0 := (hg92 _ (q_nc (q_pd 9 24 rfl) (q_nc (q_pd 9 25 rfl) List.not_mem_nil))).trans ((hu87 _ (q_pd 9 24 rfl)).trans (hO0))
  have ho96 := hO0
  refine q_putF (ci := 4) (j := 7) (v := .ref q85) (ty := .object "NumberHouse$Big") C0 V i_Mil o_Mil n_Mil rfl rfl rfl rfl rfl hO0 (by decide) w_128 rfl rfl rfl (Nat.le_of_ble_eq_true rfl) d_8_1_113 (fun H locs w94 hu95 hO0 V => ?_)
  replace hO0 : w94[9]? = (some (qO0, .inr (4, [.ref q1, .ref q13, .ref q25, .ref q37, .ref q49, .ref q61, .ref q73, .ref q85, .null, .null])) : Option (Nat × va_E)) := hO0
  replace hN : w94.length = 26 := (q_len1 hu95 hO0 ho96).trans hN
  replace hF := q_us hF hu95 (.head _)
  refine lv_aload_n hx hb d_8_1_116 rfl (lv_at hl 0 rfl) ?_
  refine q_new (ci := 2) (fs := [.null, .int 0, .int 0]) C0 V hN i_Big o_Big rfl w_78 w_79 w_4 rfl (fun j hj => by rcases (show j = 0 ∨ j = 1 ∨ j = 2 by omega) with rfl | rfl | rfl <;> rfl) (Nat.le_of_ble_eq_true rfl) (Nat.le_of_ble_eq_true rfl) d_8_1_117 (fun q97 H w98 hu99 hn100 hN V => ?_)
  have hn16 : w98[26]? = (some (q97, .inr (2, [.null, .int 0, .int 0])) : Option (Nat × va_E)) := hn100
  replace hF := q_us hF hu99 (List.mem_of_getElem? (i := 17) rfl)
  replace hN : w98.length = 27 := hN
  refine lv_dup hx hb d_8_1_120 rfl ?_
  refine lv_sipush (v := 220) hx hb d_8_1_121 (by decide) ?_
  refine q_gov V (q_runI (As := [.int 220]) (rest := [.ref q97, .ref qO0]) (d := 2) (mc := 1) (ms := 220) C0 V rfl LI_Mil_13 (c_Big_init_3 l D g w98 26 q97 27 hN hn16 _) rfl hl.1 rfl (Nat.le_of_ble_eq_true rfl) ⟨by decide, by decide⟩ ⟨Nat.le_of_ble_eq_true rfl, Nat.le_of_ble_eq_true rfl⟩ d_8_1_124) (fun u102 H locs hp101 V => ?_)
  obtain ⟨q103, hg104, hn16, hq105, hN⟩ := hp101
  replace hF := q_uc hF hg104 (q_sc (List.mem_of_getElem? (i := 17) rfl) (q_sc (List.mem_of_getElem? (i := 18) rfl) (fun _ h => absurd h List.not_mem_nil)))
  have hn17 : u102[27]? = (some (q103, .inl (g 0, 220, .inl (fun _ => 0))) : Option (Nat × va_E)) := hq105
  replace hN : u102.length = 28 := hN
  replace hO0 := (hg104 _ (q_nc (q_pd 9 26 rfl) (q_nc (q_pd 9 27 rfl) List.not_mem_nil))).trans ((hu99 _ (q_pd 9 26 rfl)).trans (hO0))
  have ho108 := hO0
  refine q_putF (ci := 4) (j := 8) (v := .ref q97) (ty := .object "NumberHouse$Big") C0 V i_Mil o_Mil n_Mil rfl rfl rfl rfl rfl hO0 (by decide) w_131 rfl rfl rfl (Nat.le_of_ble_eq_true rfl) d_8_1_127 (fun H locs w106 hu107 hO0 V => ?_)
  replace hO0 : w106[9]? = (some (qO0, .inr (4, [.ref q1, .ref q13, .ref q25, .ref q37, .ref q49, .ref q61, .ref q73, .ref q85, .ref q97, .null])) : Option (Nat × va_E)) := hO0
  replace hN : w106.length = 28 := (q_len1 hu107 hO0 ho108).trans hN
  replace hF := q_us hF hu107 (.head _)
  refine lv_aload_n hx hb d_8_1_130 rfl (lv_at hl 0 rfl) ?_
  refine q_new (ci := 2) (fs := [.null, .int 0, .int 0]) C0 V hN i_Big o_Big rfl w_78 w_79 w_4 rfl (fun j hj => by rcases (show j = 0 ∨ j = 1 ∨ j = 2 by omega) with rfl | rfl | rfl <;> rfl) (Nat.le_of_ble_eq_true rfl) (Nat.le_of_ble_eq_true rfl) d_8_1_131 (fun q109 H w110 hu111 hn112 hN V => ?_)
  have hn18 : w110[28]? = (some (q109, .inr (2, [.null, .int 0, .int 0])) : Option (Nat × va_E)) := hn112
  replace hF := q_us hF hu111 (List.mem_of_getElem? (i := 19) rfl)
  replace hN : w110.length = 29 := hN
  refine lv_dup hx hb d_8_1_134 rfl ?_
  refine lv_sipush (v := 220) hx hb d_8_1_135 (by decide) ?_
  refine q_gov V (q_runI (As := [.int 220]) (rest := [.ref q109, .ref qO0]) (d := 2) (mc := 1) (ms := 220) C0 V rfl LI_Mil_13 (c_Big_init_3 l D g w110 28 q109 29 hN hn18 _) rfl hl.1 rfl (Nat.le_of_ble_eq_true rfl) ⟨by decide, by decide⟩ ⟨Nat.le_of_ble_eq_true rfl, Nat.le_of_ble_eq_true rfl⟩ d_8_1_138) (fun u114 H locs hp113 V => ?_)
  obtain ⟨q115, hg116, hn18, hq117, hN⟩ := hp113
  replace hF := q_uc hF hg116 (q_sc (List.mem_of_getElem? (i := 19) rfl) (q_sc (List.mem_of_getElem? (i := 20) rfl) (fun _ h => absurd h List.not_mem_nil)))
  have hn19 : u114[29]? = (some (q115, .inl (g 0, 220, .inl (fun _ => 0))) : Option (Nat × va_E)) := hq117
  replace hN : u114.length = 30 := hN
  replace hO0 := (hg116 _ (q_nc (q_pd 9 28 rfl) (q_nc (q_pd 9 29 rfl) List.not_mem_nil))).trans ((hu111 _ (q_pd 9 28 rfl)).trans (hO0))
  have ho120 := hO0
  refine q_putF (ci := 4) (j := 9) (v := .ref q109) (ty := .object "NumberHouse$Big") C0 V i_Mil o_Mil n_Mil rfl rfl rfl rfl rfl hO0 (by decide) w_133 rfl rfl rfl (Nat.le_of_ble_eq_true rfl) d_8_1_141 (fun H locs w118 hu119 hO0 V => ?_)
  replace hO0 : w118[9]? = (some (qO0, .inr (4, [.ref q1, .ref q13, .ref q25, .ref q37, .ref q49, .ref q61, .ref q73, .ref q85, .ref q97, .ref q109])) : Option (Nat × va_E)) := hO0
  replace hN : w118.length = 30 := (q_len1 hu119 hO0 ho120).trans hN
  replace hF := q_us hF hu119 (.head _)
  have RR : q_un w118 w118 [] := q_u0
  replace RR := q_ub hu119 RR
  replace hn18 := (RR 28 (by decide +kernel)).trans hn18
  replace hn19 := (RR 29 (by decide +kernel)).trans hn19
  replace RR := q_ubc hg116 RR
  replace RR := q_ub hu111 RR
  replace RR := q_ub hu107 RR
  replace hn16 := (RR 26 (by decide +kernel)).trans hn16
  replace hn17 := (RR 27 (by decide +kernel)).trans hn17
  replace RR := q_ubc hg104 RR
  replace RR := q_ub hu99 RR
  replace RR := q_ub hu95 RR
  replace hn14 := (RR 24 (by decide +kernel)).trans hn14
  replace hn15 := (RR 25 (by decide +kernel)).trans hn15
  replace RR := q_ubc hg92 RR
  replace RR := q_ub hu87 RR
  replace RR := q_ub hu83 RR
  replace hn12 := (RR 22 (by decide +kernel)).trans hn12
  replace hn13 := (RR 23 (by decide +kernel)).trans hn13
  replace RR := q_ubc hg80 RR
  replace RR := q_ub hu75 RR
  replace RR := q_ub hu71 RR
  replace hn10 := (RR 20 (by decide +kernel)).trans hn10
  replace hn11 := (RR 21 (by decide +kernel)).trans hn11
  replace RR := q_ubc hg68 RR
  replace RR := q_ub hu63 RR
  replace RR := q_ub hu59 RR
  replace hn8 := (RR 18 (by decide +kernel)).trans hn8
  replace hn9 := (RR 19 (by decide +kernel)).trans hn9
  replace RR := q_ubc hg56 RR
  replace RR := q_ub hu51 RR
  replace RR := q_ub hu47 RR
  replace hn6 := (RR 16 (by decide +kernel)).trans hn6
  replace hn7 := (RR 17 (by decide +kernel)).trans hn7
  replace RR := q_ubc hg44 RR
  replace RR := q_ub hu39 RR
  replace RR := q_ub hu35 RR
  replace hn4 := (RR 14 (by decide +kernel)).trans hn4
  replace hn5 := (RR 15 (by decide +kernel)).trans hn5
  replace RR := q_ubc hg32 RR
  replace RR := q_ub hu27 RR
  replace RR := q_ub hu23 RR
  replace hn2 := (RR 12 (by decide +kernel)).trans hn2
  replace hn3 := (RR 13 (by decide +kernel)).trans hn3
  replace RR := q_ubc hg20 RR
  replace RR := q_ub hu15 RR
  replace RR := q_ub hu11 RR
  replace hn0 := (RR 10 (by decide +kernel)).trans hn0
  replace hn1 := (RR 11 (by decide +kernel)).trans hn1
  exact q_retv C0 V (⟨q1, q7, q13, q19, q25, q31, q37, q43, q49, q55, q61, q67, q73, q79, q85, q91, q97, q103, q109, q115, hF, hO0, hn0, hn1, hn2, hn3, hn4, hn5, hn6, hn7, hn8, hn9, hn10, hn11, hn12, hn13, hn14, hn15, hn16, hn17, hn18, hn19, hN⟩) d_8_1_144
theorem d_2_6_0 : decode prog_2_method_6_code 0 = .ok (.aload_n 0, 1) := by decide +kernel
theorem d_2_6_1 : decode prog_2_method_6_code 1 = .ok (.getfield 13, 3) := by decide +kernel
theorem d_2_6_4 : decode prog_2_method_6_code 4 = .ok (.aload_n 0, 1) := by decide +kernel
theorem d_2_6_5 : decode prog_2_method_6_code 5 = .ok (.getfield 7, 3) := by decide +kernel
theorem d_2_6_8 : decode prog_2_method_6_code 8 = .ok (.arraylength, 1) := by decide +kernel
theorem d_2_6_9 : decode prog_2_method_6_code 9 = .ok (.if_icmp .ge 23, 3) := by decide +kernel
theorem d_2_6_12 : decode prog_2_method_6_code 12 = .ok (.aload_n 0, 1) := by decide +kernel
theorem d_2_6_13 : decode prog_2_method_6_code 13 = .ok (.getfield 7, 3) := by decide +kernel
theorem d_2_6_16 : decode prog_2_method_6_code 16 = .ok (.aload_n 0, 1) := by decide +kernel
theorem d_2_6_17 : decode prog_2_method_6_code 17 = .ok (.getfield 13, 3) := by decide +kernel
theorem d_2_6_20 : decode prog_2_method_6_code 20 = .ok (.iload_n 1, 1) := by decide +kernel
theorem d_2_6_21 : decode prog_2_method_6_code 21 = .ok (.iastore, 1) := by decide +kernel
theorem d_2_6_22 : decode prog_2_method_6_code 22 = .ok (.aload_n 0, 1) := by decide +kernel
theorem d_2_6_23 : decode prog_2_method_6_code 23 = .ok (.dup, 1) := by decide +kernel
theorem d_2_6_24 : decode prog_2_method_6_code 24 = .ok (.getfield 13, 3) := by decide +kernel
theorem d_2_6_27 : decode prog_2_method_6_code 27 = .ok (.iconst 1, 1) := by decide +kernel
theorem d_2_6_28 : decode prog_2_method_6_code 28 = .ok (.iadd, 1) := by decide +kernel
theorem d_2_6_29 : decode prog_2_method_6_code 29 = .ok (.putfield 13, 3) := by decide +kernel
theorem d_2_6_32 : decode prog_2_method_6_code 32 = .ok (.return_, 1) := by decide +kernel
def y_Big_push : MethodName := ⟨"NumberHouse$Big", "push", "(I)V"⟩

