/-! the constructors of the class, whole -/
theorem d_8_1_0 : decode prog_8_method_1_code 0 = .ok (.aload_n 0, 1) := by decide +kernel
theorem d_8_1_1 : decode prog_8_method_1_code 1 = .ok (.invokespecial 3, 3) := by decide +kernel
theorem w_77 : (Cond.methodLink "NumberHouse$Mill" (3 : Nat) ({ cls := "java/lang/Object", name := "<init>", desc := "()V" } : MethodName)) ∈ q_tbl := q_of 77 (by decide +kernel) (by decide +kernel)
theorem d_8_1_4 : decode prog_8_method_1_code 4 = .ok (.aload_n 0, 1) := by decide +kernel
theorem d_8_1_5 : decode prog_8_method_1_code 5 = .ok (.new 9, 3) := by decide +kernel
theorem w_78 : (Cond.classLink "NumberHouse$Mill" (9 : Nat) "NumberHouse$Big") ∈ q_tbl := q_of 78 (by decide +kernel) (by decide +kernel)
theorem d_8_1_8 : decode prog_8_method_1_code 8 = .ok (.dup, 1) := by decide +kernel
theorem d_8_1_9 : decode prog_8_method_1_code 9 = .ok (.sipush 220, 3) := by decide +kernel
theorem d_8_1_12 : decode prog_8_method_1_code 12 = .ok (.invokespecial 13, 3) := by decide +kernel
theorem w_80 : (Cond.methodLink "NumberHouse$Mill" (13 : Nat) ({ cls := "NumberHouse$Big", name := "<init>", desc := "(I)V" } : MethodName)) ∈ q_tbl := q_of 80 (by decide +kernel) (by decide +kernel)
theorem LI_Mil_13 : q_LI "NumberHouse$Mill" 13 y_Big_init prog_2_method_1_code 2 1 := ⟨w_82, w_4, w_80, w_81, rfl, ⟨by decide, by decide, by decide +kernel⟩⟩
theorem d_8_1_15 : decode prog_8_method_1_code 15 = .ok (.putfield 16, 3) := by decide +kernel
theorem w_108 : (Cond.fieldLink "NumberHouse$Mill" (16 : Nat) "NumberHouse$Mill" "number" "LNumberHouse$Big;") ∈ q_tbl := q_of 108 (by decide +kernel) (by decide +kernel)
theorem d_8_1_18 : decode prog_8_method_1_code 18 = .ok (.aload_n 0, 1) := by decide +kernel
theorem d_8_1_19 : decode prog_8_method_1_code 19 = .ok (.new 9, 3) := by decide +kernel
theorem d_8_1_22 : decode prog_8_method_1_code 22 = .ok (.dup, 1) := by decide +kernel
theorem d_8_1_23 : decode prog_8_method_1_code 23 = .ok (.sipush 220, 3) := by decide +kernel
theorem d_8_1_26 : decode prog_8_method_1_code 26 = .ok (.invokespecial 13, 3) := by decide +kernel
theorem d_8_1_29 : decode prog_8_method_1_code 29 = .ok (.putfield 20, 3) := by decide +kernel
theorem w_114 : (Cond.fieldLink "NumberHouse$Mill" (20 : Nat) "NumberHouse$Mill" "quotient" "LNumberHouse$Big;") ∈ q_tbl := q_of 114 (by decide +kernel) (by decide +kernel)
theorem d_8_1_32 : decode prog_8_method_1_code 32 = .ok (.aload_n 0, 1) := by decide +kernel
theorem d_8_1_33 : decode prog_8_method_1_code 33 = .ok (.new 9, 3) := by decide +kernel
theorem d_8_1_36 : decode prog_8_method_1_code 36 = .ok (.dup, 1) := by decide +kernel
theorem d_8_1_37 : decode prog_8_method_1_code 37 = .ok (.sipush 220, 3) := by decide +kernel
theorem d_8_1_40 : decode prog_8_method_1_code 40 = .ok (.invokespecial 13, 3) := by decide +kernel
theorem d_8_1_43 : decode prog_8_method_1_code 43 = .ok (.putfield 23, 3) := by decide +kernel
theorem w_117 : (Cond.fieldLink "NumberHouse$Mill" (23 : Nat) "NumberHouse$Mill" "power" "LNumberHouse$Big;") ∈ q_tbl := q_of 117 (by decide +kernel) (by decide +kernel)
theorem d_8_1_46 : decode prog_8_method_1_code 46 = .ok (.aload_n 0, 1) := by decide +kernel
theorem d_8_1_47 : decode prog_8_method_1_code 47 = .ok (.new 9, 3) := by decide +kernel
theorem d_8_1_50 : decode prog_8_method_1_code 50 = .ok (.dup, 1) := by decide +kernel
theorem d_8_1_51 : decode prog_8_method_1_code 51 = .ok (.sipush 220, 3) := by decide +kernel
theorem d_8_1_54 : decode prog_8_method_1_code 54 = .ok (.invokespecial 13, 3) := by decide +kernel
theorem d_8_1_57 : decode prog_8_method_1_code 57 = .ok (.putfield 26, 3) := by decide +kernel
theorem w_120 : (Cond.fieldLink "NumberHouse$Mill" (26 : Nat) "NumberHouse$Mill" "root" "LNumberHouse$Big;") ∈ q_tbl := q_of 120 (by decide +kernel) (by decide +kernel)
theorem d_8_1_60 : decode prog_8_method_1_code 60 = .ok (.aload_n 0, 1) := by decide +kernel
theorem d_8_1_61 : decode prog_8_method_1_code 61 = .ok (.new 9, 3) := by decide +kernel
theorem d_8_1_64 : decode prog_8_method_1_code 64 = .ok (.dup, 1) := by decide +kernel
theorem d_8_1_65 : decode prog_8_method_1_code 65 = .ok (.sipush 220, 3) := by decide +kernel
theorem d_8_1_68 : decode prog_8_method_1_code 68 = .ok (.invokespecial 13, 3) := by decide +kernel
theorem d_8_1_71 : decode prog_8_method_1_code 71 = .ok (.putfield 29, 3) := by decide +kernel
theorem w_123 : (Cond.fieldLink "NumberHouse$Mill" (29 : Nat) "NumberHouse$Mill" "work" "LNumberHouse$Big;") ∈ q_tbl := q_of 123 (by decide +kernel) (by decide +kernel)
theorem d_8_1_74 : decode prog_8_method_1_code 74 = .ok (.aload_n 0, 1) := by decide +kernel
theorem d_8_1_75 : decode prog_8_method_1_code 75 = .ok (.new 9, 3) := by decide +kernel
theorem d_8_1_78 : decode prog_8_method_1_code 78 = .ok (.dup, 1) := by decide +kernel
theorem d_8_1_79 : decode prog_8_method_1_code 79 = .ok (.sipush 220, 3) := by decide +kernel
theorem d_8_1_82 : decode prog_8_method_1_code 82 = .ok (.invokespecial 13, 3) := by decide +kernel
theorem d_8_1_85 : decode prog_8_method_1_code 85 = .ok (.putfield 32, 3) := by decide +kernel
theorem w_124 : (Cond.fieldLink "NumberHouse$Mill" (32 : Nat) "NumberHouse$Mill" "spare" "LNumberHouse$Big;") ∈ q_tbl := q_of 124 (by decide +kernel) (by decide +kernel)
theorem d_8_1_88 : decode prog_8_method_1_code 88 = .ok (.aload_n 0, 1) := by decide +kernel
theorem d_8_1_89 : decode prog_8_method_1_code 89 = .ok (.new 9, 3) := by decide +kernel
theorem d_8_1_92 : decode prog_8_method_1_code 92 = .ok (.dup, 1) := by decide +kernel
theorem d_8_1_93 : decode prog_8_method_1_code 93 = .ok (.sipush 220, 3) := by decide +kernel
theorem d_8_1_96 : decode prog_8_method_1_code 96 = .ok (.invokespecial 13, 3) := by decide +kernel
theorem d_8_1_99 : decode prog_8_method_1_code 99 = .ok (.putfield 35, 3) := by decide +kernel
theorem w_125 : (Cond.fieldLink "NumberHouse$Mill" (35 : Nat) "NumberHouse$Mill" "one" "LNumberHouse$Big;") ∈ q_tbl := q_of 125 (by decide +kernel) (by decide +kernel)
theorem d_8_1_102 : decode prog_8_method_1_code 102 = .ok (.aload_n 0, 1) := by decide +kernel
theorem d_8_1_103 : decode prog_8_method_1_code 103 = .ok (.new 9, 3) := by decide +kernel
theorem d_8_1_106 : decode prog_8_method_1_code 106 = .ok (.dup, 1) := by decide +kernel
theorem d_8_1_107 : decode prog_8_method_1_code 107 = .ok (.sipush 220, 3) := by decide +kernel
theorem d_8_1_110 : decode prog_8_method_1_code 110 = .ok (.invokespecial 13, 3) := by decide +kernel
theorem d_8_1_113 : decode prog_8_method_1_code 113 = .ok (.putfield 38, 3) := by decide +kernel
theorem w_128 : (Cond.fieldLink "NumberHouse$Mill" (38 : Nat) "NumberHouse$Mill" "two" "LNumberHouse$Big;") ∈ q_tbl := q_of 128 (by decide +kernel) (by decide +kernel)
theorem d_8_1_116 : decode prog_8_method_1_code 116 = .ok (.aload_n 0, 1) := by decide +kernel
theorem d_8_1_117 : decode prog_8_method_1_code 117 = .ok (.new 9, 3) := by decide +kernel
theorem d_8_1_120 : decode prog_8_method_1_code 120 = .ok (.dup, 1) := by decide +kernel
theorem d_8_1_121 : decode prog_8_method_1_code 121 = .ok (.sipush 220, 3) := by decide +kernel
theorem d_8_1_124 : decode prog_8_method_1_code 124 = .ok (.invokespecial 13, 3) := by decide +kernel
theorem d_8_1_127 : decode prog_8_method_1_code 127 = .ok (.putfield 41, 3) := by decide +kernel
theorem w_131 : (Cond.fieldLink "NumberHouse$Mill" (41 : Nat) "NumberHouse$Mill" "three" "LNumberHouse$Big;") ∈ q_tbl := q_of 131 (by decide +kernel) (by decide +kernel)
theorem d_8_1_130 : decode prog_8_method_1_code 130 = .ok (.aload_n 0, 1) := by decide +kernel
theorem d_8_1_131 : decode prog_8_method_1_code 131 = .ok (.new 9, 3) := by decide +kernel
theorem d_8_1_134 : decode prog_8_method_1_code 134 = .ok (.dup, 1) := by decide +kernel
theorem d_8_1_135 : decode prog_8_method_1_code 135 = .ok (.sipush 220, 3) := by decide +kernel
theorem d_8_1_138 : decode prog_8_method_1_code 138 = .ok (.invokespecial 13, 3) := by decide +kernel
theorem d_8_1_141 : decode prog_8_method_1_code 141 = .ok (.putfield 44, 3) := by decide +kernel
theorem w_133 : (Cond.fieldLink "NumberHouse$Mill" (44 : Nat) "NumberHouse$Mill" "four" "LNumberHouse$Big;") ∈ q_tbl := q_of 133 (by decide +kernel) (by decide +kernel)
theorem d_8_1_144 : decode prog_8_method_1_code 144 = .ok (.return_, 1) := by decide +kernel
def y_Mil_init : MethodName := ⟨"NumberHouse$Mill", "<init>", "()V"⟩
set_option maxRecDepth 100000 in
set_option maxHeartbeats 4000000 in
theorem c_Mil_init (l : Launch) (D : va_G) (g : Nat → ClassId) (ws : va_W) ( qO0 : Nat) (hN : ws.length = 10) (hO0 : ws[9]? = some (qO0, .inr (4, [.null, .null, .null, .null, .null, .null, .null, .null, .null, .null]))) : q_mV l y_Mil_init prog_8_method_1_code 1 3 20 2230 D g [.ref qO0] ws (fun u => ∃ (q1 : Nat) (q7 : Nat) (q13 : Nat) (q19 : Nat) (q25 : Nat) (q31 : Nat) (q37 : Nat) (q43 : Nat) (q49 : Nat) (q55 : Nat) (q61 : Nat) (q67 : Nat) (q73 : Nat) (q79 : Nat) (q85 : Nat) (q91 : Nat) (q97 : Nat) (q103 : Nat) (q109 : Nat) (q115 : Nat), q_un ws u [9, 10, 11, 12, 13, 14, 15, 16, 17, 18, 19, 20, 21, 22, 23, 24, 25, 26, 27, 28, 29] ∧ u[9]? = some (qO0, .inr (4, [.ref q1, .ref q13, .ref q25, .ref q37, .ref q49, .ref q61, .ref q73, .ref q85, .ref q97, .ref q109])) ∧ u[10]? = some (q1, .inr (2, [.ref q7, .int 0, .int 0])) ∧ u[11]? = some (q7, .inl (g 0, 220, .inl (fun _ => 0))) ∧ u[12]? = some (q13, .inr (2, [.ref q19, .int 0, .int 0])) ∧ u[13]? = some (q19, .inl (g 0, 220, .inl (fun _ => 0))) ∧ u[14]? = some (q25, .inr (2, [.ref q31, .int 0, .int 0])) ∧ u[15]? = some (q31, .inl (g 0, 220, .inl (fun _ => 0))) ∧ u[16]? = some (q37, .inr (2, [.ref q43, .int 0, .int 0])) ∧ u[17]? = some (q43, .inl (g 0, 220, .inl (fun _ => 0))) ∧ u[18]? = some (q49, .inr (2, [.ref q55, .int 0, .int 0])) ∧ u[19]? = some (q55, .inl (g 0, 220, .inl (fun _ => 0))) ∧ u[20]? = some (q61, .inr (2, [.ref q67, .int 0, .int 0])) ∧ u[21]? = some (q67, .inl (g 0, 220, .inl (fun _ => 0))) ∧ u[22]? = some (q73, .inr (2, [.ref q79, .int 0, .int 0])) ∧ u[23]? = some (q79, .inl (g 0, 220, .inl (fun _ => 0))) ∧ u[24]? = some (q85, .inr (2, [.ref q91, .int 0, .int 0])) ∧ u[25]? = some (q91, .inl (g 0, 220, .inl (fun _ => 0))) ∧ u[26]? = some (q97, .inr (2, [.ref q103, .int 0, .int 0])) ∧ u[27]? = some (q103, .inl (g 0, 220, .inl (fun _ => 0))) ∧ u[28]? = some (q109, .inr (2, [.ref q115, .int 0, .int 0])) ∧ u[29]? = some (q115, .inl (g 0, 220, .inl (fun _ => 0))) ∧ u.length = 30) := by
  intro sz
  refine q_into (by decide) (Nat.le_of_ble_eq_true rfl) ?_
  intro p e s m below meth c ls hsz C0 V hl
  have hx := C0.1
  have hb := C0.2.1
  have hl : lv_has ls 1 [(0, .ref qO0)] := hl
  have hF : q_un ws ws [9, 10, 11, 12, 13, 14, 15, 16, 17, 18, 19, 20, 21, 22, 23, 24, 25, 26, 27, 28, 29] := q_u0
  refine lv_aload_n hx hb d_8_1_0 rfl (lv_at hl 0 rfl) ?_
  refine q_obj C0 hl.1 rfl w_77 w_44 w_45 ⟨by decide, by decide⟩ d_8_1_1 ?_
  refine lv_aload_n hx hb d_8_1_4 rfl (lv_at hl 0 rfl) ?_
  refine q_new (ci := 2) (fs := [.null, .int 0, .int 0]) C0 V hN i_Big o_Big rfl w_78 w_79 w_4 rfl (fun j hj => by rcases (show j = 0 ∨ j = 1 ∨ j = 2 by omega) with rfl | rfl | rfl <;> rfl) (Nat.le_of_ble_eq_true rfl) (Nat.le_of_ble_eq_true rfl) d_8_1_5 (fun q1 H w2 hu3 hn4 hN V => ?_)
  have hn0 : w2[10]? = some (q1, .inr (2, [.null, .int 0, .int 0])) := hn4
  replace hO0 := (hu3 _ (q_pd 9 10 rfl)).trans hO0
  replace hF := q_us hF hu3 (.tail _ (.head _))
  replace hN : w2.length = 11 := hN
  refine lv_dup hx hb d_8_1_8 rfl ?_
  refine lv_sipush (v := 220) hx hb d_8_1_9 (by decide) ?_
  refine q_gov V (q_runI (As := [.int 220]) (rest := [.ref q1, .ref qO0]) (d := 2) (mc := 1) (ms := 220) C0 V rfl LI_Mil_13 (c_Big_init_3 l D g w2 10 q1 11 hN hn0 _) rfl hl.1 rfl (Nat.le_of_ble_eq_true rfl) ⟨by decide, by decide⟩ ⟨Nat.le_of_ble_eq_true rfl, Nat.le_of_ble_eq_true rfl⟩ d_8_1_12) (fun u6 H locs hp5 V => ?_)
  obtain ⟨q7, hg8, hn0, hq9, hN⟩ := hp5
  replace hO0 := (hg8 _ (q_nc (q_pd 9 10 rfl) (q_nc (q_pd 9 11 rfl) List.not_mem_nil))).trans hO0
  replace hF := q_uc hF hg8 (q_sc (.tail _ (.head _)) (q_sc (.tail _ (.tail _ (.head _))) (fun _ h => absurd h List.not_mem_nil)))
  have hn1 : u6[11]? = some (q7, .inl (g 0, 220, .inl (fun _ => 0))) := hq9
  replace hN : u6.length = 12 := hN
  have ho12 := hO0
  refine q_putF (ci := 4) (j := 0) (v := .ref q1) (ty := .object "NumberHouse$Big") C0 V i_Mil o_Mil n_Mil rfl rfl rfl rfl rfl hO0 (by decide) w_108 rfl rfl rfl (Nat.le_of_ble_eq_true rfl) d_8_1_15 (fun H locs w10 hu11 hO0 V => ?_)
  replace hO0 : w10[9]? = some (qO0, .inr (4, [.ref q1, .null, .null, .null, .null, .null, .null, .null, .null, .null])) := hO0
  replace hN : w10.length = 12 := (q_len1 hu11 hO0 ho12).trans hN
  replace hn0 := (hu11 _ (q_pd 10 9 rfl)).trans hn0
  replace hn1 := (hu11 _ (q_pd 11 9 rfl)).trans hn1
  replace hF := q_us hF hu11 (.head _)
  refine lv_aload_n hx hb d_8_1_18 rfl (lv_at hl 0 rfl) ?_
  refine q_new (ci := 2) (fs := [.null, .int 0, .int 0]) C0 V hN i_Big o_Big rfl w_78 w_79 w_4 rfl (fun j hj => by rcases (show j = 0 ∨ j = 1 ∨ j = 2 by omega) with rfl | rfl | rfl <;> rfl) (Nat.le_of_ble_eq_true rfl) (Nat.le_of_ble_eq_true rfl) d_8_1_19 (fun q13 H w14 hu15 hn16 hN V => ?_)
  have hn2 : w14[12]? = some (q13, .inr (2, [.null, .int 0, .int 0])) := hn16
  replace hO0 := (hu15 _ (q_pd 9 12 rfl)).trans hO0
  replace hn0 := (hu15 _ (q_pd 10 12 rfl)).trans hn0
  replace hn1 := (hu15 _ (q_pd 11 12 rfl)).trans hn1
  replace hF := q_us hF hu15 (.tail _ (.tail _ (.tail _ (.head _))))
  replace hN : w14.length = 13 := hN
  refine lv_dup hx hb d_8_1_22 rfl ?_
  refine lv_sipush (v := 220) hx hb d_8_1_23 (by decide) ?_
  refine q_gov V (q_runI (As := [.int 220]) (rest := [.ref q13, .ref qO0]) (d := 2) (mc := 1) (ms := 220) C0 V rfl LI_Mil_13 (c_Big_init_3 l D g w14 12 q13 13 hN hn2 _) rfl hl.1 rfl (Nat.le_of_ble_eq_true rfl) ⟨by decide, by decide⟩ ⟨Nat.le_of_ble_eq_true rfl, Nat.le_of_ble_eq_true rfl⟩ d_8_1_26) (fun u18 H locs hp17 V => ?_)
  obtain ⟨q19, hg20, hn2, hq21, hN⟩ := hp17
  replace hO0 := (hg20 _ (q_nc (q_pd 9 12 rfl) (q_nc (q_pd 9 13 rfl) List.not_mem_nil))).trans hO0
  replace hn0 := (hg20 _ (q_nc (q_pd 10 12 rfl) (q_nc (q_pd 10 13 rfl) List.not_mem_nil))).trans hn0
  replace hn1 := (hg20 _ (q_nc (q_pd 11 12 rfl) (q_nc (q_pd 11 13 rfl) List.not_mem_nil))).trans hn1
  replace hF := q_uc hF hg20 (q_sc (.tail _ (.tail _ (.tail _ (.head _)))) (q_sc (.tail _ (.tail _ (.tail _ (.tail _ (.head _))))) (fun _ h => absurd h List.not_mem_nil)))
  have hn3 : u18[13]? = some (q19, .inl (g 0, 220, .inl (fun _ => 0))) := hq21
  replace hN : u18.length = 14 := hN
  have ho24 := hO0
  refine q_putF (ci := 4) (j := 1) (v := .ref q13) (ty := .object "NumberHouse$Big") C0 V i_Mil o_Mil n_Mil rfl rfl rfl rfl rfl hO0 (by decide) w_114 rfl rfl rfl (Nat.le_of_ble_eq_true rfl) d_8_1_29 (fun H locs w22 hu23 hO0 V => ?_)
  replace hO0 : w22[9]? = some (qO0, .inr (4, [.ref q1, .ref q13, .null, .null, .null, .null, .null, .null, .null, .null])) := hO0
  replace hN : w22.length = 14 := (q_len1 hu23 hO0 ho24).trans hN
  replace hn0 := (hu23 _ (q_pd 10 9 rfl)).trans hn0
  replace hn1 := (hu23 _ (q_pd 11 9 rfl)).trans hn1
  replace hn2 := (hu23 _ (q_pd 12 9 rfl)).trans hn2
  replace hn3 := (hu23 _ (q_pd 13 9 rfl)).trans hn3
  replace hF := q_us hF hu23 (.head _)
  refine lv_aload_n hx hb d_8_1_32 rfl (lv_at hl 0 rfl) ?_
  refine q_new (ci := 2) (fs := [.null, .int 0, .int 0]) C0 V hN i_Big o_Big rfl w_78 w_79 w_4 rfl (fun j hj => by rcases (show j = 0 ∨ j = 1 ∨ j = 2 by omega) with rfl | rfl | rfl <;> rfl) (Nat.le_of_ble_eq_true rfl) (Nat.le_of_ble_eq_true rfl) d_8_1_33 (fun q25 H w26 hu27 hn28 hN V => ?_)
  have hn4 : w26[14]? = some (q25, .inr (2, [.null, .int 0, .int 0])) := hn28
  replace hO0 := (hu27 _ (q_pd 9 14 rfl)).trans hO0
  replace hn0 := (hu27 _ (q_pd 10 14 rfl)).trans hn0
  replace hn1 := (hu27 _ (q_pd 11 14 rfl)).trans hn1
  replace hn2 := (hu27 _ (q_pd 12 14 rfl)).trans hn2
  replace hn3 := (hu27 _ (q_pd 13 14 rfl)).trans hn3
  replace hF := q_us hF hu27 (.tail _ (.tail _ (.tail _ (.tail _ (.tail _ (.head _))))))
  replace hN : w26.length = 15 := hN
  refine lv_dup hx hb d_8_1_36 rfl ?_
  refine lv_sipush (v := 220) hx hb d_8_1_37 (by decide) ?_
  refine q_gov V (q_runI (As := [.int 220]) (rest := [.ref q25, .ref qO0]) (d := 2) (mc := 1) (ms := 220) C0 V rfl LI_Mil_13 (c_Big_init_3 l D g w26 14 q25 15 hN hn4 _) rfl hl.1 rfl (Nat.le_of_ble_eq_true rfl) ⟨by decide, by decide⟩ ⟨Nat.le_of_ble_eq_true rfl, Nat.le_of_ble_eq_true rfl⟩ d_8_1_40) (fun u30 H locs hp29 V => ?_)
  obtain ⟨q31, hg32, hn4, hq33, hN⟩ := hp29
  replace hO0 := (hg32 _ (q_nc (q_pd 9 14 rfl) (q_nc (q_pd 9 15 rfl) List.not_mem_nil))).trans hO0
  replace hn0 := (hg32 _ (q_nc (q_pd 10 14 rfl) (q_nc (q_pd 10 15 rfl) List.not_mem_nil))).trans hn0
  replace hn1 := (hg32 _ (q_nc (q_pd 11 14 rfl) (q_nc (q_pd 11 15 rfl) List.not_mem_nil))).trans hn1
  replace hn2 := (hg32 _ (q_nc (q_pd 12 14 rfl) (q_nc (q_pd 12 15 rfl) List.not_mem_nil))).trans hn2
  replace hn3 := (hg32 _ (q_nc (q_pd 13 14 rfl) (q_nc (q_pd 13 15 rfl) List.not_mem_nil))).trans hn3
  replace hF := q_uc hF hg32 (q_sc (.tail _ (.tail _ (.tail _ (.tail _ (.tail _ (.head _)))))) (q_sc (.tail _ (.tail _ (.tail _ (.tail _ (.tail _ (.tail _ (.head _))))))) (fun _ h => absurd h List.not_mem_nil)))
  have hn5 : u30[15]? = some (q31, .inl (g 0, 220, .inl (fun _ => 0))) := hq33
  replace hN : u30.length = 16 := hN
  have ho36 := hO0
  refine q_putF (ci := 4) (j := 2) (v := .ref q25) (ty := .object "NumberHouse$Big") C0 V i_Mil o_Mil n_Mil rfl rfl rfl rfl rfl hO0 (by decide) w_117 rfl rfl rfl (Nat.le_of_ble_eq_true rfl) d_8_1_43 (fun H locs w34 hu35 hO0 V => ?_)
  replace hO0 : w34[9]? = some (qO0, .inr (4, [.ref q1, .ref q13, .ref q25, .null, .null, .null, .null, .null, .null, .null])) := hO0
  replace hN : w34.length = 16 := (q_len1 hu35 hO0 ho36).trans hN
  replace hn0 := (hu35 _ (q_pd 10 9 rfl)).trans hn0
  replace hn1 := (hu35 _ (q_pd 11 9 rfl)).trans hn1
  replace hn2 := (hu35 _ (q_pd 12 9 rfl)).trans hn2
  replace hn3 := (hu35 _ (q_pd 13 9 rfl)).trans hn3
  replace hn4 := (hu35 _ (q_pd 14 9 rfl)).trans hn4
  replace hn5 := (hu35 _ (q_pd 15 9 rfl)).trans hn5
  replace hF := q_us hF hu35 (.head _)
  refine lv_aload_n hx hb d_8_1_46 rfl (lv_at hl 0 rfl) ?_
  refine q_new (ci := 2) (fs := [.null, .int 0, .int 0]) C0 V hN i_Big o_Big rfl w_78 w_79 w_4 rfl (fun j hj => by rcases (show j = 0 ∨ j = 1 ∨ j = 2 by omega) with rfl | rfl | rfl <;> rfl) (Nat.le_of_ble_eq_true rfl) (Nat.le_of_ble_eq_true rfl) d_8_1_47 (fun q37 H w38 hu39 hn40 hN V => ?_)
  have hn6 : w38[16]? = some (q37, .inr (2, [.null, .int 0, .int 0])) := hn40
  replace hO0 := (hu39 _ (q_pd 9 16 rfl)).trans hO0
  replace hn0 := (hu39 _ (q_pd 10 16 rfl)).trans hn0
  replace hn1 := (hu39 _ (q_pd 11 16 rfl)).trans hn1
  replace hn2 := (hu39 _ (q_pd 12 16 rfl)).trans hn2
  replace hn3 := (hu39 _ (q_pd 13 16 rfl)).trans hn3
  replace hn4 := (hu39 _ (q_pd 14 16 rfl)).trans hn4
  replace hn5 := (hu39 _ (q_pd 15 16 rfl)).trans hn5
  replace hF := q_us hF hu39 (.tail _ (.tail _ (.tail _ (.tail _ (.tail _ (.tail _ (.tail _ (.head _))))))))
  replace hN : w38.length = 17 := hN
  refine lv_dup hx hb d_8_1_50 rfl ?_
  refine lv_sipush (v := 220) hx hb d_8_1_51 (by decide) ?_
  refine q_gov V (q_runI (As := [.int 220]) (rest := [.ref q37, .ref qO0]) (d := 2) (mc := 1) (ms := 220) C0 V rfl LI_Mil_13 (c_Big_init_3 l D g w38 16 q37 17 hN hn6 _) rfl hl.1 rfl (Nat.le_of_ble_eq_true rfl) ⟨by decide, by decide⟩ ⟨Nat.le_of_ble_eq_true rfl, Nat.le_of_ble_eq_true rfl⟩ d_8_1_54) (fun u42 H locs hp41 V => ?_)
  obtain ⟨q43, hg44, hn6, hq45, hN⟩ := hp41
  replace hO0 := (hg44 _ (q_nc (q_pd 9 16 rfl) (q_nc (q_pd 9 17 rfl) List.not_mem_nil))).trans hO0
  replace hn0 := (hg44 _ (q_nc (q_pd 10 16 rfl) (q_nc (q_pd 10 17 rfl) List.not_mem_nil))).trans hn0
  replace hn1 := (hg44 _ (q_nc (q_pd 11 16 rfl) (q_nc (q_pd 11 17 rfl) List.not_mem_nil))).trans hn1
  replace hn2 := (hg44 _ (q_nc (q_pd 12 16 rfl) (q_nc (q_pd 12 17 rfl) List.not_mem_nil))).trans hn2
  replace hn3 := (hg44 _ (q_nc (q_pd 13 16 rfl) (q_nc (q_pd 13 17 rfl) List.not_mem_nil))).trans hn3
  replace hn4 := (hg44 _ (q_nc (q_pd 14 16 rfl) (q_nc (q_pd 14 17 rfl) List.not_mem_nil))).trans hn4
  replace hn5 := (hg44 _ (q_nc (q_pd 15 16 rfl) (q_nc (q_pd 15 17 rfl) List.not_mem_nil))).trans hn5
  replace hF := q_uc hF hg44 (q_sc (.tail _ (.tail _ (.tail _ (.tail _ (.tail _ (.tail _ (.tail _ (.head _)))))))) (q_sc (.tail _ (.tail _ (.tail _ (.tail _ (.tail _ (.tail _ (.tail _ (.tail _ (.head _))))))))) (fun _ h => absurd h List.not_mem_nil)))
  have hn7 : u42[17]? = some (q43, .inl (g 0, 220, .inl (fun _ => 0))) := hq45
  replace hN : u42.length = 18 := hN
  have ho48 := hO0
  refine q_putF (ci := 4) (j := 3) (v := .ref q37) (ty := .object "NumberHouse$Big") C0 V i_Mil o_Mil n_Mil rfl rfl rfl rfl rfl hO0 (by decide) w_120 rfl rfl rfl (Nat.le_of_ble_eq_true rfl) d_8_1_57 (fun H locs w46 hu47 hO0 V => ?_)
  replace hO0 : w46[9]? = some (qO0, .inr (4, [.ref q1, .ref q13, .ref q25, .ref q37, .null, .null, .null, .null, .null, .null])) := hO0
  replace hN : w46.length = 18 := (q_len1 hu47 hO0 ho48).trans hN
  replace hn0 := (hu47 _ (q_pd 10 9 rfl)).trans hn0
  replace hn1 := (hu47 _ (q_pd 11 9 rfl)).trans hn1
  replace hn2 := (hu47 _ (q_pd 12 9 rfl)).trans hn2
  replace hn3 := (hu47 _ (q_pd 13 9 rfl)).trans hn3
  replace hn4 := (hu47 _ (q_pd 14 9 rfl)).trans hn4
  replace hn5 := (hu47 _ (q_pd 15 9 rfl)).trans hn5
  replace hn6 := (hu47 _ (q_pd 16 9 rfl)).trans hn6
  replace hn7 := (hu47 _ (q_pd 17 9 rfl)).trans hn7
  replace hF := q_us hF hu47 (.head _)
  refine lv_aload_n hx hb d_8_1_60 rfl (lv_at hl 0 rfl) ?_
  refine q_new (ci := 2) (fs := [.null, .int 0, .int 0]) C0 V hN i_Big o_Big rfl w_78 w_79 w_4 rfl (fun j hj => by rcases (show j = 0 ∨ j = 1 ∨ j = 2 by omega) with rfl | rfl | rfl <;> rfl) (Nat.le_of_ble_eq_true rfl) (Nat.le_of_ble_eq_true rfl) d_8_1_61 (fun q49 H w50 hu51 hn52 hN V => ?_)
  have hn8 : w50[18]? = some (q49, .inr (2, [.null, .int 0, .int 0])) := hn52
  replace hO0 := (hu51 _ (q_pd 9 18 rfl)).trans hO0
  replace hn0 := (hu51 _ (q_pd 10 18 rfl)).trans hn0
  replace hn1 := (hu51 _ (q_pd 11 18 rfl)).trans hn1
  replace hn2 := (hu51 _ (q_pd 12 18 rfl)).trans hn2
  replace hn3 := (hu51 _ (q_pd 13 18 rfl)).trans hn3
  replace hn4 := (hu51 _ (q_pd 14 18 rfl)).trans hn4
  replace hn5 := (hu51 _ (q_pd 15 18 rfl)).trans hn5
  replace hn6 := (hu51 _ (q_pd 16 18 rfl)).trans hn6
  replace hn7 := (hu51 _ (q_pd 17 18 rfl)).trans hn7
  replace hF := q_us hF hu51 (.tail _ (.tail _ (.tail _ (.tail _ (.tail _ (.tail _ (.tail _ (.tail _ (.tail _ (.head _))))))))))
  replace hN : w50.length = 19 := hN
  refine lv_dup hx hb d_8_1_64 rfl ?_
  refine lv_sipush (v := 220) hx hb d_8_1_65 (by decide) ?_
  refine q_gov V (q_runI (As := [.int 220]) (rest := [.ref q49, .ref qO0]) (d := 2) (mc := 1) (ms := 220) C0 V rfl LI_Mil_13 (c_Big_init_3 l D g w50 18 q49 19 hN hn8 _) rfl hl.1 rfl (Nat.le_of_ble_eq_true rfl) ⟨by decide, by decide⟩ ⟨Nat.le_of_ble_eq_true rfl, Nat.le_of_ble_eq_true rfl⟩ d_8_1_68) (fun u54 H locs hp53 V => ?_)
  obtain ⟨q55, hg56, hn8, hq57, hN⟩ := hp53
  replace hO0 := (hg56 _ (q_nc (q_pd 9 18 rfl) (q_nc (q_pd 9 19 rfl) List.not_mem_nil))).trans hO0
  replace hn0 := (hg56 _ (q_nc (q_pd 10 18 rfl) (q_nc (q_pd 10 19 rfl) List.not_mem_nil))).trans hn0
  replace hn1 := (hg56 _ (q_nc (q_pd 11 18 rfl) (q_nc (q_pd 11 19 rfl) List.not_mem_nil))).trans hn1
  replace hn2 := (hg56 _ (q_nc (q_pd 12 18 rfl) (q_nc (q_pd 12 19 rfl) List.not_mem_nil))).trans hn2
  replace hn3 := (hg56 _ (q_nc (q_pd 13 18 rfl) (q_nc (q_pd 13 19 rfl) List.not_mem_nil))).trans hn3
  replace hn4 := (hg56 _ (q_nc (q_pd 14 18 rfl) (q_nc (q_pd 14 19 rfl) List.not_mem_nil))).trans hn4
  replace hn5 := (hg56 _ (q_nc (q_pd 15 18 rfl) (q_nc (q_pd 15 19 rfl) List.not_mem_nil))).trans hn5
  replace hn6 := (hg56 _ (q_nc (q_pd 16 18 rfl) (q_nc (q_pd 16 19 rfl) List.not_mem_nil))).trans hn6
  replace hn7 := (hg56 _ (q_nc (q_pd 17 18 rfl) (q_nc (q_pd 17 19 rfl) List.not_mem_nil))).trans hn7
  replace hF := q_uc hF hg56 (q_sc (.tail _ (.tail _ (.tail _ (.tail _ (.tail _ (.tail _ (.tail _ (.tail _ (.tail _ (.head _)))))))))) (q_sc (.tail _ (.tail _ (.tail _ (.tail _ (.tail _ (.tail _ (.tail _ (.tail _ (.tail _ (.tail _ (.head _))))))))))) (fun _ h => absurd h List.not_mem_nil)))
  have hn9 : u54[19]? = some (q55, .inl (g 0, 220, .inl (fun _ => 0))) := hq57
  replace hN : u54.length = 20 := hN
  have ho60 := hO0
  refine q_putF (ci := 4) (j := 4) (v := .ref q49) (ty := .object "NumberHouse$Big") C0 V i_Mil o_Mil n_Mil rfl rfl rfl rfl rfl hO0 (by decide) w_123 rfl rfl rfl (Nat.le_of_ble_eq_true rfl) d_8_1_71 (fun H locs w58 hu59 hO0 V => ?_)
  replace hO0 : w58[9]? = some (qO0, .inr (4, [.ref q1, .ref q13, .ref q25, .ref q37, .ref q49, .null, .null, .null, .null, .null])) := hO0
  replace hN : w58.length = 20 := (q_len1 hu59 hO0 ho60).trans hN
  replace hn0 := (hu59 _ (q_pd 10 9 rfl)).trans hn0
  replace hn1 := (hu59 _ (q_pd 11 9 rfl)).trans hn1
  replace hn2 := (hu59 _ (q_pd 12 9 rfl)).trans hn2
  replace hn3 := (hu59 _ (q_pd 13 9 rfl)).trans hn3
  replace hn4 := (hu59 _ (q_pd 14 9 rfl)).trans hn4
  replace hn5 := (hu59 _ (q_pd 15 9 rfl)).trans hn5
  replace hn6 := (hu59 _ (q_pd 16 9 rfl)).trans hn6
  replace hn7 := (hu59 _ (q_pd 17 9 rfl)).trans hn7
  replace hn8 := (hu59 _ (q_pd 18 9 rfl)).trans hn8
  replace hn9 := (hu59 _ (q_pd 19 9 rfl)).trans hn9
  replace hF := q_us hF hu59 (.head _)
  refine lv_aload_n hx hb d_8_1_74 rfl (lv_at hl 0 rfl) ?_
  refine q_new (ci := 2) (fs := [.null, .int 0, .int 0]) C0 V hN i_Big o_Big rfl w_78 w_79 w_4 rfl (fun j hj => by rcases (show j = 0 ∨ j = 1 ∨ j = 2 by omega) with rfl | rfl | rfl <;> rfl) (Nat.le_of_ble_eq_true rfl) (Nat.le_of_ble_eq_true rfl) d_8_1_75 (fun q61 H w62 hu63 hn64 hN V => ?_)
  have hn10 : w62[20]? = some (q61, .inr (2, [.null, .int 0, .int 0])) := hn64
  replace hO0 := (hu63 _ (q_pd 9 20 rfl)).trans hO0
  replace hn0 := (hu63 _ (q_pd 10 20 rfl)).trans hn0
  replace hn1 := (hu63 _ (q_pd 11 20 rfl)).trans hn1
  replace hn2 := (hu63 _ (q_pd 12 20 rfl)).trans hn2
  replace hn3 := (hu63 _ (q_pd 13 20 rfl)).trans hn3
  replace hn4 := (hu63 _ (q_pd 14 20 rfl)).trans hn4
  replace hn5 := (hu63 _ (q_pd 15 20 rfl)).trans hn5
  replace hn6 := (hu63 _ (q_pd 16 20 rfl)).trans hn6
  replace hn7 := (hu63 _ (q_pd 17 20 rfl)).trans hn7
  replace hn8 := (hu63 _ (q_pd 18 20 rfl)).trans hn8
  replace hn9 := (hu63 _ (q_pd 19 20 rfl)).trans hn9
  replace hF := q_us hF hu63 (.tail _ (.tail _ (.tail _ (.tail _ (.tail _ (.tail _ (.tail _ (.tail _ (.tail _ (.tail _ (.tail _ (.head _))))))))))))
  replace hN : w62.length = 21 := hN
  refine lv_dup hx hb d_8_1_78 rfl ?_
  refine lv_sipush (v := 220) hx hb d_8_1_79 (by decide) ?_
  refine q_gov V (q_runI (As := [.int 220]) (rest := [.ref q61, .ref qO0]) (d := 2) (mc := 1) (ms := 220) C0 V rfl LI_Mil_13 (c_Big_init_3 l D g w62 20 q61 21 hN hn10 _) rfl hl.1 rfl (Nat.le_of_ble_eq_true rfl) ⟨by decide, by decide⟩ ⟨Nat.le_of_ble_eq_true rfl, Nat.le_of_ble_eq_true rfl⟩ d_8_1_82) (fun u66 H locs hp65 V => ?_)
  obtain ⟨q67, hg68, hn10, hq69, hN⟩ := hp65
  replace hO0 := (hg68 _ (q_nc (q_pd 9 20 rfl) (q_nc (q_pd 9 21 rfl) List.not_mem_nil))).trans hO0
  replace hn0 := (hg68 _ (q_nc (q_pd 10 20 rfl) (q_nc (q_pd 10 21 rfl) List.not_mem_nil))).trans hn0
  replace hn1 := (hg68 _ (q_nc (q_pd 11 20 rfl) (q_nc (q_pd 11 21 rfl) List.not_mem_nil))).trans hn1
  replace hn2 := (hg68 _ (q_nc (q_pd 12 20 rfl) (q_nc (q_pd 12 21 rfl) List.not_mem_nil))).trans hn2
  replace hn3 := (hg68 _ (q_nc (q_pd 13 20 rfl) (q_nc (q_pd 13 21 rfl) List.not_mem_nil))).trans hn3
  replace hn4 := (hg68 _ (q_nc (q_pd 14 20 rfl) (q_nc (q_pd 14 21 rfl) List.not_mem_nil))).trans hn4
  replace hn5 := (hg68 _ (q_nc (q_pd 15 20 rfl) (q_nc (q_pd 15 21 rfl) List.not_mem_nil))).trans hn5
  replace hn6 := (hg68 _ (q_nc (q_pd 16 20 rfl) (q_nc (q_pd 16 21 rfl) List.not_mem_nil))).trans hn6
  replace hn7 := (hg68 _ (q_nc (q_pd 17 20 rfl) (q_nc (q_pd 17 21 rfl) List.not_mem_nil))).trans hn7
  replace hn8 := (hg68 _ (q_nc (q_pd 18 20 rfl) (q_nc (q_pd 18 21 rfl) List.not_mem_nil))).trans hn8
  replace hn9 := (hg68 _ (q_nc (q_pd 19 20 rfl) (q_nc (q_pd 19 21 rfl) List.not_mem_nil))).trans hn9
  replace hF := q_uc hF hg68 (q_sc (.tail _ (.tail _ (.tail _ (.tail _ (.tail _ (.tail _ (.tail _ (.tail _ (.tail _ (.tail _ (.tail _ (.head _)))))))))))) (q_sc (.tail _ (.tail _ (.tail _ (.tail _ (.tail _ (.tail _ (.tail _ (.tail _ (.tail _ (.tail _ (.tail _ (.tail _ (.head _))))))))))))) (fun _ h => absurd h List.not_mem_nil)))
  have hn11 : u66[21]? = some (q67, .inl (g 0, 220, .inl (fun _ => 0))) := hq69
  replace hN : u66.length = 22 := hN
  have ho72 := hO0
  refine q_putF (ci := 4) (j := 5) (v := .ref q61) (ty := .object "NumberHouse$Big") C0 V i_Mil o_Mil n_Mil rfl rfl rfl rfl rfl hO0 (by decide) w_124 rfl rfl rfl (Nat.le_of_ble_eq_true rfl) d_8_1_85 (fun H locs w70 hu71 hO0 V => ?_)
  replace hO0 : w70[9]? = some (qO0, .inr (4, [.ref q1, .ref q13, .ref q25, .ref q37, .ref q49, .ref q61, .null, .null, .null, .null])) := hO0
  replace hN : w70.length = 22 := (q_len1 hu71 hO0 ho72).trans hN
  replace hn0 := (hu71 _ (q_pd 10 9 rfl)).trans hn0
  replace hn1 := (hu71 _ (q_pd 11 9 rfl)).trans hn1
  replace hn2 := (hu71 _ (q_pd 12 9 rfl)).trans hn2
  replace hn3 := (hu71 _ (q_pd 13 9 rfl)).trans hn3
  replace hn4 := (hu71 _ (q_pd 14 9 rfl)).trans hn4
  replace hn5 := (hu71 _ (q_pd 15 9 rfl)).trans hn5
  replace hn6 := (hu71 _ (q_pd 16 9 rfl)).trans hn6
  replace hn7 := (hu71 _ (q_pd 17 9 rfl)).trans hn7
  replace hn8 := (hu71 _ (q_pd 18 9 rfl)).trans hn8
  replace hn9 := (hu71 _ (q_pd 19 9 rfl)).trans hn9
  replace hn10 := (hu71 _ (q_pd 20 9 rfl)).trans hn10
  replace hn11 := (hu71 _ (q_pd 21 9 rfl)).trans hn11
  replace hF := q_us hF hu71 (.head _)
  refine lv_aload_n hx hb d_8_1_88 rfl (lv_at hl 0 rfl) ?_
  refine q_new (ci := 2) (fs := [.null, .int 0, .int 0]) C0 V hN i_Big o_Big rfl w_78 w_79 w_4 rfl (fun j hj => by rcases (show j = 0 ∨ j = 1 ∨ j = 2 by omega) with rfl | rfl | rfl <;> rfl) (Nat.le_of_ble_eq_true rfl) (Nat.le_of_ble_eq_true rfl) d_8_1_89 (fun q73 H w74 hu75 hn76 hN V => ?_)
  have hn12 : w74[22]? = some (q73, .inr (2, [.null, .int 0, .int 0])) := hn76
  replace hO0 := (hu75 _ (q_pd 9 22 rfl)).trans hO0
  replace hn0 := (hu75 _ (q_pd 10 22 rfl)).trans hn0
  replace hn1 := (hu75 _ (q_pd 11 22 rfl)).trans hn1
  replace hn2 := (hu75 _ (q_pd 12 22 rfl)).trans hn2
  replace hn3 := (hu75 _ (q_pd 13 22 rfl)).trans hn3
  replace hn4 := (hu75 _ (q_pd 14 22 rfl)).trans hn4
  replace hn5 := (hu75 _ (q_pd 15 22 rfl)).trans hn5
  replace hn6 := (hu75 _ (q_pd 16 22 rfl)).trans hn6
  replace hn7 := (hu75 _ (q_pd 17 22 rfl)).trans hn7
  replace hn8 := (hu75 _ (q_pd 18 22 rfl)).trans hn8
  replace hn9 := (hu75 _ (q_pd 19 22 rfl)).trans hn9
  replace hn10 := (hu75 _ (q_pd 20 22 rfl)).trans hn10
  replace hn11 := (hu75 _ (q_pd 21 22 rfl)).trans hn11
  replace hF := q_us hF hu75 (.tail _ (.tail _ (.tail _ (.tail _ (.tail _ (.tail _ (.tail _ (.tail _ (.tail _ (.tail _ (.tail _ (.tail _ (.tail _ (.head _))))))))))))))
  replace hN : w74.length = 23 := hN
  refine lv_dup hx hb d_8_1_92 rfl ?_
  refine lv_sipush (v := 220) hx hb d_8_1_93 (by decide) ?_
  refine q_gov V (q_runI (As := [.int 220]) (rest := [.ref q73, .ref qO0]) (d := 2) (mc := 1) (ms := 220) C0 V rfl LI_Mil_13 (c_Big_init_3 l D g w74 22 q73 23 hN hn12 _) rfl hl.1 rfl (Nat.le_of_ble_eq_true rfl) ⟨by decide, by decide⟩ ⟨Nat.le_of_ble_eq_true rfl, Nat.le_of_ble_eq_true rfl⟩ d_8_1_96) (fun u78 H locs hp77 V => ?_)
  obtain ⟨q79, hg80, hn12, hq81, hN⟩ := hp77
  replace hO0 := (hg80 _ (q_nc (q_pd 9 22 rfl) (q_nc (q_pd 9 23 rfl) List.not_mem_nil))).trans hO0
  replace hn0 := (hg80 _ (q_nc (q_pd 10 22 rfl) (q_nc (q_pd 10 23 rfl) List.not_mem_nil))).trans hn0
  replace hn1 := (hg80 _ (q_nc (q_pd 11 22 rfl) (q_nc (q_pd 11 23 rfl) List.not_mem_nil))).trans hn1
  replace hn2 := (hg80 _ (q_nc (q_pd 12 22 rfl) (q_nc (q_pd 12 23 rfl) List.not_mem_nil))).trans hn2
  replace hn3 := (hg80 _ (q_nc (q_pd 13 22 rfl) (q_nc (q_pd 13 23 rfl) List.not_mem_nil))).trans hn3
  replace hn4 := (hg80 _ (q_nc (q_pd 14 22 rfl) (q_nc (q_pd 14 23 rfl) List.not_mem_nil))).trans hn4
  replace hn5 := (hg80 _ (q_nc (q_pd 15 22 rfl) (q_nc (q_pd 15 23 rfl) List.not_mem_nil))).trans hn5
  replace hn6 := (hg80 _ (q_nc (q_pd 16 22 rfl) (q_nc (q_pd 16 23 rfl) List.not_mem_nil))).trans hn6
  replace hn7 := (hg80 _ (q_nc (q_pd 17 22 rfl) (q_nc (q_pd 17 23 rfl) List.not_mem_nil))).trans hn7
  replace hn8 := (hg80 _ (q_nc (q_pd 18 22 rfl) (q_nc (q_pd 18 23 rfl) List.not_mem_nil))).trans hn8
  replace hn9 := (hg80 _ (q_nc (q_pd 19 22 rfl) (q_nc (q_pd 19 23 rfl) List.not_mem_nil))).trans hn9
  replace hn10 := (hg80 _ (q_nc (q_pd 20 22 rfl) (q_nc (q_pd 20 23 rfl) List.not_mem_nil))).trans hn10
  replace hn11 := (hg80 _ (q_nc (q_pd 21 22 rfl) (q_nc (q_pd 21 23 rfl) List.not_mem_nil))).trans hn11
  replace hF := q_uc hF hg80 (q_sc (.tail _ (.tail _ (.tail _ (.tail _ (.tail _ (.tail _ (.tail _ (.tail _ (.tail _ (.tail _ (.tail _ (.tail _ (.tail _ (.head _)))))))))))))) (q_sc (.tail _ (.tail _ (.tail _ (.tail _ (.tail _ (.tail _ (.tail _ (.tail _ (.tail _ (.tail _ (.tail _ (.tail _ (.tail _ (.tail _ (.head _))))))))))))))) (fun _ h => absurd h List.not_mem_nil)))
  have hn13 : u78[23]? = some (q79, .inl (g 0, 220, .inl (fun _ => 0))) := hq81
  replace hN : u78.length = 24 := hN
  have ho84 := hO0
  refine q_putF (ci := 4) (j := 6) (v := .ref q73) (ty := .object "NumberHouse$Big") C0 V i_Mil o_Mil n_Mil rfl rfl rfl rfl rfl hO0 (by decide) w_125 rfl rfl rfl (Nat.le_of_ble_eq_true rfl) d_8_1_99 (fun H locs w82 hu83 hO0 V => ?_)
  replace hO0 : w82[9]? = some (qO0, .inr (4, [.ref q1, .ref q13, .ref q25, .ref q37, .ref q49, .ref q61, .ref q73, .null, .null, .null])) := hO0
  replace hN : w82.length = 24 := (q_len1 hu83 hO0 ho84).trans hN
  replace hn0 := (hu83 _ (q_pd 10 9 rfl)).trans hn0
  replace hn1 := (hu83 _ (q_pd 11 9 rfl)).trans hn1
  replace hn2 := (hu83 _ (q_pd 12 9 rfl)).trans hn2
  replace hn3 := (hu83 _ (q_pd 13 9 rfl)).trans hn3
  replace hn4 := (hu83 _ (q_pd 14 9 rfl)).trans hn4
  replace hn5 := (hu83 _ (q_pd 15 9 rfl)).trans hn5
  replace hn6 := (hu83 _ (q_pd 16 9 rfl)).trans hn6
  replace hn7 := (hu83 _ (q_pd 17 9 rfl)).trans hn7
  replace hn8 := (hu83 _ (q_pd 18 9 rfl)).trans hn8
  replace hn9 := (hu83 _ (q_pd 19 9 rfl)).trans hn9
  replace hn10 := (hu83 _ (q_pd 20 9 rfl)).trans hn10
  replace hn11 := (hu83 _ (q_pd 21 9 rfl)).trans hn11
  replace hn12 := (hu83 _ (q_pd 22 9 rfl)).trans hn12
  replace hn13 := (hu83 _ (q_pd 23 9 rfl)).trans hn13
  replace hF := q_us hF hu83 (.head _)
  refine lv_aload_n hx hb d_8_1_102 rfl (lv_at hl 0 rfl) ?_
  refine q_new (ci := 2) (fs := [.null, .int 0, .int 0]) C0 V hN i_Big o_Big rfl w_78 w_79 w_4 rfl (fun j hj => by rcases (show j = 0 ∨ j = 1 ∨ j = 2 by omega) with rfl | rfl | rfl <;> rfl) (Nat.le_of_ble_eq_true rfl) (Nat.le_of_ble_eq_true rfl) d_8_1_103 (fun q85 H w86 hu87 hn88 hN V => ?_)
  have hn14 : w86[24]? = some (q85, .inr (2, [.null, .int 0, .int 0])) := hn88
  replace hO0 := (hu87 _ (q_pd 9 24 rfl)).trans hO0
  replace hn0 := (hu87 _ (q_pd 10 24 rfl)).trans hn0
  replace hn1 := (hu87 _ (q_pd 11 24 rfl)).trans hn1
  replace hn2 := (hu87 _ (q_pd 12 24 rfl)).trans hn2
  replace hn3 := (hu87 _ (q_pd 13 24 rfl)).trans hn3
  replace hn4 := (hu87 _ (q_pd 14 24 rfl)).trans hn4
  replace hn5 := (hu87 _ (q_pd 15 24 rfl)).trans hn5
  replace hn6 := (hu87 _ (q_pd 16 24 rfl)).trans hn6
  replace hn7 := (hu87 _ (q_pd 17 24 rfl)).trans hn7
  replace hn8 := (hu87 _ (q_pd 18 24 rfl)).trans hn8
  replace hn9 := (hu87 _ (q_pd 19 24 rfl)).trans hn9
  replace hn10 := (hu87 _ (q_pd 20 24 rfl)).trans hn10
  replace hn11 := (hu87 _ (q_pd 21 24 rfl)).trans hn11
  replace hn12 := (hu87 _ (q_pd 22 24 rfl)).trans hn12
  replace hn13 := (hu87 _ (q_pd 23 24 rfl)).trans hn13
  replace hF := q_us hF hu87 (.tail _ (.tail _ (.tail _ (.tail _ (.tail _ (.tail _ (.tail _ (.tail _ (.tail _ (.tail _ (.tail _ (.tail _ (.tail _ (.tail _ (.tail _ (.head _))))))))))))))))
  replace hN : w86.length = 25 := hN
  refine lv_dup hx hb d_8_1_106 rfl ?_
  refine lv_sipush (v := 220) hx hb d_8_1_107 (by decide) ?_
  refine q_gov V (q_runI (As := [.int 220]) (rest := [.ref q85, .ref qO0]) (d := 2) (mc := 1) (ms := 220) C0 V rfl LI_Mil_13 (c_Big_init_3 l D g w86 24 q85 25 hN hn14 _) rfl hl.1 rfl (Nat.le_of_ble_eq_true rfl) ⟨by decide, by decide⟩ ⟨Nat.le_of_ble_eq_true rfl, Nat.le_of_ble_eq_true rfl⟩ d_8_1_110) (fun u90 H locs hp89 V => ?_)
  obtain ⟨q91, hg92, hn14, hq93, hN⟩ := hp89
  replace hO0 := (hg92 _ (q_nc (q_pd 9 24 rfl) (q_nc (q_pd 9 25 rfl) List.not_mem_nil))).trans hO0
  replace hn0 := (hg92 _ (q_nc (q_pd 10 24 rfl) (q_nc (q_pd 10 25 rfl) List.not_mem_nil))).trans hn0
  replace hn1 := (hg92 _ (q_nc (q_pd 11 24 rfl) (q_nc (q_pd 11 25 rfl) List.not_mem_nil))).trans hn1
  replace hn2 := (hg92 _ (q_nc (q_pd 12 24 rfl) (q_nc (q_pd 12 25 rfl) List.not_mem_nil))).trans hn2
  replace hn3 := (hg92 _ (q_nc (q_pd 13 24 rfl) (q_nc (q_pd 13 25 rfl) List.not_mem_nil))).trans hn3
  replace hn4 := (hg92 _ (q_nc (q_pd 14 24 rfl) (q_nc (q_pd 14 25 rfl) List.not_mem_nil))).trans hn4
  replace hn5 := (hg92 _ (q_nc (q_pd 15 24 rfl) (q_nc (q_pd 15 25 rfl) List.not_mem_nil))).trans hn5
  replace hn6 := (hg92 _ (q_nc (q_pd 16 24 rfl) (q_nc (q_pd 16 25 rfl) List.not_mem_nil))).trans hn6
  replace hn7 := (hg92 _ (q_nc (q_pd 17 24 rfl) (q_nc (q_pd 17 25 rfl) List.not_mem_nil))).trans hn7
  replace hn8 := (hg92 _ (q_nc (q_pd 18 24 rfl) (q_nc (q_pd 18 25 rfl) List.not_mem_nil))).trans hn8
  replace hn9 := (hg92 _ (q_nc (q_pd 19 24 rfl) (q_nc (q_pd 19 25 rfl) List.not_mem_nil))).trans hn9
  replace hn10 := (hg92 _ (q_nc (q_pd 20 24 rfl) (q_nc (q_pd 20 25 rfl) List.not_mem_nil))).trans hn10
  replace hn11 := (hg92 _ (q_nc (q_pd 21 24 rfl) (q_nc (q_pd 21 25 rfl) List.not_mem_nil))).trans hn11
  replace hn12 := (hg92 _ (q_nc (q_pd 22 24 rfl) (q_nc (q_pd 22 25 rfl) List.not_mem_nil))).trans hn12
  replace hn13 := (hg92 _ (q_nc (q_pd 23 24 rfl) (q_nc (q_pd 23 25 rfl) List.not_mem_nil))).trans hn13
  replace hF := q_uc hF hg92 (q_sc (.tail _ (.tail _ (.tail _ (.tail _ (.tail _ (.tail _ (.tail _ (.tail _ (.tail _ (.tail _ (.tail _ (.tail _ (.tail _ (.tail _ (.tail _ (.head _)))))))))))))))) (q_sc (.tail _ (.tail _ (.tail _ (.tail _ (.tail _ (.tail _ (.tail _ (.tail _ (.tail _ (.tail _ (.tail _ (.tail _ (.tail _ (.tail _ (.tail _ (.tail _ (.head _))))))))))))))))) (fun _ h => absurd h List.not_mem_nil)))
  have hn15 : u90[25]? = some (q91, .inl (g 0, 220, .inl (fun _ => 0))) := hq93
  replace hN : u90.length = 26 := hN
  have ho96 := hO0
  refine q_putF (ci := 4) (j := 7) (v := .ref q85) (ty := .object "NumberHouse$Big") C0 V i_Mil o_Mil n_Mil rfl rfl rfl rfl rfl hO0 (by decide) w_128 rfl rfl rfl (Nat.le_of_ble_eq_true rfl) d_8_1_113 (fun H locs w94 hu95 hO0 V => ?_)
  replace hO0 : w94[9]? = some (qO0, .inr (4, [.ref q1, .ref q13, .ref q25, .ref q37, .ref q49, .ref q61, .ref q73, .ref q85, .null, .null])) := hO0
  replace hN : w94.length = 26 := (q_len1 hu95 hO0 ho96).trans hN
  replace hn0 := (hu95 _ (q_pd 10 9 rfl)).trans hn0
  replace hn1 := (hu95 _ (q_pd 11 9 rfl)).trans hn1
  replace hn2 := (hu95 _ (q_pd 12 9 rfl)).trans hn2
  replace hn3 := (hu95 _ (q_pd 13 9 rfl)).trans hn3
  replace hn4 := (hu95 _ (q_pd 14 9 rfl)).trans hn4
  replace hn5 := (hu95 _ (q_pd 15 9 rfl)).trans hn5
  replace hn6 := (hu95 _ (q_pd 16 9 rfl)).trans hn6
  replace hn7 := (hu95 _ (q_pd 17 9 rfl)).trans hn7
  replace hn8 := (hu95 _ (q_pd 18 9 rfl)).trans hn8
  replace hn9 := (hu95 _ (q_pd 19 9 rfl)).trans hn9
  replace hn10 := (hu95 _ (q_pd 20 9 rfl)).trans hn10
  replace hn11 := (hu95 _ (q_pd 21 9 rfl)).trans hn11
  replace hn12 := (hu95 _ (q_pd 22 9 rfl)).trans hn12
  replace hn13 := (hu95 _ (q_pd 23 9 rfl)).trans hn13
  replace hn14 := (hu95 _ (q_pd 24 9 rfl)).trans hn14
  replace hn15 := (hu95 _ (q_pd 25 9 rfl)).trans hn15
  replace hF := q_us hF hu95 (.head _)
  refine lv_aload_n hx hb d_8_1_116 rfl (lv_at hl 0 rfl) ?_
  refine q_new (ci := 2) (fs := [.null, .int 0, .int 0]) C0 V hN i_Big o_Big rfl w_78 w_79 w_4 rfl (fun j hj => by rcases (show j = 0 ∨ j = 1 ∨ j = 2 by omega) with rfl | rfl | rfl <;> rfl) (Nat.le_of_ble_eq_true rfl) (Nat.le_of_ble_eq_true rfl) d_8_1_117 (fun q97 H w98 hu99 hn100 hN V => ?_)
  have hn16 : w98[26]? = some (q97, .inr (2, [.null, .int 0, .int 0])) := hn100
  replace hO0 := (hu99 _ (q_pd 9 26 rfl)).trans hO0
  replace hn0 := (hu99 _ (q_pd 10 26 rfl)).trans hn0
  replace hn1 := (hu99 _ (q_pd 11 26 rfl)).trans hn1
  replace hn2 := (hu99 _ (q_pd 12 26 rfl)).trans hn2
  replace hn3 := (hu99 _ (q_pd 13 26 rfl)).trans hn3
  replace hn4 := (hu99 _ (q_pd 14 26 rfl)).trans hn4
  replace hn5 := (hu99 _ (q_pd 15 26 rfl)).trans hn5
  replace hn6 := (hu99 _ (q_pd 16 26 rfl)).trans hn6
  replace hn7 := (hu99 _ (q_pd 17 26 rfl)).trans hn7
  replace hn8 := (hu99 _ (q_pd 18 26 rfl)).trans hn8
  replace hn9 := (hu99 _ (q_pd 19 26 rfl)).trans hn9
  replace hn10 := (hu99 _ (q_pd 20 26 rfl)).trans hn10
  replace hn11 := (hu99 _ (q_pd 21 26 rfl)).trans hn11
  replace hn12 := (hu99 _ (q_pd 22 26 rfl)).trans hn12
  replace hn13 := (hu99 _ (q_pd 23 26 rfl)).trans hn13
  replace hn14 := (hu99 _ (q_pd 24 26 rfl)).trans hn14
  replace hn15 := (hu99 _ (q_pd 25 26 rfl)).trans hn15
  replace hF := q_us hF hu99 (.tail _ (.tail _ (.tail _ (.tail _ (.tail _ (.tail _ (.tail _ (.tail _ (.tail _ (.tail _ (.tail _ (.tail _ (.tail _ (.tail _ (.tail _ (.tail _ (.tail _ (.head _))))))))))))))))))
  replace hN : w98.length = 27 := hN
  refine lv_dup hx hb d_8_1_120 rfl ?_
  refine lv_sipush (v := 220) hx hb d_8_1_121 (by decide) ?_
  refine q_gov V (q_runI (As := [.int 220]) (rest := [.ref q97, .ref qO0]) (d := 2) (mc := 1) (ms := 220) C0 V rfl LI_Mil_13 (c_Big_init_3 l D g w98 26 q97 27 hN hn16 _) rfl hl.1 rfl (Nat.le_of_ble_eq_true rfl) ⟨by decide, by decide⟩ ⟨Nat.le_of_ble_eq_true rfl, Nat.le_of_ble_eq_true rfl⟩ d_8_1_124) (fun u102 H locs hp101 V => ?_)
  obtain ⟨q103, hg104, hn16, hq105, hN⟩ := hp101
  replace hO0 := (hg104 _ (q_nc (q_pd 9 26 rfl) (q_nc (q_pd 9 27 rfl) List.not_mem_nil))).trans hO0
  replace hn0 := (hg104 _ (q_nc (q_pd 10 26 rfl) (q_nc (q_pd 10 27 rfl) List.not_mem_nil))).trans hn0
  replace hn1 := (hg104 _ (q_nc (q_pd 11 26 rfl) (q_nc (q_pd 11 27 rfl) List.not_mem_nil))).trans hn1
  replace hn2 := (hg104 _ (q_nc (q_pd 12 26 rfl) (q_nc (q_pd 12 27 rfl) List.not_mem_nil))).trans hn2
  replace hn3 := (hg104 _ (q_nc (q_pd 13 26 rfl) (q_nc (q_pd 13 27 rfl) List.not_mem_nil))).trans hn3
  replace hn4 := (hg104 _ (q_nc (q_pd 14 26 rfl) (q_nc (q_pd 14 27 rfl) List.not_mem_nil))).trans hn4
  replace hn5 := (hg104 _ (q_nc (q_pd 15 26 rfl) (q_nc (q_pd 15 27 rfl) List.not_mem_nil))).trans hn5
  replace hn6 := (hg104 _ (q_nc (q_pd 16 26 rfl) (q_nc (q_pd 16 27 rfl) List.not_mem_nil))).trans hn6
  replace hn7 := (hg104 _ (q_nc (q_pd 17 26 rfl) (q_nc (q_pd 17 27 rfl) List.not_mem_nil))).trans hn7
  replace hn8 := (hg104 _ (q_nc (q_pd 18 26 rfl) (q_nc (q_pd 18 27 rfl) List.not_mem_nil))).trans hn8
  replace hn9 := (hg104 _ (q_nc (q_pd 19 26 rfl) (q_nc (q_pd 19 27 rfl) List.not_mem_nil))).trans hn9
  replace hn10 := (hg104 _ (q_nc (q_pd 20 26 rfl) (q_nc (q_pd 20 27 rfl) List.not_mem_nil))).trans hn10
  replace hn11 := (hg104 _ (q_nc (q_pd 21 26 rfl) (q_nc (q_pd 21 27 rfl) List.not_mem_nil))).trans hn11
  replace hn12 := (hg104 _ (q_nc (q_pd 22 26 rfl) (q_nc (q_pd 22 27 rfl) List.not_mem_nil))).trans hn12
  replace hn13 := (hg104 _ (q_nc (q_pd 23 26 rfl) (q_nc (q_pd 23 27 rfl) List.not_mem_nil))).trans hn13
  replace hn14 := (hg104 _ (q_nc (q_pd 24 26 rfl) (q_nc (q_pd 24 27 rfl) List.not_mem_nil))).trans hn14
  replace hn15 := (hg104 _ (q_nc (q_pd 25 26 rfl) (q_nc (q_pd 25 27 rfl) List.not_mem_nil))).trans hn15
  replace hF := q_uc hF hg104 (q_sc (.tail _ (.tail _ (.tail _ (.tail _ (.tail _ (.tail _ (.tail _ (.tail _ (.tail _ (.tail _ (.tail _ (.tail _ (.tail _ (.tail _ (.tail _ (.tail _ (.tail _ (.head _)))))))))))))))))) (q_sc (.tail _ (.tail _ (.tail _ (.tail _ (.tail _ (.tail _ (.tail _ (.tail _ (.tail _ (.tail _ (.tail _ (.tail _ (.tail _ (.tail _ (.tail _ (.tail _ (.tail _ (.tail _ (.head _))))))))))))))))))) (fun _ h => absurd h List.not_mem_nil)))
  have hn17 : u102[27]? = some (q103, .inl (g 0, 220, .inl (fun _ => 0))) := hq105
  replace hN : u102.length = 28 := hN
  have ho108 := hO0
  refine q_putF (ci := 4) (j := 8) (v := .ref q97) (ty := .object "NumberHouse$Big") C0 V i_Mil o_Mil n_Mil rfl rfl rfl rfl rfl hO0 (by decide) w_131 rfl rfl rfl (Nat.le_of_ble_eq_true rfl) d_8_1_127 (fun H locs w106 hu107 hO0 V => ?_)
  replace hO0 : w106[9]? = some (qO0, .inr (4, [.ref q1, .ref q13, .ref q25, .ref q37, .ref q49, .ref q61, .ref q73, .ref q85, .ref q97, .null])) := hO0
  replace hN : w106.length = 28 := (q_len1 hu107 hO0 ho108).trans hN
  replace hn0 := (hu107 _ (q_pd 10 9 rfl)).trans hn0
  replace hn1 := (hu107 _ (q_pd 11 9 rfl)).trans hn1
  replace hn2 := (hu107 _ (q_pd 12 9 rfl)).trans hn2
  replace hn3 := (hu107 _ (q_pd 13 9 rfl)).trans hn3
  replace hn4 := (hu107 _ (q_pd 14 9 rfl)).trans hn4
  replace hn5 := (hu107 _ (q_pd 15 9 rfl)).trans hn5
  replace hn6 := (hu107 _ (q_pd 16 9 rfl)).trans hn6
  replace hn7 := (hu107 _ (q_pd 17 9 rfl)).trans hn7
  replace hn8 := (hu107 _ (q_pd 18 9 rfl)).trans hn8
  replace hn9 := (hu107 _ (q_pd 19 9 rfl)).trans hn9
  replace hn10 := (hu107 _ (q_pd 20 9 rfl)).trans hn10
  replace hn11 := (hu107 _ (q_pd 21 9 rfl)).trans hn11
  replace hn12 := (hu107 _ (q_pd 22 9 rfl)).trans hn12
  replace hn13 := (hu107 _ (q_pd 23 9 rfl)).trans hn13
  replace hn14 := (hu107 _ (q_pd 24 9 rfl)).trans hn14
  replace hn15 := (hu107 _ (q_pd 25 9 rfl)).trans hn15
  replace hn16 := (hu107 _ (q_pd 26 9 rfl)).trans hn16
  replace hn17 := (hu107 _ (q_pd 27 9 rfl)).trans hn17
  replace hF := q_us hF hu107 (.head _)
  refine lv_aload_n hx hb d_8_1_130 rfl (lv_at hl 0 rfl) ?_
  refine q_new (ci := 2) (fs := [.null, .int 0, .int 0]) C0 V hN i_Big o_Big rfl w_78 w_79 w_4 rfl (fun j hj => by rcases (show j = 0 ∨ j = 1 ∨ j = 2 by omega) with rfl | rfl | rfl <;> rfl) (Nat.le_of_ble_eq_true rfl) (Nat.le_of_ble_eq_true rfl) d_8_1_131 (fun q109 H w110 hu111 hn112 hN V => ?_)
  have hn18 : w110[28]? = some (q109, .inr (2, [.null, .int 0, .int 0])) := hn112
  replace hO0 := (hu111 _ (q_pd 9 28 rfl)).trans hO0
  replace hn0 := (hu111 _ (q_pd 10 28 rfl)).trans hn0
  replace hn1 := (hu111 _ (q_pd 11 28 rfl)).trans hn1
  replace hn2 := (hu111 _ (q_pd 12 28 rfl)).trans hn2
  replace hn3 := (hu111 _ (q_pd 13 28 rfl)).trans hn3
  replace hn4 := (hu111 _ (q_pd 14 28 rfl)).trans hn4
  replace hn5 := (hu111 _ (q_pd 15 28 rfl)).trans hn5
  replace hn6 := (hu111 _ (q_pd 16 28 rfl)).trans hn6
  replace hn7 := (hu111 _ (q_pd 17 28 rfl)).trans hn7
  replace hn8 := (hu111 _ (q_pd 18 28 rfl)).trans hn8
  replace hn9 := (hu111 _ (q_pd 19 28 rfl)).trans hn9
  replace hn10 := (hu111 _ (q_pd 20 28 rfl)).trans hn10
  replace hn11 := (hu111 _ (q_pd 21 28 rfl)).trans hn11
  replace hn12 := (hu111 _ (q_pd 22 28 rfl)).trans hn12
  replace hn13 := (hu111 _ (q_pd 23 28 rfl)).trans hn13
  replace hn14 := (hu111 _ (q_pd 24 28 rfl)).trans hn14
  replace hn15 := (hu111 _ (q_pd 25 28 rfl)).trans hn15
  replace hn16 := (hu111 _ (q_pd 26 28 rfl)).trans hn16
  replace hn17 := (hu111 _ (q_pd 27 28 rfl)).trans hn17
  replace hF := q_us hF hu111 (.tail _ (.tail _ (.tail _ (.tail _ (.tail _ (.tail _ (.tail _ (.tail _ (.tail _ (.tail _ (.tail _ (.tail _ (.tail _ (.tail _ (.tail _ (.tail _ (.tail _ (.tail _ (.tail _ (.head _))))))))))))))))))))
  replace hN : w110.length = 29 := hN
  refine lv_dup hx hb d_8_1_134 rfl ?_
  refine lv_sipush (v := 220) hx hb d_8_1_135 (by decide) ?_
  refine q_gov V (q_runI (As := [.int 220]) (rest := [.ref q109, .ref qO0]) (d := 2) (mc := 1) (ms := 220) C0 V rfl LI_Mil_13 (c_Big_init_3 l D g w110 28 q109 29 hN hn18 _) rfl hl.1 rfl (Nat.le_of_ble_eq_true rfl) ⟨by decide, by decide⟩ ⟨Nat.le_of_ble_eq_true rfl, Nat.le_of_ble_eq_true rfl⟩ d_8_1_138) (fun u114 H locs hp113 V => ?_)
  obtain ⟨q115, hg116, hn18, hq117, hN⟩ := hp113
  replace hO0 := (hg116 _ (q_nc (q_pd 9 28 rfl) (q_nc (q_pd 9 29 rfl) List.not_mem_nil))).trans hO0
  replace hn0 := (hg116 _ (q_nc (q_pd 10 28 rfl) (q_nc (q_pd 10 29 rfl) List.not_mem_nil))).trans hn0
  replace hn1 := (hg116 _ (q_nc (q_pd 11 28 rfl) (q_nc (q_pd 11 29 rfl) List.not_mem_nil))).trans hn1
  replace hn2 := (hg116 _ (q_nc (q_pd 12 28 rfl) (q_nc (q_pd 12 29 rfl) List.not_mem_nil))).trans hn2
  replace hn3 := (hg116 _ (q_nc (q_pd 13 28 rfl) (q_nc (q_pd 13 29 rfl) List.not_mem_nil))).trans hn3
  replace hn4 := (hg116 _ (q_nc (q_pd 14 28 rfl) (q_nc (q_pd 14 29 rfl) List.not_mem_nil))).trans hn4
  replace hn5 := (hg116 _ (q_nc (q_pd 15 28 rfl) (q_nc (q_pd 15 29 rfl) List.not_mem_nil))).trans hn5
  replace hn6 := (hg116 _ (q_nc (q_pd 16 28 rfl) (q_nc (q_pd 16 29 rfl) List.not_mem_nil))).trans hn6
  replace hn7 := (hg116 _ (q_nc (q_pd 17 28 rfl) (q_nc (q_pd 17 29 rfl) List.not_mem_nil))).trans hn7
  replace hn8 := (hg116 _ (q_nc (q_pd 18 28 rfl) (q_nc (q_pd 18 29 rfl) List.not_mem_nil))).trans hn8
  replace hn9 := (hg116 _ (q_nc (q_pd 19 28 rfl) (q_nc (q_pd 19 29 rfl) List.not_mem_nil))).trans hn9
  replace hn10 := (hg116 _ (q_nc (q_pd 20 28 rfl) (q_nc (q_pd 20 29 rfl) List.not_mem_nil))).trans hn10
  replace hn11 := (hg116 _ (q_nc (q_pd 21 28 rfl) (q_nc (q_pd 21 29 rfl) List.not_mem_nil))).trans hn11
  replace hn12 := (hg116 _ (q_nc (q_pd 22 28 rfl) (q_nc (q_pd 22 29 rfl) List.not_mem_nil))).trans hn12
  replace hn13 := (hg116 _ (q_nc (q_pd 23 28 rfl) (q_nc (q_pd 23 29 rfl) List.not_mem_nil))).trans hn13
  replace hn14 := (hg116 _ (q_nc (q_pd 24 28 rfl) (q_nc (q_pd 24 29 rfl) List.not_mem_nil))).trans hn14
  replace hn15 := (hg116 _ (q_nc (q_pd 25 28 rfl) (q_nc (q_pd 25 29 rfl) List.not_mem_nil))).trans hn15
  replace hn16 := (hg116 _ (q_nc (q_pd 26 28 rfl) (q_nc (q_pd 26 29 rfl) List.not_mem_nil))).trans hn16
  replace hn17 := (hg116 _ (q_nc (q_pd 27 28 rfl) (q_nc (q_pd 27 29 rfl) List.not_mem_nil))).trans hn17
  replace hF := q_uc hF hg116 (q_sc (.tail _ (.tail _ (.tail _ (.tail _ (.tail _ (.tail _ (.tail _ (.tail _ (.tail _ (.tail _ (.tail _ (.tail _ (.tail _ (.tail _ (.tail _ (.tail _ (.tail _ (.tail _ (.tail _ (.head _)))))))))))))))))))) (q_sc (.tail _ (.tail _ (.tail _ (.tail _ (.tail _ (.tail _ (.tail _ (.tail _ (.tail _ (.tail _ (.tail _ (.tail _ (.tail _ (.tail _ (.tail _ (.tail _ (.tail _ (.tail _ (.tail _ (.tail _ (.head _))))))))))))))))))))) (fun _ h => absurd h List.not_mem_nil)))
  have hn19 : u114[29]? = some (q115, .inl (g 0, 220, .inl (fun _ => 0))) := hq117
  replace hN : u114.length = 30 := hN
  have ho120 := hO0
  refine q_putF (ci := 4) (j := 9) (v := .ref q109) (ty := .object "NumberHouse$Big") C0 V i_Mil o_Mil n_Mil rfl rfl rfl rfl rfl hO0 (by decide) w_133 rfl rfl rfl (Nat.le_of_ble_eq_true rfl) d_8_1_141 (fun H locs w118 hu119 hO0 V => ?_)
  replace hO0 : w118[9]? = some (qO0, .inr (4, [.ref q1, .ref q13, .ref q25, .ref q37, .ref q49, .ref q61, .ref q73, .ref q85, .ref q97, .ref q109])) := hO0
  replace hN : w118.length = 30 := (q_len1 hu119 hO0 ho120).trans hN
  replace hn0 := (hu119 _ (q_pd 10 9 rfl)).trans hn0
  replace hn1 := (hu119 _ (q_pd 11 9 rfl)).trans hn1
  replace hn2 := (hu119 _ (q_pd 12 9 rfl)).trans hn2
  replace hn3 := (hu119 _ (q_pd 13 9 rfl)).trans hn3
  replace hn4 := (hu119 _ (q_pd 14 9 rfl)).trans hn4
  replace hn5 := (hu119 _ (q_pd 15 9 rfl)).trans hn5
  replace hn6 := (hu119 _ (q_pd 16 9 rfl)).trans hn6
  replace hn7 := (hu119 _ (q_pd 17 9 rfl)).trans hn7
  replace hn8 := (hu119 _ (q_pd 18 9 rfl)).trans hn8
  replace hn9 := (hu119 _ (q_pd 19 9 rfl)).trans hn9
  replace hn10 := (hu119 _ (q_pd 20 9 rfl)).trans hn10
  replace hn11 := (hu119 _ (q_pd 21 9 rfl)).trans hn11
  replace hn12 := (hu119 _ (q_pd 22 9 rfl)).trans hn12
  replace hn13 := (hu119 _ (q_pd 23 9 rfl)).trans hn13
  replace hn14 := (hu119 _ (q_pd 24 9 rfl)).trans hn14
  replace hn15 := (hu119 _ (q_pd 25 9 rfl)).trans hn15
  replace hn16 := (hu119 _ (q_pd 26 9 rfl)).trans hn16
  replace hn17 := (hu119 _ (q_pd 27 9 rfl)).trans hn17
  replace hn18 := (hu119 _ (q_pd 28 9 rfl)).trans hn18
  replace hn19 := (hu119 _ (q_pd 29 9 rfl)).trans hn19
  replace hF := q_us hF hu119 (.head _)
  exact q_retv C0 V (⟨q1, q7, q13, q19, q25, q31, q37, q43, q49, q55, q61, q67, q73, q79, q85, q91, q97, q103, q109, q115, hF, hO0, hn0, hn1, hn2, hn3, hn4, hn5, hn6, hn7, hn8, hn9, hn10, hn11, hn12, hn13, hn14, hn15, hn16, hn17, hn18, hn19, hN⟩) d_8_1_144
theorem d_2_6_0 : decode prog_2_method_6_code 0 = .ok (.aload_n 0, 1) := by decide +kernel
theorem d_2_6_1 : decode prog_2_method_6_code 1 = .ok (.getfield 13, 3) := by decide +kernel
theorem d_2_6_4 : decode prog_2_method_6_code 4 = .ok (.aload_n 0, 1) := by decide +kernel
theorem d_2_6_5 : decode prog_2_method_6_code 5 = .ok (.getfield 7, 3) := by decide +kernel
theorem d_2_6_8 : decode prog_2_method_6_code 8 = .ok (.arraylength, 1) := by decide +kernel
theorem d_2_6_9 : decode prog_2_method_6_code 9 = .ok (.if_icmp .ge 23, 3) := by decide +kernel
theorem d_2_6_12 : decode prog_2_method_6_code 12 = .ok (.aload_n 0, 1) := by decide +kernel
theorem d_2_6_13 : decode prog_2_method_6_code 13 = .ok (.getfield 7, 3) := by decide +kernel
theorem d_2_6_16 : decode prog_2_method_6_code 16 = .ok (.aload_n 0, 1) := by decide +kernel
theorem d_2_6_17 : decode prog_2_method_6_code 17 = .ok (.getfield 13, 3) := by decide +kernel
theorem d_2_6_20 : decode prog_2_method_6_code 20 = .ok (.iload_n 1, 1) := by decide +kernel
theorem d_2_6_21 : decode prog_2_method_6_code 21 = .ok (.iastore, 1) := by decide +kernel
theorem d_2_6_22 : decode prog_2_method_6_code 22 = .ok (.aload_n 0, 1) := by decide +kernel
theorem d_2_6_23 : decode prog_2_method_6_code 23 = .ok (.dup, 1) := by decide +kernel
theorem d_2_6_24 : decode prog_2_method_6_code 24 = .ok (.getfield 13, 3) := by decide +kernel
theorem d_2_6_27 : decode prog_2_method_6_code 27 = .ok (.iconst 1, 1) := by decide +kernel
theorem d_2_6_28 : decode prog_2_method_6_code 28 = .ok (.iadd, 1) := by decide +kernel
theorem d_2_6_29 : decode prog_2_method_6_code 29 = .ok (.putfield 13, 3) := by decide +kernel
theorem d_2_6_32 : decode prog_2_method_6_code 32 = .ok (.return_, 1) := by decide +kernel
def y_Big_push : MethodName := ⟨"NumberHouse$Big", "push", "(I)V"⟩
set_option maxRecDepth 100000 in
set_option maxHeartbeats 4000000 in
theorem c_Big_push (l : Launch) (D : va_G) (g : Nat → ClassId) (ws : va_W) (kO0 kA1 qO0 qA1 : Nat) (hO0 : ws[kO0]? = some (qO0, .inr (2, [.ref qA1, .int 0, .int 0]))) (hA1 : ws[kA1]? = some (qA1, .inl (g 0, 3, .inl (fun _ => 0)))) : q_mV l y_Big_push prog_2_method_6_code 2 1 0 0 D g [.ref qO0, .int 1] ws (fun u => q_un ws u [kO0, kA1] ∧ u[kO0]? = some (qO0, .inr (2, [.ref qA1, .int 1, .int 0])) ∧ u[kA1]? = some (qA1, .inl (g 0, 3, .inl (upd (fun _ => 0) 0 1)))) := by
  intro sz
  refine q_into (by decide) (Nat.le_of_ble_eq_true rfl) ?_
  intro p e s m below meth c ls hsz C0 V hl
  have hx := C0.1
  have hb := C0.2.1
  have hl : lv_has ls 2 [(0, .ref qO0), (1, .int 1)] := hl
  have n_A1_O0 := q_df hA1 hO0
  have n_O0_A1 := Ne.symm (q_df hA1 hO0)
  have hF : q_un ws ws [kO0, kA1] := q_u0
  refine lv_aload_n hx hb d_2_6_0 rfl (lv_at hl 0 rfl) ?_
  refine q_get (ci := 2) (j := 1) (v := .int 0) C0 V i_Big rfl rfl hO0 (by decide) w_85 rfl d_2_6_1 ?_
  refine lv_aload_n hx hb d_2_6_4 rfl (lv_at hl 0 rfl) ?_
  refine q_get (ci := 2) (j := 0) (v := .ref qA1) C0 V i_Big rfl rfl hO0 (by decide) w_84 rfl d_2_6_5 ?_
  refine q_alen (t := 0) (v := 3) C0 V hA1 rfl (by first | rfl | decide) d_2_6_8 ?_
  refine lv_icmp_ge (tgt := 32) hx hb d_2_6_9 (by decide) (fun c1 => absurd c1 (by decide)) (fun c1 => ?_)
  refine lv_aload_n hx hb d_2_6_12 rfl (lv_at hl 0 rfl) ?_
  refine q_get (ci := 2) (j := 0) (v := .ref qA1) C0 V i_Big rfl rfl hO0 (by decide) w_84 rfl d_2_6_13 ?_
  refine lv_aload_n hx hb d_2_6_16 rfl (lv_at hl 0 rfl) ?_
  refine q_get (ci := 2) (j := 1) (v := .int 0) C0 V i_Big rfl rfl hO0 (by decide) w_85 rfl d_2_6_17 ?_
  refine lv_iload_n hx hb d_2_6_20 rfl (lv_at hl 1 rfl) ?_
  refine q_iast C0 V hA1 (by decide) d_2_6_21 (fun H locs w2 hu3 hA1 V => ?_)
  replace hA1 : w2[kA1]? = some (qA1, .inl (g 0, 3, .inl (upd (fun _ => 0) 0 1))) := hA1
  replace hO0 := (hu3 _ n_O0_A1).trans hO0
  replace hF := q_us hF hu3 (.tail _ (.head _))
  refine lv_aload_n hx hb d_2_6_22 rfl (lv_at hl 0 rfl) ?_
  refine lv_dup hx hb d_2_6_23 rfl ?_
  refine q_get (ci := 2) (j := 1) (v := .int 0) C0 V i_Big rfl rfl hO0 (by decide) w_85 rfl d_2_6_24 ?_
  refine lv_iconst (v := 1) hx hb d_2_6_27 (by decide) ?_
  refine lv_iadd hx hb d_2_6_28 ?_
  refine q_ti (v := 1) (by decide) ?_
  refine q_put (ci := 2) (j := 1) (v := .int 1) (ty := .int) C0 V i_Big o_Big n_Big rfl rfl hO0 (by decide) w_85 rfl rfl rfl rfl (Nat.le_of_ble_eq_true rfl) d_2_6_29 (fun H locs w4 hu5 hO0 V => ?_)
  replace hO0 : w4[kO0]? = some (qO0, .inr (2, [.ref qA1, .int 1, .int 0])) := hO0
  replace hA1 := (hu5 _ n_A1_O0).trans hA1
  replace hF := q_us hF hu5 (.head _)
  exact q_retv C0 V (⟨hF, hO0, hA1⟩) d_2_6_32
set_option maxRecDepth 100000 in
set_option maxHeartbeats 4000000 in
theorem c_Big_push_2 (l : Launch) (D : va_G) (g : Nat → ClassId) (ws : va_W) (kO0 kA1 qO0 qA1 : Nat) (hO0 : ws[kO0]? = some (qO0, .inr (2, [.ref qA1, .int 1, .int 0]))) (hA1 : ws[kA1]? = some (qA1, .inl (g 0, 3, .inl (upd (fun _ => 0) 0 1)))) : q_mV l y_Big_push prog_2_method_6_code 2 1 0 0 D g [.ref qO0, .int 0] ws (fun u => q_un ws u [kO0, kA1] ∧ u[kO0]? = some (qO0, .inr (2, [.ref qA1, .int 2, .int 0])) ∧ u[kA1]? = some (qA1, .inl (g 0, 3, .inl (upd (upd (fun _ => 0) 0 1) 1 0)))) := by
  intro sz
  refine q_into (by decide) (Nat.le_of_ble_eq_true rfl) ?_
  intro p e s m below meth c ls hsz C0 V hl
  have hx := C0.1
  have hb := C0.2.1
  have hl : lv_has ls 2 [(0, .ref qO0), (1, .int 0)] := hl
  have n_A1_O0 := q_df hA1 hO0
  have n_O0_A1 := Ne.symm (q_df hA1 hO0)
  have hF : q_un ws ws [kO0, kA1] := q_u0
  refine lv_aload_n hx hb d_2_6_0 rfl (lv_at hl 0 rfl) ?_
  refine q_get (ci := 2) (j := 1) (v := .int 1) C0 V i_Big rfl rfl hO0 (by decide) w_85 rfl d_2_6_1 ?_
  refine lv_aload_n hx hb d_2_6_4 rfl (lv_at hl 0 rfl) ?_
  refine q_get (ci := 2) (j := 0) (v := .ref qA1) C0 V i_Big rfl rfl hO0 (by decide) w_84 rfl d_2_6_5 ?_
  refine q_alen (t := 0) (v := 3) C0 V hA1 rfl (by first | rfl | decide) d_2_6_8 ?_
  refine lv_icmp_ge (tgt := 32) hx hb d_2_6_9 (by decide) (fun c1 => absurd c1 (by decide)) (fun c1 => ?_)
  refine lv_aload_n hx hb d_2_6_12 rfl (lv_at hl 0 rfl) ?_
  refine q_get (ci := 2) (j := 0) (v := .ref qA1) C0 V i_Big rfl rfl hO0 (by decide) w_84 rfl d_2_6_13 ?_
  refine lv_aload_n hx hb d_2_6_16 rfl (lv_at hl 0 rfl) ?_
  refine q_get (ci := 2) (j := 1) (v := .int 1) C0 V i_Big rfl rfl hO0 (by decide) w_85 rfl d_2_6_17 ?_
  refine lv_iload_n hx hb d_2_6_20 rfl (lv_at hl 1 rfl) ?_
  refine q_iast C0 V hA1 (by decide) d_2_6_21 (fun H locs w2 hu3 hA1 V => ?_)
  replace hA1 : w2[kA1]? = some (qA1, .inl (g 0, 3, .inl (upd (upd (fun _ => 0) 0 1) 1 0))) := hA1
  replace hO0 := (hu3 _ n_O0_A1).trans hO0
  replace hF := q_us hF hu3 (.tail _ (.head _))
  refine lv_aload_n hx hb d_2_6_22 rfl (lv_at hl 0 rfl) ?_
  refine lv_dup hx hb d_2_6_23 rfl ?_
  refine q_get (ci := 2) (j := 1) (v := .int 1) C0 V i_Big rfl rfl hO0 (by decide) w_85 rfl d_2_6_24 ?_
  refine lv_iconst (v := 1) hx hb d_2_6_27 (by decide) ?_
  refine lv_iadd hx hb d_2_6_28 ?_
  refine q_ti (v := 2) (by decide) ?_
  refine q_put (ci := 2) (j := 1) (v := .int 2) (ty := .int) C0 V i_Big o_Big n_Big rfl rfl hO0 (by decide) w_85 rfl rfl rfl rfl (Nat.le_of_ble_eq_true rfl) d_2_6_29 (fun H locs w4 hu5 hO0 V => ?_)
  replace hO0 : w4[kO0]? = some (qO0, .inr (2, [.ref qA1, .int 2, .int 0])) := hO0
  replace hA1 := (hu5 _ n_A1_O0).trans hA1
  replace hF := q_us hF hu5 (.head _)
  exact q_retv C0 V (⟨hF, hO0, hA1⟩) d_2_6_32
set_option maxRecDepth 100000 in
set_option maxHeartbeats 4000000 in
theorem c_Big_push_3 (l : Launch) (D : va_G) (g : Nat → ClassId) (ws : va_W) (kO0 kA1 qO0 qA1 : Nat) (hO0 : ws[kO0]? = some (qO0, .inr (2, [.ref qA1, .int 2, .int 0]))) (hA1 : ws[kA1]? = some (qA1, .inl (g 0, 3, .inl (upd (upd (fun _ => 0) 0 1) 1 0)))) : q_mV l y_Big_push prog_2_method_6_code 2 1 0 0 D g [.ref qO0, .int 0] ws (fun u => q_un ws u [kO0, kA1] ∧ u[kO0]? = some (qO0, .inr (2, [.ref qA1, .int 3, .int 0])) ∧ u[kA1]? = some (qA1, .inl (g 0, 3, .inl (upd (upd (upd (fun _ => 0) 0 1) 1 0) 2 0)))) := by
  intro sz
  refine q_into (by decide) (Nat.le_of_ble_eq_true rfl) ?_
  intro p e s m below meth c ls hsz C0 V hl
  have hx := C0.1
  have hb := C0.2.1
  have hl : lv_has ls 2 [(0, .ref qO0), (1, .int 0)] := hl
  have n_A1_O0 := q_df hA1 hO0
  have n_O0_A1 := Ne.symm (q_df hA1 hO0)
  have hF : q_un ws ws [kO0, kA1] := q_u0
  refine lv_aload_n hx hb d_2_6_0 rfl (lv_at hl 0 rfl) ?_
  refine q_get (ci := 2) (j := 1) (v := .int 2) C0 V i_Big rfl rfl hO0 (by decide) w_85 rfl d_2_6_1 ?_
  refine lv_aload_n hx hb d_2_6_4 rfl (lv_at hl 0 rfl) ?_
  refine q_get (ci := 2) (j := 0) (v := .ref qA1) C0 V i_Big rfl rfl hO0 (by decide) w_84 rfl d_2_6_5 ?_
  refine q_alen (t := 0) (v := 3) C0 V hA1 rfl (by first | rfl | decide) d_2_6_8 ?_
  refine lv_icmp_ge (tgt := 32) hx hb d_2_6_9 (by decide) (fun c1 => absurd c1 (by decide)) (fun c1 => ?_)
  refine lv_aload_n hx hb d_2_6_12 rfl (lv_at hl 0 rfl) ?_
  refine q_get (ci := 2) (j := 0) (v := .ref qA1) C0 V i_Big rfl rfl hO0 (by decide) w_84 rfl d_2_6_13 ?_
  refine lv_aload_n hx hb d_2_6_16 rfl (lv_at hl 0 rfl) ?_
  refine q_get (ci := 2) (j := 1) (v := .int 2) C0 V i_Big rfl rfl hO0 (by decide) w_85 rfl d_2_6_17 ?_
  refine lv_iload_n hx hb d_2_6_20 rfl (lv_at hl 1 rfl) ?_
  refine q_iast C0 V hA1 (by decide) d_2_6_21 (fun H locs w2 hu3 hA1 V => ?_)
  replace hA1 : w2[kA1]? = some (qA1, .inl (g 0, 3, .inl (upd (upd (upd (fun _ => 0) 0 1) 1 0) 2 0))) := hA1
  replace hO0 := (hu3 _ n_O0_A1).trans hO0
  replace hF := q_us hF hu3 (.tail _ (.head _))
  refine lv_aload_n hx hb d_2_6_22 rfl (lv_at hl 0 rfl) ?_
  refine lv_dup hx hb d_2_6_23 rfl ?_
  refine q_get (ci := 2) (j := 1) (v := .int 2) C0 V i_Big rfl rfl hO0 (by decide) w_85 rfl d_2_6_24 ?_
  refine lv_iconst (v := 1) hx hb d_2_6_27 (by decide) ?_
  refine lv_iadd hx hb d_2_6_28 ?_
  refine q_ti (v := 3) (by decide) ?_
  refine q_put (ci := 2) (j := 1) (v := .int 3) (ty := .int) C0 V i_Big o_Big n_Big rfl rfl hO0 (by decide) w_85 rfl rfl rfl rfl (Nat.le_of_ble_eq_true rfl) d_2_6_29 (fun H locs w4 hu5 hO0 V => ?_)
  replace hO0 : w4[kO0]? = some (qO0, .inr (2, [.ref qA1, .int 3, .int 0])) := hO0
  replace hA1 := (hu5 _ n_A1_O0).trans hA1
  replace hF := q_us hF hu5 (.head _)
  exact q_retv C0 V (⟨hF, hO0, hA1⟩) d_2_6_32
theorem d_2_7_9 : decode prog_2_method_7_code 9 = .ok (.aload_n 0, 1) := by decide +kernel
theorem d_2_7_10 : decode prog_2_method_7_code 10 = .ok (.getfield 7, 3) := by decide +kernel
theorem d_2_7_13 : decode prog_2_method_7_code 13 = .ok (.iload_n 1, 1) := by decide +kernel
theorem d_2_7_14 : decode prog_2_method_7_code 14 = .ok (.iconst 1, 1) := by decide +kernel
theorem d_2_7_15 : decode prog_2_method_7_code 15 = .ok (.isub, 1) := by decide +kernel
theorem d_2_7_16 : decode prog_2_method_7_code 16 = .ok (.iaload, 1) := by decide +kernel
theorem d_2_7_17 : decode prog_2_method_7_code 17 = .ok (.ifCond .ne 9, 3) := by decide +kernel
theorem d_2_7_20 : decode prog_2_method_7_code 20 = .ok (.iinc 1 (-1), 3) := by decide +kernel
theorem d_2_7_23 : decode prog_2_method_7_code 23 = .ok (.goto (-18), 3) := by decide +kernel
set_option maxRecDepth 100000 in
set_option maxHeartbeats 4000000 in
theorem c_Big_trim_2 (l : Launch) (D : va_G) (g : Nat → ClassId) (ws : va_W) (kO0 kA1 qO0 qA1 : Nat) (hO0 : ws[kO0]? = some (qO0, .inr (2, [.ref qA1, .int 3, .int 0]))) (hA1 : ws[kA1]? = some (qA1, .inl (g 0, 3, .inl (upd (upd (upd (fun _ => 0) 0 1) 1 0) 2 0)))) : q_mV l y_Big_trim prog_2_method_7_code 2 1 0 0 D g [.ref qO0] ws (fun u => q_un ws u [kO0] ∧ u[kO0]? = some (qO0, .inr (2, [.ref qA1, .int 1, .int 0]))) := by
  intro sz
  refine q_into (by decide) (Nat.le_of_ble_eq_true rfl) ?_
  intro p e s m below meth c ls hsz C0 V hl
  have hx := C0.1
  have hb := C0.2.1
  have hl : lv_has ls 2 [(0, .ref qO0)] := hl
  have n_A1_O0 := q_df hA1 hO0
  have hF : q_un ws ws [kO0] := q_u0
  refine lv_aload_n hx hb d_2_7_0 rfl (lv_at hl 0 rfl) ?_
  refine q_get (ci := 2) (j := 1) (v := .int 3) C0 V i_Big rfl rfl hO0 (by decide) w_85 rfl d_2_7_1 ?_
  refine lv_istore_n (lv' := [(1, .int 3), (0, .ref qO0)]) hx hb d_2_7_4 rfl hl (by decide) rfl (fun ls hl => ?_)
  refine lv_iload_n hx hb d_2_7_5 rfl (lv_at hl 0 rfl) ?_
  refine lv_if_le (tgt := 26) hx hb d_2_7_6 (by decide) (fun c1 => absurd c1 (by decide)) (fun c1 => ?_)
  refine lv_aload_n hx hb d_2_7_9 rfl (lv_at hl 1 rfl) ?_
  refine q_get (ci := 2) (j := 0) (v := .ref qA1) C0 V i_Big rfl rfl hO0 (by decide) w_84 rfl d_2_7_10 ?_
  refine lv_iload_n hx hb d_2_7_13 rfl (lv_at hl 0 rfl) ?_
  refine lv_iconst (v := 1) hx hb d_2_7_14 (by decide) ?_
  refine lv_isub hx hb d_2_7_15 ?_
  refine q_ti (v := 2) (by decide) ?_
  refine q_iald C0 V hA1 (by decide) d_2_7_16 ?_
  refine q_ti (v := 0) (by first | rfl | decide | simp [upd, vp_updL, sb_cl0]) ?_
  refine lv_if_ne (tgt := 26) hx hb d_2_7_17 (by decide) (fun c2 => absurd (by decide) c2) (fun c2 => ?_)
  refine lv_iinc (v := 2) (lv' := [(1, .int 2), (0, .ref qO0)]) hx hb d_2_7_20 hl (k := 0) rfl (by decide) (by decide) rfl (fun ls hl => ?_)
  refine lv_goto (tgt := 5) hx hb d_2_7_23 (by decide) ?_
  refine lv_iload_n hx hb d_2_7_5 rfl (lv_at hl 0 rfl) ?_
  refine lv_if_le (tgt := 26) hx hb d_2_7_6 (by decide) (fun c3 => absurd c3 (by decide)) (fun c3 => ?_)
  refine lv_aload_n hx hb d_2_7_9 rfl (lv_at hl 1 rfl) ?_
  refine q_get (ci := 2) (j := 0) (v := .ref qA1) C0 V i_Big rfl rfl hO0 (by decide) w_84 rfl d_2_7_10 ?_
  refine lv_iload_n hx hb d_2_7_13 rfl (lv_at hl 0 rfl) ?_
  refine lv_iconst (v := 1) hx hb d_2_7_14 (by decide) ?_
  refine lv_isub hx hb d_2_7_15 ?_
  refine q_ti (v := 1) (by decide) ?_
  refine q_iald C0 V hA1 (by decide) d_2_7_16 ?_
  refine q_ti (v := 0) (by first | rfl | decide | simp [upd, vp_updL, sb_cl0]) ?_
  refine lv_if_ne (tgt := 26) hx hb d_2_7_17 (by decide) (fun c4 => absurd (by decide) c4) (fun c4 => ?_)
  refine lv_iinc (v := 1) (lv' := [(1, .int 1), (0, .ref qO0)]) hx hb d_2_7_20 hl (k := 0) rfl (by decide) (by decide) rfl (fun ls hl => ?_)
  refine lv_goto (tgt := 5) hx hb d_2_7_23 (by decide) ?_
  refine lv_iload_n hx hb d_2_7_5 rfl (lv_at hl 0 rfl) ?_
  refine lv_if_le (tgt := 26) hx hb d_2_7_6 (by decide) (fun c5 => absurd c5 (by decide)) (fun c5 => ?_)
  refine lv_aload_n hx hb d_2_7_9 rfl (lv_at hl 1 rfl) ?_
  refine q_get (ci := 2) (j := 0) (v := .ref qA1) C0 V i_Big rfl rfl hO0 (by decide) w_84 rfl d_2_7_10 ?_
  refine lv_iload_n hx hb d_2_7_13 rfl (lv_at hl 0 rfl) ?_
  refine lv_iconst (v := 1) hx hb d_2_7_14 (by decide) ?_
  refine lv_isub hx hb d_2_7_15 ?_
  refine q_ti (v := 0) (by decide) ?_
  refine q_iald C0 V hA1 (by decide) d_2_7_16 ?_
  refine q_ti (v := 1) (by first | rfl | decide | simp [upd, vp_updL, sb_cl0]) ?_
  refine lv_if_ne (tgt := 26) hx hb d_2_7_17 (by decide) (fun c6 => ?_) (fun c6 => absurd c6 (by decide))
  refine lv_aload_n hx hb d_2_7_26 rfl (lv_at hl 1 rfl) ?_
  refine lv_iload_n hx hb d_2_7_27 rfl (lv_at hl 0 rfl) ?_
  refine q_put (ci := 2) (j := 1) (v := .int 1) (ty := .int) C0 V i_Big o_Big n_Big rfl rfl hO0 (by decide) w_85 rfl rfl rfl rfl (Nat.le_of_ble_eq_true rfl) d_2_7_28 (fun H locs w7 hu8 hO0 V => ?_)
  replace hO0 : w7[kO0]? = some (qO0, .inr (2, [.ref qA1, .int 1, .int 0])) := hO0
  replace hA1 := (hu8 _ n_A1_O0).trans hA1
  replace hF := q_us hF hu8 (.head _)
  refine lv_aload_n hx hb d_2_7_31 rfl (lv_at hl 1 rfl) ?_
  refine lv_aload_n hx hb d_2_7_32 rfl (lv_at hl 1 rfl) ?_
  refine q_get (ci := 2) (j := 2) (v := .int 0) C0 V i_Big rfl rfl hO0 (by decide) w_94 rfl d_2_7_33 ?_
  refine lv_if_eq (tgt := 47) hx hb d_2_7_36 (by decide) (fun c9 => ?_) (fun c9 => absurd (by decide) c9)
  refine lv_iconst (v := 0) hx hb d_2_7_47 (by decide) ?_
  refine q_put (ci := 2) (j := 2) (v := .int 0) (ty := .boolean) C0 V i_Big o_Big n_Big rfl rfl hO0 (by decide) w_94 rfl rfl rfl rfl (Nat.le_of_ble_eq_true rfl) d_2_7_48 (fun H locs w10 hu11 hO0 V => ?_)
  replace hO0 : w10[kO0]? = some (qO0, .inr (2, [.ref qA1, .int 1, .int 0])) := hO0
  replace hA1 := (hu11 _ n_A1_O0).trans hA1
  replace hF := q_us hF hu11 (.head _)
  exact q_retv C0 V (⟨hF, hO0⟩) d_2_7_51
theorem d_2_3_0 : decode prog_2_method_3_code 0 = .ok (.aload_n 0, 1) := by decide +kernel
theorem d_2_3_1 : decode prog_2_method_3_code 1 = .ok (.invokevirtual 21, 3) := by decide +kernel
theorem w_197 : (Cond.code ({ cls := "NumberHouse$Big", name := "clear", desc := "()V" } : MethodName) prog_2_method_2_code (1 : Nat) (none : Option ClassFile.FieldType)) ∈ q_tbl := q_of 197 (by decide +kernel) (by decide +kernel)
theorem w_194 : (Cond.methodLink "NumberHouse$Big" (21 : Nat) ({ cls := "NumberHouse$Big", name := "clear", desc := "()V" } : MethodName)) ∈ q_tbl := q_of 194 (by decide +kernel) (by decide +kernel)
theorem w_195 : (Cond.instanceMethod ({ cls := "NumberHouse$Big", name := "clear", desc := "()V" } : MethodName)) ∈ q_tbl := q_of 195 (by decide +kernel) (by decide +kernel)
theorem w_196 : (Cond.selects "NumberHouse$Big" ({ cls := "NumberHouse$Big", name := "clear", desc := "()V" } : MethodName) ({ cls := "NumberHouse$Big", name := "clear", desc := "()V" } : MethodName)) ∈ q_tbl := q_of 196 (by decide +kernel) (by decide +kernel)
theorem LV_Big_21 : q_LV "NumberHouse$Big" 21 y_Big_clear prog_2_method_2_code 1 none 0 := ⟨w_197, w_4, w_194, w_195, w_196, ⟨by decide, by decide, by decide +kernel⟩⟩
theorem d_2_3_4 : decode prog_2_method_3_code 4 = .ok (.lload_n 1, 1) := by decide +kernel
theorem d_2_3_5 : decode prog_2_method_3_code 5 = .ok (.invokestatic 24, 3) := by decide +kernel
theorem w_198 : (Cond.methodLink "NumberHouse$Big" (24 : Nat) ({ cls := "java/lang/Math", name := "abs", desc := "(J)J" } : MethodName)) ∈ q_tbl := q_of 198 (by decide +kernel) (by decide +kernel)
theorem w_199 : (Cond.static ({ cls := "java/lang/Math", name := "abs", desc := "(J)J" } : MethodName)) ∈ q_tbl := q_of 199 (by decide +kernel) (by decide +kernel)
theorem w_7 : (Cond.initialized "java/lang/Math") ∈ q_tbl := q_of 7 (by decide +kernel) (by decide +kernel)
theorem w_200 : (Cond.code ({ cls := "java/lang/Math", name := "abs", desc := "(J)J" } : MethodName) prog_29_method_61_code (2 : Nat) (some .long)) ∈ q_tbl := q_of 200 (by decide +kernel) (by decide +kernel)
theorem d_2_3_8 : decode prog_2_method_3_code 8 = .ok (.lstore_n 3, 1) := by decide +kernel
theorem d_2_3_9 : decode prog_2_method_3_code 9 = .ok (.iconst 0, 1) := by decide +kernel
theorem d_2_3_10 : decode prog_2_method_3_code 10 = .ok (.istore 5, 2) := by decide +kernel
theorem d_2_3_12 : decode prog_2_method_3_code 12 = .ok (.iload 5, 2) := by decide +kernel
theorem d_2_3_14 : decode prog_2_method_3_code 14 = .ok (.iconst 3, 1) := by decide +kernel
theorem d_2_3_15 : decode prog_2_method_3_code 15 = .ok (.if_icmp .ge 24, 3) := by decide +kernel
theorem d_2_3_18 : decode prog_2_method_3_code 18 = .ok (.aload_n 0, 1) := by decide +kernel
theorem d_2_3_19 : decode prog_2_method_3_code 19 = .ok (.lload_n 3, 1) := by decide +kernel
theorem d_2_3_20 : decode prog_2_method_3_code 20 = .ok (.ldc2_w 30, 3) := by decide +kernel
theorem w_201 : (Cond.constantLong "NumberHouse$Big" (30 : Nat) (2147483647 : Int64)) ∈ q_tbl := q_of 201 (by decide +kernel) (by decide +kernel)
theorem d_2_3_23 : decode prog_2_method_3_code 23 = .ok (.land, 1) := by decide +kernel
theorem d_2_3_24 : decode prog_2_method_3_code 24 = .ok (.l2i, 1) := by decide +kernel
theorem d_2_3_25 : decode prog_2_method_3_code 25 = .ok (.invokevirtual 32, 3) := by decide +kernel
theorem w_205 : (Cond.code ({ cls := "NumberHouse$Big", name := "push", desc := "(I)V" } : MethodName) prog_2_method_6_code (2 : Nat) (none : Option ClassFile.FieldType)) ∈ q_tbl := q_of 205 (by decide +kernel) (by decide +kernel)
theorem w_202 : (Cond.methodLink "NumberHouse$Big" (32 : Nat) ({ cls := "NumberHouse$Big", name := "push", desc := "(I)V" } : MethodName)) ∈ q_tbl := q_of 202 (by decide +kernel) (by decide +kernel)
theorem w_203 : (Cond.instanceMethod ({ cls := "NumberHouse$Big", name := "push", desc := "(I)V" } : MethodName)) ∈ q_tbl := q_of 203 (by decide +kernel) (by decide +kernel)
theorem w_204 : (Cond.selects "NumberHouse$Big" ({ cls := "NumberHouse$Big", name := "push", desc := "(I)V" } : MethodName) ({ cls := "NumberHouse$Big", name := "push", desc := "(I)V" } : MethodName)) ∈ q_tbl := q_of 204 (by decide +kernel) (by decide +kernel)
theorem LV_Big_32 : q_LV "NumberHouse$Big" 32 y_Big_push prog_2_method_6_code 2 none 1 := ⟨w_205, w_4, w_202, w_203, w_204, ⟨by decide, by decide, by decide +kernel⟩⟩
theorem d_2_3_28 : decode prog_2_method_3_code 28 = .ok (.lload_n 3, 1) := by decide +kernel
theorem d_2_3_29 : decode prog_2_method_3_code 29 = .ok (.bipush 31, 2) := by decide +kernel
theorem d_2_3_31 : decode prog_2_method_3_code 31 = .ok (.lushr, 1) := by decide +kernel
theorem d_2_3_32 : decode prog_2_method_3_code 32 = .ok (.lstore_n 3, 1) := by decide +kernel
theorem d_2_3_33 : decode prog_2_method_3_code 33 = .ok (.iinc 5 1, 3) := by decide +kernel
theorem d_2_3_36 : decode prog_2_method_3_code 36 = .ok (.goto (-24), 3) := by decide +kernel
theorem d_2_3_39 : decode prog_2_method_3_code 39 = .ok (.aload_n 0, 1) := by decide +kernel
theorem d_2_3_40 : decode prog_2_method_3_code 40 = .ok (.invokevirtual 36, 3) := by decide +kernel
theorem w_209 : (Cond.code ({ cls := "NumberHouse$Big", name := "trim", desc := "()V" } : MethodName) prog_2_method_7_code (2 : Nat) (none : Option ClassFile.FieldType)) ∈ q_tbl := q_of 209 (by decide +kernel) (by decide +kernel)
theorem w_206 : (Cond.methodLink "NumberHouse$Big" (36 : Nat) ({ cls := "NumberHouse$Big", name := "trim", desc := "()V" } : MethodName)) ∈ q_tbl := q_of 206 (by decide +kernel) (by decide +kernel)
theorem w_207 : (Cond.instanceMethod ({ cls := "NumberHouse$Big", name := "trim", desc := "()V" } : MethodName)) ∈ q_tbl := q_of 207 (by decide +kernel) (by decide +kernel)
theorem w_208 : (Cond.selects "NumberHouse$Big" ({ cls := "NumberHouse$Big", name := "trim", desc := "()V" } : MethodName) ({ cls := "NumberHouse$Big", name := "trim", desc := "()V" } : MethodName)) ∈ q_tbl := q_of 208 (by decide +kernel) (by decide +kernel)
theorem LV_Big_36 : q_LV "NumberHouse$Big" 36 y_Big_trim prog_2_method_7_code 2 none 0 := ⟨w_209, w_4, w_206, w_207, w_208, ⟨by decide, by decide, by decide +kernel⟩⟩
theorem d_2_3_43 : decode prog_2_method_3_code 43 = .ok (.aload_n 0, 1) := by decide +kernel
theorem d_2_3_44 : decode prog_2_method_3_code 44 = .ok (.lload_n 1, 1) := by decide +kernel
theorem d_2_3_45 : decode prog_2_method_3_code 45 = .ok (.lconst 0, 1) := by decide +kernel
theorem d_2_3_46 : decode prog_2_method_3_code 46 = .ok (.lcmp, 1) := by decide +kernel
theorem d_2_3_47 : decode prog_2_method_3_code 47 = .ok (.ifCond .ge 7, 3) := by decide +kernel
theorem d_2_3_54 : decode prog_2_method_3_code 54 = .ok (.iconst 0, 1) := by decide +kernel
theorem d_2_3_55 : decode prog_2_method_3_code 55 = .ok (.putfield 17, 3) := by decide +kernel
theorem d_2_3_58 : decode prog_2_method_3_code 58 = .ok (.return_, 1) := by decide +kernel
def y_Big_setLong : MethodName := ⟨"NumberHouse$Big", "setLong", "(J)V"⟩
set_option maxRecDepth 100000 in
set_option maxHeartbeats 4000000 in
theorem c_Big_setLong (l : Launch) (D : va_G) (g : Nat → ClassId) (ws : va_W) (kO0 kA1 qO0 qA1 : Nat) (hO0 : ws[kO0]? = some (qO0, .inr (2, [.ref qA1, .int 0, .int 0]))) (hA1 : ws[kA1]? = some (qA1, .inl (g 0, 3, .inl (fun _ => 0)))) : q_mV l y_Big_setLong prog_2_method_3_code 6 2 0 0 D g [.ref qO0, .long 1] ws (fun u => q_un ws u [kO0, kA1] ∧ u[kO0]? = some (qO0, .inr (2, [.ref qA1, .int 1, .int 0])) ∧ u[kA1]? = some (qA1, .inl (g 0, 3, .inl (upd (upd (upd (fun _ => 0) 0 1) 1 0) 2 0)))) := by
  intro sz
  refine q_into (by decide) (Nat.le_of_ble_eq_true rfl) ?_
  intro p e s m below meth c ls hsz C0 V hl
  have hx := C0.1
  have hb := C0.2.1
  have hl : lv_has ls 6 [(0, .ref qO0), (1, .long 1)] := hl
  have n_A1_O0 := q_df hA1 hO0
  have hF : q_un ws ws [kO0, kA1] := q_u0
  refine lv_aload_n hx hb d_2_3_0 rfl (lv_at hl 0 rfl) ?_
  refine q_gov V (q_runV (As := []) (rest := []) (d := 1) (mc := 0) (ms := 0) (ci := 2) C0 V rfl LV_Big_21 (c_Big_clear l D g ws kO0 qO0 qA1 0 0 hO0 _) rfl rfl hO0 rfl hl.1 rfl (Nat.le_of_ble_eq_true rfl) ⟨by decide, by decide⟩ ⟨Nat.le_of_ble_eq_true rfl, Nat.le_of_ble_eq_true rfl⟩ d_2_3_1) (fun u2 H locs hp1 V => ?_)
  obtain ⟨hg3, hO0⟩ := hp1
  replace hA1 := (hg3 _ (q_nc n_A1_O0 List.not_mem_nil)).trans hA1
  replace hF := q_uc hF hg3 (q_sc (.head _) (fun _ h => absurd h List.not_mem_nil))
  refine lv_lload_n hx hb d_2_3_4 rfl (lv_at hl 1 rfl) ?_
  refine q_absl C0 hl.1 rfl w_198 w_199 w_7 w_200 ⟨by decide, by decide⟩ ⟨Nat.le_of_ble_eq_true rfl, Nat.le_of_ble_eq_true rfl⟩ d_2_3_5 ?_
  refine q_tl (v := 1) (by decide) ?_
  refine lv_lstore_n (lv' := [(3, .long 1), (0, .ref qO0), (1, .long 1)]) hx hb d_2_3_8 rfl hl (by decide) rfl (fun ls hl => ?_)
  refine lv_iconst (v := 0) hx hb d_2_3_9 (by decide) ?_
  refine lv_istore (lv' := [(5, .int 0), (3, .long 1), (0, .ref qO0), (1, .long 1)]) hx hb d_2_3_10 hl (by decide) rfl (fun ls hl => ?_)
  refine lv_iload hx hb d_2_3_12 (lv_at hl 0 rfl) ?_
  refine lv_iconst (v := 3) hx hb d_2_3_14 (by decide) ?_
  refine lv_icmp_ge (tgt := 39) hx hb d_2_3_15 (by decide) (fun c4 => absurd c4 (by decide)) (fun c4 => ?_)
  refine lv_aload_n hx hb d_2_3_18 rfl (lv_at hl 2 rfl) ?_
  refine lv_lload_n hx hb d_2_3_19 rfl (lv_at hl 1 rfl) ?_
  refine q_ldc2 C0 rfl w_201 d_2_3_20 ?_
  refine lv_land hx hb d_2_3_23 ?_
  refine q_tl (v := 1) (by decide) ?_
  refine lv_l2i hx hb d_2_3_24 rfl ?_
  refine q_ti (v := 1) (by decide) ?_
  refine q_gov V (q_runV (As := [.int 1]) (rest := []) (d := 1) (mc := 0) (ms := 0) (ci := 2) C0 V rfl LV_Big_32 (c_Big_push l D g u2 kO0 kA1 qO0 qA1 hO0 hA1 _) rfl rfl hO0 rfl hl.1 rfl (Nat.le_of_ble_eq_true rfl) ⟨by decide, by decide⟩ ⟨Nat.le_of_ble_eq_true rfl, Nat.le_of_ble_eq_true rfl⟩ d_2_3_25) (fun u6 H locs hp5 V => ?_)
  obtain ⟨hg7, hO0, hA1⟩ := hp5
  replace hF := q_uc hF hg7 (q_sc (.head _) (q_sc (.tail _ (.head _)) (fun _ h => absurd h List.not_mem_nil)))
  refine lv_lload_n hx hb d_2_3_28 rfl (lv_at hl 1 rfl) ?_
  refine lv_bipush (v := 31) hx hb d_2_3_29 (by decide) ?_
  refine lv_lushr hx hb d_2_3_31 rfl ?_
  refine q_tl (v := 0) (by decide) ?_
  refine lv_lstore_n (lv' := [(3, .long 0), (5, .int 0), (0, .ref qO0), (1, .long 1)]) hx hb d_2_3_32 rfl hl (by decide) rfl (fun ls hl => ?_)
  refine lv_iinc (v := 1) (lv' := [(5, .int 1), (3, .long 0), (0, .ref qO0), (1, .long 1)]) hx hb d_2_3_33 hl (k := 1) rfl (by decide) (by decide) rfl (fun ls hl => ?_)
  refine lv_goto (tgt := 12) hx hb d_2_3_36 (by decide) ?_
  refine lv_iload hx hb d_2_3_12 (lv_at hl 0 rfl) ?_
  refine lv_iconst (v := 3) hx hb d_2_3_14 (by decide) ?_
  refine lv_icmp_ge (tgt := 39) hx hb d_2_3_15 (by decide) (fun c8 => absurd c8 (by decide)) (fun c8 => ?_)
  refine lv_aload_n hx hb d_2_3_18 rfl (lv_at hl 2 rfl) ?_
  refine lv_lload_n hx hb d_2_3_19 rfl (lv_at hl 1 rfl) ?_
  refine q_ldc2 C0 rfl w_201 d_2_3_20 ?_
  refine lv_land hx hb d_2_3_23 ?_
  refine q_tl (v := 0) (by decide) ?_
  refine lv_l2i hx hb d_2_3_24 rfl ?_
  refine q_ti (v := 0) (by decide) ?_
  refine q_gov V (q_runV (As := [.int 0]) (rest := []) (d := 1) (mc := 0) (ms := 0) (ci := 2) C0 V rfl LV_Big_32 (c_Big_push_2 l D g u6 kO0 kA1 qO0 qA1 hO0 hA1 _) rfl rfl hO0 rfl hl.1 rfl (Nat.le_of_ble_eq_true rfl) ⟨by decide, by decide⟩ ⟨Nat.le_of_ble_eq_true rfl, Nat.le_of_ble_eq_true rfl⟩ d_2_3_25) (fun u10 H locs hp9 V => ?_)
  obtain ⟨hg11, hO0, hA1⟩ := hp9
  replace hF := q_uc hF hg11 (q_sc (.head _) (q_sc (.tail _ (.head _)) (fun _ h => absurd h List.not_mem_nil)))
  refine lv_lload_n hx hb d_2_3_28 rfl (lv_at hl 1 rfl) ?_
  refine lv_bipush (v := 31) hx hb d_2_3_29 (by decide) ?_
  refine lv_lushr hx hb d_2_3_31 rfl ?_
  refine q_tl (v := 0) (by decide) ?_
  refine lv_lstore_n (lv' := [(3, .long 0), (5, .int 1), (0, .ref qO0), (1, .long 1)]) hx hb d_2_3_32 rfl hl (by decide) rfl (fun ls hl => ?_)
  refine lv_iinc (v := 2) (lv' := [(5, .int 2), (3, .long 0), (0, .ref qO0), (1, .long 1)]) hx hb d_2_3_33 hl (k := 1) rfl (by decide) (by decide) rfl (fun ls hl => ?_)
  refine lv_goto (tgt := 12) hx hb d_2_3_36 (by decide) ?_
  refine lv_iload hx hb d_2_3_12 (lv_at hl 0 rfl) ?_
  refine lv_iconst (v := 3) hx hb d_2_3_14 (by decide) ?_
  refine lv_icmp_ge (tgt := 39) hx hb d_2_3_15 (by decide) (fun c12 => absurd c12 (by decide)) (fun c12 => ?_)
  refine lv_aload_n hx hb d_2_3_18 rfl (lv_at hl 2 rfl) ?_
  refine lv_lload_n hx hb d_2_3_19 rfl (lv_at hl 1 rfl) ?_
  refine q_ldc2 C0 rfl w_201 d_2_3_20 ?_
  refine lv_land hx hb d_2_3_23 ?_
  refine q_tl (v := 0) (by decide) ?_
  refine lv_l2i hx hb d_2_3_24 rfl ?_
  refine q_ti (v := 0) (by decide) ?_
  refine q_gov V (q_runV (As := [.int 0]) (rest := []) (d := 1) (mc := 0) (ms := 0) (ci := 2) C0 V rfl LV_Big_32 (c_Big_push_3 l D g u10 kO0 kA1 qO0 qA1 hO0 hA1 _) rfl rfl hO0 rfl hl.1 rfl (Nat.le_of_ble_eq_true rfl) ⟨by decide, by decide⟩ ⟨Nat.le_of_ble_eq_true rfl, Nat.le_of_ble_eq_true rfl⟩ d_2_3_25) (fun u14 H locs hp13 V => ?_)
  obtain ⟨hg15, hO0, hA1⟩ := hp13
  replace hF := q_uc hF hg15 (q_sc (.head _) (q_sc (.tail _ (.head _)) (fun _ h => absurd h List.not_mem_nil)))
  refine lv_lload_n hx hb d_2_3_28 rfl (lv_at hl 1 rfl) ?_
  refine lv_bipush (v := 31) hx hb d_2_3_29 (by decide) ?_
  refine lv_lushr hx hb d_2_3_31 rfl ?_
  refine q_tl (v := 0) (by decide) ?_
  refine lv_lstore_n (lv' := [(3, .long 0), (5, .int 2), (0, .ref qO0), (1, .long 1)]) hx hb d_2_3_32 rfl hl (by decide) rfl (fun ls hl => ?_)
  refine lv_iinc (v := 3) (lv' := [(5, .int 3), (3, .long 0), (0, .ref qO0), (1, .long 1)]) hx hb d_2_3_33 hl (k := 1) rfl (by decide) (by decide) rfl (fun ls hl => ?_)
  refine lv_goto (tgt := 12) hx hb d_2_3_36 (by decide) ?_
  refine lv_iload hx hb d_2_3_12 (lv_at hl 0 rfl) ?_
  refine lv_iconst (v := 3) hx hb d_2_3_14 (by decide) ?_
  refine lv_icmp_ge (tgt := 39) hx hb d_2_3_15 (by decide) (fun c16 => ?_) (fun c16 => absurd (by decide) c16)
  refine lv_aload_n hx hb d_2_3_39 rfl (lv_at hl 2 rfl) ?_
  refine q_gov V (q_runV (As := []) (rest := []) (d := 1) (mc := 0) (ms := 0) (ci := 2) C0 V rfl LV_Big_36 (c_Big_trim_2 l D g u14 kO0 kA1 qO0 qA1 hO0 hA1 _) rfl rfl hO0 rfl hl.1 rfl (Nat.le_of_ble_eq_true rfl) ⟨by decide, by decide⟩ ⟨Nat.le_of_ble_eq_true rfl, Nat.le_of_ble_eq_true rfl⟩ d_2_3_40) (fun u18 H locs hp17 V => ?_)
  obtain ⟨hg19, hO0⟩ := hp17
  replace hA1 := (hg19 _ (q_nc n_A1_O0 List.not_mem_nil)).trans hA1
  replace hF := q_uc hF hg19 (q_sc (.head _) (fun _ h => absurd h List.not_mem_nil))
  refine lv_aload_n hx hb d_2_3_43 rfl (lv_at hl 2 rfl) ?_
  refine lv_lload_n hx hb d_2_3_44 rfl (lv_at hl 3 rfl) ?_
  refine lv_lconst (v := 0) hx hb d_2_3_45 (by decide) ?_
  refine W.lcmp hx hb d_2_3_46 ?_
  refine q_ti (v := 1) (by decide) ?_
  refine lv_if_ge (tgt := 54) hx hb d_2_3_47 (by decide) (fun c20 => ?_) (fun c20 => absurd (by decide) c20)
  refine lv_iconst (v := 0) hx hb d_2_3_54 (by decide) ?_
  refine q_put (ci := 2) (j := 2) (v := .int 0) (ty := .boolean) C0 V i_Big o_Big n_Big rfl rfl hO0 (by decide) w_94 rfl rfl rfl rfl (Nat.le_of_ble_eq_true rfl) d_2_3_55 (fun H locs w21 hu22 hO0 V => ?_)
  replace hO0 : w21[kO0]? = some (qO0, .inr (2, [.ref qA1, .int 1, .int 0])) := hO0
  replace hA1 := (hu22 _ n_A1_O0).trans hA1
  replace hF := q_us hF hu22 (.head _)
  exact q_retv C0 V (⟨hF, hO0, hA1⟩) d_2_3_58
theorem d_4_1_0 : decode prog_4_method_1_code 0 = .ok (.aload_n 0, 1) := by decide +kernel
theorem d_4_1_1 : decode prog_4_method_1_code 1 = .ok (.invokespecial 3, 3) := by decide +kernel
theorem w_161 : (Cond.methodLink "NumberHouse$DecimalWork" (3 : Nat) ({ cls := "java/lang/Object", name := "<init>", desc := "()V" } : MethodName)) ∈ q_tbl := q_of 161 (by decide +kernel) (by decide +kernel)
theorem d_4_1_4 : decode prog_4_method_1_code 4 = .ok (.aload_n 0, 1) := by decide +kernel
theorem d_4_1_5 : decode prog_4_method_1_code 5 = .ok (.new 9, 3) := by decide +kernel
theorem w_162 : (Cond.classLink "NumberHouse$DecimalWork" (9 : Nat) "NumberHouse$Dec") ∈ q_tbl := q_of 162 (by decide +kernel) (by decide +kernel)
theorem w_163 : (Cond.instantiable "NumberHouse$Dec" (3 : Nat)) ∈ q_tbl := q_of 163 (by decide +kernel) (by decide +kernel)
theorem w_6 : (Cond.initialized "NumberHouse$Dec") ∈ q_tbl := q_of 6 (by decide +kernel) (by decide +kernel)
theorem d_4_1_8 : decode prog_4_method_1_code 8 = .ok (.dup, 1) := by decide +kernel
theorem d_4_1_9 : decode prog_4_method_1_code 9 = .ok (.iconst 3, 1) := by decide +kernel
theorem d_4_1_10 : decode prog_4_method_1_code 10 = .ok (.invokespecial 11, 3) := by decide +kernel
theorem w_166 : (Cond.code ({ cls := "NumberHouse$Dec", name := "<init>", desc := "(I)V" } : MethodName) prog_3_method_1_code (2 : Nat) (none : Option ClassFile.FieldType)) ∈ q_tbl := q_of 166 (by decide +kernel) (by decide +kernel)
theorem w_164 : (Cond.methodLink "NumberHouse$DecimalWork" (11 : Nat) ({ cls := "NumberHouse$Dec", name := "<init>", desc := "(I)V" } : MethodName)) ∈ q_tbl := q_of 164 (by decide +kernel) (by decide +kernel)
theorem w_165 : (Cond.instanceMethod ({ cls := "NumberHouse$Dec", name := "<init>", desc := "(I)V" } : MethodName)) ∈ q_tbl := q_of 165 (by decide +kernel) (by decide +kernel)
theorem LI_DW_11 : q_LI "NumberHouse$DecimalWork" 11 y_Dec_init prog_3_method_1_code 2 1 := ⟨w_166, w_6, w_164, w_165, rfl, ⟨by decide, by decide, by decide +kernel⟩⟩
theorem d_4_1_13 : decode prog_4_method_1_code 13 = .ok (.putfield 14, 3) := by decide +kernel
theorem w_210 : (Cond.fieldLink "NumberHouse$DecimalWork" (14 : Nat) "NumberHouse$DecimalWork" "one" "LNumberHouse$Dec;") ∈ q_tbl := q_of 210 (by decide +kernel) (by decide +kernel)
theorem d_4_1_16 : decode prog_4_method_1_code 16 = .ok (.aload_n 0, 1) := by decide +kernel
theorem d_4_1_17 : decode prog_4_method_1_code 17 = .ok (.aload_n 1, 1) := by decide +kernel
theorem d_4_1_18 : decode prog_4_method_1_code 18 = .ok (.putfield 20, 3) := by decide +kernel
theorem w_214 : (Cond.fieldLink "NumberHouse$DecimalWork" (20 : Nat) "NumberHouse$DecimalWork" "mill" "LNumberHouse$Mill;") ∈ q_tbl := q_of 214 (by decide +kernel) (by decide +kernel)
theorem d_4_1_21 : decode prog_4_method_1_code 21 = .ok (.aload_n 0, 1) := by decide +kernel
theorem d_4_1_22 : decode prog_4_method_1_code 22 = .ok (.getfield 14, 3) := by decide +kernel
theorem d_4_1_25 : decode prog_4_method_1_code 25 = .ok (.getfield 24, 3) := by decide +kernel
theorem w_171 : (Cond.fieldLink "NumberHouse$DecimalWork" (24 : Nat) "NumberHouse$Dec" "number" "LNumberHouse$Big;") ∈ q_tbl := q_of 171 (by decide +kernel) (by decide +kernel)
theorem d_4_1_28 : decode prog_4_method_1_code 28 = .ok (.lconst 1, 1) := by decide +kernel
theorem d_4_1_29 : decode prog_4_method_1_code 29 = .ok (.invokevirtual 28, 3) := by decide +kernel
theorem w_193 : (Cond.code ({ cls := "NumberHouse$Big", name := "setLong", desc := "(J)V" } : MethodName) prog_2_method_3_code (6 : Nat) (none : Option ClassFile.FieldType)) ∈ q_tbl := q_of 193 (by decide +kernel) (by decide +kernel)
theorem w_190 : (Cond.methodLink "NumberHouse$DecimalWork" (28 : Nat) ({ cls := "NumberHouse$Big", name := "setLong", desc := "(J)V" } : MethodName)) ∈ q_tbl := q_of 190 (by decide +kernel) (by decide +kernel)
theorem w_191 : (Cond.instanceMethod ({ cls := "NumberHouse$Big", name := "setLong", desc := "(J)V" } : MethodName)) ∈ q_tbl := q_of 191 (by decide +kernel) (by decide +kernel)
theorem w_192 : (Cond.selects "NumberHouse$Big" ({ cls := "NumberHouse$Big", name := "setLong", desc := "(J)V" } : MethodName) ({ cls := "NumberHouse$Big", name := "setLong", desc := "(J)V" } : MethodName)) ∈ q_tbl := q_of 192 (by decide +kernel) (by decide +kernel)
theorem LV_DW_28 : q_LV "NumberHouse$DecimalWork" 28 y_Big_setLong prog_2_method_3_code 6 none 1 := ⟨w_193, w_4, w_190, w_191, w_192, ⟨by decide, by decide, by decide +kernel⟩⟩
theorem d_4_1_32 : decode prog_4_method_1_code 32 = .ok (.return_, 1) := by decide +kernel
def y_DW_init : MethodName := ⟨"NumberHouse$DecimalWork", "<init>", "(LNumberHouse$Mill;)V"⟩
set_option maxRecDepth 100000 in
set_option maxHeartbeats 4000000 in
theorem c_DW_init (l : Launch) (D : va_G) (g : Nat → ClassId) (ws : va_W) ( qO0 qO1 : Nat) (hN : ws.length = 31) (hO0 : ws[30]? = some (qO0, .inr (5, [.null, .long 0, .null, .int 0]))) : q_mV l y_DW_init prog_4_method_1_code 2 4 3 9 D g [.ref qO0, .ref qO1] ws (fun u => ∃ (q1 : Nat) (q7 : Nat) (q8 : Nat), q_un ws u [30, 31, 32, 33] ∧ u[30]? = some (qO0, .inr (5, [.ref q1, .long 0, .ref qO1, .int 0])) ∧ u[31]? = some (q1, .inr (3, [.ref q7, .int 0, .int 1])) ∧ u[32]? = some (q7, .inr (2, [.ref q8, .int 1, .int 0])) ∧ u[33]? = some (q8, .inl (g 0, 3, .inl (upd (upd (upd (fun _ => 0) 0 1) 1 0) 2 0))) ∧ u.length = 34) := by
  intro sz
  refine q_into (by decide) (Nat.le_of_ble_eq_true rfl) ?_
  intro p e s m below meth c ls hsz C0 V hl
  have hx := C0.1
  have hb := C0.2.1
  have hl : lv_has ls 2 [(0, .ref qO0), (1, .ref qO1)] := hl
  have hF : q_un ws ws [30, 31, 32, 33] := q_u0
  refine lv_aload_n hx hb d_4_1_0 rfl (lv_at hl 0 rfl) ?_
  refine q_obj C0 hl.1 rfl w_161 w_44 w_45 ⟨by decide, by decide⟩ d_4_1_1 ?_
  refine lv_aload_n hx hb d_4_1_4 rfl (lv_at hl 0 rfl) ?_
  refine q_new (ci := 3) (fs := [.null, .int 0, .int 0]) C0 V hN i_Dec o_Dec rfl w_162 w_163 w_6 rfl (fun j hj => by rcases (show j = 0 ∨ j = 1 ∨ j = 2 by omega) with rfl | rfl | rfl <;> rfl) (Nat.le_of_ble_eq_true rfl) (Nat.le_of_ble_eq_true rfl) d_4_1_5 (fun q1 H w2 hu3 hn4 hN V => ?_)
  have hn0 : w2[31]? = some (q1, .inr (3, [.null, .int 0, .int 0])) := hn4
  replace hO0 := (hu3 _ (q_pd 30 31 rfl)).trans hO0
  replace hF := q_us hF hu3 (.tail _ (.head _))
  replace hN : w2.length = 32 := hN
  refine lv_dup hx hb d_4_1_8 rfl ?_
  refine lv_iconst (v := 3) hx hb d_4_1_9 (by decide) ?_
  refine q_gov V (q_runI (As := [.int 3]) (rest := [.ref q1, .ref qO0]) (d := 3) (mc := 2) (ms := 6) C0 V rfl LI_DW_11 (c_Dec_init_2 l D g w2 31 q1 32 hN hn0 _) rfl hl.1 rfl (Nat.le_of_ble_eq_true rfl) ⟨by decide, by decide⟩ ⟨Nat.le_of_ble_eq_true rfl, Nat.le_of_ble_eq_true rfl⟩ d_4_1_10) (fun u6 H locs hp5 V => ?_)
  obtain ⟨q7, q8, hg9, hn0, hq10, hq11, hN⟩ := hp5
  replace hO0 := (hg9 _ (q_nc (q_pd 30 31 rfl) (q_nc (q_pd 30 32 rfl) (q_nc (q_pd 30 33 rfl) List.not_mem_nil)))).trans hO0
  replace hF := q_uc hF hg9 (q_sc (.tail _ (.head _)) (q_sc (.tail _ (.tail _ (.head _))) (q_sc (.tail _ (.tail _ (.tail _ (.head _)))) (fun _ h => absurd h List.not_mem_nil))))
  have hn1 : u6[32]? = some (q7, .inr (2, [.ref q8, .int 0, .int 0])) := hq10
  have hn2 : u6[33]? = some (q8, .inl (g 0, 3, .inl (fun _ => 0))) := hq11
  replace hN : u6.length = 34 := hN
  have ho14 := hO0
  refine q_putF (ci := 5) (j := 0) (v := .ref q1) (ty := .object "NumberHouse$Dec") C0 V i_DW o_DW n_DW rfl rfl rfl rfl rfl hO0 (by decide) w_210 rfl rfl rfl (Nat.le_of_ble_eq_true rfl) d_4_1_13 (fun H locs w12 hu13 hO0 V => ?_)
  replace hO0 : w12[30]? = some (qO0, .inr (5, [.ref q1, .long 0, .null, .int 0])) := hO0
  replace hN : w12.length = 34 := (q_len1 hu13 hO0 ho14).trans hN
  replace hn0 := (hu13 _ (q_pd 31 30 rfl)).trans hn0
  replace hn1 := (hu13 _ (q_pd 32 30 rfl)).trans hn1
  replace hn2 := (hu13 _ (q_pd 33 30 rfl)).trans hn2
  replace hF := q_us hF hu13 (.head _)
  refine lv_aload_n hx hb d_4_1_16 rfl (lv_at hl 0 rfl) ?_
  refine lv_aload_n hx hb d_4_1_17 rfl (lv_at hl 1 rfl) ?_
  have ho17 := hO0
  refine q_putF (ci := 5) (j := 2) (v := .ref qO1) (ty := .object "NumberHouse$Mill") C0 V i_DW o_DW n_DW rfl rfl rfl rfl rfl hO0 (by decide) w_214 rfl rfl rfl (Nat.le_of_ble_eq_true rfl) d_4_1_18 (fun H locs w15 hu16 hO0 V => ?_)
  replace hO0 : w15[30]? = some (qO0, .inr (5, [.ref q1, .long 0, .ref qO1, .int 0])) := hO0
  replace hN : w15.length = 34 := (q_len1 hu16 hO0 ho17).trans hN
  replace hn0 := (hu16 _ (q_pd 31 30 rfl)).trans hn0
  replace hn1 := (hu16 _ (q_pd 32 30 rfl)).trans hn1
  replace hn2 := (hu16 _ (q_pd 33 30 rfl)).trans hn2
  replace hF := q_us hF hu16 (.head _)
  refine lv_aload_n hx hb d_4_1_21 rfl (lv_at hl 0 rfl) ?_
  refine q_get (ci := 5) (j := 0) (v := .ref q1) C0 V i_DW rfl rfl hO0 (by decide) w_210 rfl d_4_1_22 ?_
  refine q_get (ci := 3) (j := 0) (v := .ref q7) C0 V i_Dec rfl rfl hn0 (by decide) w_171 rfl d_4_1_25 ?_
  refine lv_lconst (v := 1) hx hb d_4_1_28 (by decide) ?_
  have ho20 := hn1
  have ho21 := hn2
  refine q_gov V (q_runV (As := [.long 1]) (rest := []) (d := 2) (mc := 0) (ms := 0) (ci := 2) C0 V rfl LV_DW_28 (c_Big_setLong l D g w15 32 33 q7 q8 hn1 hn2 _) rfl rfl hn1 rfl hl.1 rfl (Nat.le_of_ble_eq_true rfl) ⟨by decide, by decide⟩ ⟨Nat.le_of_ble_eq_true rfl, Nat.le_of_ble_eq_true rfl⟩ d_4_1_29) (fun u19 H locs hp18 V => ?_)
  obtain ⟨hg22, hn1, hn2⟩ := hp18
  replace hO0 := (hg22 _ (q_nc (q_pd 30 32 rfl) (q_nc (q_pd 30 33 rfl) List.not_mem_nil))).trans hO0
  replace hn0 := (hg22 _ (q_nc (q_pd 31 32 rfl) (q_nc (q_pd 31 33 rfl) List.not_mem_nil))).trans hn0
  replace hF := q_uc hF hg22 (q_sc (.tail _ (.tail _ (.head _))) (q_sc (.tail _ (.tail _ (.tail _ (.head _)))) (fun _ h => absurd h List.not_mem_nil)))
  replace hN : u19.length = 34 := (q_lenN hg22 (q_al (q_lk hn1) (q_al (q_lk hn2) (fun _ h => absurd h List.not_mem_nil))) (q_al (q_lk ho20) (q_al (q_lk ho21) (fun _ h => absurd h List.not_mem_nil)))).trans hN
  exact q_retv C0 V (⟨q1, q7, q8, hF, hO0, hn0, hn1, hn2, hN⟩) d_4_1_32
theorem d_7_1_0 : decode prog_7_method_1_code 0 = .ok (.aload_n 0, 1) := by decide +kernel
theorem d_7_1_1 : decode prog_7_method_1_code 1 = .ok (.invokespecial 1, 3) := by decide +kernel
theorem w_230 : (Cond.methodLink "NumberHouse$Floats" (1 : Nat) ({ cls := "java/lang/Object", name := "<init>", desc := "()V" } : MethodName)) ∈ q_tbl := q_of 230 (by decide +kernel) (by decide +kernel)
theorem d_7_1_4 : decode prog_7_method_1_code 4 = .ok (.aload_n 0, 1) := by decide +kernel
theorem d_7_1_5 : decode prog_7_method_1_code 5 = .ok (.iload_n 1, 1) := by decide +kernel
theorem d_7_1_6 : decode prog_7_method_1_code 6 = .ok (.putfield 7, 3) := by decide +kernel
theorem w_231 : (Cond.fieldLink "NumberHouse$Floats" (7 : Nat) "NumberHouse$Floats" "fractionBits" "I") ∈ q_tbl := q_of 231 (by decide +kernel) (by decide +kernel)
theorem d_7_1_9 : decode prog_7_method_1_code 9 = .ok (.aload_n 0, 1) := by decide +kernel
theorem d_7_1_10 : decode prog_7_method_1_code 10 = .ok (.iload_n 2, 1) := by decide +kernel
theorem d_7_1_11 : decode prog_7_method_1_code 11 = .ok (.putfield 13, 3) := by decide +kernel
theorem w_233 : (Cond.fieldLink "NumberHouse$Floats" (13 : Nat) "NumberHouse$Floats" "bias" "I") ∈ q_tbl := q_of 233 (by decide +kernel) (by decide +kernel)
theorem d_7_1_14 : decode prog_7_method_1_code 14 = .ok (.aload_n 0, 1) := by decide +kernel
theorem d_7_1_15 : decode prog_7_method_1_code 15 = .ok (.iload_n 3, 1) := by decide +kernel
theorem d_7_1_16 : decode prog_7_method_1_code 16 = .ok (.putfield 16, 3) := by decide +kernel
theorem w_234 : (Cond.fieldLink "NumberHouse$Floats" (16 : Nat) "NumberHouse$Floats" "topExponent" "I") ∈ q_tbl := q_of 234 (by decide +kernel) (by decide +kernel)
theorem d_7_1_19 : decode prog_7_method_1_code 19 = .ok (.aload_n 0, 1) := by decide +kernel
theorem d_7_1_20 : decode prog_7_method_1_code 20 = .ok (.aload 4, 2) := by decide +kernel
theorem d_7_1_22 : decode prog_7_method_1_code 22 = .ok (.putfield 19, 3) := by decide +kernel
theorem w_241 : (Cond.fieldLink "NumberHouse$Floats" (19 : Nat) "NumberHouse$Floats" "mill" "LNumberHouse$Mill;") ∈ q_tbl := q_of 241 (by decide +kernel) (by decide +kernel)
theorem d_7_1_25 : decode prog_7_method_1_code 25 = .ok (.return_, 1) := by decide +kernel
def y_Flo_init : MethodName := ⟨"NumberHouse$Floats", "<init>", "(IIILNumberHouse$Mill;)V"⟩
set_option maxRecDepth 100000 in
set_option maxHeartbeats 4000000 in
theorem c_Flo_init (l : Launch) (D : va_G) (g : Nat → ClassId) (ws : va_W) ( qO0 qO1 : Nat) (hN : ws.length = 35) (hO0 : ws[34]? = some (qO0, .inr (6, [.int 0, .int 0, .int 0, .long 0, .int 0, .null, .int 0]))) : q_mV l y_Flo_init prog_7_method_1_code 5 2 0 0 D g [.ref qO0, .int 52, .int 1075, .int 2047, .ref qO1] ws (fun u => q_un ws u [34] ∧ u[34]? = some (qO0, .inr (6, [.int 52, .int 1075, .int 2047, .long 0, .int 0, .ref qO1, .int 0])) ∧ u.length = 35) := by
  intro sz
  refine q_into (by decide) (Nat.le_of_ble_eq_true rfl) ?_
  intro p e s m below meth c ls hsz C0 V hl
  have hx := C0.1
  have hb := C0.2.1
  have hl : lv_has ls 5 [(0, .ref qO0), (1, .int 52), (2, .int 1075), (3, .int 2047), (4, .ref qO1)] := hl
  have hF : q_un ws ws [34] := q_u0
  refine lv_aload_n hx hb d_7_1_0 rfl (lv_at hl 0 rfl) ?_
  refine q_obj C0 hl.1 rfl w_230 w_44 w_45 ⟨by decide, by decide⟩ d_7_1_1 ?_
  refine lv_aload_n hx hb d_7_1_4 rfl (lv_at hl 0 rfl) ?_
  refine lv_iload_n hx hb d_7_1_5 rfl (lv_at hl 1 rfl) ?_
  have ho3 := hO0
  refine q_putF (ci := 6) (j := 0) (v := .int 52) (ty := .int) C0 V i_Flo o_Flo n_Flo rfl rfl rfl rfl rfl hO0 (by decide) w_231 rfl rfl rfl (Nat.le_of_ble_eq_true rfl) d_7_1_6 (fun H locs w1 hu2 hO0 V => ?_)
  replace hO0 : w1[34]? = some (qO0, .inr (6, [.int 52, .int 0, .int 0, .long 0, .int 0, .null, .int 0])) := hO0
  replace hN : w1.length = 35 := (q_len1 hu2 hO0 ho3).trans hN
  replace hF := q_us hF hu2 (.head _)
  refine lv_aload_n hx hb d_7_1_9 rfl (lv_at hl 0 rfl) ?_
  refine lv_iload_n hx hb d_7_1_10 rfl (lv_at hl 2 rfl) ?_
  have ho6 := hO0
  refine q_putF (ci := 6) (j := 1) (v := .int 1075) (ty := .int) C0 V i_Flo o_Flo n_Flo rfl rfl rfl rfl rfl hO0 (by decide) w_233 rfl rfl rfl (Nat.le_of_ble_eq_true rfl) d_7_1_11 (fun H locs w4 hu5 hO0 V => ?_)
  replace hO0 : w4[34]? = some (qO0, .inr (6, [.int 52, .int 1075, .int 0, .long 0, .int 0, .null, .int 0])) := hO0
  replace hN : w4.length = 35 := (q_len1 hu5 hO0 ho6).trans hN
  replace hF := q_us hF hu5 (.head _)
  refine lv_aload_n hx hb d_7_1_14 rfl (lv_at hl 0 rfl) ?_
  refine lv_iload_n hx hb d_7_1_15 rfl (lv_at hl 3 rfl) ?_
  have ho9 := hO0
  refine q_putF (ci := 6) (j := 2) (v := .int 2047) (ty := .int) C0 V i_Flo o_Flo n_Flo rfl rfl rfl rfl rfl hO0 (by decide) w_234 rfl rfl rfl (Nat.le_of_ble_eq_true rfl) d_7_1_16 (fun H locs w7 hu8 hO0 V => ?_)
  replace hO0 : w7[34]? = some (qO0, .inr (6, [.int 52, .int 1075, .int 2047, .long 0, .int 0, .null, .int 0])) := hO0
  replace hN : w7.length = 35 := (q_len1 hu8 hO0 ho9).trans hN
  replace hF := q_us hF hu8 (.head _)
  refine lv_aload_n hx hb d_7_1_19 rfl (lv_at hl 0 rfl) ?_
  refine lv_aload hx hb d_7_1_20 (lv_at hl 4 rfl) ?_
  have ho12 := hO0
  refine q_putF (ci := 6) (j := 5) (v := .ref qO1) (ty := .object "NumberHouse$Mill") C0 V i_Flo o_Flo n_Flo rfl rfl rfl rfl rfl hO0 (by decide) w_241 rfl rfl rfl (Nat.le_of_ble_eq_true rfl) d_7_1_22 (fun H locs w10 hu11 hO0 V => ?_)
  replace hO0 : w10[34]? = some (qO0, .inr (6, [.int 52, .int 1075, .int 2047, .long 0, .int 0, .ref qO1, .int 0])) := hO0
  replace hN : w10.length = 35 := (q_len1 hu11 hO0 ho12).trans hN
  replace hF := q_us hF hu11 (.head _)
  exact q_retv C0 V (⟨hF, hO0, hN⟩) d_7_1_25
set_option maxRecDepth 100000 in
set_option maxHeartbeats 4000000 in
theorem c_Flo_init_2 (l : Launch) (D : va_G) (g : Nat → ClassId) (ws : va_W) ( qO0 qO1 : Nat) (hN : ws.length = 36) (hO0 : ws[35]? = some (qO0, .inr (6, [.int 0, .int 0, .int 0, .long 0, .int 0, .null, .int 0]))) : q_mV l y_Flo_init prog_7_method_1_code 5 2 0 0 D g [.ref qO0, .int 23, .int 150, .int 255, .ref qO1] ws (fun u => q_un ws u [35] ∧ u[35]? = some (qO0, .inr (6, [.int 23, .int 150, .int 255, .long 0, .int 0, .ref qO1, .int 0])) ∧ u.length = 36) := by
  intro sz
  refine q_into (by decide) (Nat.le_of_ble_eq_true rfl) ?_
  intro p e s m below meth c ls hsz C0 V hl
  have hx := C0.1
  have hb := C0.2.1
  have hl : lv_has ls 5 [(0, .ref qO0), (1, .int 23), (2, .int 150), (3, .int 255), (4, .ref qO1)] := hl
  have hF : q_un ws ws [35] := q_u0
  refine lv_aload_n hx hb d_7_1_0 rfl (lv_at hl 0 rfl) ?_
  refine q_obj C0 hl.1 rfl w_230 w_44 w_45 ⟨by decide, by decide⟩ d_7_1_1 ?_
  refine lv_aload_n hx hb d_7_1_4 rfl (lv_at hl 0 rfl) ?_
  refine lv_iload_n hx hb d_7_1_5 rfl (lv_at hl 1 rfl) ?_
  have ho3 := hO0
  refine q_putF (ci := 6) (j := 0) (v := .int 23) (ty := .int) C0 V i_Flo o_Flo n_Flo rfl rfl rfl rfl rfl hO0 (by decide) w_231 rfl rfl rfl (Nat.le_of_ble_eq_true rfl) d_7_1_6 (fun H locs w1 hu2 hO0 V => ?_)
  replace hO0 : w1[35]? = some (qO0, .inr (6, [.int 23, .int 0, .int 0, .long 0, .int 0, .null, .int 0])) := hO0
  replace hN : w1.length = 36 := (q_len1 hu2 hO0 ho3).trans hN
  replace hF := q_us hF hu2 (.head _)
  refine lv_aload_n hx hb d_7_1_9 rfl (lv_at hl 0 rfl) ?_
  refine lv_iload_n hx hb d_7_1_10 rfl (lv_at hl 2 rfl) ?_
  have ho6 := hO0
  refine q_putF (ci := 6) (j := 1) (v := .int 150) (ty := .int) C0 V i_Flo o_Flo n_Flo rfl rfl rfl rfl rfl hO0 (by decide) w_233 rfl rfl rfl (Nat.le_of_ble_eq_true rfl) d_7_1_11 (fun H locs w4 hu5 hO0 V => ?_)
  replace hO0 : w4[35]? = some (qO0, .inr (6, [.int 23, .int 150, .int 0, .long 0, .int 0, .null, .int 0])) := hO0
  replace hN : w4.length = 36 := (q_len1 hu5 hO0 ho6).trans hN
  replace hF := q_us hF hu5 (.head _)
  refine lv_aload_n hx hb d_7_1_14 rfl (lv_at hl 0 rfl) ?_
  refine lv_iload_n hx hb d_7_1_15 rfl (lv_at hl 3 rfl) ?_
  have ho9 := hO0
  refine q_putF (ci := 6) (j := 2) (v := .int 255) (ty := .int) C0 V i_Flo o_Flo n_Flo rfl rfl rfl rfl rfl hO0 (by decide) w_234 rfl rfl rfl (Nat.le_of_ble_eq_true rfl) d_7_1_16 (fun H locs w7 hu8 hO0 V => ?_)
  replace hO0 : w7[35]? = some (qO0, .inr (6, [.int 23, .int 150, .int 255, .long 0, .int 0, .null, .int 0])) := hO0
  replace hN : w7.length = 36 := (q_len1 hu8 hO0 ho9).trans hN
  replace hF := q_us hF hu8 (.head _)
  refine lv_aload_n hx hb d_7_1_19 rfl (lv_at hl 0 rfl) ?_
  refine lv_aload hx hb d_7_1_20 (lv_at hl 4 rfl) ?_
  have ho12 := hO0
  refine q_putF (ci := 6) (j := 5) (v := .ref qO1) (ty := .object "NumberHouse$Mill") C0 V i_Flo o_Flo n_Flo rfl rfl rfl rfl rfl hO0 (by decide) w_241 rfl rfl rfl (Nat.le_of_ble_eq_true rfl) d_7_1_22 (fun H locs w10 hu11 hO0 V => ?_)
  replace hO0 : w10[35]? = some (qO0, .inr (6, [.int 23, .int 150, .int 255, .long 0, .int 0, .ref qO1, .int 0])) := hO0
  replace hN : w10.length = 36 := (q_len1 hu11 hO0 ho12).trans hN
  replace hF := q_us hF hu11 (.head _)
  exact q_retv C0 V (⟨hF, hO0, hN⟩) d_7_1_25
theorem d_5_1_0 : decode prog_5_method_1_code 0 = .ok (.aload_n 0, 1) := by decide +kernel
theorem d_5_1_1 : decode prog_5_method_1_code 1 = .ok (.invokespecial 1, 3) := by decide +kernel
theorem w_263 : (Cond.methodLink "NumberHouse$Digits" (1 : Nat) ({ cls := "java/lang/Object", name := "<init>", desc := "()V" } : MethodName)) ∈ q_tbl := q_of 263 (by decide +kernel) (by decide +kernel)
theorem d_5_1_4 : decode prog_5_method_1_code 4 = .ok (.aload_n 0, 1) := by decide +kernel
theorem d_5_1_5 : decode prog_5_method_1_code 5 = .ok (.sipush 1026, 3) := by decide +kernel
theorem d_5_1_8 : decode prog_5_method_1_code 8 = .ok (.newarray .byte, 2) := by decide +kernel
theorem w_277 : (Cond.arrayClass .byte) ∈ q_tbl := q_of 277 (by decide +kernel) (by decide +kernel)
theorem d_5_1_10 : decode prog_5_method_1_code 10 = .ok (.putfield 9, 3) := by decide +kernel
theorem w_269 : (Cond.fieldLink "NumberHouse$Digits" (9 : Nat) "NumberHouse$Digits" "row" "[B") ∈ q_tbl := q_of 269 (by decide +kernel) (by decide +kernel)
theorem d_5_1_13 : decode prog_5_method_1_code 13 = .ok (.return_, 1) := by decide +kernel
def y_Dig_init : MethodName := ⟨"NumberHouse$Digits", "<init>", "()V"⟩
set_option maxRecDepth 100000 in
set_option maxHeartbeats 4000000 in
theorem c_Dig_init (l : Launch) (D : va_G) (g : Nat → ClassId) (ws : va_W) ( qO0 : Nat) (hN : ws.length = 37) (hO0 : ws[36]? = some (qO0, .inr (7, [.int 0, .int 0, .null]))) : q_mV l y_Dig_init prog_5_method_1_code 1 2 1 1026 D g [.ref qO0] ws (fun u => ∃ (q1 : Nat), q_un ws u [36, 37] ∧ u[36]? = some (qO0, .inr (7, [.int 0, .int 0, .ref q1])) ∧ u[37]? = some (q1, .inl (g 2, 1026, .inl (fun _ => 0))) ∧ u.length = 38) := by
  intro sz
  refine q_into (by decide) (Nat.le_of_ble_eq_true rfl) ?_
  intro p e s m below meth c ls hsz C0 V hl
  have hx := C0.1
  have hb := C0.2.1
  have hl : lv_has ls 1 [(0, .ref qO0)] := hl
  have hF : q_un ws ws [36, 37] := q_u0
  refine lv_aload_n hx hb d_5_1_0 rfl (lv_at hl 0 rfl) ?_
  refine q_obj C0 hl.1 rfl w_263 w_44 w_45 ⟨by decide, by decide⟩ d_5_1_1 ?_
  refine lv_aload_n hx hb d_5_1_4 rfl (lv_at hl 0 rfl) ?_
  refine lv_sipush (v := 1026) hx hb d_5_1_5 (by decide) ?_
  refine q_newB (N' := 1026) C0 V hN w_277 (by decide) (by decide) (by decide) (Nat.le_of_ble_eq_true rfl) (Nat.le_of_ble_eq_true rfl) d_5_1_8 (fun q1 H w2 hu3 hn4 hN V => ?_)
  have hn0 : w2[37]? = some (q1, .inl (g 2, 1026, .inl (fun _ => 0))) := hn4
  replace hO0 := (hu3 _ (q_pd 36 37 rfl)).trans hO0
  replace hF := q_us hF hu3 (.tail _ (.head _))
  replace hN : w2.length = 38 := hN
  have ho7 := hO0
  refine q_putF (ci := 7) (j := 2) (v := .ref q1) (ty := .array .byte) C0 V i_Dig o_Dig n_Dig rfl rfl rfl rfl rfl hO0 (by decide) w_269 rfl rfl rfl (Nat.le_of_ble_eq_true rfl) d_5_1_10 (fun H locs w5 hu6 hO0 V => ?_)
  replace hO0 : w5[36]? = some (qO0, .inr (7, [.int 0, .int 0, .ref q1])) := hO0
  replace hN : w5.length = 38 := (q_len1 hu6 hO0 ho7).trans hN
  replace hn0 := (hu6 _ (q_pd 37 36 rfl)).trans hn0
  replace hF := q_us hF hu6 (.head _)
  exact q_retv C0 V (⟨q1, hF, hO0, hn0, hN⟩) d_5_1_13
theorem d_10_1_0 : decode prog_10_method_1_code 0 = .ok (.aload_n 0, 1) := by decide +kernel
theorem d_10_1_1 : decode prog_10_method_1_code 1 = .ok (.invokespecial 3, 3) := by decide +kernel
theorem w_283 : (Cond.methodLink "NumberHouse$Reader" (3 : Nat) ({ cls := "java/lang/Object", name := "<init>", desc := "()V" } : MethodName)) ∈ q_tbl := q_of 283 (by decide +kernel) (by decide +kernel)
theorem d_10_1_4 : decode prog_10_method_1_code 4 = .ok (.aload_n 0, 1) := by decide +kernel
theorem d_10_1_5 : decode prog_10_method_1_code 5 = .ok (.aload_n 1, 1) := by decide +kernel
theorem d_10_1_6 : decode prog_10_method_1_code 6 = .ok (.putfield 9, 3) := by decide +kernel
theorem w_288 : (Cond.fieldLink "NumberHouse$Reader" (9 : Nat) "NumberHouse$Reader" "tape" "LNumberHouse$Sheet;") ∈ q_tbl := q_of 288 (by decide +kernel) (by decide +kernel)
theorem d_10_1_9 : decode prog_10_method_1_code 9 = .ok (.aload_n 0, 1) := by decide +kernel
theorem d_10_1_10 : decode prog_10_method_1_code 10 = .ok (.aload_n 2, 1) := by decide +kernel
theorem d_10_1_11 : decode prog_10_method_1_code 11 = .ok (.putfield 15, 3) := by decide +kernel
theorem w_289 : (Cond.fieldLink "NumberHouse$Reader" (15 : Nat) "NumberHouse$Reader" "mill" "LNumberHouse$Mill;") ∈ q_tbl := q_of 289 (by decide +kernel) (by decide +kernel)
theorem d_10_1_14 : decode prog_10_method_1_code 14 = .ok (.return_, 1) := by decide +kernel
def y_Rea_init : MethodName := ⟨"NumberHouse$Reader", "<init>", "(LNumberHouse$Sheet;LNumberHouse$Mill;)V"⟩
set_option maxRecDepth 100000 in
set_option maxHeartbeats 4000000 in
theorem c_Rea_init (l : Launch) (D : va_G) (g : Nat → ClassId) (ws : va_W) ( qO0 qO1 qO2 : Nat) (hN : ws.length = 39) (hO0 : ws[38]? = some (qO0, .inr (8, [.long 0, .long 0, .null, .null, .int 0, .int 0, .int 0, .int 0, .int 0, .int 0, .int 0, .long 0]))) : q_mV l y_Rea_init prog_10_method_1_code 3 2 0 0 D g [.ref qO0, .ref qO1, .ref qO2] ws (fun u => q_un ws u [38] ∧ u[38]? = some (qO0, .inr (8, [.long 0, .long 0, .ref qO1, .ref qO2, .int 0, .int 0, .int 0, .int 0, .int 0, .int 0, .int 0, .long 0])) ∧ u.length = 39) := by
  intro sz
  refine q_into (by decide) (Nat.le_of_ble_eq_true rfl) ?_
  intro p e s m below meth c ls hsz C0 V hl
  have hx := C0.1
  have hb := C0.2.1
  have hl : lv_has ls 3 [(0, .ref qO0), (1, .ref qO1), (2, .ref qO2)] := hl
  have hF : q_un ws ws [38] := q_u0
  refine lv_aload_n hx hb d_10_1_0 rfl (lv_at hl 0 rfl) ?_
  refine q_obj C0 hl.1 rfl w_283 w_44 w_45 ⟨by decide, by decide⟩ d_10_1_1 ?_
  refine lv_aload_n hx hb d_10_1_4 rfl (lv_at hl 0 rfl) ?_
  refine lv_aload_n hx hb d_10_1_5 rfl (lv_at hl 1 rfl) ?_
  have ho3 := hO0
  refine q_putF (ci := 8) (j := 2) (v := .ref qO1) (ty := .object "NumberHouse$Sheet") C0 V i_Rea o_Rea n_Rea rfl rfl rfl rfl rfl hO0 (by decide) w_288 rfl rfl rfl (Nat.le_of_ble_eq_true rfl) d_10_1_6 (fun H locs w1 hu2 hO0 V => ?_)
  replace hO0 : w1[38]? = some (qO0, .inr (8, [.long 0, .long 0, .ref qO1, .null, .int 0, .int 0, .int 0, .int 0, .int 0, .int 0, .int 0, .long 0])) := hO0
  replace hN : w1.length = 39 := (q_len1 hu2 hO0 ho3).trans hN
  replace hF := q_us hF hu2 (.head _)
  refine lv_aload_n hx hb d_10_1_9 rfl (lv_at hl 0 rfl) ?_
  refine lv_aload_n hx hb d_10_1_10 rfl (lv_at hl 2 rfl) ?_
  have ho6 := hO0
  refine q_putF (ci := 8) (j := 3) (v := .ref qO2) (ty := .object "NumberHouse$Mill") C0 V i_Rea o_Rea n_Rea rfl rfl rfl rfl rfl hO0 (by decide) w_289 rfl rfl rfl (Nat.le_of_ble_eq_true rfl) d_10_1_11 (fun H locs w4 hu5 hO0 V => ?_)
  replace hO0 : w4[38]? = some (qO0, .inr (8, [.long 0, .long 0, .ref qO1, .ref qO2, .int 0, .int 0, .int 0, .int 0, .int 0, .int 0, .int 0, .long 0])) := hO0
  replace hN : w4.length = 39 := (q_len1 hu5 hO0 ho6).trans hN
  replace hF := q_us hF hu5 (.head _)
  exact q_retv C0 V (⟨hF, hO0, hN⟩) d_10_1_14
theorem d_12_1_0 : decode prog_12_method_1_code 0 = .ok (.aload_n 0, 1) := by decide +kernel
theorem d_12_1_1 : decode prog_12_method_1_code 1 = .ok (.invokespecial 1, 3) := by decide +kernel
theorem w_328 : (Cond.methodLink "NumberHouse$Writer" (1 : Nat) ({ cls := "java/lang/Object", name := "<init>", desc := "()V" } : MethodName)) ∈ q_tbl := q_of 328 (by decide +kernel) (by decide +kernel)
theorem d_12_1_4 : decode prog_12_method_1_code 4 = .ok (.aload_n 0, 1) := by decide +kernel
theorem d_12_1_5 : decode prog_12_method_1_code 5 = .ok (.aload_n 1, 1) := by decide +kernel
theorem d_12_1_6 : decode prog_12_method_1_code 6 = .ok (.putfield 7, 3) := by decide +kernel
theorem w_329 : (Cond.fieldLink "NumberHouse$Writer" (7 : Nat) "NumberHouse$Writer" "paper" "LNumberHouse$Sheet;") ∈ q_tbl := q_of 329 (by decide +kernel) (by decide +kernel)
theorem d_12_1_9 : decode prog_12_method_1_code 9 = .ok (.aload_n 0, 1) := by decide +kernel
theorem d_12_1_10 : decode prog_12_method_1_code 10 = .ok (.aload_n 2, 1) := by decide +kernel
theorem d_12_1_11 : decode prog_12_method_1_code 11 = .ok (.putfield 13, 3) := by decide +kernel
theorem w_330 : (Cond.fieldLink "NumberHouse$Writer" (13 : Nat) "NumberHouse$Writer" "mill" "LNumberHouse$Mill;") ∈ q_tbl := q_of 330 (by decide +kernel) (by decide +kernel)
theorem d_12_1_14 : decode prog_12_method_1_code 14 = .ok (.aload_n 0, 1) := by decide +kernel
theorem d_12_1_15 : decode prog_12_method_1_code 15 = .ok (.aload_n 3, 1) := by decide +kernel
theorem d_12_1_16 : decode prog_12_method_1_code 16 = .ok (.putfield 17, 3) := by decide +kernel
theorem w_331 : (Cond.fieldLink "NumberHouse$Writer" (17 : Nat) "NumberHouse$Writer" "digits" "LNumberHouse$Digits;") ∈ q_tbl := q_of 331 (by decide +kernel) (by decide +kernel)
theorem d_12_1_19 : decode prog_12_method_1_code 19 = .ok (.return_, 1) := by decide +kernel
def y_Wri_init : MethodName := ⟨"NumberHouse$Writer", "<init>", "(LNumberHouse$Sheet;LNumberHouse$Mill;LNumberHouse$Digits;)V"⟩
set_option maxRecDepth 100000 in
set_option maxHeartbeats 4000000 in
theorem c_Wri_init (l : Launch) (D : va_G) (g : Nat → ClassId) (ws : va_W) ( qO0 qO1 qO2 qO3 : Nat) (hN : ws.length = 40) (hO0 : ws[39]? = some (qO0, .inr (9, [.null, .null, .null]))) : q_mV l y_Wri_init prog_12_method_1_code 4 2 0 0 D g [.ref qO0, .ref qO1, .ref qO2, .ref qO3] ws (fun u => q_un ws u [39] ∧ u[39]? = some (qO0, .inr (9, [.ref qO1, .ref qO2, .ref qO3])) ∧ u.length = 40) := by
  intro sz
  refine q_into (by decide) (Nat.le_of_ble_eq_true rfl) ?_
  intro p e s m below meth c ls hsz C0 V hl
  have hx := C0.1
  have hb := C0.2.1
  have hl : lv_has ls 4 [(0, .ref qO0), (1, .ref qO1), (2, .ref qO2), (3, .ref qO3)] := hl
  have hF : q_un ws ws [39] := q_u0
  refine lv_aload_n hx hb d_12_1_0 rfl (lv_at hl 0 rfl) ?_
  refine q_obj C0 hl.1 rfl w_328 w_44 w_45 ⟨by decide, by decide⟩ d_12_1_1 ?_
  refine lv_aload_n hx hb d_12_1_4 rfl (lv_at hl 0 rfl) ?_
  refine lv_aload_n hx hb d_12_1_5 rfl (lv_at hl 1 rfl) ?_
  have ho3 := hO0
  refine q_putF (ci := 9) (j := 0) (v := .ref qO1) (ty := .object "NumberHouse$Sheet") C0 V i_Wri o_Wri n_Wri rfl rfl rfl rfl rfl hO0 (by decide) w_329 rfl rfl rfl (Nat.le_of_ble_eq_true rfl) d_12_1_6 (fun H locs w1 hu2 hO0 V => ?_)
  replace hO0 : w1[39]? = some (qO0, .inr (9, [.ref qO1, .null, .null])) := hO0
  replace hN : w1.length = 40 := (q_len1 hu2 hO0 ho3).trans hN
  replace hF := q_us hF hu2 (.head _)
  refine lv_aload_n hx hb d_12_1_9 rfl (lv_at hl 0 rfl) ?_
  refine lv_aload_n hx hb d_12_1_10 rfl (lv_at hl 2 rfl) ?_
  have ho6 := hO0
  refine q_putF (ci := 9) (j := 1) (v := .ref qO2) (ty := .object "NumberHouse$Mill") C0 V i_Wri o_Wri n_Wri rfl rfl rfl rfl rfl hO0 (by decide) w_330 rfl rfl rfl (Nat.le_of_ble_eq_true rfl) d_12_1_11 (fun H locs w4 hu5 hO0 V => ?_)
  replace hO0 : w4[39]? = some (qO0, .inr (9, [.ref qO1, .ref qO2, .null])) := hO0
  replace hN : w4.length = 40 := (q_len1 hu5 hO0 ho6).trans hN
  replace hF := q_us hF hu5 (.head _)
  refine lv_aload_n hx hb d_12_1_14 rfl (lv_at hl 0 rfl) ?_
  refine lv_aload_n hx hb d_12_1_15 rfl (lv_at hl 3 rfl) ?_
  have ho9 := hO0
  refine q_putF (ci := 9) (j := 2) (v := .ref qO3) (ty := .object "NumberHouse$Digits") C0 V i_Wri o_Wri n_Wri rfl rfl rfl rfl rfl hO0 (by decide) w_331 rfl rfl rfl (Nat.le_of_ble_eq_true rfl) d_12_1_16 (fun H locs w7 hu8 hO0 V => ?_)
  replace hO0 : w7[39]? = some (qO0, .inr (9, [.ref qO1, .ref qO2, .ref qO3])) := hO0
  replace hN : w7.length = 40 := (q_len1 hu8 hO0 ho9).trans hN
  replace hF := q_us hF hu8 (.head _)
  exact q_retv C0 V (⟨hF, hO0, hN⟩) d_12_1_19
theorem d_6_1_0 : decode prog_6_method_1_code 0 = .ok (.aload_n 0, 1) := by decide +kernel
theorem d_6_1_1 : decode prog_6_method_1_code 1 = .ok (.invokespecial 3, 3) := by decide +kernel
theorem w_353 : (Cond.methodLink "NumberHouse$Directive" (3 : Nat) ({ cls := "java/lang/Object", name := "<init>", desc := "()V" } : MethodName)) ∈ q_tbl := q_of 353 (by decide +kernel) (by decide +kernel)
theorem d_6_1_4 : decode prog_6_method_1_code 4 = .ok (.aload_n 0, 1) := by decide +kernel
theorem d_6_1_5 : decode prog_6_method_1_code 5 = .ok (.aload_n 1, 1) := by decide +kernel
theorem d_6_1_6 : decode prog_6_method_1_code 6 = .ok (.putfield 9, 3) := by decide +kernel
theorem w_365 : (Cond.fieldLink "NumberHouse$Directive" (9 : Nat) "NumberHouse$Directive" "text" "LNumberHouse$Sheet;") ∈ q_tbl := q_of 365 (by decide +kernel) (by decide +kernel)
theorem d_6_1_9 : decode prog_6_method_1_code 9 = .ok (.return_, 1) := by decide +kernel
def y_Dir_init : MethodName := ⟨"NumberHouse$Directive", "<init>", "(LNumberHouse$Sheet;)V"⟩
set_option maxRecDepth 100000 in
set_option maxHeartbeats 4000000 in
theorem c_Dir_init (l : Launch) (D : va_G) (g : Nat → ClassId) (ws : va_W) ( qO0 qO1 : Nat) (hN : ws.length = 48) (hO0 : ws[47]? = some (qO0, .inr (10, [.int 0, .int 0, .int 0, .int 0, .int 0, .int 0, .null, .int 0]))) : q_mV l y_Dir_init prog_6_method_1_code 2 2 0 0 D g [.ref qO0, .ref qO1] ws (fun u => q_un ws u [47] ∧ u[47]? = some (qO0, .inr (10, [.int 0, .int 0, .int 0, .int 0, .int 0, .int 0, .ref qO1, .int 0])) ∧ u.length = 48) := by
  intro sz
  refine q_into (by decide) (Nat.le_of_ble_eq_true rfl) ?_
  intro p e s m below meth c ls hsz C0 V hl
  have hx := C0.1
  have hb := C0.2.1
  have hl : lv_has ls 2 [(0, .ref qO0), (1, .ref qO1)] := hl
  have hF : q_un ws ws [47] := q_u0
  refine lv_aload_n hx hb d_6_1_0 rfl (lv_at hl 0 rfl) ?_
  refine q_obj C0 hl.1 rfl w_353 w_44 w_45 ⟨by decide, by decide⟩ d_6_1_1 ?_
  refine lv_aload_n hx hb d_6_1_4 rfl (lv_at hl 0 rfl) ?_
  refine lv_aload_n hx hb d_6_1_5 rfl (lv_at hl 1 rfl) ?_
  have ho3 := hO0
  refine q_putF (ci := 10) (j := 6) (v := .ref qO1) (ty := .object "NumberHouse$Sheet") C0 V i_Dir o_Dir n_Dir rfl rfl rfl rfl rfl hO0 (by decide) w_365 rfl rfl rfl (Nat.le_of_ble_eq_true rfl) d_6_1_6 (fun H locs w1 hu2 hO0 V => ?_)
  replace hO0 : w1[47]? = some (qO0, .inr (10, [.int 0, .int 0, .int 0, .int 0, .int 0, .int 0, .ref qO1, .int 0])) := hO0
  replace hN : w1.length = 48 := (q_len1 hu2 hO0 ho3).trans hN
  replace hF := q_us hF hu2 (.head _)
  exact q_retv C0 V (⟨hF, hO0, hN⟩) d_6_1_9
theorem d_9_1_0 : decode prog_9_method_1_code 0 = .ok (.aload_n 0, 1) := by decide +kernel
theorem d_9_1_1 : decode prog_9_method_1_code 1 = .ok (.invokespecial 3, 3) := by decide +kernel
theorem w_344 : (Cond.methodLink "NumberHouse$Printer" (3 : Nat) ({ cls := "java/lang/Object", name := "<init>", desc := "()V" } : MethodName)) ∈ q_tbl := q_of 344 (by decide +kernel) (by decide +kernel)
theorem d_9_1_4 : decode prog_9_method_1_code 4 = .ok (.aload_n 0, 1) := by decide +kernel
theorem d_9_1_5 : decode prog_9_method_1_code 5 = .ok (.bipush 9, 2) := by decide +kernel
theorem d_9_1_7 : decode prog_9_method_1_code 7 = .ok (.newarray .int, 2) := by decide +kernel
theorem d_9_1_9 : decode prog_9_method_1_code 9 = .ok (.putfield 11, 3) := by decide +kernel
theorem w_386 : (Cond.fieldLink "NumberHouse$Printer" (11 : Nat) "NumberHouse$Printer" "kinds" "[I") ∈ q_tbl := q_of 386 (by decide +kernel) (by decide +kernel)
theorem d_9_1_12 : decode prog_9_method_1_code 12 = .ok (.aload_n 0, 1) := by decide +kernel
theorem d_9_1_13 : decode prog_9_method_1_code 13 = .ok (.bipush 9, 2) := by decide +kernel
theorem d_9_1_15 : decode prog_9_method_1_code 15 = .ok (.newarray .long, 2) := by decide +kernel
theorem d_9_1_17 : decode prog_9_method_1_code 17 = .ok (.putfield 15, 3) := by decide +kernel
theorem w_387 : (Cond.fieldLink "NumberHouse$Printer" (15 : Nat) "NumberHouse$Printer" "numbers" "[J") ∈ q_tbl := q_of 387 (by decide +kernel) (by decide +kernel)
theorem d_9_1_20 : decode prog_9_method_1_code 20 = .ok (.aload_n 0, 1) := by decide +kernel
theorem d_9_1_21 : decode prog_9_method_1_code 21 = .ok (.bipush 9, 2) := by decide +kernel
theorem d_9_1_23 : decode prog_9_method_1_code 23 = .ok (.newarray .int, 2) := by decide +kernel
theorem d_9_1_25 : decode prog_9_method_1_code 25 = .ok (.putfield 19, 3) := by decide +kernel
theorem w_388 : (Cond.fieldLink "NumberHouse$Printer" (19 : Nat) "NumberHouse$Printer" "scales" "[I") ∈ q_tbl := q_of 388 (by decide +kernel) (by decide +kernel)
theorem d_9_1_28 : decode prog_9_method_1_code 28 = .ok (.aload_n 0, 1) := by decide +kernel
theorem d_9_1_29 : decode prog_9_method_1_code 29 = .ok (.bipush 9, 2) := by decide +kernel
theorem d_9_1_31 : decode prog_9_method_1_code 31 = .ok (.anewarray 22, 3) := by decide +kernel
theorem wo_346 : (Cond.arrayOver (.object "NumberHouse$Sheet")) ∈ q_odd := q_oo 346 (by decide +kernel) (by decide +kernel)
theorem w_345 : (Cond.classLink "NumberHouse$Printer" (22 : Nat) "NumberHouse$Sheet") ∈ q_tbl := q_of 345 (by decide +kernel) (by decide +kernel)
theorem d_9_1_34 : decode prog_9_method_1_code 34 = .ok (.putfield 24, 3) := by decide +kernel
theorem w_389 : (Cond.fieldLink "NumberHouse$Printer" (24 : Nat) "NumberHouse$Printer" "texts" "[LNumberHouse$Sheet;") ∈ q_tbl := q_of 389 (by decide +kernel) (by decide +kernel)
theorem d_9_1_37 : decode prog_9_method_1_code 37 = .ok (.aload_n 0, 1) := by decide +kernel
theorem d_9_1_38 : decode prog_9_method_1_code 38 = .ok (.new 22, 3) := by decide +kernel
theorem w_47 : (Cond.instantiable "NumberHouse$Sheet" (3 : Nat)) ∈ q_tbl := q_of 47 (by decide +kernel) (by decide +kernel)
theorem w_2 : (Cond.initialized "NumberHouse$Sheet") ∈ q_tbl := q_of 2 (by decide +kernel) (by decide +kernel)
theorem d_9_1_41 : decode prog_9_method_1_code 41 = .ok (.dup, 1) := by decide +kernel
theorem d_9_1_42 : decode prog_9_method_1_code 42 = .ok (.sipush 4104, 3) := by decide +kernel
theorem d_9_1_45 : decode prog_9_method_1_code 45 = .ok (.invokespecial 28, 3) := by decide +kernel
theorem w_50 : (Cond.code ({ cls := "NumberHouse$Sheet", name := "<init>", desc := "(I)V" } : MethodName) prog_11_method_1_code (2 : Nat) (none : Option ClassFile.FieldType)) ∈ q_tbl := q_of 50 (by decide +kernel) (by decide +kernel)
theorem w_347 : (Cond.methodLink "NumberHouse$Printer" (28 : Nat) ({ cls := "NumberHouse$Sheet", name := "<init>", desc := "(I)V" } : MethodName)) ∈ q_tbl := q_of 347 (by decide +kernel) (by decide +kernel)
theorem w_49 : (Cond.instanceMethod ({ cls := "NumberHouse$Sheet", name := "<init>", desc := "(I)V" } : MethodName)) ∈ q_tbl := q_of 49 (by decide +kernel) (by decide +kernel)
theorem LI_Pri_28 : q_LI "NumberHouse$Printer" 28 y_She_init prog_11_method_1_code 2 1 := ⟨w_50, w_2, w_347, w_49, rfl, ⟨by decide, by decide, by decide +kernel⟩⟩
theorem d_9_1_48 : decode prog_9_method_1_code 48 = .ok (.putfield 31, 3) := by decide +kernel
theorem w_393 : (Cond.fieldLink "NumberHouse$Printer" (31 : Nat) "NumberHouse$Printer" "body" "LNumberHouse$Sheet;") ∈ q_tbl := q_of 393 (by decide +kernel) (by decide +kernel)
theorem d_9_1_51 : decode prog_9_method_1_code 51 = .ok (.aload_n 0, 1) := by decide +kernel
theorem d_9_1_52 : decode prog_9_method_1_code 52 = .ok (.aload_n 1, 1) := by decide +kernel
theorem d_9_1_53 : decode prog_9_method_1_code 53 = .ok (.putfield 35, 3) := by decide +kernel
theorem w_390 : (Cond.fieldLink "NumberHouse$Printer" (35 : Nat) "NumberHouse$Printer" "tape" "LNumberHouse$Sheet;") ∈ q_tbl := q_of 390 (by decide +kernel) (by decide +kernel)
theorem d_9_1_56 : decode prog_9_method_1_code 56 = .ok (.aload_n 0, 1) := by decide +kernel
theorem d_9_1_57 : decode prog_9_method_1_code 57 = .ok (.aload_n 2, 1) := by decide +kernel
theorem d_9_1_58 : decode prog_9_method_1_code 58 = .ok (.putfield 38, 3) := by decide +kernel
theorem w_392 : (Cond.fieldLink "NumberHouse$Printer" (38 : Nat) "NumberHouse$Printer" "digits" "LNumberHouse$Digits;") ∈ q_tbl := q_of 392 (by decide +kernel) (by decide +kernel)
theorem d_9_1_61 : decode prog_9_method_1_code 61 = .ok (.aload_n 0, 1) := by decide +kernel
theorem d_9_1_62 : decode prog_9_method_1_code 62 = .ok (.new 42, 3) := by decide +kernel
theorem w_348 : (Cond.classLink "NumberHouse$Printer" (42 : Nat) "NumberHouse$Directive") ∈ q_tbl := q_of 348 (by decide +kernel) (by decide +kernel)
theorem w_349 : (Cond.instantiable "NumberHouse$Directive" (8 : Nat)) ∈ q_tbl := q_of 349 (by decide +kernel) (by decide +kernel)
theorem w_13 : (Cond.initialized "NumberHouse$Directive") ∈ q_tbl := q_of 13 (by decide +kernel) (by decide +kernel)
theorem d_9_1_65 : decode prog_9_method_1_code 65 = .ok (.dup, 1) := by decide +kernel
theorem d_9_1_66 : decode prog_9_method_1_code 66 = .ok (.aload_n 1, 1) := by decide +kernel
theorem d_9_1_67 : decode prog_9_method_1_code 67 = .ok (.invokespecial 44, 3) := by decide +kernel
theorem w_352 : (Cond.code ({ cls := "NumberHouse$Directive", name := "<init>", desc := "(LNumberHouse$Sheet;)V" } : MethodName) prog_6_method_1_code (2 : Nat) (none : Option ClassFile.FieldType)) ∈ q_tbl := q_of 352 (by decide +kernel) (by decide +kernel)
theorem w_350 : (Cond.methodLink "NumberHouse$Printer" (44 : Nat) ({ cls := "NumberHouse$Directive", name := "<init>", desc := "(LNumberHouse$Sheet;)V" } : MethodName)) ∈ q_tbl := q_of 350 (by decide +kernel) (by decide +kernel)
theorem w_351 : (Cond.instanceMethod ({ cls := "NumberHouse$Directive", name := "<init>", desc := "(LNumberHouse$Sheet;)V" } : MethodName)) ∈ q_tbl := q_of 351 (by decide +kernel) (by decide +kernel)
theorem LI_Pri_44 : q_LI "NumberHouse$Printer" 44 y_Dir_init prog_6_method_1_code 2 1 := ⟨w_352, w_13, w_350, w_351, rfl, ⟨by decide, by decide, by decide +kernel⟩⟩
theorem d_9_1_70 : decode prog_9_method_1_code 70 = .ok (.putfield 47, 3) := by decide +kernel
theorem w_391 : (Cond.fieldLink "NumberHouse$Printer" (47 : Nat) "NumberHouse$Printer" "directive" "LNumberHouse$Directive;") ∈ q_tbl := q_of 391 (by decide +kernel) (by decide +kernel)
theorem d_9_1_73 : decode prog_9_method_1_code 73 = .ok (.iconst 0, 1) := by decide +kernel
theorem d_9_1_74 : decode prog_9_method_1_code 74 = .ok (.istore_n 3, 1) := by decide +kernel
theorem d_9_1_75 : decode prog_9_method_1_code 75 = .ok (.iload_n 3, 1) := by decide +kernel
theorem d_9_1_76 : decode prog_9_method_1_code 76 = .ok (.bipush 9, 2) := by decide +kernel
theorem d_9_1_78 : decode prog_9_method_1_code 78 = .ok (.if_icmp .ge 24, 3) := by decide +kernel
theorem d_9_1_81 : decode prog_9_method_1_code 81 = .ok (.aload_n 0, 1) := by decide +kernel
theorem d_9_1_82 : decode prog_9_method_1_code 82 = .ok (.getfield 24, 3) := by decide +kernel
theorem d_9_1_85 : decode prog_9_method_1_code 85 = .ok (.iload_n 3, 1) := by decide +kernel
theorem d_9_1_86 : decode prog_9_method_1_code 86 = .ok (.new 22, 3) := by decide +kernel
theorem d_9_1_89 : decode prog_9_method_1_code 89 = .ok (.dup, 1) := by decide +kernel
theorem d_9_1_90 : decode prog_9_method_1_code 90 = .ok (.bipush 64, 2) := by decide +kernel
theorem d_9_1_92 : decode prog_9_method_1_code 92 = .ok (.invokespecial 28, 3) := by decide +kernel
theorem d_9_1_95 : decode prog_9_method_1_code 95 = .ok (.aastore, 1) := by decide +kernel
theorem d_9_1_96 : decode prog_9_method_1_code 96 = .ok (.iinc 3 1, 3) := by decide +kernel
theorem d_9_1_99 : decode prog_9_method_1_code 99 = .ok (.goto (-24), 3) := by decide +kernel
theorem d_9_1_102 : decode prog_9_method_1_code 102 = .ok (.return_, 1) := by decide +kernel
def y_Pri_init : MethodName := ⟨"NumberHouse$Printer", "<init>", "(LNumberHouse$Sheet;LNumberHouse$Digits;)V"⟩
set_option maxRecDepth 100000 in
set_option maxHeartbeats 4000000 in
theorem c_Pri_init (l : Launch) (D : va_G) (g : Nat → ClassId) (ws : va_W) ( qO0 qO1 qO2 : Nat) (hN : ws.length = 41) (hO0 : ws[40]? = some (qO0, .inr (11, [.int 0, .null, .null, .null, .null, .null, .null, .null, .null, .int 0, .int 0, .int 0]))) : q_mV l y_Pri_init prog_9_method_1_code 4 3 25 659 D g [.ref qO0, .ref qO1, .ref qO2] ws (fun u => ∃ (q1 : Nat) (q8 : Nat) (q15 : Nat) (q22 : Nat) (q29 : Nat) (q35 : Nat) (q47 : Nat) (q58 : Nat) (q64 : Nat) (q71 : Nat) (q77 : Nat) (q84 : Nat) (q90 : Nat) (q97 : Nat) (q103 : Nat) (q110 : Nat) (q116 : Nat) (q123 : Nat) (q129 : Nat) (q136 : Nat) (q142 : Nat) (q149 : Nat) (q155 : Nat) (q162 : Nat) (q168 : Nat), q_un ws u [40, 41, 42, 43, 44, 45, 46, 47, 48, 49, 50, 51, 52, 53, 54, 55, 56, 57, 58, 59, 60, 61, 62, 63, 64, 65] ∧ u[40]? = some (qO0, .inr (11, [.int 0, .ref q1, .ref q8, .ref q15, .ref q22, .ref qO1, .ref q47, .ref qO2, .ref q29, .int 0, .int 0, .int 0])) ∧ u[41]? = some (q1, .inl (g 0, 9, .inl (fun _ => 0))) ∧ u[42]? = some (q8, .inl (g 1, 9, .inr (.inl (fun _ => 0)))) ∧ u[43]? = some (q15, .inl (g 0, 9, .inl (fun _ => 0))) ∧ u[44]? = some (q22, .inl (g 6, 9, .inr (.inr (.inr (.inr (va_up (va_up (va_up (va_up (va_up (va_up (va_up (va_up (va_up (fun _ => none) 0 (some q58)) 1 (some q71)) 2 (some q84)) 3 (some q97)) 4 (some q110)) 5 (some q123)) 6 (some q136)) 7 (some q149)) 8 (some q162))))))) ∧ u[45]? = some (q29, .inr (1, [.ref q35, .int 4104, .int 0])) ∧ u[46]? = some (q35, .inl (g 1, 513, .inr (.inl (fun _ => 0)))) ∧ u[47]? = some (q47, .inr (10, [.int 0, .int 0, .int 0, .int 0, .int 0, .int 0, .ref qO1, .int 0])) ∧ u[48]? = some (q58, .inr (1, [.ref q64, .int 64, .int 0])) ∧ u[49]? = some (q64, .inl (g 1, 8, .inr (.inl (fun _ => 0)))) ∧ u[50]? = some (q71, .inr (1, [.ref q77, .int 64, .int 0])) ∧ u[51]? = some (q77, .inl (g 1, 8, .inr (.inl (fun _ => 0)))) ∧ u[52]? = some (q84, .inr (1, [.ref q90, .int 64, .int 0])) ∧ u[53]? = some (q90, .inl (g 1, 8, .inr (.inl (fun _ => 0)))) ∧ u[54]? = some (q97, .inr (1, [.ref q103, .int 64, .int 0])) ∧ u[55]? = some (q103, .inl (g 1, 8, .inr (.inl (fun _ => 0)))) ∧ u[56]? = some (q110, .inr (1, [.ref q116, .int 64, .int 0])) ∧ u[57]? = some (q116, .inl (g 1, 8, .inr (.inl (fun _ => 0)))) ∧ u[58]? = some (q123, .inr (1, [.ref q129, .int 64, .int 0])) ∧ u[59]? = some (q129, .inl (g 1, 8, .inr (.inl (fun _ => 0)))) ∧ u[60]? = some (q136, .inr (1, [.ref q142, .int 64, .int 0])) ∧ u[61]? = some (q142, .inl (g 1, 8, .inr (.inl (fun _ => 0)))) ∧ u[62]? = some (q149, .inr (1, [.ref q155, .int 64, .int 0])) ∧ u[63]? = some (q155, .inl (g 1, 8, .inr (.inl (fun _ => 0)))) ∧ u[64]? = some (q162, .inr (1, [.ref q168, .int 64, .int 0])) ∧ u[65]? = some (q168, .inl (g 1, 8, .inr (.inl (fun _ => 0)))) ∧ u.length = 66) := by
  intro sz
  refine q_into (by decide) (Nat.le_of_ble_eq_true rfl) ?_
  intro p e s m below meth c ls hsz C0 V hl
  have hx := C0.1
  have hb := C0.2.1
  have hl : lv_has ls 4 [(0, .ref qO0), (1, .ref qO1), (2, .ref qO2)] := hl
  have hF : q_un ws ws [40, 41, 42, 43, 44, 45, 46, 47, 48, 49, 50, 51, 52, 53, 54, 55, 56, 57, 58, 59, 60, 61, 62, 63, 64, 65] := q_u0
  refine lv_aload_n hx hb d_9_1_0 rfl (lv_at hl 0 rfl) ?_
  refine q_obj C0 hl.1 rfl w_344 w_44 w_45 ⟨by decide, by decide⟩ d_9_1_1 ?_
  refine lv_aload_n hx hb d_9_1_4 rfl (lv_at hl 0 rfl) ?_
  refine lv_bipush (v := 9) hx hb d_9_1_5 (by decide) ?_
  refine q_newI (N' := 9) C0 V hN w_107 (by decide) (by decide) (by decide) (Nat.le_of_ble_eq_true rfl) (Nat.le_of_ble_eq_true rfl) d_9_1_7 (fun q1 H w2 hu3 hn4 hN V => ?_)
  have hn0 : w2[41]? = some (q1, .inl (g 0, 9, .inl (fun _ => 0))) := hn4
  replace hO0 := (hu3 _ (q_pd 40 41 rfl)).trans hO0
  replace hF := q_us hF hu3 (.tail _ (.head _))
  replace hN : w2.length = 42 := hN
  have ho7 := hO0
  refine q_putF (ci := 11) (j := 1) (v := .ref q1) (ty := .array .int) C0 V i_Pri o_Pri n_Pri rfl rfl rfl rfl rfl hO0 (by decide) w_386 rfl rfl rfl (Nat.le_of_ble_eq_true rfl) d_9_1_9 (fun H locs w5 hu6 hO0 V => ?_)
  replace hO0 : w5[40]? = some (qO0, .inr (11, [.int 0, .ref q1, .null, .null, .null, .null, .null, .null, .null, .int 0, .int 0, .int 0])) := hO0
  replace hN : w5.length = 42 := (q_len1 hu6 hO0 ho7).trans hN
  replace hn0 := (hu6 _ (q_pd 41 40 rfl)).trans hn0
  replace hF := q_us hF hu6 (.head _)
  refine lv_aload_n hx hb d_9_1_12 rfl (lv_at hl 0 rfl) ?_
  refine lv_bipush (v := 9) hx hb d_9_1_13 (by decide) ?_
  refine q_newL (N' := 9) C0 V hN w_67 (by decide) (by decide) (by decide) (Nat.le_of_ble_eq_true rfl) (Nat.le_of_ble_eq_true rfl) d_9_1_15 (fun q8 H w9 hu10 hn11 hN V => ?_)
  have hn1 : w9[42]? = some (q8, .inl (g 1, 9, .inr (.inl (fun _ => 0)))) := hn11
  replace hO0 := (hu10 _ (q_pd 40 42 rfl)).trans hO0
  replace hn0 := (hu10 _ (q_pd 41 42 rfl)).trans hn0
  replace hF := q_us hF hu10 (.tail _ (.tail _ (.head _)))
  replace hN : w9.length = 43 := hN
  have ho14 := hO0
  refine q_putF (ci := 11) (j := 2) (v := .ref q8) (ty := .array .long) C0 V i_Pri o_Pri n_Pri rfl rfl rfl rfl rfl hO0 (by decide) w_387 rfl rfl rfl (Nat.le_of_ble_eq_true rfl) d_9_1_17 (fun H locs w12 hu13 hO0 V => ?_)
  replace hO0 : w12[40]? = some (qO0, .inr (11, [.int 0, .ref q1, .ref q8, .null, .null, .null, .null, .null, .null, .int 0, .int 0, .int 0])) := hO0
  replace hN : w12.length = 43 := (q_len1 hu13 hO0 ho14).trans hN
  replace hn0 := (hu13 _ (q_pd 41 40 rfl)).trans hn0
  replace hn1 := (hu13 _ (q_pd 42 40 rfl)).trans hn1
  replace hF := q_us hF hu13 (.head _)
  refine lv_aload_n hx hb d_9_1_20 rfl (lv_at hl 0 rfl) ?_
  refine lv_bipush (v := 9) hx hb d_9_1_21 (by decide) ?_
  refine q_newI (N' := 9) C0 V hN w_107 (by decide) (by decide) (by decide) (Nat.le_of_ble_eq_true rfl) (Nat.le_of_ble_eq_true rfl) d_9_1_23 (fun q15 H w16 hu17 hn18 hN V => ?_)
  have hn2 : w16[43]? = some (q15, .inl (g 0, 9, .inl (fun _ => 0))) := hn18
  replace hO0 := (hu17 _ (q_pd 40 43 rfl)).trans hO0
  replace hn0 := (hu17 _ (q_pd 41 43 rfl)).trans hn0
  replace hn1 := (hu17 _ (q_pd 42 43 rfl)).trans hn1
  replace hF := q_us hF hu17 (.tail _ (.tail _ (.tail _ (.head _))))
  replace hN : w16.length = 44 := hN
  have ho21 := hO0
  refine q_putF (ci := 11) (j := 3) (v := .ref q15) (ty := .array .int) C0 V i_Pri o_Pri n_Pri rfl rfl rfl rfl rfl hO0 (by decide) w_388 rfl rfl rfl (Nat.le_of_ble_eq_true rfl) d_9_1_25 (fun H locs w19 hu20 hO0 V => ?_)
  replace hO0 : w19[40]? = some (qO0, .inr (11, [.int 0, .ref q1, .ref q8, .ref q15, .null, .null, .null, .null, .null, .int 0, .int 0, .int 0])) := hO0
  replace hN : w19.length = 44 := (q_len1 hu20 hO0 ho21).trans hN
  replace hn0 := (hu20 _ (q_pd 41 40 rfl)).trans hn0
  replace hn1 := (hu20 _ (q_pd 42 40 rfl)).trans hn1
  replace hn2 := (hu20 _ (q_pd 43 40 rfl)).trans hn2
  replace hF := q_us hF hu20 (.head _)
  refine lv_aload_n hx hb d_9_1_28 rfl (lv_at hl 0 rfl) ?_
  refine lv_bipush (v := 9) hx hb d_9_1_29 (by decide) ?_
  refine q_newQ (t := 6) (E := "NumberHouse$Sheet") (N' := 9) C0 V hN rfl w_345 wo_346 rfl (by decide) (by decide) (by decide) (Nat.le_of_ble_eq_true rfl) (Nat.le_of_ble_eq_true rfl) d_9_1_31 (fun q22 H w23 hu24 hn25 hN V => ?_)
  have hn3 : w23[44]? = some (q22, .inl (g 6, 9, .inr (.inr (.inr (.inr (fun _ => none)))))) := hn25
  replace hO0 := (hu24 _ (q_pd 40 44 rfl)).trans hO0
  replace hn0 := (hu24 _ (q_pd 41 44 rfl)).trans hn0
  replace hn1 := (hu24 _ (q_pd 42 44 rfl)).trans hn1
  replace hn2 := (hu24 _ (q_pd 43 44 rfl)).trans hn2
  replace hF := q_us hF hu24 (.tail _ (.tail _ (.tail _ (.tail _ (.head _)))))
  replace hN : w23.length = 45 := hN
  have ho28 := hO0
  refine q_putF (ci := 11) (j := 4) (v := .ref q22) (ty := .array (.object "NumberHouse$Sheet")) C0 V i_Pri o_Pri n_Pri rfl rfl rfl rfl rfl hO0 (by decide) w_389 rfl rfl rfl (Nat.le_of_ble_eq_true rfl) d_9_1_34 (fun H locs w26 hu27 hO0 V => ?_)
  replace hO0 : w26[40]? = some (qO0, .inr (11, [.int 0, .ref q1, .ref q8, .ref q15, .ref q22, .null, .null, .null, .null, .int 0, .int 0, .int 0])) := hO0
  replace hN : w26.length = 45 := (q_len1 hu27 hO0 ho28).trans hN
  replace hn0 := (hu27 _ (q_pd 41 40 rfl)).trans hn0
  replace hn1 := (hu27 _ (q_pd 42 40 rfl)).trans hn1
  replace hn2 := (hu27 _ (q_pd 43 40 rfl)).trans hn2
  replace hn3 := (hu27 _ (q_pd 44 40 rfl)).trans hn3
  replace hF := q_us hF hu27 (.head _)
  refine lv_aload_n hx hb d_9_1_37 rfl (lv_at hl 0 rfl) ?_
  refine q_new (ci := 1) (fs := [.null, .int 0, .int 0]) C0 V hN i_She o_She rfl w_345 w_47 w_2 rfl (fun j hj => by rcases (show j = 0 ∨ j = 1 ∨ j = 2 by omega) with rfl | rfl | rfl <;> rfl) (Nat.le_of_ble_eq_true rfl) (Nat.le_of_ble_eq_true rfl) d_9_1_38 (fun q29 H w30 hu31 hn32 hN V => ?_)
  have hn4 : w30[45]? = some (q29, .inr (1, [.null, .int 0, .int 0])) := hn32
  replace hO0 := (hu31 _ (q_pd 40 45 rfl)).trans hO0
  replace hn0 := (hu31 _ (q_pd 41 45 rfl)).trans hn0
  replace hn1 := (hu31 _ (q_pd 42 45 rfl)).trans hn1
  replace hn2 := (hu31 _ (q_pd 43 45 rfl)).trans hn2
  replace hn3 := (hu31 _ (q_pd 44 45 rfl)).trans hn3
  replace hF := q_us hF hu31 (.tail _ (.tail _ (.tail _ (.tail _ (.tail _ (.head _))))))
  replace hN : w30.length = 46 := hN
  refine lv_dup hx hb d_9_1_41 rfl ?_
  refine lv_sipush (v := 4104) hx hb d_9_1_42 (by decide) ?_
  refine q_gov V (q_runI (As := [.int 4104]) (rest := [.ref q29, .ref qO0]) (d := 2) (mc := 1) (ms := 513) C0 V rfl LI_Pri_28 (c_She_init_3 l D g w30 45 q29 46 hN hn4 _) rfl hl.1 rfl (Nat.le_of_ble_eq_true rfl) ⟨by decide, by decide⟩ ⟨Nat.le_of_ble_eq_true rfl, Nat.le_of_ble_eq_true rfl⟩ d_9_1_45) (fun u34 H locs hp33 V => ?_)
  obtain ⟨q35, hg36, hn4, hq37, hN⟩ := hp33
  replace hO0 := (hg36 _ (q_nc (q_pd 40 45 rfl) (q_nc (q_pd 40 46 rfl) List.not_mem_nil))).trans hO0
  replace hn0 := (hg36 _ (q_nc (q_pd 41 45 rfl) (q_nc (q_pd 41 46 rfl) List.not_mem_nil))).trans hn0
  replace hn1 := (hg36 _ (q_nc (q_pd 42 45 rfl) (q_nc (q_pd 42 46 rfl) List.not_mem_nil))).trans hn1
  replace hn2 := (hg36 _ (q_nc (q_pd 43 45 rfl) (q_nc (q_pd 43 46 rfl) List.not_mem_nil))).trans hn2
  replace hn3 := (hg36 _ (q_nc (q_pd 44 45 rfl) (q_nc (q_pd 44 46 rfl) List.not_mem_nil))).trans hn3
  replace hF := q_uc hF hg36 (q_sc (.tail _ (.tail _ (.tail _ (.tail _ (.tail _ (.head _)))))) (q_sc (.tail _ (.tail _ (.tail _ (.tail _ (.tail _ (.tail _ (.head _))))))) (fun _ h => absurd h List.not_mem_nil)))
  have hn5 : u34[46]? = some (q35, .inl (g 1, 513, .inr (.inl (fun _ => 0)))) := hq37
  replace hN : u34.length = 47 := hN
  have ho40 := hO0
  refine q_putF (ci := 11) (j := 8) (v := .ref q29) (ty := .object "NumberHouse$Sheet") C0 V i_Pri o_Pri n_Pri rfl rfl rfl rfl rfl hO0 (by decide) w_393 rfl rfl rfl (Nat.le_of_ble_eq_true rfl) d_9_1_48 (fun H locs w38 hu39 hO0 V => ?_)
  replace hO0 : w38[40]? = some (qO0, .inr (11, [.int 0, .ref q1, .ref q8, .ref q15, .ref q22, .null, .null, .null, .ref q29, .int 0, .int 0, .int 0])) := hO0
  replace hN : w38.length = 47 := (q_len1 hu39 hO0 ho40).trans hN
  replace hn0 := (hu39 _ (q_pd 41 40 rfl)).trans hn0
  replace hn1 := (hu39 _ (q_pd 42 40 rfl)).trans hn1
  replace hn2 := (hu39 _ (q_pd 43 40 rfl)).trans hn2
  replace hn3 := (hu39 _ (q_pd 44 40 rfl)).trans hn3
  replace hn4 := (hu39 _ (q_pd 45 40 rfl)).trans hn4
  replace hn5 := (hu39 _ (q_pd 46 40 rfl)).trans hn5
  replace hF := q_us hF hu39 (.head _)
  refine lv_aload_n hx hb d_9_1_51 rfl (lv_at hl 0 rfl) ?_
  refine lv_aload_n hx hb d_9_1_52 rfl (lv_at hl 1 rfl) ?_
  have ho43 := hO0
  refine q_putF (ci := 11) (j := 5) (v := .ref qO1) (ty := .object "NumberHouse$Sheet") C0 V i_Pri o_Pri n_Pri rfl rfl rfl rfl rfl hO0 (by decide) w_390 rfl rfl rfl (Nat.le_of_ble_eq_true rfl) d_9_1_53 (fun H locs w41 hu42 hO0 V => ?_)
  replace hO0 : w41[40]? = some (qO0, .inr (11, [.int 0, .ref q1, .ref q8, .ref q15, .ref q22, .ref qO1, .null, .null, .ref q29, .int 0, .int 0, .int 0])) := hO0
  replace hN : w41.length = 47 := (q_len1 hu42 hO0 ho43).trans hN
  replace hn0 := (hu42 _ (q_pd 41 40 rfl)).trans hn0
  replace hn1 := (hu42 _ (q_pd 42 40 rfl)).trans hn1
  replace hn2 := (hu42 _ (q_pd 43 40 rfl)).trans hn2
  replace hn3 := (hu42 _ (q_pd 44 40 rfl)).trans hn3
  replace hn4 := (hu42 _ (q_pd 45 40 rfl)).trans hn4
  replace hn5 := (hu42 _ (q_pd 46 40 rfl)).trans hn5
  replace hF := q_us hF hu42 (.head _)
  refine lv_aload_n hx hb d_9_1_56 rfl (lv_at hl 0 rfl) ?_
  refine lv_aload_n hx hb d_9_1_57 rfl (lv_at hl 2 rfl) ?_
  have ho46 := hO0
  refine q_putF (ci := 11) (j := 7) (v := .ref qO2) (ty := .object "NumberHouse$Digits") C0 V i_Pri o_Pri n_Pri rfl rfl rfl rfl rfl hO0 (by decide) w_392 rfl rfl rfl (Nat.le_of_ble_eq_true rfl) d_9_1_58 (fun H locs w44 hu45 hO0 V => ?_)
  replace hO0 : w44[40]? = some (qO0, .inr (11, [.int 0, .ref q1, .ref q8, .ref q15, .ref q22, .ref qO1, .null, .ref qO2, .ref q29, .int 0, .int 0, .int 0])) := hO0
  replace hN : w44.length = 47 := (q_len1 hu45 hO0 ho46).trans hN
  replace hn0 := (hu45 _ (q_pd 41 40 rfl)).trans hn0
  replace hn1 := (hu45 _ (q_pd 42 40 rfl)).trans hn1
  replace hn2 := (hu45 _ (q_pd 43 40 rfl)).trans hn2
  replace hn3 := (hu45 _ (q_pd 44 40 rfl)).trans hn3
  replace hn4 := (hu45 _ (q_pd 45 40 rfl)).trans hn4
  replace hn5 := (hu45 _ (q_pd 46 40 rfl)).trans hn5
  replace hF := q_us hF hu45 (.head _)
  refine lv_aload_n hx hb d_9_1_61 rfl (lv_at hl 0 rfl) ?_
  refine q_new (ci := 10) (fs := [.int 0, .int 0, .int 0, .int 0, .int 0, .int 0, .null, .int 0]) C0 V hN i_Dir o_Dir rfl w_348 w_349 w_13 rfl (fun j hj => by rcases (show j = 0 ∨ j = 1 ∨ j = 2 ∨ j = 3 ∨ j = 4 ∨ j = 5 ∨ j = 6 ∨ j = 7 by omega) with rfl | rfl | rfl | rfl | rfl | rfl | rfl | rfl <;> rfl) (Nat.le_of_ble_eq_true rfl) (Nat.le_of_ble_eq_true rfl) d_9_1_62 (fun q47 H w48 hu49 hn50 hN V => ?_)
  have hn6 : w48[47]? = some (q47, .inr (10, [.int 0, .int 0, .int 0, .int 0, .int 0, .int 0, .null, .int 0])) := hn50
  replace hO0 := (hu49 _ (q_pd 40 47 rfl)).trans hO0
  replace hn0 := (hu49 _ (q_pd 41 47 rfl)).trans hn0
  replace hn1 := (hu49 _ (q_pd 42 47 rfl)).trans hn1
  replace hn2 := (hu49 _ (q_pd 43 47 rfl)).trans hn2
  replace hn3 := (hu49 _ (q_pd 44 47 rfl)).trans hn3
  replace hn4 := (hu49 _ (q_pd 45 47 rfl)).trans hn4
  replace hn5 := (hu49 _ (q_pd 46 47 rfl)).trans hn5
  replace hF := q_us hF hu49 (.tail _ (.tail _ (.tail _ (.tail _ (.tail _ (.tail _ (.tail _ (.head _))))))))
  replace hN : w48.length = 48 := hN
  refine lv_dup hx hb d_9_1_65 rfl ?_
  refine lv_aload_n hx hb d_9_1_66 rfl (lv_at hl 1 rfl) ?_
  refine q_gov V (q_runI (As := [.ref qO1]) (rest := [.ref q47, .ref qO0]) (d := 2) (mc := 0) (ms := 0) C0 V rfl LI_Pri_44 (c_Dir_init l D g w48 q47 qO1 hN hn6 _) rfl hl.1 rfl (Nat.le_of_ble_eq_true rfl) ⟨by decide, by decide⟩ ⟨Nat.le_of_ble_eq_true rfl, Nat.le_of_ble_eq_true rfl⟩ d_9_1_67) (fun u52 H locs hp51 V => ?_)
  obtain ⟨hg53, hn6, hN⟩ := hp51
  replace hO0 := (hg53 _ (q_nc (q_pd 40 47 rfl) List.not_mem_nil)).trans hO0
  replace hn0 := (hg53 _ (q_nc (q_pd 41 47 rfl) List.not_mem_nil)).trans hn0
  replace hn1 := (hg53 _ (q_nc (q_pd 42 47 rfl) List.not_mem_nil)).trans hn1
  replace hn2 := (hg53 _ (q_nc (q_pd 43 47 rfl) List.not_mem_nil)).trans hn2
  replace hn3 := (hg53 _ (q_nc (q_pd 44 47 rfl) List.not_mem_nil)).trans hn3
  replace hn4 := (hg53 _ (q_nc (q_pd 45 47 rfl) List.not_mem_nil)).trans hn4
  replace hn5 := (hg53 _ (q_nc (q_pd 46 47 rfl) List.not_mem_nil)).trans hn5
  replace hF := q_uc hF hg53 (q_sc (.tail _ (.tail _ (.tail _ (.tail _ (.tail _ (.tail _ (.tail _ (.head _)))))))) (fun _ h => absurd h List.not_mem_nil))
  replace hN : u52.length = 48 := hN
  have ho56 := hO0
  refine q_putF (ci := 11) (j := 6) (v := .ref q47) (ty := .object "NumberHouse$Directive") C0 V i_Pri o_Pri n_Pri rfl rfl rfl rfl rfl hO0 (by decide) w_391 rfl rfl rfl (Nat.le_of_ble_eq_true rfl) d_9_1_70 (fun H locs w54 hu55 hO0 V => ?_)
  replace hO0 : w54[40]? = some (qO0, .inr (11, [.int 0, .ref q1, .ref q8, .ref q15, .ref q22, .ref qO1, .ref q47, .ref qO2, .ref q29, .int 0, .int 0, .int 0])) := hO0
  replace hN : w54.length = 48 := (q_len1 hu55 hO0 ho56).trans hN
  replace hn0 := (hu55 _ (q_pd 41 40 rfl)).trans hn0
  replace hn1 := (hu55 _ (q_pd 42 40 rfl)).trans hn1
  replace hn2 := (hu55 _ (q_pd 43 40 rfl)).trans hn2
  replace hn3 := (hu55 _ (q_pd 44 40 rfl)).trans hn3
  replace hn4 := (hu55 _ (q_pd 45 40 rfl)).trans hn4
  replace hn5 := (hu55 _ (q_pd 46 40 rfl)).trans hn5
  replace hn6 := (hu55 _ (q_pd 47 40 rfl)).trans hn6
  replace hF := q_us hF hu55 (.head _)
  refine lv_iconst (v := 0) hx hb d_9_1_73 (by decide) ?_
  refine lv_istore_n (lv' := [(3, .int 0), (0, .ref qO0), (1, .ref qO1), (2, .ref qO2)]) hx hb d_9_1_74 rfl hl (by decide) rfl (fun ls hl => ?_)
  refine lv_iload_n hx hb d_9_1_75 rfl (lv_at hl 0 rfl) ?_
  refine lv_bipush (v := 9) hx hb d_9_1_76 (by decide) ?_
  refine lv_icmp_ge (tgt := 102) hx hb d_9_1_78 (by decide) (fun c57 => absurd c57 (by decide)) (fun c57 => ?_)
  refine lv_aload_n hx hb d_9_1_81 rfl (lv_at hl 1 rfl) ?_
  refine q_get (ci := 11) (j := 4) (v := .ref q22) C0 V i_Pri rfl rfl hO0 (by decide) w_389 rfl d_9_1_82 ?_
  refine lv_iload_n hx hb d_9_1_85 rfl (lv_at hl 0 rfl) ?_
  refine q_new (ci := 1) (fs := [.null, .int 0, .int 0]) C0 V hN i_She o_She rfl w_345 w_47 w_2 rfl (fun j hj => by rcases (show j = 0 ∨ j = 1 ∨ j = 2 by omega) with rfl | rfl | rfl <;> rfl) (Nat.le_of_ble_eq_true rfl) (Nat.le_of_ble_eq_true rfl) d_9_1_86 (fun q58 H w59 hu60 hn61 hN V => ?_)
  have hn7 : w59[48]? = some (q58, .inr (1, [.null, .int 0, .int 0])) := hn61
  replace hO0 := (hu60 _ (q_pd 40 48 rfl)).trans hO0
  replace hn0 := (hu60 _ (q_pd 41 48 rfl)).trans hn0
  replace hn1 := (hu60 _ (q_pd 42 48 rfl)).trans hn1
  replace hn2 := (hu60 _ (q_pd 43 48 rfl)).trans hn2
  replace hn3 := (hu60 _ (q_pd 44 48 rfl)).trans hn3
  replace hn4 := (hu60 _ (q_pd 45 48 rfl)).trans hn4
  replace hn5 := (hu60 _ (q_pd 46 48 rfl)).trans hn5
  replace hn6 := (hu60 _ (q_pd 47 48 rfl)).trans hn6
  replace hF := q_us hF hu60 (.tail _ (.tail _ (.tail _ (.tail _ (.tail _ (.tail _ (.tail _ (.tail _ (.head _)))))))))
  replace hN : w59.length = 49 := hN
  refine lv_dup hx hb d_9_1_89 rfl ?_
  refine lv_bipush (v := 64) hx hb d_9_1_90 (by decide) ?_
  refine q_gov V (q_runI (As := [.int 64]) (rest := [.ref q58, .int 0, .ref q22]) (d := 2) (mc := 1) (ms := 8) C0 V rfl LI_Pri_28 (c_She_init_4 l D g w59 48 q58 49 hN hn7 _) rfl hl.1 rfl (Nat.le_of_ble_eq_true rfl) ⟨by decide, by decide⟩ ⟨Nat.le_of_ble_eq_true rfl, Nat.le_of_ble_eq_true rfl⟩ d_9_1_92) (fun u63 H locs hp62 V => ?_)
  obtain ⟨q64, hg65, hn7, hq66, hN⟩ := hp62
  replace hO0 := (hg65 _ (q_nc (q_pd 40 48 rfl) (q_nc (q_pd 40 49 rfl) List.not_mem_nil))).trans hO0
  replace hn0 := (hg65 _ (q_nc (q_pd 41 48 rfl) (q_nc (q_pd 41 49 rfl) List.not_mem_nil))).trans hn0
  replace hn1 := (hg65 _ (q_nc (q_pd 42 48 rfl) (q_nc (q_pd 42 49 rfl) List.not_mem_nil))).trans hn1
  replace hn2 := (hg65 _ (q_nc (q_pd 43 48 rfl) (q_nc (q_pd 43 49 rfl) List.not_mem_nil))).trans hn2
  replace hn3 := (hg65 _ (q_nc (q_pd 44 48 rfl) (q_nc (q_pd 44 49 rfl) List.not_mem_nil))).trans hn3
  replace hn4 := (hg65 _ (q_nc (q_pd 45 48 rfl) (q_nc (q_pd 45 49 rfl) List.not_mem_nil))).trans hn4
  replace hn5 := (hg65 _ (q_nc (q_pd 46 48 rfl) (q_nc (q_pd 46 49 rfl) List.not_mem_nil))).trans hn5
  replace hn6 := (hg65 _ (q_nc (q_pd 47 48 rfl) (q_nc (q_pd 47 49 rfl) List.not_mem_nil))).trans hn6
  replace hF := q_uc hF hg65 (q_sc (.tail _ (.tail _ (.tail _ (.tail _ (.tail _ (.tail _ (.tail _ (.tail _ (.head _))))))))) (q_sc (.tail _ (.tail _ (.tail _ (.tail _ (.tail _ (.tail _ (.tail _ (.tail _ (.tail _ (.head _)))))))))) (fun _ h => absurd h List.not_mem_nil)))
  have hn8 : u63[49]? = some (q64, .inl (g 1, 8, .inr (.inl (fun _ => 0)))) := hq66
  replace hN : u63.length = 50 := hN
  have ho67 := hn3
  refine q_aast (t := 6) (ci := 1) (i9 := 0) C0 V hn3 rfl hn7 rfl (by decide) (by decide) d_9_1_95 (fun H locs w68 hu69 hn3 V => ?_)
  replace hn3 : w68[44]? = some (q22, .inl (g 6, 9, .inr (.inr (.inr (.inr (va_up (fun _ => none) 0 (some q58))))))) := hn3
  replace hN : w68.length = 50 := (q_len1 hu69 hn3 ho67).trans hN
  replace hO0 := (hu69 _ (q_pd 40 44 rfl)).trans hO0
  replace hn0 := (hu69 _ (q_pd 41 44 rfl)).trans hn0
  replace hn1 := (hu69 _ (q_pd 42 44 rfl)).trans hn1
  replace hn2 := (hu69 _ (q_pd 43 44 rfl)).trans hn2
  replace hn4 := (hu69 _ (q_pd 45 44 rfl)).trans hn4
  replace hn5 := (hu69 _ (q_pd 46 44 rfl)).trans hn5
  replace hn6 := (hu69 _ (q_pd 47 44 rfl)).trans hn6
  replace hn7 := (hu69 _ (q_pd 48 44 rfl)).trans hn7
  replace hn8 := (hu69 _ (q_pd 49 44 rfl)).trans hn8
  replace hF := q_us hF hu69 (.tail _ (.tail _ (.tail _ (.tail _ (.head _)))))
  refine lv_iinc (v := 1) (lv' := [(3, .int 1), (0, .ref qO0), (1, .ref qO1), (2, .ref qO2)]) hx hb d_9_1_96 hl (k := 0) rfl (by decide) (by decide) rfl (fun ls hl => ?_)
  refine lv_goto (tgt := 75) hx hb d_9_1_99 (by decide) ?_
  refine lv_iload_n hx hb d_9_1_75 rfl (lv_at hl 0 rfl) ?_
  refine lv_bipush (v := 9) hx hb d_9_1_76 (by decide) ?_
  refine lv_icmp_ge (tgt := 102) hx hb d_9_1_78 (by decide) (fun c70 => absurd c70 (by decide)) (fun c70 => ?_)
  refine lv_aload_n hx hb d_9_1_81 rfl (lv_at hl 1 rfl) ?_
  refine q_get (ci := 11) (j := 4) (v := .ref q22) C0 V i_Pri rfl rfl hO0 (by decide) w_389 rfl d_9_1_82 ?_
  refine lv_iload_n hx hb d_9_1_85 rfl (lv_at hl 0 rfl) ?_
  refine q_new (ci := 1) (fs := [.null, .int 0, .int 0]) C0 V hN i_She o_She rfl w_345 w_47 w_2 rfl (fun j hj => by rcases (show j = 0 ∨ j = 1 ∨ j = 2 by omega) with rfl | rfl | rfl <;> rfl) (Nat.le_of_ble_eq_true rfl) (Nat.le_of_ble_eq_true rfl) d_9_1_86 (fun q71 H w72 hu73 hn74 hN V => ?_)
  have hn9 : w72[50]? = some (q71, .inr (1, [.null, .int 0, .int 0])) := hn74
  replace hO0 := (hu73 _ (q_pd 40 50 rfl)).trans hO0
  replace hn0 := (hu73 _ (q_pd 41 50 rfl)).trans hn0
  replace hn1 := (hu73 _ (q_pd 42 50 rfl)).trans hn1
  replace hn2 := (hu73 _ (q_pd 43 50 rfl)).trans hn2
  replace hn3 := (hu73 _ (q_pd 44 50 rfl)).trans hn3
  replace hn4 := (hu73 _ (q_pd 45 50 rfl)).trans hn4
  replace hn5 := (hu73 _ (q_pd 46 50 rfl)).trans hn5
  replace hn6 := (hu73 _ (q_pd 47 50 rfl)).trans hn6
  replace hn7 := (hu73 _ (q_pd 48 50 rfl)).trans hn7
  replace hn8 := (hu73 _ (q_pd 49 50 rfl)).trans hn8
  replace hF := q_us hF hu73 (.tail _ (.tail _ (.tail _ (.tail _ (.tail _ (.tail _ (.tail _ (.tail _ (.tail _ (.tail _ (.head _)))))))))))
  replace hN : w72.length = 51 := hN
  refine lv_dup hx hb d_9_1_89 rfl ?_
  refine lv_bipush (v := 64) hx hb d_9_1_90 (by decide) ?_
  refine q_gov V (q_runI (As := [.int 64]) (rest := [.ref q71, .int 1, .ref q22]) (d := 2) (mc := 1) (ms := 8) C0 V rfl LI_Pri_28 (c_She_init_4 l D g w72 50 q71 51 hN hn9 _) rfl hl.1 rfl (Nat.le_of_ble_eq_true rfl) ⟨by decide, by decide⟩ ⟨Nat.le_of_ble_eq_true rfl, Nat.le_of_ble_eq_true rfl⟩ d_9_1_92) (fun u76 H locs hp75 V => ?_)
  obtain ⟨q77, hg78, hn9, hq79, hN⟩ := hp75
  replace hO0 := (hg78 _ (q_nc (q_pd 40 50 rfl) (q_nc (q_pd 40 51 rfl) List.not_mem_nil))).trans hO0
  replace hn0 := (hg78 _ (q_nc (q_pd 41 50 rfl) (q_nc (q_pd 41 51 rfl) List.not_mem_nil))).trans hn0
  replace hn1 := (hg78 _ (q_nc (q_pd 42 50 rfl) (q_nc (q_pd 42 51 rfl) List.not_mem_nil))).trans hn1
  replace hn2 := (hg78 _ (q_nc (q_pd 43 50 rfl) (q_nc (q_pd 43 51 rfl) List.not_mem_nil))).trans hn2
  replace hn3 := (hg78 _ (q_nc (q_pd 44 50 rfl) (q_nc (q_pd 44 51 rfl) List.not_mem_nil))).trans hn3
  replace hn4 := (hg78 _ (q_nc (q_pd 45 50 rfl) (q_nc (q_pd 45 51 rfl) List.not_mem_nil))).trans hn4
  replace hn5 := (hg78 _ (q_nc (q_pd 46 50 rfl) (q_nc (q_pd 46 51 rfl) List.not_mem_nil))).trans hn5
  replace hn6 := (hg78 _ (q_nc (q_pd 47 50 rfl) (q_nc (q_pd 47 51 rfl) List.not_mem_nil))).trans hn6
  replace hn7 := (hg78 _ (q_nc (q_pd 48 50 rfl) (q_nc (q_pd 48 51 rfl) List.not_mem_nil))).trans hn7
  replace hn8 := (hg78 _ (q_nc (q_pd 49 50 rfl) (q_nc (q_pd 49 51 rfl) List.not_mem_nil))).trans hn8
  replace hF := q_uc hF hg78 (q_sc (.tail _ (.tail _ (.tail _ (.tail _ (.tail _ (.tail _ (.tail _ (.tail _ (.tail _ (.tail _ (.head _))))))))))) (q_sc (.tail _ (.tail _ (.tail _ (.tail _ (.tail _ (.tail _ (.tail _ (.tail _ (.tail _ (.tail _ (.tail _ (.head _)))))))))))) (fun _ h => absurd h List.not_mem_nil)))
  have hn10 : u76[51]? = some (q77, .inl (g 1, 8, .inr (.inl (fun _ => 0)))) := hq79
  replace hN : u76.length = 52 := hN
  have ho80 := hn3
  refine q_aast (t := 6) (ci := 1) (i9 := 1) C0 V hn3 rfl hn9 rfl (by decide) (by decide) d_9_1_95 (fun H locs w81 hu82 hn3 V => ?_)
  replace hn3 : w81[44]? = some (q22, .inl (g 6, 9, .inr (.inr (.inr (.inr (va_up (va_up (fun _ => none) 0 (some q58)) 1 (some q71))))))) := hn3
  replace hN : w81.length = 52 := (q_len1 hu82 hn3 ho80).trans hN
  replace hO0 := (hu82 _ (q_pd 40 44 rfl)).trans hO0
  replace hn0 := (hu82 _ (q_pd 41 44 rfl)).trans hn0
  replace hn1 := (hu82 _ (q_pd 42 44 rfl)).trans hn1
  replace hn2 := (hu82 _ (q_pd 43 44 rfl)).trans hn2
  replace hn4 := (hu82 _ (q_pd 45 44 rfl)).trans hn4
  replace hn5 := (hu82 _ (q_pd 46 44 rfl)).trans hn5
  replace hn6 := (hu82 _ (q_pd 47 44 rfl)).trans hn6
  replace hn7 := (hu82 _ (q_pd 48 44 rfl)).trans hn7
  replace hn8 := (hu82 _ (q_pd 49 44 rfl)).trans hn8
  replace hn9 := (hu82 _ (q_pd 50 44 rfl)).trans hn9
  replace hn10 := (hu82 _ (q_pd 51 44 rfl)).trans hn10
  replace hF := q_us hF hu82 (.tail _ (.tail _ (.tail _ (.tail _ (.head _)))))
  refine lv_iinc (v := 2) (lv' := [(3, .int 2), (0, .ref qO0), (1, .ref qO1), (2, .ref qO2)]) hx hb d_9_1_96 hl (k := 0) rfl (by decide) (by decide) rfl (fun ls hl => ?_)
  refine lv_goto (tgt := 75) hx hb d_9_1_99 (by decide) ?_
  refine lv_iload_n hx hb d_9_1_75 rfl (lv_at hl 0 rfl) ?_
  refine lv_bipush (v := 9) hx hb d_9_1_76 (by decide) ?_
  refine lv_icmp_ge (tgt := 102) hx hb d_9_1_78 (by decide) (fun c83 => absurd c83 (by decide)) (fun c83 => ?_)
  refine lv_aload_n hx hb d_9_1_81 rfl (lv_at hl 1 rfl) ?_
  refine q_get (ci := 11) (j := 4) (v := .ref q22) C0 V i_Pri rfl rfl hO0 (by decide) w_389 rfl d_9_1_82 ?_
  refine lv_iload_n hx hb d_9_1_85 rfl (lv_at hl 0 rfl) ?_
  refine q_new (ci := 1) (fs := [.null, .int 0, .int 0]) C0 V hN i_She o_She rfl w_345 w_47 w_2 rfl (fun j hj => by rcases (show j = 0 ∨ j = 1 ∨ j = 2 by omega) with rfl | rfl | rfl <;> rfl) (Nat.le_of_ble_eq_true rfl) (Nat.le_of_ble_eq_true rfl) d_9_1_86 (fun q84 H w85 hu86 hn87 hN V => ?_)
  have hn11 : w85[52]? = some (q84, .inr (1, [.null, .int 0, .int 0])) := hn87
  replace hO0 := (hu86 _ (q_pd 40 52 rfl)).trans hO0
  replace hn0 := (hu86 _ (q_pd 41 52 rfl)).trans hn0
  replace hn1 := (hu86 _ (q_pd 42 52 rfl)).trans hn1
  replace hn2 := (hu86 _ (q_pd 43 52 rfl)).trans hn2
  replace hn3 := (hu86 _ (q_pd 44 52 rfl)).trans hn3
  replace hn4 := (hu86 _ (q_pd 45 52 rfl)).trans hn4
  replace hn5 := (hu86 _ (q_pd 46 52 rfl)).trans hn5
  replace hn6 := (hu86 _ (q_pd 47 52 rfl)).trans hn6
  replace hn7 := (hu86 _ (q_pd 48 52 rfl)).trans hn7
  replace hn8 := (hu86 _ (q_pd 49 52 rfl)).trans hn8
  replace hn9 := (hu86 _ (q_pd 50 52 rfl)).trans hn9
  replace hn10 := (hu86 _ (q_pd 51 52 rfl)).trans hn10
  replace hF := q_us hF hu86 (.tail _ (.tail _ (.tail _ (.tail _ (.tail _ (.tail _ (.tail _ (.tail _ (.tail _ (.tail _ (.tail _ (.tail _ (.head _)))))))))))))
  replace hN : w85.length = 53 := hN
  refine lv_dup hx hb d_9_1_89 rfl ?_
  refine lv_bipush (v := 64) hx hb d_9_1_90 (by decide) ?_
  refine q_gov V (q_runI (As := [.int 64]) (rest := [.ref q84, .int 2, .ref q22]) (d := 2) (mc := 1) (ms := 8) C0 V rfl LI_Pri_28 (c_She_init_4 l D g w85 52 q84 53 hN hn11 _) rfl hl.1 rfl (Nat.le_of_ble_eq_true rfl) ⟨by decide, by decide⟩ ⟨Nat.le_of_ble_eq_true rfl, Nat.le_of_ble_eq_true rfl⟩ d_9_1_92) (fun u89 H locs hp88 V => ?_)
  obtain ⟨q90, hg91, hn11, hq92, hN⟩ := hp88
  replace hO0 := (hg91 _ (q_nc (q_pd 40 52 rfl) (q_nc (q_pd 40 53 rfl) List.not_mem_nil))).trans hO0
  replace hn0 := (hg91 _ (q_nc (q_pd 41 52 rfl) (q_nc (q_pd 41 53 rfl) List.not_mem_nil))).trans hn0
  replace hn1 := (hg91 _ (q_nc (q_pd 42 52 rfl) (q_nc (q_pd 42 53 rfl) List.not_mem_nil))).trans hn1
  replace hn2 := (hg91 _ (q_nc (q_pd 43 52 rfl) (q_nc (q_pd 43 53 rfl) List.not_mem_nil))).trans hn2
  replace hn3 := (hg91 _ (q_nc (q_pd 44 52 rfl) (q_nc (q_pd 44 53 rfl) List.not_mem_nil))).trans hn3
  replace hn4 := (hg91 _ (q_nc (q_pd 45 52 rfl) (q_nc (q_pd 45 53 rfl) List.not_mem_nil))).trans hn4
  replace hn5 := (hg91 _ (q_nc (q_pd 46 52 rfl) (q_nc (q_pd 46 53 rfl) List.not_mem_nil))).trans hn5
  replace hn6 := (hg91 _ (q_nc (q_pd 47 52 rfl) (q_nc (q_pd 47 53 rfl) List.not_mem_nil))).trans hn6
  replace hn7 := (hg91 _ (q_nc (q_pd 48 52 rfl) (q_nc (q_pd 48 53 rfl) List.not_mem_nil))).trans hn7
  replace hn8 := (hg91 _ (q_nc (q_pd 49 52 rfl) (q_nc (q_pd 49 53 rfl) List.not_mem_nil))).trans hn8
  replace hn9 := (hg91 _ (q_nc (q_pd 50 52 rfl) (q_nc (q_pd 50 53 rfl) List.not_mem_nil))).trans hn9
  replace hn10 := (hg91 _ (q_nc (q_pd 51 52 rfl) (q_nc (q_pd 51 53 rfl) List.not_mem_nil))).trans hn10
  replace hF := q_uc hF hg91 (q_sc (.tail _ (.tail _ (.tail _ (.tail _ (.tail _ (.tail _ (.tail _ (.tail _ (.tail _ (.tail _ (.tail _ (.tail _ (.head _))))))))))))) (q_sc (.tail _ (.tail _ (.tail _ (.tail _ (.tail _ (.tail _ (.tail _ (.tail _ (.tail _ (.tail _ (.tail _ (.tail _ (.tail _ (.head _)))))))))))))) (fun _ h => absurd h List.not_mem_nil)))
  have hn12 : u89[53]? = some (q90, .inl (g 1, 8, .inr (.inl (fun _ => 0)))) := hq92
  replace hN : u89.length = 54 := hN
  have ho93 := hn3
  refine q_aast (t := 6) (ci := 1) (i9 := 2) C0 V hn3 rfl hn11 rfl (by decide) (by decide) d_9_1_95 (fun H locs w94 hu95 hn3 V => ?_)
  replace hn3 : w94[44]? = some (q22, .inl (g 6, 9, .inr (.inr (.inr (.inr (va_up (va_up (va_up (fun _ => none) 0 (some q58)) 1 (some q71)) 2 (some q84))))))) := hn3
  replace hN : w94.length = 54 := (q_len1 hu95 hn3 ho93).trans hN
  replace hO0 := (hu95 _ (q_pd 40 44 rfl)).trans hO0
  replace hn0 := (hu95 _ (q_pd 41 44 rfl)).trans hn0
  replace hn1 := (hu95 _ (q_pd 42 44 rfl)).trans hn1
  replace hn2 := (hu95 _ (q_pd 43 44 rfl)).trans hn2
  replace hn4 := (hu95 _ (q_pd 45 44 rfl)).trans hn4
  replace hn5 := (hu95 _ (q_pd 46 44 rfl)).trans hn5
  replace hn6 := (hu95 _ (q_pd 47 44 rfl)).trans hn6
  replace hn7 := (hu95 _ (q_pd 48 44 rfl)).trans hn7
  replace hn8 := (hu95 _ (q_pd 49 44 rfl)).trans hn8
  replace hn9 := (hu95 _ (q_pd 50 44 rfl)).trans hn9
  replace hn10 := (hu95 _ (q_pd 51 44 rfl)).trans hn10
  replace hn11 := (hu95 _ (q_pd 52 44 rfl)).trans hn11
  replace hn12 := (hu95 _ (q_pd 53 44 rfl)).trans hn12
  replace hF := q_us hF hu95 (.tail _ (.tail _ (.tail _ (.tail _ (.head _)))))
  refine lv_iinc (v := 3) (lv' := [(3, .int 3), (0, .ref qO0), (1, .ref qO1), (2, .ref qO2)]) hx hb d_9_1_96 hl (k := 0) rfl (by decide) (by decide) rfl (fun ls hl => ?_)
  refine lv_goto (tgt := 75) hx hb d_9_1_99 (by decide) ?_
  refine lv_iload_n hx hb d_9_1_75 rfl (lv_at hl 0 rfl) ?_
  refine lv_bipush (v := 9) hx hb d_9_1_76 (by decide) ?_
  refine lv_icmp_ge (tgt := 102) hx hb d_9_1_78 (by decide) (fun c96 => absurd c96 (by decide)) (fun c96 => ?_)
  refine lv_aload_n hx hb d_9_1_81 rfl (lv_at hl 1 rfl) ?_
  refine q_get (ci := 11) (j := 4) (v := .ref q22) C0 V i_Pri rfl rfl hO0 (by decide) w_389 rfl d_9_1_82 ?_
  refine lv_iload_n hx hb d_9_1_85 rfl (lv_at hl 0 rfl) ?_
  refine q_new (ci := 1) (fs := [.null, .int 0, .int 0]) C0 V hN i_She o_She rfl w_345 w_47 w_2 rfl (fun j hj => by rcases (show j = 0 ∨ j = 1 ∨ j = 2 by omega) with rfl | rfl | rfl <;> rfl) (Nat.le_of_ble_eq_true rfl) (Nat.le_of_ble_eq_true rfl) d_9_1_86 (fun q97 H w98 hu99 hn100 hN V => ?_)
  have hn13 : w98[54]? = some (q97, .inr (1, [.null, .int 0, .int 0])) := hn100
  replace hO0 := (hu99 _ (q_pd 40 54 rfl)).trans hO0
  replace hn0 := (hu99 _ (q_pd 41 54 rfl)).trans hn0
  replace hn1 := (hu99 _ (q_pd 42 54 rfl)).trans hn1
  replace hn2 := (hu99 _ (q_pd 43 54 rfl)).trans hn2
  replace hn3 := (hu99 _ (q_pd 44 54 rfl)).trans hn3
  replace hn4 := (hu99 _ (q_pd 45 54 rfl)).trans hn4
  replace hn5 := (hu99 _ (q_pd 46 54 rfl)).trans hn5
  replace hn6 := (hu99 _ (q_pd 47 54 rfl)).trans hn6
  replace hn7 := (hu99 _ (q_pd 48 54 rfl)).trans hn7
  replace hn8 := (hu99 _ (q_pd 49 54 rfl)).trans hn8
  replace hn9 := (hu99 _ (q_pd 50 54 rfl)).trans hn9
  replace hn10 := (hu99 _ (q_pd 51 54 rfl)).trans hn10
  replace hn11 := (hu99 _ (q_pd 52 54 rfl)).trans hn11
  replace hn12 := (hu99 _ (q_pd 53 54 rfl)).trans hn12
  replace hF := q_us hF hu99 (.tail _ (.tail _ (.tail _ (.tail _ (.tail _ (.tail _ (.tail _ (.tail _ (.tail _ (.tail _ (.tail _ (.tail _ (.tail _ (.tail _ (.head _)))))))))))))))
  replace hN : w98.length = 55 := hN
  refine lv_dup hx hb d_9_1_89 rfl ?_
  refine lv_bipush (v := 64) hx hb d_9_1_90 (by decide) ?_
  refine q_gov V (q_runI (As := [.int 64]) (rest := [.ref q97, .int 3, .ref q22]) (d := 2) (mc := 1) (ms := 8) C0 V rfl LI_Pri_28 (c_She_init_4 l D g w98 54 q97 55 hN hn13 _) rfl hl.1 rfl (Nat.le_of_ble_eq_true rfl) ⟨by decide, by decide⟩ ⟨Nat.le_of_ble_eq_true rfl, Nat.le_of_ble_eq_true rfl⟩ d_9_1_92) (fun u102 H locs hp101 V => ?_)
  obtain ⟨q103, hg104, hn13, hq105, hN⟩ := hp101
  replace hO0 := (hg104 _ (q_nc (q_pd 40 54 rfl) (q_nc (q_pd 40 55 rfl) List.not_mem_nil))).trans hO0
  replace hn0 := (hg104 _ (q_nc (q_pd 41 54 rfl) (q_nc (q_pd 41 55 rfl) List.not_mem_nil))).trans hn0
  replace hn1 := (hg104 _ (q_nc (q_pd 42 54 rfl) (q_nc (q_pd 42 55 rfl) List.not_mem_nil))).trans hn1
  replace hn2 := (hg104 _ (q_nc (q_pd 43 54 rfl) (q_nc (q_pd 43 55 rfl) List.not_mem_nil))).trans hn2
  replace hn3 := (hg104 _ (q_nc (q_pd 44 54 rfl) (q_nc (q_pd 44 55 rfl) List.not_mem_nil))).trans hn3
  replace hn4 := (hg104 _ (q_nc (q_pd 45 54 rfl) (q_nc (q_pd 45 55 rfl) List.not_mem_nil))).trans hn4
  replace hn5 := (hg104 _ (q_nc (q_pd 46 54 rfl) (q_nc (q_pd 46 55 rfl) List.not_mem_nil))).trans hn5
  replace hn6 := (hg104 _ (q_nc (q_pd 47 54 rfl) (q_nc (q_pd 47 55 rfl) List.not_mem_nil))).trans hn6
  replace hn7 := (hg104 _ (q_nc (q_pd 48 54 rfl) (q_nc (q_pd 48 55 rfl) List.not_mem_nil))).trans hn7
  replace hn8 := (hg104 _ (q_nc (q_pd 49 54 rfl) (q_nc (q_pd 49 55 rfl) List.not_mem_nil))).trans hn8
  replace hn9 := (hg104 _ (q_nc (q_pd 50 54 rfl) (q_nc (q_pd 50 55 rfl) List.not_mem_nil))).trans hn9
  replace hn10 := (hg104 _ (q_nc (q_pd 51 54 rfl) (q_nc (q_pd 51 55 rfl) List.not_mem_nil))).trans hn10
  replace hn11 := (hg104 _ (q_nc (q_pd 52 54 rfl) (q_nc (q_pd 52 55 rfl) List.not_mem_nil))).trans hn11
  replace hn12 := (hg104 _ (q_nc (q_pd 53 54 rfl) (q_nc (q_pd 53 55 rfl) List.not_mem_nil))).trans hn12
  replace hF := q_uc hF hg104 (q_sc (.tail _ (.tail _ (.tail _ (.tail _ (.tail _ (.tail _ (.tail _ (.tail _ (.tail _ (.tail _ (.tail _ (.tail _ (.tail _ (.tail _ (.head _))))))))))))))) (q_sc (.tail _ (.tail _ (.tail _ (.tail _ (.tail _ (.tail _ (.tail _ (.tail _ (.tail _ (.tail _ (.tail _ (.tail _ (.tail _ (.tail _ (.tail _ (.head _)))))))))))))))) (fun _ h => absurd h List.not_mem_nil)))
  have hn14 : u102[55]? = some (q103, .inl (g 1, 8, .inr (.inl (fun _ => 0)))) := hq105
  replace hN : u102.length = 56 := hN
  have ho106 := hn3
  refine q_aast (t := 6) (ci := 1) (i9 := 3) C0 V hn3 rfl hn13 rfl (by decide) (by decide) d_9_1_95 (fun H locs w107 hu108 hn3 V => ?_)
  replace hn3 : w107[44]? = some (q22, .inl (g 6, 9, .inr (.inr (.inr (.inr (va_up (va_up (va_up (va_up (fun _ => none) 0 (some q58)) 1 (some q71)) 2 (some q84)) 3 (some q97))))))) := hn3
  replace hN : w107.length = 56 := (q_len1 hu108 hn3 ho106).trans hN
  replace hO0 := (hu108 _ (q_pd 40 44 rfl)).trans hO0
  replace hn0 := (hu108 _ (q_pd 41 44 rfl)).trans hn0
  replace hn1 := (hu108 _ (q_pd 42 44 rfl)).trans hn1
  replace hn2 := (hu108 _ (q_pd 43 44 rfl)).trans hn2
  replace hn4 := (hu108 _ (q_pd 45 44 rfl)).trans hn4
  replace hn5 := (hu108 _ (q_pd 46 44 rfl)).trans hn5
  replace hn6 := (hu108 _ (q_pd 47 44 rfl)).trans hn6
  replace hn7 := (hu108 _ (q_pd 48 44 rfl)).trans hn7
  replace hn8 := (hu108 _ (q_pd 49 44 rfl)).trans hn8
  replace hn9 := (hu108 _ (q_pd 50 44 rfl)).trans hn9
  replace hn10 := (hu108 _ (q_pd 51 44 rfl)).trans hn10
  replace hn11 := (hu108 _ (q_pd 52 44 rfl)).trans hn11
  replace hn12 := (hu108 _ (q_pd 53 44 rfl)).trans hn12
  replace hn13 := (hu108 _ (q_pd 54 44 rfl)).trans hn13
  replace hn14 := (hu108 _ (q_pd 55 44 rfl)).trans hn14
  replace hF := q_us hF hu108 (.tail _ (.tail _ (.tail _ (.tail _ (.head _)))))
  refine lv_iinc (v := 4) (lv' := [(3, .int 4), (0, .ref qO0), (1, .ref qO1), (2, .ref qO2)]) hx hb d_9_1_96 hl (k := 0) rfl (by decide) (by decide) rfl (fun ls hl => ?_)
  refine lv_goto (tgt := 75) hx hb d_9_1_99 (by decide) ?_
  refine lv_iload_n hx hb d_9_1_75 rfl (lv_at hl 0 rfl) ?_
  refine lv_bipush (v := 9) hx hb d_9_1_76 (by decide) ?_
  refine lv_icmp_ge (tgt := 102) hx hb d_9_1_78 (by decide) (fun c109 => absurd c109 (by decide)) (fun c109 => ?_)
  refine lv_aload_n hx hb d_9_1_81 rfl (lv_at hl 1 rfl) ?_
  refine q_get (ci := 11) (j := 4) (v := .ref q22) C0 V i_Pri rfl rfl hO0 (by decide) w_389 rfl d_9_1_82 ?_
  refine lv_iload_n hx hb d_9_1_85 rfl (lv_at hl 0 rfl) ?_
  refine q_new (ci := 1) (fs := [.null, .int 0, .int 0]) C0 V hN i_She o_She rfl w_345 w_47 w_2 rfl (fun j hj => by rcases (show j = 0 ∨ j = 1 ∨ j = 2 by omega) with rfl | rfl | rfl <;> rfl) (Nat.le_of_ble_eq_true rfl) (Nat.le_of_ble_eq_true rfl) d_9_1_86 (fun q110 H w111 hu112 hn113 hN V => ?_)
  have hn15 : w111[56]? = some (q110, .inr (1, [.null, .int 0, .int 0])) := hn113
  replace hO0 := (hu112 _ (q_pd 40 56 rfl)).trans hO0
  replace hn0 := (hu112 _ (q_pd 41 56 rfl)).trans hn0
  replace hn1 := (hu112 _ (q_pd 42 56 rfl)).trans hn1
  replace hn2 := (hu112 _ (q_pd 43 56 rfl)).trans hn2
  replace hn3 := (hu112 _ (q_pd 44 56 rfl)).trans hn3
  replace hn4 := (hu112 _ (q_pd 45 56 rfl)).trans hn4
  replace hn5 := (hu112 _ (q_pd 46 56 rfl)).trans hn5
  replace hn6 := (hu112 _ (q_pd 47 56 rfl)).trans hn6
  replace hn7 := (hu112 _ (q_pd 48 56 rfl)).trans hn7
  replace hn8 := (hu112 _ (q_pd 49 56 rfl)).trans hn8
  replace hn9 := (hu112 _ (q_pd 50 56 rfl)).trans hn9
  replace hn10 := (hu112 _ (q_pd 51 56 rfl)).trans hn10
  replace hn11 := (hu112 _ (q_pd 52 56 rfl)).trans hn11
  replace hn12 := (hu112 _ (q_pd 53 56 rfl)).trans hn12
  replace hn13 := (hu112 _ (q_pd 54 56 rfl)).trans hn13
  replace hn14 := (hu112 _ (q_pd 55 56 rfl)).trans hn14
  replace hF := q_us hF hu112 (.tail _ (.tail _ (.tail _ (.tail _ (.tail _ (.tail _ (.tail _ (.tail _ (.tail _ (.tail _ (.tail _ (.tail _ (.tail _ (.tail _ (.tail _ (.tail _ (.head _)))))))))))))))))
  replace hN : w111.length = 57 := hN
  refine lv_dup hx hb d_9_1_89 rfl ?_
  refine lv_bipush (v := 64) hx hb d_9_1_90 (by decide) ?_
  refine q_gov V (q_runI (As := [.int 64]) (rest := [.ref q110, .int 4, .ref q22]) (d := 2) (mc := 1) (ms := 8) C0 V rfl LI_Pri_28 (c_She_init_4 l D g w111 56 q110 57 hN hn15 _) rfl hl.1 rfl (Nat.le_of_ble_eq_true rfl) ⟨by decide, by decide⟩ ⟨Nat.le_of_ble_eq_true rfl, Nat.le_of_ble_eq_true rfl⟩ d_9_1_92) (fun u115 H locs hp114 V => ?_)
  obtain ⟨q116, hg117, hn15, hq118, hN⟩ := hp114
  replace hO0 := (hg117 _ (q_nc (q_pd 40 56 rfl) (q_nc (q_pd 40 57 rfl) List.not_mem_nil))).trans hO0
  replace hn0 := (hg117 _ (q_nc (q_pd 41 56 rfl) (q_nc (q_pd 41 57 rfl) List.not_mem_nil))).trans hn0
  replace hn1 := (hg117 _ (q_nc (q_pd 42 56 rfl) (q_nc (q_pd 42 57 rfl) List.not_mem_nil))).trans hn1
  replace hn2 := (hg117 _ (q_nc (q_pd 43 56 rfl) (q_nc (q_pd 43 57 rfl) List.not_mem_nil))).trans hn2
  replace hn3 := (hg117 _ (q_nc (q_pd 44 56 rfl) (q_nc (q_pd 44 57 rfl) List.not_mem_nil))).trans hn3
  replace hn4 := (hg117 _ (q_nc (q_pd 45 56 rfl) (q_nc (q_pd 45 57 rfl) List.not_mem_nil))).trans hn4
  replace hn5 := (hg117 _ (q_nc (q_pd 46 56 rfl) (q_nc (q_pd 46 57 rfl) List.not_mem_nil))).trans hn5
  replace hn6 := (hg117 _ (q_nc (q_pd 47 56 rfl) (q_nc (q_pd 47 57 rfl) List.not_mem_nil))).trans hn6
  replace hn7 := (hg117 _ (q_nc (q_pd 48 56 rfl) (q_nc (q_pd 48 57 rfl) List.not_mem_nil))).trans hn7
  replace hn8 := (hg117 _ (q_nc (q_pd 49 56 rfl) (q_nc (q_pd 49 57 rfl) List.not_mem_nil))).trans hn8
  replace hn9 := (hg117 _ (q_nc (q_pd 50 56 rfl) (q_nc (q_pd 50 57 rfl) List.not_mem_nil))).trans hn9
  replace hn10 := (hg117 _ (q_nc (q_pd 51 56 rfl) (q_nc (q_pd 51 57 rfl) List.not_mem_nil))).trans hn10
  replace hn11 := (hg117 _ (q_nc (q_pd 52 56 rfl) (q_nc (q_pd 52 57 rfl) List.not_mem_nil))).trans hn11
  replace hn12 := (hg117 _ (q_nc (q_pd 53 56 rfl) (q_nc (q_pd 53 57 rfl) List.not_mem_nil))).trans hn12
  replace hn13 := (hg117 _ (q_nc (q_pd 54 56 rfl) (q_nc (q_pd 54 57 rfl) List.not_mem_nil))).trans hn13
  replace hn14 := (hg117 _ (q_nc (q_pd 55 56 rfl) (q_nc (q_pd 55 57 rfl) List.not_mem_nil))).trans hn14
  replace hF := q_uc hF hg117 (q_sc (.tail _ (.tail _ (.tail _ (.tail _ (.tail _ (.tail _ (.tail _ (.tail _ (.tail _ (.tail _ (.tail _ (.tail _ (.tail _ (.tail _ (.tail _ (.tail _ (.head _))))))))))))))))) (q_sc (.tail _ (.tail _ (.tail _ (.tail _ (.tail _ (.tail _ (.tail _ (.tail _ (.tail _ (.tail _ (.tail _ (.tail _ (.tail _ (.tail _ (.tail _ (.tail _ (.tail _ (.head _)))))))))))))))))) (fun _ h => absurd h List.not_mem_nil)))
  have hn16 : u115[57]? = some (q116, .inl (g 1, 8, .inr (.inl (fun _ => 0)))) := hq118
  replace hN : u115.length = 58 := hN
  have ho119 := hn3
  refine q_aast (t := 6) (ci := 1) (i9 := 4) C0 V hn3 rfl hn15 rfl (by decide) (by decide) d_9_1_95 (fun H locs w120 hu121 hn3 V => ?_)
  replace hn3 : w120[44]? = some (q22, .inl (g 6, 9, .inr (.inr (.inr (.inr (va_up (va_up (va_up (va_up (va_up (fun _ => none) 0 (some q58)) 1 (some q71)) 2 (some q84)) 3 (some q97)) 4 (some q110))))))) := hn3
  replace hN : w120.length = 58 := (q_len1 hu121 hn3 ho119).trans hN
  replace hO0 := (hu121 _ (q_pd 40 44 rfl)).trans hO0
  replace hn0 := (hu121 _ (q_pd 41 44 rfl)).trans hn0
  replace hn1 := (hu121 _ (q_pd 42 44 rfl)).trans hn1
  replace hn2 := (hu121 _ (q_pd 43 44 rfl)).trans hn2
  replace hn4 := (hu121 _ (q_pd 45 44 rfl)).trans hn4
  replace hn5 := (hu121 _ (q_pd 46 44 rfl)).trans hn5
  replace hn6 := (hu121 _ (q_pd 47 44 rfl)).trans hn6
  replace hn7 := (hu121 _ (q_pd 48 44 rfl)).trans hn7
  replace hn8 := (hu121 _ (q_pd 49 44 rfl)).trans hn8
  replace hn9 := (hu121 _ (q_pd 50 44 rfl)).trans hn9
  replace hn10 := (hu121 _ (q_pd 51 44 rfl)).trans hn10
  replace hn11 := (hu121 _ (q_pd 52 44 rfl)).trans hn11
  replace hn12 := (hu121 _ (q_pd 53 44 rfl)).trans hn12
  replace hn13 := (hu121 _ (q_pd 54 44 rfl)).trans hn13
  replace hn14 := (hu121 _ (q_pd 55 44 rfl)).trans hn14
  replace hn15 := (hu121 _ (q_pd 56 44 rfl)).trans hn15
  replace hn16 := (hu121 _ (q_pd 57 44 rfl)).trans hn16
  replace hF := q_us hF hu121 (.tail _ (.tail _ (.tail _ (.tail _ (.head _)))))
  refine lv_iinc (v := 5) (lv' := [(3, .int 5), (0, .ref qO0), (1, .ref qO1), (2, .ref qO2)]) hx hb d_9_1_96 hl (k := 0) rfl (by decide) (by decide) rfl (fun ls hl => ?_)
  refine lv_goto (tgt := 75) hx hb d_9_1_99 (by decide) ?_
  refine lv_iload_n hx hb d_9_1_75 rfl (lv_at hl 0 rfl) ?_
  refine lv_bipush (v := 9) hx hb d_9_1_76 (by decide) ?_
  refine lv_icmp_ge (tgt := 102) hx hb d_9_1_78 (by decide) (fun c122 => absurd c122 (by decide)) (fun c122 => ?_)
  refine lv_aload_n hx hb d_9_1_81 rfl (lv_at hl 1 rfl) ?_
  refine q_get (ci := 11) (j := 4) (v := .ref q22) C0 V i_Pri rfl rfl hO0 (by decide) w_389 rfl d_9_1_82 ?_
  refine lv_iload_n hx hb d_9_1_85 rfl (lv_at hl 0 rfl) ?_
  refine q_new (ci := 1) (fs := [.null, .int 0, .int 0]) C0 V hN i_She o_She rfl w_345 w_47 w_2 rfl (fun j hj => by rcases (show j = 0 ∨ j = 1 ∨ j = 2 by omega) with rfl | rfl | rfl <;> rfl) (Nat.le_of_ble_eq_true rfl) (Nat.le_of_ble_eq_true rfl) d_9_1_86 (fun q123 H w124 hu125 hn126 hN V => ?_)
  have hn17 : w124[58]? = some (q123, .inr (1, [.null, .int 0, .int 0])) := hn126
  replace hO0 := (hu125 _ (q_pd 40 58 rfl)).trans hO0
  replace hn0 := (hu125 _ (q_pd 41 58 rfl)).trans hn0
  replace hn1 := (hu125 _ (q_pd 42 58 rfl)).trans hn1
  replace hn2 := (hu125 _ (q_pd 43 58 rfl)).trans hn2
  replace hn3 := (hu125 _ (q_pd 44 58 rfl)).trans hn3
  replace hn4 := (hu125 _ (q_pd 45 58 rfl)).trans hn4
  replace hn5 := (hu125 _ (q_pd 46 58 rfl)).trans hn5
  replace hn6 := (hu125 _ (q_pd 47 58 rfl)).trans hn6
  replace hn7 := (hu125 _ (q_pd 48 58 rfl)).trans hn7
  replace hn8 := (hu125 _ (q_pd 49 58 rfl)).trans hn8
  replace hn9 := (hu125 _ (q_pd 50 58 rfl)).trans hn9
  replace hn10 := (hu125 _ (q_pd 51 58 rfl)).trans hn10
  replace hn11 := (hu125 _ (q_pd 52 58 rfl)).trans hn11
  replace hn12 := (hu125 _ (q_pd 53 58 rfl)).trans hn12
  replace hn13 := (hu125 _ (q_pd 54 58 rfl)).trans hn13
  replace hn14 := (hu125 _ (q_pd 55 58 rfl)).trans hn14
  replace hn15 := (hu125 _ (q_pd 56 58 rfl)).trans hn15
  replace hn16 := (hu125 _ (q_pd 57 58 rfl)).trans hn16
  replace hF := q_us hF hu125 (.tail _ (.tail _ (.tail _ (.tail _ (.tail _ (.tail _ (.tail _ (.tail _ (.tail _ (.tail _ (.tail _ (.tail _ (.tail _ (.tail _ (.tail _ (.tail _ (.tail _ (.tail _ (.head _)))))))))))))))))))
  replace hN : w124.length = 59 := hN
  refine lv_dup hx hb d_9_1_89 rfl ?_
  refine lv_bipush (v := 64) hx hb d_9_1_90 (by decide) ?_
  refine q_gov V (q_runI (As := [.int 64]) (rest := [.ref q123, .int 5, .ref q22]) (d := 2) (mc := 1) (ms := 8) C0 V rfl LI_Pri_28 (c_She_init_4 l D g w124 58 q123 59 hN hn17 _) rfl hl.1 rfl (Nat.le_of_ble_eq_true rfl) ⟨by decide, by decide⟩ ⟨Nat.le_of_ble_eq_true rfl, Nat.le_of_ble_eq_true rfl⟩ d_9_1_92) (fun u128 H locs hp127 V => ?_)
  obtain ⟨q129, hg130, hn17, hq131, hN⟩ := hp127
  replace hO0 := (hg130 _ (q_nc (q_pd 40 58 rfl) (q_nc (q_pd 40 59 rfl) List.not_mem_nil))).trans hO0
  replace hn0 := (hg130 _ (q_nc (q_pd 41 58 rfl) (q_nc (q_pd 41 59 rfl) List.not_mem_nil))).trans hn0
  replace hn1 := (hg130 _ (q_nc (q_pd 42 58 rfl) (q_nc (q_pd 42 59 rfl) List.not_mem_nil))).trans hn1
  replace hn2 := (hg130 _ (q_nc (q_pd 43 58 rfl) (q_nc (q_pd 43 59 rfl) List.not_mem_nil))).trans hn2
  replace hn3 := (hg130 _ (q_nc (q_pd 44 58 rfl) (q_nc (q_pd 44 59 rfl) List.not_mem_nil))).trans hn3
  replace hn4 := (hg130 _ (q_nc (q_pd 45 58 rfl) (q_nc (q_pd 45 59 rfl) List.not_mem_nil))).trans hn4
  replace hn5 := (hg130 _ (q_nc (q_pd 46 58 rfl) (q_nc (q_pd 46 59 rfl) List.not_mem_nil))).trans hn5
  replace hn6 := (hg130 _ (q_nc (q_pd 47 58 rfl) (q_nc (q_pd 47 59 rfl) List.not_mem_nil))).trans hn6
  replace hn7 := (hg130 _ (q_nc (q_pd 48 58 rfl) (q_nc (q_pd 48 59 rfl) List.not_mem_nil))).trans hn7
  replace hn8 := (hg130 _ (q_nc (q_pd 49 58 rfl) (q_nc (q_pd 49 59 rfl) List.not_mem_nil))).trans hn8
  replace hn9 := (hg130 _ (q_nc (q_pd 50 58 rfl) (q_nc (q_pd 50 59 rfl) List.not_mem_nil))).trans hn9
  replace hn10 := (hg130 _ (q_nc (q_pd 51 58 rfl) (q_nc (q_pd 51 59 rfl) List.not_mem_nil))).trans hn10
  replace hn11 := (hg130 _ (q_nc (q_pd 52 58 rfl) (q_nc (q_pd 52 59 rfl) List.not_mem_nil))).trans hn11
  replace hn12 := (hg130 _ (q_nc (q_pd 53 58 rfl) (q_nc (q_pd 53 59 rfl) List.not_mem_nil))).trans hn12
  replace hn13 := (hg130 _ (q_nc (q_pd 54 58 rfl) (q_nc (q_pd 54 59 rfl) List.not_mem_nil))).trans hn13
  replace hn14 := (hg130 _ (q_nc (q_pd 55 58 rfl) (q_nc (q_pd 55 59 rfl) List.not_mem_nil))).trans hn14
  replace hn15 := (hg130 _ (q_nc (q_pd 56 58 rfl) (q_nc (q_pd 56 59 rfl) List.not_mem_nil))).trans hn15
  replace hn16 := (hg130 _ (q_nc (q_pd 57 58 rfl) (q_nc (q_pd 57 59 rfl) List.not_mem_nil))).trans hn16
  replace hF := q_uc hF hg130 (q_sc (.tail _ (.tail _ (.tail _ (.tail _ (.tail _ (.tail _ (.tail _ (.tail _ (.tail _ (.tail _ (.tail _ (.tail _ (.tail _ (.tail _ (.tail _ (.tail _ (.tail _ (.tail _ (.head _))))))))))))))))))) (q_sc (.tail _ (.tail _ (.tail _ (.tail _ (.tail _ (.tail _ (.tail _ (.tail _ (.tail _ (.tail _ (.tail _ (.tail _ (.tail _ (.tail _ (.tail _ (.tail _ (.tail _ (.tail _ (.tail _ (.head _)))))))))))))))))))) (fun _ h => absurd h List.not_mem_nil)))
  have hn18 : u128[59]? = some (q129, .inl (g 1, 8, .inr (.inl (fun _ => 0)))) := hq131
  replace hN : u128.length = 60 := hN
  have ho132 := hn3
  refine q_aast (t := 6) (ci := 1) (i9 := 5) C0 V hn3 rfl hn17 rfl (by decide) (by decide) d_9_1_95 (fun H locs w133 hu134 hn3 V => ?_)
  replace hn3 : w133[44]? = some (q22, .inl (g 6, 9, .inr (.inr (.inr (.inr (va_up (va_up (va_up (va_up (va_up (va_up (fun _ => none) 0 (some q58)) 1 (some q71)) 2 (some q84)) 3 (some q97)) 4 (some q110)) 5 (some q123))))))) := hn3
  replace hN : w133.length = 60 := (q_len1 hu134 hn3 ho132).trans hN
  replace hO0 := (hu134 _ (q_pd 40 44 rfl)).trans hO0
  replace hn0 := (hu134 _ (q_pd 41 44 rfl)).trans hn0
  replace hn1 := (hu134 _ (q_pd 42 44 rfl)).trans hn1
  replace hn2 := (hu134 _ (q_pd 43 44 rfl)).trans hn2
  replace hn4 := (hu134 _ (q_pd 45 44 rfl)).trans hn4
  replace hn5 := (hu134 _ (q_pd 46 44 rfl)).trans hn5
  replace hn6 := (hu134 _ (q_pd 47 44 rfl)).trans hn6
  replace hn7 := (hu134 _ (q_pd 48 44 rfl)).trans hn7
  replace hn8 := (hu134 _ (q_pd 49 44 rfl)).trans hn8
  replace hn9 := (hu134 _ (q_pd 50 44 rfl)).trans hn9
  replace hn10 := (hu134 _ (q_pd 51 44 rfl)).trans hn10
  replace hn11 := (hu134 _ (q_pd 52 44 rfl)).trans hn11
  replace hn12 := (hu134 _ (q_pd 53 44 rfl)).trans hn12
  replace hn13 := (hu134 _ (q_pd 54 44 rfl)).trans hn13
  replace hn14 := (hu134 _ (q_pd 55 44 rfl)).trans hn14
  replace hn15 := (hu134 _ (q_pd 56 44 rfl)).trans hn15
  replace hn16 := (hu134 _ (q_pd 57 44 rfl)).trans hn16
  replace hn17 := (hu134 _ (q_pd 58 44 rfl)).trans hn17
  replace hn18 := (hu134 _ (q_pd 59 44 rfl)).trans hn18
  replace hF := q_us hF hu134 (.tail _ (.tail _ (.tail _ (.tail _ (.head _)))))
  refine lv_iinc (v := 6) (lv' := [(3, .int 6), (0, .ref qO0), (1, .ref qO1), (2, .ref qO2)]) hx hb d_9_1_96 hl (k := 0) rfl (by decide) (by decide) rfl (fun ls hl => ?_)
  refine lv_goto (tgt := 75) hx hb d_9_1_99 (by decide) ?_
  refine lv_iload_n hx hb d_9_1_75 rfl (lv_at hl 0 rfl) ?_
  refine lv_bipush (v := 9) hx hb d_9_1_76 (by decide) ?_
  refine lv_icmp_ge (tgt := 102) hx hb d_9_1_78 (by decide) (fun c135 => absurd c135 (by decide)) (fun c135 => ?_)
  refine lv_aload_n hx hb d_9_1_81 rfl (lv_at hl 1 rfl) ?_
  refine q_get (ci := 11) (j := 4) (v := .ref q22) C0 V i_Pri rfl rfl hO0 (by decide) w_389 rfl d_9_1_82 ?_
  refine lv_iload_n hx hb d_9_1_85 rfl (lv_at hl 0 rfl) ?_
  refine q_new (ci := 1) (fs := [.null, .int 0, .int 0]) C0 V hN i_She o_She rfl w_345 w_47 w_2 rfl (fun j hj => by rcases (show j = 0 ∨ j = 1 ∨ j = 2 by omega) with rfl | rfl | rfl <;> rfl) (Nat.le_of_ble_eq_true rfl) (Nat.le_of_ble_eq_true rfl) d_9_1_86 (fun q136 H w137 hu138 hn139 hN V => ?_)
  have hn19 : w137[60]? = some (q136, .inr (1, [.null, .int 0, .int 0])) := hn139
  replace hO0 := (hu138 _ (q_pd 40 60 rfl)).trans hO0
  replace hn0 := (hu138 _ (q_pd 41 60 rfl)).trans hn0
  replace hn1 := (hu138 _ (q_pd 42 60 rfl)).trans hn1
  replace hn2 := (hu138 _ (q_pd 43 60 rfl)).trans hn2
  replace hn3 := (hu138 _ (q_pd 44 60 rfl)).trans hn3
  replace hn4 := (hu138 _ (q_pd 45 60 rfl)).trans hn4
  replace hn5 := (hu138 _ (q_pd 46 60 rfl)).trans hn5
  replace hn6 := (hu138 _ (q_pd 47 60 rfl)).trans hn6
  replace hn7 := (hu138 _ (q_pd 48 60 rfl)).trans hn7
  replace hn8 := (hu138 _ (q_pd 49 60 rfl)).trans hn8
  replace hn9 := (hu138 _ (q_pd 50 60 rfl)).trans hn9
  replace hn10 := (hu138 _ (q_pd 51 60 rfl)).trans hn10
  replace hn11 := (hu138 _ (q_pd 52 60 rfl)).trans hn11
  replace hn12 := (hu138 _ (q_pd 53 60 rfl)).trans hn12
  replace hn13 := (hu138 _ (q_pd 54 60 rfl)).trans hn13
  replace hn14 := (hu138 _ (q_pd 55 60 rfl)).trans hn14
  replace hn15 := (hu138 _ (q_pd 56 60 rfl)).trans hn15
  replace hn16 := (hu138 _ (q_pd 57 60 rfl)).trans hn16
  replace hn17 := (hu138 _ (q_pd 58 60 rfl)).trans hn17
  replace hn18 := (hu138 _ (q_pd 59 60 rfl)).trans hn18
  replace hF := q_us hF hu138 (.tail _ (.tail _ (.tail _ (.tail _ (.tail _ (.tail _ (.tail _ (.tail _ (.tail _ (.tail _ (.tail _ (.tail _ (.tail _ (.tail _ (.tail _ (.tail _ (.tail _ (.tail _ (.tail _ (.tail _ (.head _)))))))))))))))))))))
  replace hN : w137.length = 61 := hN
  refine lv_dup hx hb d_9_1_89 rfl ?_
  refine lv_bipush (v := 64) hx hb d_9_1_90 (by decide) ?_
  refine q_gov V (q_runI (As := [.int 64]) (rest := [.ref q136, .int 6, .ref q22]) (d := 2) (mc := 1) (ms := 8) C0 V rfl LI_Pri_28 (c_She_init_4 l D g w137 60 q136 61 hN hn19 _) rfl hl.1 rfl (Nat.le_of_ble_eq_true rfl) ⟨by decide, by decide⟩ ⟨Nat.le_of_ble_eq_true rfl, Nat.le_of_ble_eq_true rfl⟩ d_9_1_92) (fun u141 H locs hp140 V => ?_)
  obtain ⟨q142, hg143, hn19, hq144, hN⟩ := hp140
  replace hO0 := (hg143 _ (q_nc (q_pd 40 60 rfl) (q_nc (q_pd 40 61 rfl) List.not_mem_nil))).trans hO0
  replace hn0 := (hg143 _ (q_nc (q_pd 41 60 rfl) (q_nc (q_pd 41 61 rfl) List.not_mem_nil))).trans hn0
  replace hn1 := (hg143 _ (q_nc (q_pd 42 60 rfl) (q_nc (q_pd 42 61 rfl) List.not_mem_nil))).trans hn1
  replace hn2 := (hg143 _ (q_nc (q_pd 43 60 rfl) (q_nc (q_pd 43 61 rfl) List.not_mem_nil))).trans hn2
  replace hn3 := (hg143 _ (q_nc (q_pd 44 60 rfl) (q_nc (q_pd 44 61 rfl) List.not_mem_nil))).trans hn3
  replace hn4 := (hg143 _ (q_nc (q_pd 45 60 rfl) (q_nc (q_pd 45 61 rfl) List.not_mem_nil))).trans hn4
  replace hn5 := (hg143 _ (q_nc (q_pd 46 60 rfl) (q_nc (q_pd 46 61 rfl) List.not_mem_nil))).trans hn5
  replace hn6 := (hg143 _ (q_nc (q_pd 47 60 rfl) (q_nc (q_pd 47 61 rfl) List.not_mem_nil))).trans hn6
  replace hn7 := (hg143 _ (q_nc (q_pd 48 60 rfl) (q_nc (q_pd 48 61 rfl) List.not_mem_nil))).trans hn7
  replace hn8 := (hg143 _ (q_nc (q_pd 49 60 rfl) (q_nc (q_pd 49 61 rfl) List.not_mem_nil))).trans hn8
  replace hn9 := (hg143 _ (q_nc (q_pd 50 60 rfl) (q_nc (q_pd 50 61 rfl) List.not_mem_nil))).trans hn9
  replace hn10 := (hg143 _ (q_nc (q_pd 51 60 rfl) (q_nc (q_pd 51 61 rfl) List.not_mem_nil))).trans hn10
  replace hn11 := (hg143 _ (q_nc (q_pd 52 60 rfl) (q_nc (q_pd 52 61 rfl) List.not_mem_nil))).trans hn11
  replace hn12 := (hg143 _ (q_nc (q_pd 53 60 rfl) (q_nc (q_pd 53 61 rfl) List.not_mem_nil))).trans hn12
  replace hn13 := (hg143 _ (q_nc (q_pd 54 60 rfl) (q_nc (q_pd 54 61 rfl) List.not_mem_nil))).trans hn13
  replace hn14 := (hg143 _ (q_nc (q_pd 55 60 rfl) (q_nc (q_pd 55 61 rfl) List.not_mem_nil))).trans hn14
  replace hn15 := (hg143 _ (q_nc (q_pd 56 60 rfl) (q_nc (q_pd 56 61 rfl) List.not_mem_nil))).trans hn15
  replace hn16 := (hg143 _ (q_nc (q_pd 57 60 rfl) (q_nc (q_pd 57 61 rfl) List.not_mem_nil))).trans hn16
  replace hn17 := (hg143 _ (q_nc (q_pd 58 60 rfl) (q_nc (q_pd 58 61 rfl) List.not_mem_nil))).trans hn17
  replace hn18 := (hg143 _ (q_nc (q_pd 59 60 rfl) (q_nc (q_pd 59 61 rfl) List.not_mem_nil))).trans hn18
  replace hF := q_uc hF hg143 (q_sc (.tail _ (.tail _ (.tail _ (.tail _ (.tail _ (.tail _ (.tail _ (.tail _ (.tail _ (.tail _ (.tail _ (.tail _ (.tail _ (.tail _ (.tail _ (.tail _ (.tail _ (.tail _ (.tail _ (.tail _ (.head _))))))))))))))))))))) (q_sc (.tail _ (.tail _ (.tail _ (.tail _ (.tail _ (.tail _ (.tail _ (.tail _ (.tail _ (.tail _ (.tail _ (.tail _ (.tail _ (.tail _ (.tail _ (.tail _ (.tail _ (.tail _ (.tail _ (.tail _ (.tail _ (.head _)))))))))))))))))))))) (fun _ h => absurd h List.not_mem_nil)))
  have hn20 : u141[61]? = some (q142, .inl (g 1, 8, .inr (.inl (fun _ => 0)))) := hq144
  replace hN : u141.length = 62 := hN
  have ho145 := hn3
  refine q_aast (t := 6) (ci := 1) (i9 := 6) C0 V hn3 rfl hn19 rfl (by decide) (by decide) d_9_1_95 (fun H locs w146 hu147 hn3 V => ?_)
  replace hn3 : w146[44]? = some (q22, .inl (g 6, 9, .inr (.inr (.inr (.inr (va_up (va_up (va_up (va_up (va_up (va_up (va_up (fun _ => none) 0 (some q58)) 1 (some q71)) 2 (some q84)) 3 (some q97)) 4 (some q110)) 5 (some q123)) 6 (some q136))))))) := hn3
  replace hN : w146.length = 62 := (q_len1 hu147 hn3 ho145).trans hN
  replace hO0 := (hu147 _ (q_pd 40 44 rfl)).trans hO0
  replace hn0 := (hu147 _ (q_pd 41 44 rfl)).trans hn0
  replace hn1 := (hu147 _ (q_pd 42 44 rfl)).trans hn1
  replace hn2 := (hu147 _ (q_pd 43 44 rfl)).trans hn2
  replace hn4 := (hu147 _ (q_pd 45 44 rfl)).trans hn4
  replace hn5 := (hu147 _ (q_pd 46 44 rfl)).trans hn5
  replace hn6 := (hu147 _ (q_pd 47 44 rfl)).trans hn6
  replace hn7 := (hu147 _ (q_pd 48 44 rfl)).trans hn7
  replace hn8 := (hu147 _ (q_pd 49 44 rfl)).trans hn8
  replace hn9 := (hu147 _ (q_pd 50 44 rfl)).trans hn9
  replace hn10 := (hu147 _ (q_pd 51 44 rfl)).trans hn10
  replace hn11 := (hu147 _ (q_pd 52 44 rfl)).trans hn11
  replace hn12 := (hu147 _ (q_pd 53 44 rfl)).trans hn12
  replace hn13 := (hu147 _ (q_pd 54 44 rfl)).trans hn13
  replace hn14 := (hu147 _ (q_pd 55 44 rfl)).trans hn14
  replace hn15 := (hu147 _ (q_pd 56 44 rfl)).trans hn15
  replace hn16 := (hu147 _ (q_pd 57 44 rfl)).trans hn16
  replace hn17 := (hu147 _ (q_pd 58 44 rfl)).trans hn17
  replace hn18 := (hu147 _ (q_pd 59 44 rfl)).trans hn18
  replace hn19 := (hu147 _ (q_pd 60 44 rfl)).trans hn19
  replace hn20 := (hu147 _ (q_pd 61 44 rfl)).trans hn20
  replace hF := q_us hF hu147 (.tail _ (.tail _ (.tail _ (.tail _ (.head _)))))
  refine lv_iinc (v := 7) (lv' := [(3, .int 7), (0, .ref qO0), (1, .ref qO1), (2, .ref qO2)]) hx hb d_9_1_96 hl (k := 0) rfl (by decide) (by decide) rfl (fun ls hl => ?_)
  refine lv_goto (tgt := 75) hx hb d_9_1_99 (by decide) ?_
  refine lv_iload_n hx hb d_9_1_75 rfl (lv_at hl 0 rfl) ?_
  refine lv_bipush (v := 9) hx hb d_9_1_76 (by decide) ?_
  refine lv_icmp_ge (tgt := 102) hx hb d_9_1_78 (by decide) (fun c148 => absurd c148 (by decide)) (fun c148 => ?_)
  refine lv_aload_n hx hb d_9_1_81 rfl (lv_at hl 1 rfl) ?_
  refine q_get (ci := 11) (j := 4) (v := .ref q22) C0 V i_Pri rfl rfl hO0 (by decide) w_389 rfl d_9_1_82 ?_
  refine lv_iload_n hx hb d_9_1_85 rfl (lv_at hl 0 rfl) ?_
  refine q_new (ci := 1) (fs := [.null, .int 0, .int 0]) C0 V hN i_She o_She rfl w_345 w_47 w_2 rfl (fun j hj => by rcases (show j = 0 ∨ j = 1 ∨ j = 2 by omega) with rfl | rfl | rfl <;> rfl) (Nat.le_of_ble_eq_true rfl) (Nat.le_of_ble_eq_true rfl) d_9_1_86 (fun q149 H w150 hu151 hn152 hN V => ?_)
  have hn21 : w150[62]? = some (q149, .inr (1, [.null, .int 0, .int 0])) := hn152
  replace hO0 := (hu151 _ (q_pd 40 62 rfl)).trans hO0
  replace hn0 := (hu151 _ (q_pd 41 62 rfl)).trans hn0
  replace hn1 := (hu151 _ (q_pd 42 62 rfl)).trans hn1
  replace hn2 := (hu151 _ (q_pd 43 62 rfl)).trans hn2
  replace hn3 := (hu151 _ (q_pd 44 62 rfl)).trans hn3
  replace hn4 := (hu151 _ (q_pd 45 62 rfl)).trans hn4
  replace hn5 := (hu151 _ (q_pd 46 62 rfl)).trans hn5
  replace hn6 := (hu151 _ (q_pd 47 62 rfl)).trans hn6
  replace hn7 := (hu151 _ (q_pd 48 62 rfl)).trans hn7
  replace hn8 := (hu151 _ (q_pd 49 62 rfl)).trans hn8
  replace hn9 := (hu151 _ (q_pd 50 62 rfl)).trans hn9
  replace hn10 := (hu151 _ (q_pd 51 62 rfl)).trans hn10
  replace hn11 := (hu151 _ (q_pd 52 62 rfl)).trans hn11
  replace hn12 := (hu151 _ (q_pd 53 62 rfl)).trans hn12
  replace hn13 := (hu151 _ (q_pd 54 62 rfl)).trans hn13
  replace hn14 := (hu151 _ (q_pd 55 62 rfl)).trans hn14
  replace hn15 := (hu151 _ (q_pd 56 62 rfl)).trans hn15
  replace hn16 := (hu151 _ (q_pd 57 62 rfl)).trans hn16
  replace hn17 := (hu151 _ (q_pd 58 62 rfl)).trans hn17
  replace hn18 := (hu151 _ (q_pd 59 62 rfl)).trans hn18
  replace hn19 := (hu151 _ (q_pd 60 62 rfl)).trans hn19
  replace hn20 := (hu151 _ (q_pd 61 62 rfl)).trans hn20
  replace hF := q_us hF hu151 (.tail _ (.tail _ (.tail _ (.tail _ (.tail _ (.tail _ (.tail _ (.tail _ (.tail _ (.tail _ (.tail _ (.tail _ (.tail _ (.tail _ (.tail _ (.tail _ (.tail _ (.tail _ (.tail _ (.tail _ (.tail _ (.tail _ (.head _)))))))))))))))))))))))
  replace hN : w150.length = 63 := hN
  refine lv_dup hx hb d_9_1_89 rfl ?_
  refine lv_bipush (v := 64) hx hb d_9_1_90 (by decide) ?_
  refine q_gov V (q_runI (As := [.int 64]) (rest := [.ref q149, .int 7, .ref q22]) (d := 2) (mc := 1) (ms := 8) C0 V rfl LI_Pri_28 (c_She_init_4 l D g w150 62 q149 63 hN hn21 _) rfl hl.1 rfl (Nat.le_of_ble_eq_true rfl) ⟨by decide, by decide⟩ ⟨Nat.le_of_ble_eq_true rfl, Nat.le_of_ble_eq_true rfl⟩ d_9_1_92) (fun u154 H locs hp153 V => ?_)
  obtain ⟨q155, hg156, hn21, hq157, hN⟩ := hp153
  replace hO0 := (hg156 _ (q_nc (q_pd 40 62 rfl) (q_nc (q_pd 40 63 rfl) List.not_mem_nil))).trans hO0
  replace hn0 := (hg156 _ (q_nc (q_pd 41 62 rfl) (q_nc (q_pd 41 63 rfl) List.not_mem_nil))).trans hn0
  replace hn1 := (hg156 _ (q_nc (q_pd 42 62 rfl) (q_nc (q_pd 42 63 rfl) List.not_mem_nil))).trans hn1
  replace hn2 := (hg156 _ (q_nc (q_pd 43 62 rfl) (q_nc (q_pd 43 63 rfl) List.not_mem_nil))).trans hn2
  replace hn3 := (hg156 _ (q_nc (q_pd 44 62 rfl) (q_nc (q_pd 44 63 rfl) List.not_mem_nil))).trans hn3
  replace hn4 := (hg156 _ (q_nc (q_pd 45 62 rfl) (q_nc (q_pd 45 63 rfl) List.not_mem_nil))).trans hn4
  replace hn5 := (hg156 _ (q_nc (q_pd 46 62 rfl) (q_nc (q_pd 46 63 rfl) List.not_mem_nil))).trans hn5
  replace hn6 := (hg156 _ (q_nc (q_pd 47 62 rfl) (q_nc (q_pd 47 63 rfl) List.not_mem_nil))).trans hn6
  replace hn7 := (hg156 _ (q_nc (q_pd 48 62 rfl) (q_nc (q_pd 48 63 rfl) List.not_mem_nil))).trans hn7
  replace hn8 := (hg156 _ (q_nc (q_pd 49 62 rfl) (q_nc (q_pd 49 63 rfl) List.not_mem_nil))).trans hn8
  replace hn9 := (hg156 _ (q_nc (q_pd 50 62 rfl) (q_nc (q_pd 50 63 rfl) List.not_mem_nil))).trans hn9
  replace hn10 := (hg156 _ (q_nc (q_pd 51 62 rfl) (q_nc (q_pd 51 63 rfl) List.not_mem_nil))).trans hn10
  replace hn11 := (hg156 _ (q_nc (q_pd 52 62 rfl) (q_nc (q_pd 52 63 rfl) List.not_mem_nil))).trans hn11
  replace hn12 := (hg156 _ (q_nc (q_pd 53 62 rfl) (q_nc (q_pd 53 63 rfl) List.not_mem_nil))).trans hn12
  replace hn13 := (hg156 _ (q_nc (q_pd 54 62 rfl) (q_nc (q_pd 54 63 rfl) List.not_mem_nil))).trans hn13
  replace hn14 := (hg156 _ (q_nc (q_pd 55 62 rfl) (q_nc (q_pd 55 63 rfl) List.not_mem_nil))).trans hn14
  replace hn15 := (hg156 _ (q_nc (q_pd 56 62 rfl) (q_nc (q_pd 56 63 rfl) List.not_mem_nil))).trans hn15
  replace hn16 := (hg156 _ (q_nc (q_pd 57 62 rfl) (q_nc (q_pd 57 63 rfl) List.not_mem_nil))).trans hn16
  replace hn17 := (hg156 _ (q_nc (q_pd 58 62 rfl) (q_nc (q_pd 58 63 rfl) List.not_mem_nil))).trans hn17
  replace hn18 := (hg156 _ (q_nc (q_pd 59 62 rfl) (q_nc (q_pd 59 63 rfl) List.not_mem_nil))).trans hn18
  replace hn19 := (hg156 _ (q_nc (q_pd 60 62 rfl) (q_nc (q_pd 60 63 rfl) List.not_mem_nil))).trans hn19
  replace hn20 := (hg156 _ (q_nc (q_pd 61 62 rfl) (q_nc (q_pd 61 63 rfl) List.not_mem_nil))).trans hn20
  replace hF := q_uc hF hg156 (q_sc (.tail _ (.tail _ (.tail _ (.tail _ (.tail _ (.tail _ (.tail _ (.tail _ (.tail _ (.tail _ (.tail _ (.tail _ (.tail _ (.tail _ (.tail _ (.tail _ (.tail _ (.tail _ (.tail _ (.tail _ (.tail _ (.tail _ (.head _))))))))))))))))))))))) (q_sc (.tail _ (.tail _ (.tail _ (.tail _ (.tail _ (.tail _ (.tail _ (.tail _ (.tail _ (.tail _ (.tail _ (.tail _ (.tail _ (.tail _ (.tail _ (.tail _ (.tail _ (.tail _ (.tail _ (.tail _ (.tail _ (.tail _ (.tail _ (.head _)))))))))))))))))))))))) (fun _ h => absurd h List.not_mem_nil)))
  have hn22 : u154[63]? = some (q155, .inl (g 1, 8, .inr (.inl (fun _ => 0)))) := hq157
  replace hN : u154.length = 64 := hN
  have ho158 := hn3
  refine q_aast (t := 6) (ci := 1) (i9 := 7) C0 V hn3 rfl hn21 rfl (by decide) (by decide) d_9_1_95 (fun H locs w159 hu160 hn3 V => ?_)
  replace hn3 : w159[44]? = some (q22, .inl (g 6, 9, .inr (.inr (.inr (.inr (va_up (va_up (va_up (va_up (va_up (va_up (va_up (va_up (fun _ => none) 0 (some q58)) 1 (some q71)) 2 (some q84)) 3 (some q97)) 4 (some q110)) 5 (some q123)) 6 (some q136)) 7 (some q149))))))) := hn3
  replace hN : w159.length = 64 := (q_len1 hu160 hn3 ho158).trans hN
  replace hO0 := (hu160 _ (q_pd 40 44 rfl)).trans hO0
  replace hn0 := (hu160 _ (q_pd 41 44 rfl)).trans hn0
  replace hn1 := (hu160 _ (q_pd 42 44 rfl)).trans hn1
  replace hn2 := (hu160 _ (q_pd 43 44 rfl)).trans hn2
  replace hn4 := (hu160 _ (q_pd 45 44 rfl)).trans hn4
  replace hn5 := (hu160 _ (q_pd 46 44 rfl)).trans hn5
  replace hn6 := (hu160 _ (q_pd 47 44 rfl)).trans hn6
  replace hn7 := (hu160 _ (q_pd 48 44 rfl)).trans hn7
  replace hn8 := (hu160 _ (q_pd 49 44 rfl)).trans hn8
  replace hn9 := (hu160 _ (q_pd 50 44 rfl)).trans hn9
  replace hn10 := (hu160 _ (q_pd 51 44 rfl)).trans hn10
  replace hn11 := (hu160 _ (q_pd 52 44 rfl)).trans hn11
  replace hn12 := (hu160 _ (q_pd 53 44 rfl)).trans hn12
  replace hn13 := (hu160 _ (q_pd 54 44 rfl)).trans hn13
  replace hn14 := (hu160 _ (q_pd 55 44 rfl)).trans hn14
  replace hn15 := (hu160 _ (q_pd 56 44 rfl)).trans hn15
  replace hn16 := (hu160 _ (q_pd 57 44 rfl)).trans hn16
  replace hn17 := (hu160 _ (q_pd 58 44 rfl)).trans hn17
  replace hn18 := (hu160 _ (q_pd 59 44 rfl)).trans hn18
  replace hn19 := (hu160 _ (q_pd 60 44 rfl)).trans hn19
  replace hn20 := (hu160 _ (q_pd 61 44 rfl)).trans hn20
  replace hn21 := (hu160 _ (q_pd 62 44 rfl)).trans hn21
  replace hn22 := (hu160 _ (q_pd 63 44 rfl)).trans hn22
  replace hF := q_us hF hu160 (.tail _ (.tail _ (.tail _ (.tail _ (.head _)))))
  refine lv_iinc (v := 8) (lv' := [(3, .int 8), (0, .ref qO0), (1, .ref qO1), (2, .ref qO2)]) hx hb d_9_1_96 hl (k := 0) rfl (by decide) (by decide) rfl (fun ls hl => ?_)
  refine lv_goto (tgt := 75) hx hb d_9_1_99 (by decide) ?_
  refine lv_iload_n hx hb d_9_1_75 rfl (lv_at hl 0 rfl) ?_
  refine lv_bipush (v := 9) hx hb d_9_1_76 (by decide) ?_
  refine lv_icmp_ge (tgt := 102) hx hb d_9_1_78 (by decide) (fun c161 => absurd c161 (by decide)) (fun c161 => ?_)
  refine lv_aload_n hx hb d_9_1_81 rfl (lv_at hl 1 rfl) ?_
  refine q_get (ci := 11) (j := 4) (v := .ref q22) C0 V i_Pri rfl rfl hO0 (by decide) w_389 rfl d_9_1_82 ?_
  refine lv_iload_n hx hb d_9_1_85 rfl (lv_at hl 0 rfl) ?_
  refine q_new (ci := 1) (fs := [.null, .int 0, .int 0]) C0 V hN i_She o_She rfl w_345 w_47 w_2 rfl (fun j hj => by rcases (show j = 0 ∨ j = 1 ∨ j = 2 by omega) with rfl | rfl | rfl <;> rfl) (Nat.le_of_ble_eq_true rfl) (Nat.le_of_ble_eq_true rfl) d_9_1_86 (fun q162 H w163 hu164 hn165 hN V => ?_)
  have hn23 : w163[64]? = some (q162, .inr (1, [.null, .int 0, .int 0])) := hn165
  replace hO0 := (hu164 _ (q_pd 40 64 rfl)).trans hO0
  replace hn0 := (hu164 _ (q_pd 41 64 rfl)).trans hn0
  replace hn1 := (hu164 _ (q_pd 42 64 rfl)).trans hn1
  replace hn2 := (hu164 _ (q_pd 43 64 rfl)).trans hn2
  replace hn3 := (hu164 _ (q_pd 44 64 rfl)).trans hn3
  replace hn4 := (hu164 _ (q_pd 45 64 rfl)).trans hn4
  replace hn5 := (hu164 _ (q_pd 46 64 rfl)).trans hn5
  replace hn6 := (hu164 _ (q_pd 47 64 rfl)).trans hn6
  replace hn7 := (hu164 _ (q_pd 48 64 rfl)).trans hn7
  replace hn8 := (hu164 _ (q_pd 49 64 rfl)).trans hn8
  replace hn9 := (hu164 _ (q_pd 50 64 rfl)).trans hn9
  replace hn10 := (hu164 _ (q_pd 51 64 rfl)).trans hn10
  replace hn11 := (hu164 _ (q_pd 52 64 rfl)).trans hn11
  replace hn12 := (hu164 _ (q_pd 53 64 rfl)).trans hn12
  replace hn13 := (hu164 _ (q_pd 54 64 rfl)).trans hn13
  replace hn14 := (hu164 _ (q_pd 55 64 rfl)).trans hn14
  replace hn15 := (hu164 _ (q_pd 56 64 rfl)).trans hn15
  replace hn16 := (hu164 _ (q_pd 57 64 rfl)).trans hn16
  replace hn17 := (hu164 _ (q_pd 58 64 rfl)).trans hn17
  replace hn18 := (hu164 _ (q_pd 59 64 rfl)).trans hn18
  replace hn19 := (hu164 _ (q_pd 60 64 rfl)).trans hn19
  replace hn20 := (hu164 _ (q_pd 61 64 rfl)).trans hn20
  replace hn21 := (hu164 _ (q_pd 62 64 rfl)).trans hn21
  replace hn22 := (hu164 _ (q_pd 63 64 rfl)).trans hn22
  replace hF := q_us hF hu164 (.tail _ (.tail _ (.tail _ (.tail _ (.tail _ (.tail _ (.tail _ (.tail _ (.tail _ (.tail _ (.tail _ (.tail _ (.tail _ (.tail _ (.tail _ (.tail _ (.tail _ (.tail _ (.tail _ (.tail _ (.tail _ (.tail _ (.tail _ (.tail _ (.head _)))))))))))))))))))))))))
  replace hN : w163.length = 65 := hN
  refine lv_dup hx hb d_9_1_89 rfl ?_
  refine lv_bipush (v := 64) hx hb d_9_1_90 (by decide) ?_
  refine q_gov V (q_runI (As := [.int 64]) (rest := [.ref q162, .int 8, .ref q22]) (d := 2) (mc := 1) (ms := 8) C0 V rfl LI_Pri_28 (c_She_init_4 l D g w163 64 q162 65 hN hn23 _) rfl hl.1 rfl (Nat.le_of_ble_eq_true rfl) ⟨by decide, by decide⟩ ⟨Nat.le_of_ble_eq_true rfl, Nat.le_of_ble_eq_true rfl⟩ d_9_1_92) (fun u167 H locs hp166 V => ?_)
  obtain ⟨q168, hg169, hn23, hq170, hN⟩ := hp166
  replace hO0 := (hg169 _ (q_nc (q_pd 40 64 rfl) (q_nc (q_pd 40 65 rfl) List.not_mem_nil))).trans hO0
  replace hn0 := (hg169 _ (q_nc (q_pd 41 64 rfl) (q_nc (q_pd 41 65 rfl) List.not_mem_nil))).trans hn0
  replace hn1 := (hg169 _ (q_nc (q_pd 42 64 rfl) (q_nc (q_pd 42 65 rfl) List.not_mem_nil))).trans hn1
  replace hn2 := (hg169 _ (q_nc (q_pd 43 64 rfl) (q_nc (q_pd 43 65 rfl) List.not_mem_nil))).trans hn2
  replace hn3 := (hg169 _ (q_nc (q_pd 44 64 rfl) (q_nc (q_pd 44 65 rfl) List.not_mem_nil))).trans hn3
  replace hn4 := (hg169 _ (q_nc (q_pd 45 64 rfl) (q_nc (q_pd 45 65 rfl) List.not_mem_nil))).trans hn4
  replace hn5 := (hg169 _ (q_nc (q_pd 46 64 rfl) (q_nc (q_pd 46 65 rfl) List.not_mem_nil))).trans hn5
  replace hn6 := (hg169 _ (q_nc (q_pd 47 64 rfl) (q_nc (q_pd 47 65 rfl) List.not_mem_nil))).trans hn6
  replace hn7 := (hg169 _ (q_nc (q_pd 48 64 rfl) (q_nc (q_pd 48 65 rfl) List.not_mem_nil))).trans hn7
  replace hn8 := (hg169 _ (q_nc (q_pd 49 64 rfl) (q_nc (q_pd 49 65 rfl) List.not_mem_nil))).trans hn8
  replace hn9 := (hg169 _ (q_nc (q_pd 50 64 rfl) (q_nc (q_pd 50 65 rfl) List.not_mem_nil))).trans hn9
  replace hn10 := (hg169 _ (q_nc (q_pd 51 64 rfl) (q_nc (q_pd 51 65 rfl) List.not_mem_nil))).trans hn10
  replace hn11 := (hg169 _ (q_nc (q_pd 52 64 rfl) (q_nc (q_pd 52 65 rfl) List.not_mem_nil))).trans hn11
  replace hn12 := (hg169 _ (q_nc (q_pd 53 64 rfl) (q_nc (q_pd 53 65 rfl) List.not_mem_nil))).trans hn12
  replace hn13 := (hg169 _ (q_nc (q_pd 54 64 rfl) (q_nc (q_pd 54 65 rfl) List.not_mem_nil))).trans hn13
  replace hn14 := (hg169 _ (q_nc (q_pd 55 64 rfl) (q_nc (q_pd 55 65 rfl) List.not_mem_nil))).trans hn14
  replace hn15 := (hg169 _ (q_nc (q_pd 56 64 rfl) (q_nc (q_pd 56 65 rfl) List.not_mem_nil))).trans hn15
  replace hn16 := (hg169 _ (q_nc (q_pd 57 64 rfl) (q_nc (q_pd 57 65 rfl) List.not_mem_nil))).trans hn16
  replace hn17 := (hg169 _ (q_nc (q_pd 58 64 rfl) (q_nc (q_pd 58 65 rfl) List.not_mem_nil))).trans hn17
  replace hn18 := (hg169 _ (q_nc (q_pd 59 64 rfl) (q_nc (q_pd 59 65 rfl) List.not_mem_nil))).trans hn18
  replace hn19 := (hg169 _ (q_nc (q_pd 60 64 rfl) (q_nc (q_pd 60 65 rfl) List.not_mem_nil))).trans hn19
  replace hn20 := (hg169 _ (q_nc (q_pd 61 64 rfl) (q_nc (q_pd 61 65 rfl) List.not_mem_nil))).trans hn20
  replace hn21 := (hg169 _ (q_nc (q_pd 62 64 rfl) (q_nc (q_pd 62 65 rfl) List.not_mem_nil))).trans hn21
  replace hn22 := (hg169 _ (q_nc (q_pd 63 64 rfl) (q_nc (q_pd 63 65 rfl) List.not_mem_nil))).trans hn22
  replace hF := q_uc hF hg169 (q_sc (.tail _ (.tail _ (.tail _ (.tail _ (.tail _ (.tail _ (.tail _ (.tail _ (.tail _ (.tail _ (.tail _ (.tail _ (.tail _ (.tail _ (.tail _ (.tail _ (.tail _ (.tail _ (.tail _ (.tail _ (.tail _ (.tail _ (.tail _ (.tail _ (.head _))))))))))))))))))))))))) (q_sc (.tail _ (.tail _ (.tail _ (.tail _ (.tail _ (.tail _ (.tail _ (.tail _ (.tail _ (.tail _ (.tail _ (.tail _ (.tail _ (.tail _ (.tail _ (.tail _ (.tail _ (.tail _ (.tail _ (.tail _ (.tail _ (.tail _ (.tail _ (.tail _ (.tail _ (.head _)))))))))))))))))))))))))) (fun _ h => absurd h List.not_mem_nil)))
  have hn24 : u167[65]? = some (q168, .inl (g 1, 8, .inr (.inl (fun _ => 0)))) := hq170
  replace hN : u167.length = 66 := hN
  have ho171 := hn3
  refine q_aast (t := 6) (ci := 1) (i9 := 8) C0 V hn3 rfl hn23 rfl (by decide) (by decide) d_9_1_95 (fun H locs w172 hu173 hn3 V => ?_)
  replace hn3 : w172[44]? = some (q22, .inl (g 6, 9, .inr (.inr (.inr (.inr (va_up (va_up (va_up (va_up (va_up (va_up (va_up (va_up (va_up (fun _ => none) 0 (some q58)) 1 (some q71)) 2 (some q84)) 3 (some q97)) 4 (some q110)) 5 (some q123)) 6 (some q136)) 7 (some q149)) 8 (some q162))))))) := hn3
  replace hN : w172.length = 66 := (q_len1 hu173 hn3 ho171).trans hN
  replace hO0 := (hu173 _ (q_pd 40 44 rfl)).trans hO0
  replace hn0 := (hu173 _ (q_pd 41 44 rfl)).trans hn0
  replace hn1 := (hu173 _ (q_pd 42 44 rfl)).trans hn1
  replace hn2 := (hu173 _ (q_pd 43 44 rfl)).trans hn2
  replace hn4 := (hu173 _ (q_pd 45 44 rfl)).trans hn4
  replace hn5 := (hu173 _ (q_pd 46 44 rfl)).trans hn5
  replace hn6 := (hu173 _ (q_pd 47 44 rfl)).trans hn6
  replace hn7 := (hu173 _ (q_pd 48 44 rfl)).trans hn7
  replace hn8 := (hu173 _ (q_pd 49 44 rfl)).trans hn8
  replace hn9 := (hu173 _ (q_pd 50 44 rfl)).trans hn9
  replace hn10 := (hu173 _ (q_pd 51 44 rfl)).trans hn10
  replace hn11 := (hu173 _ (q_pd 52 44 rfl)).trans hn11
  replace hn12 := (hu173 _ (q_pd 53 44 rfl)).trans hn12
  replace hn13 := (hu173 _ (q_pd 54 44 rfl)).trans hn13
  replace hn14 := (hu173 _ (q_pd 55 44 rfl)).trans hn14
  replace hn15 := (hu173 _ (q_pd 56 44 rfl)).trans hn15
  replace hn16 := (hu173 _ (q_pd 57 44 rfl)).trans hn16
  replace hn17 := (hu173 _ (q_pd 58 44 rfl)).trans hn17
  replace hn18 := (hu173 _ (q_pd 59 44 rfl)).trans hn18
  replace hn19 := (hu173 _ (q_pd 60 44 rfl)).trans hn19
  replace hn20 := (hu173 _ (q_pd 61 44 rfl)).trans hn20
  replace hn21 := (hu173 _ (q_pd 62 44 rfl)).trans hn21
  replace hn22 := (hu173 _ (q_pd 63 44 rfl)).trans hn22
  replace hn23 := (hu173 _ (q_pd 64 44 rfl)).trans hn23
  replace hn24 := (hu173 _ (q_pd 65 44 rfl)).trans hn24
  replace hF := q_us hF hu173 (.tail _ (.tail _ (.tail _ (.tail _ (.head _)))))
  refine lv_iinc (v := 9) (lv' := [(3, .int 9), (0, .ref qO0), (1, .ref qO1), (2, .ref qO2)]) hx hb d_9_1_96 hl (k := 0) rfl (by decide) (by decide) rfl (fun ls hl => ?_)
  refine lv_goto (tgt := 75) hx hb d_9_1_99 (by decide) ?_
  refine lv_iload_n hx hb d_9_1_75 rfl (lv_at hl 0 rfl) ?_
  refine lv_bipush (v := 9) hx hb d_9_1_76 (by decide) ?_
  refine lv_icmp_ge (tgt := 102) hx hb d_9_1_78 (by decide) (fun c174 => ?_) (fun c174 => absurd (by decide) c174)
  exact q_retv C0 V (⟨q1, q8, q15, q22, q29, q35, q47, q58, q64, q71, q77, q84, q90, q97, q103, q110, q116, q123, q129, q136, q142, q149, q155, q162, q168, hF, hO0, hn0, hn1, hn2, hn3, hn4, hn5, hn6, hn7, hn8, hn9, hn10, hn11, hn12, hn13, hn14, hn15, hn16, hn17, hn18, hn19, hn20, hn21, hn22, hn23, hn24, hN⟩) d_9_1_102
theorem d_1_1_0 : decode prog_1_method_1_code 0 = .ok (.aload_n 0, 1) := by decide +kernel
theorem d_1_1_1 : decode prog_1_method_1_code 1 = .ok (.invokespecial 1, 3) := by decide +kernel
theorem w_43 : (Cond.methodLink "NumberHouse" (1 : Nat) ({ cls := "java/lang/Object", name := "<init>", desc := "()V" } : MethodName)) ∈ q_tbl := q_of 43 (by decide +kernel) (by decide +kernel)
theorem d_1_1_4 : decode prog_1_method_1_code 4 = .ok (.aload_n 0, 1) := by decide +kernel
theorem d_1_1_5 : decode prog_1_method_1_code 5 = .ok (.new 7, 3) := by decide +kernel
theorem w_46 : (Cond.classLink "NumberHouse" (7 : Nat) "NumberHouse$Sheet") ∈ q_tbl := q_of 46 (by decide +kernel) (by decide +kernel)
theorem d_1_1_8 : decode prog_1_method_1_code 8 = .ok (.dup, 1) := by decide +kernel
theorem d_1_1_9 : decode prog_1_method_1_code 9 = .ok (.sipush 4100, 3) := by decide +kernel
theorem d_1_1_12 : decode prog_1_method_1_code 12 = .ok (.invokespecial 11, 3) := by decide +kernel
theorem w_48 : (Cond.methodLink "NumberHouse" (11 : Nat) ({ cls := "NumberHouse$Sheet", name := "<init>", desc := "(I)V" } : MethodName)) ∈ q_tbl := q_of 48 (by decide +kernel) (by decide +kernel)
theorem LI_NH_11 : q_LI "NumberHouse" 11 y_She_init prog_11_method_1_code 2 1 := ⟨w_50, w_2, w_48, w_49, rfl, ⟨by decide, by decide, by decide +kernel⟩⟩
theorem d_1_1_15 : decode prog_1_method_1_code 15 = .ok (.putfield 14, 3) := by decide +kernel
theorem w_424 : (Cond.fieldLink "NumberHouse" (14 : Nat) "NumberHouse" "tape" "LNumberHouse$Sheet;") ∈ q_tbl := q_of 424 (by decide +kernel) (by decide +kernel)
theorem d_1_1_18 : decode prog_1_method_1_code 18 = .ok (.aload_n 0, 1) := by decide +kernel
theorem d_1_1_19 : decode prog_1_method_1_code 19 = .ok (.new 7, 3) := by decide +kernel
theorem d_1_1_22 : decode prog_1_method_1_code 22 = .ok (.dup, 1) := by decide +kernel
theorem d_1_1_23 : decode prog_1_method_1_code 23 = .ok (.sipush 11008, 3) := by decide +kernel
theorem d_1_1_26 : decode prog_1_method_1_code 26 = .ok (.invokespecial 11, 3) := by decide +kernel
theorem d_1_1_29 : decode prog_1_method_1_code 29 = .ok (.putfield 18, 3) := by decide +kernel
theorem w_425 : (Cond.fieldLink "NumberHouse" (18 : Nat) "NumberHouse" "paper" "LNumberHouse$Sheet;") ∈ q_tbl := q_of 425 (by decide +kernel) (by decide +kernel)
theorem d_1_1_32 : decode prog_1_method_1_code 32 = .ok (.aload_n 0, 1) := by decide +kernel
theorem d_1_1_33 : decode prog_1_method_1_code 33 = .ok (.bipush 10, 2) := by decide +kernel
theorem d_1_1_35 : decode prog_1_method_1_code 35 = .ok (.anewarray 21, 3) := by decide +kernel
theorem wo_69 : (Cond.arrayOver (.object "NumberHouse$Big")) ∈ q_odd := q_oo 69 (by decide +kernel) (by decide +kernel)
theorem w_68 : (Cond.classLink "NumberHouse" (21 : Nat) "NumberHouse$Big") ∈ q_tbl := q_of 68 (by decide +kernel) (by decide +kernel)
theorem d_1_1_38 : decode prog_1_method_1_code 38 = .ok (.putfield 23, 3) := by decide +kernel
theorem w_426 : (Cond.fieldLink "NumberHouse" (23 : Nat) "NumberHouse" "wholes" "[LNumberHouse$Big;") ∈ q_tbl := q_of 426 (by decide +kernel) (by decide +kernel)
theorem d_1_1_41 : decode prog_1_method_1_code 41 = .ok (.aload_n 0, 1) := by decide +kernel
theorem d_1_1_42 : decode prog_1_method_1_code 42 = .ok (.bipush 10, 2) := by decide +kernel
theorem d_1_1_44 : decode prog_1_method_1_code 44 = .ok (.anewarray 27, 3) := by decide +kernel
theorem wo_71 : (Cond.arrayOver (.object "NumberHouse$Dec")) ∈ q_odd := q_oo 71 (by decide +kernel) (by decide +kernel)
theorem w_70 : (Cond.classLink "NumberHouse" (27 : Nat) "NumberHouse$Dec") ∈ q_tbl := q_of 70 (by decide +kernel) (by decide +kernel)
theorem d_1_1_47 : decode prog_1_method_1_code 47 = .ok (.putfield 29, 3) := by decide +kernel
theorem w_427 : (Cond.fieldLink "NumberHouse" (29 : Nat) "NumberHouse" "decimals" "[LNumberHouse$Dec;") ∈ q_tbl := q_of 427 (by decide +kernel) (by decide +kernel)
theorem d_1_1_50 : decode prog_1_method_1_code 50 = .ok (.aload_n 0, 1) := by decide +kernel
theorem d_1_1_51 : decode prog_1_method_1_code 51 = .ok (.bipush 10, 2) := by decide +kernel
theorem d_1_1_53 : decode prog_1_method_1_code 53 = .ok (.newarray .long, 2) := by decide +kernel
theorem d_1_1_55 : decode prog_1_method_1_code 55 = .ok (.putfield 33, 3) := by decide +kernel
theorem w_428 : (Cond.fieldLink "NumberHouse" (33 : Nat) "NumberHouse" "wide" "[J") ∈ q_tbl := q_of 428 (by decide +kernel) (by decide +kernel)
theorem d_1_1_58 : decode prog_1_method_1_code 58 = .ok (.aload_n 0, 1) := by decide +kernel
theorem d_1_1_59 : decode prog_1_method_1_code 59 = .ok (.bipush 10, 2) := by decide +kernel
theorem d_1_1_61 : decode prog_1_method_1_code 61 = .ok (.newarray .long, 2) := by decide +kernel
theorem d_1_1_63 : decode prog_1_method_1_code 63 = .ok (.putfield 37, 3) := by decide +kernel
theorem w_429 : (Cond.fieldLink "NumberHouse" (37 : Nat) "NumberHouse" "narrow" "[J") ∈ q_tbl := q_of 429 (by decide +kernel) (by decide +kernel)
theorem d_1_1_66 : decode prog_1_method_1_code 66 = .ok (.aload_n 0, 1) := by decide +kernel
theorem d_1_1_67 : decode prog_1_method_1_code 67 = .ok (.new 40, 3) := by decide +kernel
theorem w_72 : (Cond.classLink "NumberHouse" (40 : Nat) "NumberHouse$Mill") ∈ q_tbl := q_of 72 (by decide +kernel) (by decide +kernel)
theorem w_73 : (Cond.instantiable "NumberHouse$Mill" (10 : Nat)) ∈ q_tbl := q_of 73 (by decide +kernel) (by decide +kernel)
theorem w_3 : (Cond.initialized "NumberHouse$Mill") ∈ q_tbl := q_of 3 (by decide +kernel) (by decide +kernel)
theorem d_1_1_70 : decode prog_1_method_1_code 70 = .ok (.dup, 1) := by decide +kernel
theorem d_1_1_71 : decode prog_1_method_1_code 71 = .ok (.invokespecial 42, 3) := by decide +kernel
theorem w_76 : (Cond.code ({ cls := "NumberHouse$Mill", name := "<init>", desc := "()V" } : MethodName) prog_8_method_1_code (1 : Nat) (none : Option ClassFile.FieldType)) ∈ q_tbl := q_of 76 (by decide +kernel) (by decide +kernel)
theorem wo_74 : (Cond.methodLinkNest "NumberHouse" (42 : Nat) ({ cls := "NumberHouse$Mill", name := "<init>", desc := "()V" } : MethodName) "NumberHouse") ∈ q_odd := q_oo 74 (by decide +kernel) (by decide +kernel)
theorem w_75 : (Cond.instanceMethod ({ cls := "NumberHouse$Mill", name := "<init>", desc := "()V" } : MethodName)) ∈ q_tbl := q_of 75 (by decide +kernel) (by decide +kernel)
theorem LN_NH_42 : q_LN "NumberHouse" 42 y_Mil_init prog_8_method_1_code 1 0 "NumberHouse" := ⟨w_76, w_3, wo_74, w_75, rfl, ⟨by decide, by decide, by decide +kernel⟩⟩
theorem d_1_1_74 : decode prog_1_method_1_code 74 = .ok (.putfield 43, 3) := by decide +kernel
theorem w_430 : (Cond.fieldLink "NumberHouse" (43 : Nat) "NumberHouse" "mill" "LNumberHouse$Mill;") ∈ q_tbl := q_of 430 (by decide +kernel) (by decide +kernel)
theorem d_1_1_77 : decode prog_1_method_1_code 77 = .ok (.aload_n 0, 1) := by decide +kernel
theorem d_1_1_78 : decode prog_1_method_1_code 78 = .ok (.new 47, 3) := by decide +kernel
theorem w_156 : (Cond.classLink "NumberHouse" (47 : Nat) "NumberHouse$DecimalWork") ∈ q_tbl := q_of 156 (by decide +kernel) (by decide +kernel)
theorem w_157 : (Cond.instantiable "NumberHouse$DecimalWork" (4 : Nat)) ∈ q_tbl := q_of 157 (by decide +kernel) (by decide +kernel)
theorem w_5 : (Cond.initialized "NumberHouse$DecimalWork") ∈ q_tbl := q_of 5 (by decide +kernel) (by decide +kernel)
theorem d_1_1_81 : decode prog_1_method_1_code 81 = .ok (.dup, 1) := by decide +kernel
theorem d_1_1_82 : decode prog_1_method_1_code 82 = .ok (.aload_n 0, 1) := by decide +kernel
theorem d_1_1_83 : decode prog_1_method_1_code 83 = .ok (.getfield 43, 3) := by decide +kernel
theorem d_1_1_86 : decode prog_1_method_1_code 86 = .ok (.invokespecial 49, 3) := by decide +kernel
theorem w_160 : (Cond.code ({ cls := "NumberHouse$DecimalWork", name := "<init>", desc := "(LNumberHouse$Mill;)V" } : MethodName) prog_4_method_1_code (2 : Nat) (none : Option ClassFile.FieldType)) ∈ q_tbl := q_of 160 (by decide +kernel) (by decide +kernel)
theorem w_158 : (Cond.methodLink "NumberHouse" (49 : Nat) ({ cls := "NumberHouse$DecimalWork", name := "<init>", desc := "(LNumberHouse$Mill;)V" } : MethodName)) ∈ q_tbl := q_of 158 (by decide +kernel) (by decide +kernel)
theorem w_159 : (Cond.instanceMethod ({ cls := "NumberHouse$DecimalWork", name := "<init>", desc := "(LNumberHouse$Mill;)V" } : MethodName)) ∈ q_tbl := q_of 159 (by decide +kernel) (by decide +kernel)
theorem LI_NH_49 : q_LI "NumberHouse" 49 y_DW_init prog_4_method_1_code 2 1 := ⟨w_160, w_5, w_158, w_159, rfl, ⟨by decide, by decide, by decide +kernel⟩⟩
theorem d_1_1_89 : decode prog_1_method_1_code 89 = .ok (.putfield 52, 3) := by decide +kernel
theorem w_431 : (Cond.fieldLink "NumberHouse" (52 : Nat) "NumberHouse" "decimalWork" "LNumberHouse$DecimalWork;") ∈ q_tbl := q_of 431 (by decide +kernel) (by decide +kernel)
theorem d_1_1_92 : decode prog_1_method_1_code 92 = .ok (.aload_n 0, 1) := by decide +kernel
theorem d_1_1_93 : decode prog_1_method_1_code 93 = .ok (.new 56, 3) := by decide +kernel
theorem w_225 : (Cond.classLink "NumberHouse" (56 : Nat) "NumberHouse$Floats") ∈ q_tbl := q_of 225 (by decide +kernel) (by decide +kernel)
theorem w_226 : (Cond.instantiable "NumberHouse$Floats" (7 : Nat)) ∈ q_tbl := q_of 226 (by decide +kernel) (by decide +kernel)
theorem w_8 : (Cond.initialized "NumberHouse$Floats") ∈ q_tbl := q_of 8 (by decide +kernel) (by decide +kernel)
theorem d_1_1_96 : decode prog_1_method_1_code 96 = .ok (.dup, 1) := by decide +kernel
theorem d_1_1_97 : decode prog_1_method_1_code 97 = .ok (.bipush 52, 2) := by decide +kernel
theorem d_1_1_99 : decode prog_1_method_1_code 99 = .ok (.sipush 1075, 3) := by decide +kernel
theorem d_1_1_102 : decode prog_1_method_1_code 102 = .ok (.sipush 2047, 3) := by decide +kernel
theorem d_1_1_105 : decode prog_1_method_1_code 105 = .ok (.aload_n 0, 1) := by decide +kernel
theorem d_1_1_106 : decode prog_1_method_1_code 106 = .ok (.getfield 43, 3) := by decide +kernel
theorem d_1_1_109 : decode prog_1_method_1_code 109 = .ok (.invokespecial 58, 3) := by decide +kernel
theorem w_229 : (Cond.code ({ cls := "NumberHouse$Floats", name := "<init>", desc := "(IIILNumberHouse$Mill;)V" } : MethodName) prog_7_method_1_code (5 : Nat) (none : Option ClassFile.FieldType)) ∈ q_tbl := q_of 229 (by decide +kernel) (by decide +kernel)
theorem w_227 : (Cond.methodLink "NumberHouse" (58 : Nat) ({ cls := "NumberHouse$Floats", name := "<init>", desc := "(IIILNumberHouse$Mill;)V" } : MethodName)) ∈ q_tbl := q_of 227 (by decide +kernel) (by decide +kernel)
theorem w_228 : (Cond.instanceMethod ({ cls := "NumberHouse$Floats", name := "<init>", desc := "(IIILNumberHouse$Mill;)V" } : MethodName)) ∈ q_tbl := q_of 228 (by decide +kernel) (by decide +kernel)
theorem LI_NH_58 : q_LI "NumberHouse" 58 y_Flo_init prog_7_method_1_code 5 4 := ⟨w_229, w_8, w_227, w_228, rfl, ⟨by decide, by decide, by decide +kernel⟩⟩
theorem d_1_1_112 : decode prog_1_method_1_code 112 = .ok (.putfield 61, 3) := by decide +kernel
theorem w_432 : (Cond.fieldLink "NumberHouse" (61 : Nat) "NumberHouse" "wideFloats" "LNumberHouse$Floats;") ∈ q_tbl := q_of 432 (by decide +kernel) (by decide +kernel)
theorem d_1_1_115 : decode prog_1_method_1_code 115 = .ok (.aload_n 0, 1) := by decide +kernel
theorem d_1_1_116 : decode prog_1_method_1_code 116 = .ok (.new 56, 3) := by decide +kernel
theorem d_1_1_119 : decode prog_1_method_1_code 119 = .ok (.dup, 1) := by decide +kernel
theorem d_1_1_120 : decode prog_1_method_1_code 120 = .ok (.bipush 23, 2) := by decide +kernel
theorem d_1_1_122 : decode prog_1_method_1_code 122 = .ok (.sipush 150, 3) := by decide +kernel
theorem d_1_1_125 : decode prog_1_method_1_code 125 = .ok (.sipush 255, 3) := by decide +kernel
theorem d_1_1_128 : decode prog_1_method_1_code 128 = .ok (.aload_n 0, 1) := by decide +kernel
theorem d_1_1_129 : decode prog_1_method_1_code 129 = .ok (.getfield 43, 3) := by decide +kernel
theorem d_1_1_132 : decode prog_1_method_1_code 132 = .ok (.invokespecial 58, 3) := by decide +kernel
theorem d_1_1_135 : decode prog_1_method_1_code 135 = .ok (.putfield 65, 3) := by decide +kernel
theorem w_433 : (Cond.fieldLink "NumberHouse" (65 : Nat) "NumberHouse" "narrowFloats" "LNumberHouse$Floats;") ∈ q_tbl := q_of 433 (by decide +kernel) (by decide +kernel)
theorem d_1_1_138 : decode prog_1_method_1_code 138 = .ok (.aload_n 0, 1) := by decide +kernel
theorem d_1_1_139 : decode prog_1_method_1_code 139 = .ok (.new 68, 3) := by decide +kernel
theorem w_258 : (Cond.classLink "NumberHouse" (68 : Nat) "NumberHouse$Digits") ∈ q_tbl := q_of 258 (by decide +kernel) (by decide +kernel)
theorem w_259 : (Cond.instantiable "NumberHouse$Digits" (3 : Nat)) ∈ q_tbl := q_of 259 (by decide +kernel) (by decide +kernel)
theorem w_9 : (Cond.initialized "NumberHouse$Digits") ∈ q_tbl := q_of 9 (by decide +kernel) (by decide +kernel)
theorem d_1_1_142 : decode prog_1_method_1_code 142 = .ok (.dup, 1) := by decide +kernel
theorem d_1_1_143 : decode prog_1_method_1_code 143 = .ok (.invokespecial 70, 3) := by decide +kernel
theorem w_262 : (Cond.code ({ cls := "NumberHouse$Digits", name := "<init>", desc := "()V" } : MethodName) prog_5_method_1_code (1 : Nat) (none : Option ClassFile.FieldType)) ∈ q_tbl := q_of 262 (by decide +kernel) (by decide +kernel)
theorem wo_260 : (Cond.methodLinkNest "NumberHouse" (70 : Nat) ({ cls := "NumberHouse$Digits", name := "<init>", desc := "()V" } : MethodName) "NumberHouse") ∈ q_odd := q_oo 260 (by decide +kernel) (by decide +kernel)
theorem w_261 : (Cond.instanceMethod ({ cls := "NumberHouse$Digits", name := "<init>", desc := "()V" } : MethodName)) ∈ q_tbl := q_of 261 (by decide +kernel) (by decide +kernel)
theorem LN_NH_70 : q_LN "NumberHouse" 70 y_Dig_init prog_5_method_1_code 1 0 "NumberHouse" := ⟨w_262, w_9, wo_260, w_261, rfl, ⟨by decide, by decide, by decide +kernel⟩⟩
theorem d_1_1_146 : decode prog_1_method_1_code 146 = .ok (.putfield 71, 3) := by decide +kernel
theorem w_434 : (Cond.fieldLink "NumberHouse" (71 : Nat) "NumberHouse" "digits" "LNumberHouse$Digits;") ∈ q_tbl := q_of 434 (by decide +kernel) (by decide +kernel)
theorem d_1_1_149 : decode prog_1_method_1_code 149 = .ok (.aload_n 0, 1) := by decide +kernel
theorem d_1_1_150 : decode prog_1_method_1_code 150 = .ok (.new 75, 3) := by decide +kernel
theorem w_278 : (Cond.classLink "NumberHouse" (75 : Nat) "NumberHouse$Reader") ∈ q_tbl := q_of 278 (by decide +kernel) (by decide +kernel)
theorem w_279 : (Cond.instantiable "NumberHouse$Reader" (12 : Nat)) ∈ q_tbl := q_of 279 (by decide +kernel) (by decide +kernel)
theorem w_10 : (Cond.initialized "NumberHouse$Reader") ∈ q_tbl := q_of 10 (by decide +kernel) (by decide +kernel)
theorem d_1_1_153 : decode prog_1_method_1_code 153 = .ok (.dup, 1) := by decide +kernel
theorem d_1_1_154 : decode prog_1_method_1_code 154 = .ok (.aload_n 0, 1) := by decide +kernel
theorem d_1_1_155 : decode prog_1_method_1_code 155 = .ok (.getfield 14, 3) := by decide +kernel
theorem d_1_1_158 : decode prog_1_method_1_code 158 = .ok (.aload_n 0, 1) := by decide +kernel
theorem d_1_1_159 : decode prog_1_method_1_code 159 = .ok (.getfield 43, 3) := by decide +kernel
theorem d_1_1_162 : decode prog_1_method_1_code 162 = .ok (.invokespecial 77, 3) := by decide +kernel
theorem w_282 : (Cond.code ({ cls := "NumberHouse$Reader", name := "<init>", desc := "(LNumberHouse$Sheet;LNumberHouse$Mill;)V" } : MethodName) prog_10_method_1_code (3 : Nat) (none : Option ClassFile.FieldType)) ∈ q_tbl := q_of 282 (by decide +kernel) (by decide +kernel)
theorem w_280 : (Cond.methodLink "NumberHouse" (77 : Nat) ({ cls := "NumberHouse$Reader", name := "<init>", desc := "(LNumberHouse$Sheet;LNumberHouse$Mill;)V" } : MethodName)) ∈ q_tbl := q_of 280 (by decide +kernel) (by decide +kernel)
theorem w_281 : (Cond.instanceMethod ({ cls := "NumberHouse$Reader", name := "<init>", desc := "(LNumberHouse$Sheet;LNumberHouse$Mill;)V" } : MethodName)) ∈ q_tbl := q_of 281 (by decide +kernel) (by decide +kernel)
theorem LI_NH_77 : q_LI "NumberHouse" 77 y_Rea_init prog_10_method_1_code 3 2 := ⟨w_282, w_10, w_280, w_281, rfl, ⟨by decide, by decide, by decide +kernel⟩⟩
theorem d_1_1_165 : decode prog_1_method_1_code 165 = .ok (.putfield 80, 3) := by decide +kernel
theorem w_435 : (Cond.fieldLink "NumberHouse" (80 : Nat) "NumberHouse" "reader" "LNumberHouse$Reader;") ∈ q_tbl := q_of 435 (by decide +kernel) (by decide +kernel)
theorem d_1_1_168 : decode prog_1_method_1_code 168 = .ok (.aload_n 0, 1) := by decide +kernel
theorem d_1_1_169 : decode prog_1_method_1_code 169 = .ok (.new 84, 3) := by decide +kernel
theorem w_323 : (Cond.classLink "NumberHouse" (84 : Nat) "NumberHouse$Writer") ∈ q_tbl := q_of 323 (by decide +kernel) (by decide +kernel)
theorem w_324 : (Cond.instantiable "NumberHouse$Writer" (3 : Nat)) ∈ q_tbl := q_of 324 (by decide +kernel) (by decide +kernel)
theorem w_11 : (Cond.initialized "NumberHouse$Writer") ∈ q_tbl := q_of 11 (by decide +kernel) (by decide +kernel)
theorem d_1_1_172 : decode prog_1_method_1_code 172 = .ok (.dup, 1) := by decide +kernel
theorem d_1_1_173 : decode prog_1_method_1_code 173 = .ok (.aload_n 0, 1) := by decide +kernel
theorem d_1_1_174 : decode prog_1_method_1_code 174 = .ok (.getfield 18, 3) := by decide +kernel
theorem d_1_1_177 : decode prog_1_method_1_code 177 = .ok (.aload_n 0, 1) := by decide +kernel
theorem d_1_1_178 : decode prog_1_method_1_code 178 = .ok (.getfield 43, 3) := by decide +kernel
theorem d_1_1_181 : decode prog_1_method_1_code 181 = .ok (.aload_n 0, 1) := by decide +kernel
theorem d_1_1_182 : decode prog_1_method_1_code 182 = .ok (.getfield 71, 3) := by decide +kernel
theorem d_1_1_185 : decode prog_1_method_1_code 185 = .ok (.invokespecial 86, 3) := by decide +kernel
theorem w_327 : (Cond.code ({ cls := "NumberHouse$Writer", name := "<init>", desc := "(LNumberHouse$Sheet;LNumberHouse$Mill;LNumberHouse$Digits;)V" } : MethodName) prog_12_method_1_code (4 : Nat) (none : Option ClassFile.FieldType)) ∈ q_tbl := q_of 327 (by decide +kernel) (by decide +kernel)
theorem w_325 : (Cond.methodLink "NumberHouse" (86 : Nat) ({ cls := "NumberHouse$Writer", name := "<init>", desc := "(LNumberHouse$Sheet;LNumberHouse$Mill;LNumberHouse$Digits;)V" } : MethodName)) ∈ q_tbl := q_of 325 (by decide +kernel) (by decide +kernel)
theorem w_326 : (Cond.instanceMethod ({ cls := "NumberHouse$Writer", name := "<init>", desc := "(LNumberHouse$Sheet;LNumberHouse$Mill;LNumberHouse$Digits;)V" } : MethodName)) ∈ q_tbl := q_of 326 (by decide +kernel) (by decide +kernel)
theorem LI_NH_86 : q_LI "NumberHouse" 86 y_Wri_init prog_12_method_1_code 4 3 := ⟨w_327, w_11, w_325, w_326, rfl, ⟨by decide, by decide, by decide +kernel⟩⟩
theorem d_1_1_188 : decode prog_1_method_1_code 188 = .ok (.putfield 89, 3) := by decide +kernel
theorem w_436 : (Cond.fieldLink "NumberHouse" (89 : Nat) "NumberHouse" "writer" "LNumberHouse$Writer;") ∈ q_tbl := q_of 436 (by decide +kernel) (by decide +kernel)
theorem d_1_1_191 : decode prog_1_method_1_code 191 = .ok (.aload_n 0, 1) := by decide +kernel
theorem d_1_1_192 : decode prog_1_method_1_code 192 = .ok (.new 93, 3) := by decide +kernel
theorem w_339 : (Cond.classLink "NumberHouse" (93 : Nat) "NumberHouse$Printer") ∈ q_tbl := q_of 339 (by decide +kernel) (by decide +kernel)
theorem w_340 : (Cond.instantiable "NumberHouse$Printer" (12 : Nat)) ∈ q_tbl := q_of 340 (by decide +kernel) (by decide +kernel)
theorem w_12 : (Cond.initialized "NumberHouse$Printer") ∈ q_tbl := q_of 12 (by decide +kernel) (by decide +kernel)
theorem d_1_1_195 : decode prog_1_method_1_code 195 = .ok (.dup, 1) := by decide +kernel
theorem d_1_1_196 : decode prog_1_method_1_code 196 = .ok (.aload_n 0, 1) := by decide +kernel
theorem d_1_1_197 : decode prog_1_method_1_code 197 = .ok (.getfield 14, 3) := by decide +kernel
theorem d_1_1_200 : decode prog_1_method_1_code 200 = .ok (.aload_n 0, 1) := by decide +kernel
theorem d_1_1_201 : decode prog_1_method_1_code 201 = .ok (.getfield 71, 3) := by decide +kernel
theorem d_1_1_204 : decode prog_1_method_1_code 204 = .ok (.invokespecial 95, 3) := by decide +kernel
theorem w_343 : (Cond.code ({ cls := "NumberHouse$Printer", name := "<init>", desc := "(LNumberHouse$Sheet;LNumberHouse$Digits;)V" } : MethodName) prog_9_method_1_code (4 : Nat) (none : Option ClassFile.FieldType)) ∈ q_tbl := q_of 343 (by decide +kernel) (by decide +kernel)
theorem w_341 : (Cond.methodLink "NumberHouse" (95 : Nat) ({ cls := "NumberHouse$Printer", name := "<init>", desc := "(LNumberHouse$Sheet;LNumberHouse$Digits;)V" } : MethodName)) ∈ q_tbl := q_of 341 (by decide +kernel) (by decide +kernel)
theorem w_342 : (Cond.instanceMethod ({ cls := "NumberHouse$Printer", name := "<init>", desc := "(LNumberHouse$Sheet;LNumberHouse$Digits;)V" } : MethodName)) ∈ q_tbl := q_of 342 (by decide +kernel) (by decide +kernel)
theorem LI_NH_95 : q_LI "NumberHouse" 95 y_Pri_init prog_9_method_1_code 4 2 := ⟨w_343, w_12, w_341, w_342, rfl, ⟨by decide, by decide, by decide +kernel⟩⟩
theorem d_1_1_207 : decode prog_1_method_1_code 207 = .ok (.putfield 98, 3) := by decide +kernel
theorem w_437 : (Cond.fieldLink "NumberHouse" (98 : Nat) "NumberHouse" "printer" "LNumberHouse$Printer;") ∈ q_tbl := q_of 437 (by decide +kernel) (by decide +kernel)
theorem d_1_1_210 : decode prog_1_method_1_code 210 = .ok (.iconst 0, 1) := by decide +kernel
theorem d_1_1_211 : decode prog_1_method_1_code 211 = .ok (.istore_n 1, 1) := by decide +kernel
theorem d_1_1_212 : decode prog_1_method_1_code 212 = .ok (.iload_n 1, 1) := by decide +kernel
theorem d_1_1_213 : decode prog_1_method_1_code 213 = .ok (.bipush 10, 2) := by decide +kernel
theorem d_1_1_215 : decode prog_1_method_1_code 215 = .ok (.if_icmp .ge 39, 3) := by decide +kernel
theorem d_1_1_218 : decode prog_1_method_1_code 218 = .ok (.aload_n 0, 1) := by decide +kernel
theorem d_1_1_219 : decode prog_1_method_1_code 219 = .ok (.getfield 23, 3) := by decide +kernel
theorem d_1_1_222 : decode prog_1_method_1_code 222 = .ok (.iload_n 1, 1) := by decide +kernel
theorem d_1_1_223 : decode prog_1_method_1_code 223 = .ok (.new 21, 3) := by decide +kernel
theorem d_1_1_226 : decode prog_1_method_1_code 226 = .ok (.dup, 1) := by decide +kernel
theorem d_1_1_227 : decode prog_1_method_1_code 227 = .ok (.bipush 68, 2) := by decide +kernel
theorem d_1_1_229 : decode prog_1_method_1_code 229 = .ok (.invokespecial 102, 3) := by decide +kernel
theorem w_422 : (Cond.methodLink "NumberHouse" (102 : Nat) ({ cls := "NumberHouse$Big", name := "<init>", desc := "(I)V" } : MethodName)) ∈ q_tbl := q_of 422 (by decide +kernel) (by decide +kernel)
theorem LI_NH_102 : q_LI "NumberHouse" 102 y_Big_init prog_2_method_1_code 2 1 := ⟨w_82, w_4, w_422, w_81, rfl, ⟨by decide, by decide, by decide +kernel⟩⟩
theorem d_1_1_232 : decode prog_1_method_1_code 232 = .ok (.aastore, 1) := by decide +kernel
theorem d_1_1_233 : decode prog_1_method_1_code 233 = .ok (.aload_n 0, 1) := by decide +kernel
theorem d_1_1_234 : decode prog_1_method_1_code 234 = .ok (.getfield 29, 3) := by decide +kernel
theorem d_1_1_237 : decode prog_1_method_1_code 237 = .ok (.iload_n 1, 1) := by decide +kernel
theorem d_1_1_238 : decode prog_1_method_1_code 238 = .ok (.new 27, 3) := by decide +kernel
theorem d_1_1_241 : decode prog_1_method_1_code 241 = .ok (.dup, 1) := by decide +kernel
theorem d_1_1_242 : decode prog_1_method_1_code 242 = .ok (.bipush 108, 2) := by decide +kernel
theorem d_1_1_244 : decode prog_1_method_1_code 244 = .ok (.invokespecial 103, 3) := by decide +kernel
theorem w_423 : (Cond.methodLink "NumberHouse" (103 : Nat) ({ cls := "NumberHouse$Dec", name := "<init>", desc := "(I)V" } : MethodName)) ∈ q_tbl := q_of 423 (by decide +kernel) (by decide +kernel)
theorem LI_NH_103 : q_LI "NumberHouse" 103 y_Dec_init prog_3_method_1_code 2 1 := ⟨w_166, w_6, w_423, w_165, rfl, ⟨by decide, by decide, by decide +kernel⟩⟩
theorem d_1_1_247 : decode prog_1_method_1_code 247 = .ok (.aastore, 1) := by decide +kernel
theorem d_1_1_248 : decode prog_1_method_1_code 248 = .ok (.iinc 1 1, 3) := by decide +kernel
theorem d_1_1_251 : decode prog_1_method_1_code 251 = .ok (.goto (-39), 3) := by decide +kernel
theorem d_1_1_254 : decode prog_1_method_1_code 254 = .ok (.return_, 1) := by decide +kernel
def y_NH_init : MethodName := ⟨"NumberHouse", "<init>", "()V"⟩
set_option maxRecDepth 100000 in
set_option maxHeartbeats 4000000 in
/-- new NumberHouse() -/
theorem c_NH_init (l : Launch) (D : va_G) (g : Nat → ClassId) (ws : va_W) ( qO0 : Nat) (hN : ws.length = 1) (hO0 : ws[0]? = some (qO0, .inr (0, [.null, .null, .null, .null, .null, .null, .null, .null, .null, .null, .null, .null, .null, .null]))) : q_mV l y_NH_init prog_1_method_1_code 2 5 115 7767 D g [.ref qO0] ws (fun u => ∃ (q1 : Nat) (q7 : Nat) (q13 : Nat) (q19 : Nat) (q25 : Nat) (q32 : Nat) (q39 : Nat) (q46 : Nat) (q53 : Nat) (q59 : Nat) (q60 : Nat) (q61 : Nat) (q62 : Nat) (q63 : Nat) (q64 : Nat) (q65 : Nat) (q66 : Nat) (q67 : Nat) (q68 : Nat) (q69 : Nat) (q70 : Nat) (q71 : Nat) (q72 : Nat) (q73 : Nat) (q74 : Nat) (q75 : Nat) (q76 : Nat) (q77 : Nat) (q78 : Nat) (q103 : Nat) (q109 : Nat) (q110 : Nat) (q111 : Nat) (q119 : Nat) (q129 : Nat) (q139 : Nat) (q145 : Nat) (q151 : Nat) (q161 : Nat) (q171 : Nat) (q177 : Nat) (q178 : Nat) (q179 : Nat) (q180 : Nat) (q181 : Nat) (q182 : Nat) (q183 : Nat) (q184 : Nat) (q185 : Nat) (q186 : Nat) (q187 : Nat) (q188 : Nat) (q189 : Nat) (q190 : Nat) (q191 : Nat) (q192 : Nat) (q193 : Nat) (q194 : Nat) (q195 : Nat) (q196 : Nat) (q197 : Nat) (q198 : Nat) (q199 : Nat) (q200 : Nat) (q201 : Nat) (q232 : Nat) (q238 : Nat) (q244 : Nat) (q250 : Nat) (q251 : Nat) (q259 : Nat) (q265 : Nat) (q271 : Nat) (q277 : Nat) (q278 : Nat) (q286 : Nat) (q292 : Nat) (q298 : Nat) (q304 : Nat) (q305 : Nat) (q313 : Nat) (q319 : Nat) (q325 : Nat) (q331 : Nat) (q332 : Nat) (q340 : Nat) (q346 : Nat) (q352 : Nat) (q358 : Nat) (q359 : Nat) (q367 : Nat) (q373 : Nat) (q379 : Nat) (q385 : Nat) (q386 : Nat) (q394 : Nat) (q400 : Nat) (q406 : Nat) (q412 : Nat) (q413 : Nat) (q421 : Nat) (q427 : Nat) (q433 : Nat) (q439 : Nat) (q440 : Nat) (q448 : Nat) (q454 : Nat) (q460 : Nat) (q466 : Nat) (q467 : Nat) (q475 : Nat) (q481 : Nat) (q487 : Nat) (q493 : Nat) (q494 : Nat), q_un ws u [0, 1, 2, 3, 4, 5, 6, 7, 8, 9, 10, 11, 12, 13, 14, 15, 16, 17, 18, 19, 20, 21, 22, 23, 24, 25, 26, 27, 28, 29, 30, 31, 32, 33, 34, 35, 36, 37, 38, 39, 40, 41, 42, 43, 44, 45, 46, 47, 48, 49, 50, 51, 52, 53, 54, 55, 56, 57, 58, 59, 60, 61, 62, 63, 64, 65, 66, 67, 68, 69, 70, 71, 72, 73, 74, 75, 76, 77, 78, 79, 80, 81, 82, 83, 84, 85, 86, 87, 88, 89, 90, 91, 92, 93, 94, 95, 96, 97, 98, 99, 100, 101, 102, 103, 104, 105, 106, 107, 108, 109, 110, 111, 112, 113, 114, 115] ∧ u[0]? = some (qO0, .inr (0, [.ref q1, .ref q13, .ref q25, .ref q32, .ref q39, .ref q46, .ref q53, .ref q103, .ref q119, .ref q129, .ref q139, .ref q151, .ref q161, .ref q171])) ∧ u[1]? = some (q1, .inr (1, [.ref q7, .int 4100, .int 0])) ∧ u[2]? = some (q7, .inl (g 1, 513, .inr (.inl (fun _ => 0)))) ∧ u[3]? = some (q13, .inr (1, [.ref q19, .int 11008, .int 0])) ∧ u[4]? = some (q19, .inl (g 1, 1376, .inr (.inl (fun _ => 0)))) ∧ u[5]? = some (q25, .inl (g 4, 10, .inr (.inr (.inr (.inr (va_up (va_up (va_up (va_up (va_up (va_up (va_up (va_up (va_up (va_up (fun _ => none) 0 (some q232)) 1 (some q259)) 2 (some q286)) 3 (some q313)) 4 (some q340)) 5 (some q367)) 6 (some q394)) 7 (some q421)) 8 (some q448)) 9 (some q475))))))) ∧ u[6]? = some (q32, .inl (g 5, 10, .inr (.inr (.inr (.inr (va_up (va_up (va_up (va_up (va_up (va_up (va_up (va_up (va_up (va_up (fun _ => none) 0 (some q244)) 1 (some q271)) 2 (some q298)) 3 (some q325)) 4 (some q352)) 5 (some q379)) 6 (some q406)) 7 (some q433)) 8 (some q460)) 9 (some q487))))))) ∧ u[7]? = some (q39, .inl (g 1, 10, .inr (.inl (fun _ => 0)))) ∧ u[8]? = some (q46, .inl (g 1, 10, .inr (.inl (fun _ => 0)))) ∧ u[9]? = some (q53, .inr (4, [.ref q59, .ref q61, .ref q63, .ref q65, .ref q67, .ref q69, .ref q71, .ref q73, .ref q75, .ref q77])) ∧ u[10]? = some (q59, .inr (2, [.ref q60, .int 0, .int 0])) ∧ u[11]? = some (q60, .inl (g 0, 220, .inl (fun _ => 0))) ∧ u[12]? = some (q61, .inr (2, [.ref q62, .int 0, .int 0])) ∧ u[13]? = some (q62, .inl (g 0, 220, .inl (fun _ => 0))) ∧ u[14]? = some (q63, .inr (2, [.ref q64, .int 0, .int 0])) ∧ u[15]? = some (q64, .inl (g 0, 220, .inl (fun _ => 0))) ∧ u[16]? = some (q65, .inr (2, [.ref q66, .int 0, .int 0])) ∧ u[17]? = some (q66, .inl (g 0, 220, .inl (fun _ => 0))) ∧ u[18]? = some (q67, .inr (2, [.ref q68, .int 0, .int 0])) ∧ u[19]? = some (q68, .inl (g 0, 220, .inl (fun _ => 0))) ∧ u[20]? = some (q69, .inr (2, [.ref q70, .int 0, .int 0])) ∧ u[21]? = some (q70, .inl (g 0, 220, .inl (fun _ => 0))) ∧ u[22]? = some (q71, .inr (2, [.ref q72, .int 0, .int 0])) ∧ u[23]? = some (q72, .inl (g 0, 220, .inl (fun _ => 0))) ∧ u[24]? = some (q73, .inr (2, [.ref q74, .int 0, .int 0])) ∧ u[25]? = some (q74, .inl (g 0, 220, .inl (fun _ => 0))) ∧ u[26]? = some (q75, .inr (2, [.ref q76, .int 0, .int 0])) ∧ u[27]? = some (q76, .inl (g 0, 220, .inl (fun _ => 0))) ∧ u[28]? = some (q77, .inr (2, [.ref q78, .int 0, .int 0])) ∧ u[29]? = some (q78, .inl (g 0, 220, .inl (fun _ => 0))) ∧ u[30]? = some (q103, .inr (5, [.ref q109, .long 0, .ref q53, .int 0])) ∧ u[31]? = some (q109, .inr (3, [.ref q110, .int 0, .int 1])) ∧ u[32]? = some (q110, .inr (2, [.ref q111, .int 1, .int 0])) ∧ u[33]? = some (q111, .inl (g 0, 3, .inl (upd (upd (upd (fun _ => 0) 0 1) 1 0) 2 0))) ∧ u[34]? = some (q119, .inr (6, [.int 52, .int 1075, .int 2047, .long 0, .int 0, .ref q53, .int 0])) ∧ u[35]? = some (q129, .inr (6, [.int 23, .int 150, .int 255, .long 0, .int 0, .ref q53, .int 0])) ∧ u[36]? = some (q139, .inr (7, [.int 0, .int 0, .ref q145])) ∧ u[37]? = some (q145, .inl (g 2, 1026, .inl (fun _ => 0))) ∧ u[38]? = some (q151, .inr (8, [.long 0, .long 0, .ref q1, .ref q53, .int 0, .int 0, .int 0, .int 0, .int 0, .int 0, .int 0, .long 0])) ∧ u[39]? = some (q161, .inr (9, [.ref q13, .ref q53, .ref q139])) ∧ u[40]? = some (q171, .inr (11, [.int 0, .ref q177, .ref q178, .ref q179, .ref q180, .ref q177, .ref q183, .ref q139, .ref q181, .int 0, .int 0, .int 0])) ∧ u[41]? = some (q177, .inl (g 0, 9, .inl (fun _ => 0))) ∧ u[42]? = some (q178, .inl (g 1, 9, .inr (.inl (fun _ => 0)))) ∧ u[43]? = some (q179, .inl (g 0, 9, .inl (fun _ => 0))) ∧ u[44]? = some (q180, .inl (g 6, 9, .inr (.inr (.inr (.inr (va_up (va_up (va_up (va_up (va_up (va_up (va_up (va_up (va_up (fun _ => none) 0 (some q184)) 1 (some q186)) 2 (some q188)) 3 (some q190)) 4 (some q192)) 5 (some q194)) 6 (some q196)) 7 (some q198)) 8 (some q200))))))) ∧ u[45]? = some (q181, .inr (1, [.ref q182, .int 4104, .int 0])) ∧ u[46]? = some (q182, .inl (g 1, 513, .inr (.inl (fun _ => 0)))) ∧ u[47]? = some (q183, .inr (10, [.int 0, .int 0, .int 0, .int 0, .int 0, .int 0, .ref q177, .int 0])) ∧ u[48]? = some (q184, .inr (1, [.ref q185, .int 64, .int 0])) ∧ u[49]? = some (q185, .inl (g 1, 8, .inr (.inl (fun _ => 0)))) ∧ u[50]? = some (q186, .inr (1, [.ref q187, .int 64, .int 0])) ∧ u[51]? = some (q187, .inl (g 1, 8, .inr (.inl (fun _ => 0)))) ∧ u[52]? = some (q188, .inr (1, [.ref q189, .int 64, .int 0])) ∧ u[53]? = some (q189, .inl (g 1, 8, .inr (.inl (fun _ => 0)))) ∧ u[54]? = some (q190, .inr (1, [.ref q191, .int 64, .int 0])) ∧ u[55]? = some (q191, .inl (g 1, 8, .inr (.inl (fun _ => 0)))) ∧ u[56]? = some (q192, .inr (1, [.ref q193, .int 64, .int 0])) ∧ u[57]? = some (q193, .inl (g 1, 8, .inr (.inl (fun _ => 0)))) ∧ u[58]? = some (q194, .inr (1, [.ref q195, .int 64, .int 0])) ∧ u[59]? = some (q195, .inl (g 1, 8, .inr (.inl (fun _ => 0)))) ∧ u[60]? = some (q196, .inr (1, [.ref q197, .int 64, .int 0])) ∧ u[61]? = some (q197, .inl (g 1, 8, .inr (.inl (fun _ => 0)))) ∧ u[62]? = some (q198, .inr (1, [.ref q199, .int 64, .int 0])) ∧ u[63]? = some (q199, .inl (g 1, 8, .inr (.inl (fun _ => 0)))) ∧ u[64]? = some (q200, .inr (1, [.ref q201, .int 64, .int 0])) ∧ u[65]? = some (q201, .inl (g 1, 8, .inr (.inl (fun _ => 0)))) ∧ u[66]? = some (q232, .inr (2, [.ref q238, .int 0, .int 0])) ∧ u[67]? = some (q238, .inl (g 0, 68, .inl (fun _ => 0))) ∧ u[68]? = some (q244, .inr (3, [.ref q250, .int 0, .int 1])) ∧ u[69]? = some (q250, .inr (2, [.ref q251, .int 0, .int 0])) ∧ u[70]? = some (q251, .inl (g 0, 108, .inl (fun _ => 0))) ∧ u[71]? = some (q259, .inr (2, [.ref q265, .int 0, .int 0])) ∧ u[72]? = some (q265, .inl (g 0, 68, .inl (fun _ => 0))) ∧ u[73]? = some (q271, .inr (3, [.ref q277, .int 0, .int 1])) ∧ u[74]? = some (q277, .inr (2, [.ref q278, .int 0, .int 0])) ∧ u[75]? = some (q278, .inl (g 0, 108, .inl (fun _ => 0))) ∧ u[76]? = some (q286, .inr (2, [.ref q292, .int 0, .int 0])) ∧ u[77]? = some (q292, .inl (g 0, 68, .inl (fun _ => 0))) ∧ u[78]? = some (q298, .inr (3, [.ref q304, .int 0, .int 1])) ∧ u[79]? = some (q304, .inr (2, [.ref q305, .int 0, .int 0])) ∧ u[80]? = some (q305, .inl (g 0, 108, .inl (fun _ => 0))) ∧ u[81]? = some (q313, .inr (2, [.ref q319, .int 0, .int 0])) ∧ u[82]? = some (q319, .inl (g 0, 68, .inl (fun _ => 0))) ∧ u[83]? = some (q325, .inr (3, [.ref q331, .int 0, .int 1])) ∧ u[84]? = some (q331, .inr (2, [.ref q332, .int 0, .int 0])) ∧ u[85]? = some (q332, .inl (g 0, 108, .inl (fun _ => 0))) ∧ u[86]? = some (q340, .inr (2, [.ref q346, .int 0, .int 0])) ∧ u[87]? = some (q346, .inl (g 0, 68, .inl (fun _ => 0))) ∧ u[88]? = some (q352, .inr (3, [.ref q358, .int 0, .int 1])) ∧ u[89]? = some (q358, .inr (2, [.ref q359, .int 0, .int 0])) ∧ u[90]? = some (q359, .inl (g 0, 108, .inl (fun _ => 0))) ∧ u[91]? = some (q367, .inr (2, [.ref q373, .int 0, .int 0])) ∧ u[92]? = some (q373, .inl (g 0, 68, .inl (fun _ => 0))) ∧ u[93]? = some (q379, .inr (3, [.ref q385, .int 0, .int 1])) ∧ u[94]? = some (q385, .inr (2, [.ref q386, .int 0, .int 0])) ∧ u[95]? = some (q386, .inl (g 0, 108, .inl (fun _ => 0))) ∧ u[96]? = some (q394, .inr (2, [.ref q400, .int 0, .int 0])) ∧ u[97]? = some (q400, .inl (g 0, 68, .inl (fun _ => 0))) ∧ u[98]? = some (q406, .inr (3, [.ref q412, .int 0, .int 1])) ∧ u[99]? = some (q412, .inr (2, [.ref q413, .int 0, .int 0])) ∧ u[100]? = some (q413, .inl (g 0, 108, .inl (fun _ => 0))) ∧ u[101]? = some (q421, .inr (2, [.ref q427, .int 0, .int 0])) ∧ u[102]? = some (q427, .inl (g 0, 68, .inl (fun _ => 0))) ∧ u[103]? = some (q433, .inr (3, [.ref q439, .int 0, .int 1])) ∧ u[104]? = some (q439, .inr (2, [.ref q440, .int 0, .int 0])) ∧ u[105]? = some (q440, .inl (g 0, 108, .inl (fun _ => 0))) ∧ u[106]? = some (q448, .inr (2, [.ref q454, .int 0, .int 0])) ∧ u[107]? = some (q454, .inl (g 0, 68, .inl (fun _ => 0))) ∧ u[108]? = some (q460, .inr (3, [.ref q466, .int 0, .int 1])) ∧ u[109]? = some (q466, .inr (2, [.ref q467, .int 0, .int 0])) ∧ u[110]? = some (q467, .inl (g 0, 108, .inl (fun _ => 0))) ∧ u[111]? = some (q475, .inr (2, [.ref q481, .int 0, .int 0])) ∧ u[112]? = some (q481, .inl (g 0, 68, .inl (fun _ => 0))) ∧ u[113]? = some (q487, .inr (3, [.ref q493, .int 0, .int 1])) ∧ u[114]? = some (q493, .inr (2, [.ref q494, .int 0, .int 0])) ∧ u[115]? = some (q494, .inl (g 0, 108, .inl (fun _ => 0))) ∧ u.length = 116) := by
  intro sz
  refine q_into (by decide) (Nat.le_of_ble_eq_true rfl) ?_
  intro p e s m below meth c ls hsz C0 V hl
  have hx := C0.1
  have hb := C0.2.1
  have hl : lv_has ls 2 [(0, .ref qO0)] := hl
  have hF : q_un ws ws [0, 1, 2, 3, 4, 5, 6, 7, 8, 9, 10, 11, 12, 13, 14, 15, 16, 17, 18, 19, 20, 21, 22, 23, 24, 25, 26, 27, 28, 29, 30, 31, 32, 33, 34, 35, 36, 37, 38, 39, 40, 41, 42, 43, 44, 45, 46, 47, 48, 49, 50, 51, 52, 53, 54, 55, 56, 57, 58, 59, 60, 61, 62, 63, 64, 65, 66, 67, 68, 69, 70, 71, 72, 73, 74, 75, 76, 77, 78, 79, 80, 81, 82, 83, 84, 85, 86, 87, 88, 89, 90, 91, 92, 93, 94, 95, 96, 97, 98, 99, 100, 101, 102, 103, 104, 105, 106, 107, 108, 109, 110, 111, 112, 113, 114, 115] := q_u0
  refine lv_aload_n hx hb d_1_1_0 rfl (lv_at hl 0 rfl) ?_
  refine q_obj C0 hl.1 rfl w_43 w_44 w_45 ⟨by decide, by decide⟩ d_1_1_1 ?_
  refine lv_aload_n hx hb d_1_1_4 rfl (lv_at hl 0 rfl) ?_
  refine q_new (ci := 1) (fs := [.null, .int 0, .int 0]) C0 V hN i_She o_She rfl w_46 w_47 w_2 rfl (fun j hj => by rcases (show j = 0 ∨ j = 1 ∨ j = 2 by omega) with rfl | rfl | rfl <;> rfl) (Nat.le_of_ble_eq_true rfl) (Nat.le_of_ble_eq_true rfl) d_1_1_5 (fun q1 H w2 hu3 hn4 hN V => ?_)
  have hn0 : w2[1]? = some (q1, .inr (1, [.null, .int 0, .int 0])) := hn4
  replace hO0 := (hu3 _ (q_pd 0 1 rfl)).trans hO0
  replace hF := q_us hF hu3 (.tail _ (.head _))
  replace hN : w2.length = 2 := hN
  refine lv_dup hx hb d_1_1_8 rfl ?_
  refine lv_sipush (v := 4100) hx hb d_1_1_9 (by decide) ?_
  refine q_gov V (q_runI (As := [.int 4100]) (rest := [.ref q1, .ref qO0]) (d := 2) (mc := 1) (ms := 513) C0 V rfl LI_NH_11 (c_She_init l D g w2 1 q1 2 hN hn0 _) rfl hl.1 rfl (Nat.le_of_ble_eq_true rfl) ⟨by decide, by decide⟩ ⟨Nat.le_of_ble_eq_true rfl, Nat.le_of_ble_eq_true rfl⟩ d_1_1_12) (fun u6 H locs hp5 V => ?_)
  obtain ⟨q7, hg8, hn0, hq9, hN⟩ := hp5
  replace hO0 := (hg8 _ (q_nc (q_pd 0 1 rfl) (q_nc (q_pd 0 2 rfl) List.not_mem_nil))).trans hO0
  replace hF := q_uc hF hg8 (q_sc (.tail _ (.head _)) (q_sc (.tail _ (.tail _ (.head _))) (fun _ h => absurd h List.not_mem_nil)))
  have hn1 : u6[2]? = some (q7, .inl (g 1, 513, .inr (.inl (fun _ => 0)))) := hq9
  replace hN : u6.length = 3 := hN
  have ho12 := hO0
  refine q_putF (ci := 0) (j := 0) (v := .ref q1) (ty := .object "NumberHouse$Sheet") C0 V i_NH o_NH n_NH rfl rfl rfl rfl rfl hO0 (by decide) w_424 rfl rfl rfl (Nat.le_of_ble_eq_true rfl) d_1_1_15 (fun H locs w10 hu11 hO0 V => ?_)
  replace hO0 : w10[0]? = some (qO0, .inr (0, [.ref q1, .null, .null, .null, .null, .null, .null, .null, .null, .null, .null, .null, .null, .null])) := hO0
  replace hN : w10.length = 3 := (q_len1 hu11 hO0 ho12).trans hN
  replace hn0 := (hu11 _ (q_pd 1 0 rfl)).trans hn0
  replace hn1 := (hu11 _ (q_pd 2 0 rfl)).trans hn1
  replace hF := q_us hF hu11 (.head _)
  refine lv_aload_n hx hb d_1_1_18 rfl (lv_at hl 0 rfl) ?_
  refine q_new (ci := 1) (fs := [.null, .int 0, .int 0]) C0 V hN i_She o_She rfl w_46 w_47 w_2 rfl (fun j hj => by rcases (show j = 0 ∨ j = 1 ∨ j = 2 by omega) with rfl | rfl | rfl <;> rfl) (Nat.le_of_ble_eq_true rfl) (Nat.le_of_ble_eq_true rfl) d_1_1_19 (fun q13 H w14 hu15 hn16 hN V => ?_)
  have hn2 : w14[3]? = some (q13, .inr (1, [.null, .int 0, .int 0])) := hn16
  replace hO0 := (hu15 _ (q_pd 0 3 rfl)).trans hO0
  replace hn0 := (hu15 _ (q_pd 1 3 rfl)).trans hn0
  replace hn1 := (hu15 _ (q_pd 2 3 rfl)).trans hn1
  replace hF := q_us hF hu15 (.tail _ (.tail _ (.tail _ (.head _))))
  replace hN : w14.length = 4 := hN
  refine lv_dup hx hb d_1_1_22 rfl ?_
  refine lv_sipush (v := 11008) hx hb d_1_1_23 (by decide) ?_
  refine q_gov V (q_runI (As := [.int 11008]) (rest := [.ref q13, .ref qO0]) (d := 2) (mc := 1) (ms := 1376) C0 V rfl LI_NH_11 (c_She_init_2 l D g w14 3 q13 4 hN hn2 _) rfl hl.1 rfl (Nat.le_of_ble_eq_true rfl) ⟨by decide, by decide⟩ ⟨Nat.le_of_ble_eq_true rfl, Nat.le_of_ble_eq_true rfl⟩ d_1_1_26) (fun u18 H locs hp17 V => ?_)
  obtain ⟨q19, hg20, hn2, hq21, hN⟩ := hp17
  replace hO0 := (hg20 _ (q_nc (q_pd 0 3 rfl) (q_nc (q_pd 0 4 rfl) List.not_mem_nil))).trans hO0
  replace hn0 := (hg20 _ (q_nc (q_pd 1 3 rfl) (q_nc (q_pd 1 4 rfl) List.not_mem_nil))).trans hn0
  replace hn1 := (hg20 _ (q_nc (q_pd 2 3 rfl) (q_nc (q_pd 2 4 rfl) List.not_mem_nil))).trans hn1
  replace hF := q_uc hF hg20 (q_sc (.tail _ (.tail _ (.tail _ (.head _)))) (q_sc (.tail _ (.tail _ (.tail _ (.tail _ (.head _))))) (fun _ h => absurd h List.not_mem_nil)))
  have hn3 : u18[4]? = some (q19, .inl (g 1, 1376, .inr (.inl (fun _ => 0)))) := hq21
  replace hN : u18.length = 5 := hN
  have ho24 := hO0
  refine q_putF (ci := 0) (j := 1) (v := .ref q13) (ty := .object "NumberHouse$Sheet") C0 V i_NH o_NH n_NH rfl rfl rfl rfl rfl hO0 (by decide) w_425 rfl rfl rfl (Nat.le_of_ble_eq_true rfl) d_1_1_29 (fun H locs w22 hu23 hO0 V => ?_)
  replace hO0 : w22[0]? = some (qO0, .inr (0, [.ref q1, .ref q13, .null, .null, .null, .null, .null, .null, .null, .null, .null, .null, .null, .null])) := hO0
  replace hN : w22.length = 5 := (q_len1 hu23 hO0 ho24).trans hN
  replace hn0 := (hu23 _ (q_pd 1 0 rfl)).trans hn0
  replace hn1 := (hu23 _ (q_pd 2 0 rfl)).trans hn1
  replace hn2 := (hu23 _ (q_pd 3 0 rfl)).trans hn2
  replace hn3 := (hu23 _ (q_pd 4 0 rfl)).trans hn3
  replace hF := q_us hF hu23 (.head _)
  refine lv_aload_n hx hb d_1_1_32 rfl (lv_at hl 0 rfl) ?_
  refine lv_bipush (v := 10) hx hb d_1_1_33 (by decide) ?_
  refine q_newQ (t := 4) (E := "NumberHouse$Big") (N' := 10) C0 V hN rfl w_68 wo_69 rfl (by decide) (by decide) (by decide) (Nat.le_of_ble_eq_true rfl) (Nat.le_of_ble_eq_true rfl) d_1_1_35 (fun q25 H w26 hu27 hn28 hN V => ?_)
  have hn4 : w26[5]? = some (q25, .inl (g 4, 10, .inr (.inr (.inr (.inr (fun _ => none)))))) := hn28
  replace hO0 := (hu27 _ (q_pd 0 5 rfl)).trans hO0
  replace hn0 := (hu27 _ (q_pd 1 5 rfl)).trans hn0
  replace hn1 := (hu27 _ (q_pd 2 5 rfl)).trans hn1
  replace hn2 := (hu27 _ (q_pd 3 5 rfl)).trans hn2
  replace hn3 := (hu27 _ (q_pd 4 5 rfl)).trans hn3
  replace hF := q_us hF hu27 (.tail _ (.tail _ (.tail _ (.tail _ (.tail _ (.head _))))))
  replace hN : w26.length = 6 := hN
  have ho31 := hO0
  refine q_putF (ci := 0) (j := 2) (v := .ref q25) (ty := .array (.object "NumberHouse$Big")) C0 V i_NH o_NH n_NH rfl rfl rfl rfl rfl hO0 (by decide) w_426 rfl rfl rfl (Nat.le_of_ble_eq_true rfl) d_1_1_38 (fun H locs w29 hu30 hO0 V => ?_)
  replace hO0 : w29[0]? = some (qO0, .inr (0, [.ref q1, .ref q13, .ref q25, .null, .null, .null, .null, .null, .null, .null, .null, .null, .null, .null])) := hO0
  replace hN : w29.length = 6 := (q_len1 hu30 hO0 ho31).trans hN
  replace hn0 := (hu30 _ (q_pd 1 0 rfl)).trans hn0
  replace hn1 := (hu30 _ (q_pd 2 0 rfl)).trans hn1
  replace hn2 := (hu30 _ (q_pd 3 0 rfl)).trans hn2
  replace hn3 := (hu30 _ (q_pd 4 0 rfl)).trans hn3
  replace hn4 := (hu30 _ (q_pd 5 0 rfl)).trans hn4
  replace hF := q_us hF hu30 (.head _)
  refine lv_aload_n hx hb d_1_1_41 rfl (lv_at hl 0 rfl) ?_
  refine lv_bipush (v := 10) hx hb d_1_1_42 (by decide) ?_
  refine q_newQ (t := 5) (E := "NumberHouse$Dec") (N' := 10) C0 V hN rfl w_70 wo_71 rfl (by decide) (by decide) (by decide) (Nat.le_of_ble_eq_true rfl) (Nat.le_of_ble_eq_true rfl) d_1_1_44 (fun q32 H w33 hu34 hn35 hN V => ?_)
  have hn5 : w33[6]? = some (q32, .inl (g 5, 10, .inr (.inr (.inr (.inr (fun _ => none)))))) := hn35
  replace hO0 := (hu34 _ (q_pd 0 6 rfl)).trans hO0
  replace hn0 := (hu34 _ (q_pd 1 6 rfl)).trans hn0
  replace hn1 := (hu34 _ (q_pd 2 6 rfl)).trans hn1
  replace hn2 := (hu34 _ (q_pd 3 6 rfl)).trans hn2
  replace hn3 := (hu34 _ (q_pd 4 6 rfl)).trans hn3
  replace hn4 := (hu34 _ (q_pd 5 6 rfl)).trans hn4
  replace hF := q_us hF hu34 (.tail _ (.tail _ (.tail _ (.tail _ (.tail _ (.tail _ (.head _)))))))
  replace hN : w33.length = 7 := hN
  have ho38 := hO0
  refine q_putF (ci := 0) (j := 3) (v := .ref q32) (ty := .array (.object "NumberHouse$Dec")) C0 V i_NH o_NH n_NH rfl rfl rfl rfl rfl hO0 (by decide) w_427 rfl rfl rfl (Nat.le_of_ble_eq_true rfl) d_1_1_47 (fun H locs w36 hu37 hO0 V => ?_)
  replace hO0 : w36[0]? = some (qO0, .inr (0, [.ref q1, .ref q13, .ref q25, .ref q32, .null, .null, .null, .null, .null, .null, .null, .null, .null, .null])) := hO0
  replace hN : w36.length = 7 := (q_len1 hu37 hO0 ho38).trans hN
  replace hn0 := (hu37 _ (q_pd 1 0 rfl)).trans hn0
  replace hn1 := (hu37 _ (q_pd 2 0 rfl)).trans hn1
  replace hn2 := (hu37 _ (q_pd 3 0 rfl)).trans hn2
  replace hn3 := (hu37 _ (q_pd 4 0 rfl)).trans hn3
  replace hn4 := (hu37 _ (q_pd 5 0 rfl)).trans hn4
  replace hn5 := (hu37 _ (q_pd 6 0 rfl)).trans hn5
  replace hF := q_us hF hu37 (.head _)
  refine lv_aload_n hx hb d_1_1_50 rfl (lv_at hl 0 rfl) ?_
  refine lv_bipush (v := 10) hx hb d_1_1_51 (by decide) ?_
  refine q_newL (N' := 10) C0 V hN w_67 (by decide) (by decide) (by decide) (Nat.le_of_ble_eq_true rfl) (Nat.le_of_ble_eq_true rfl) d_1_1_53 (fun q39 H w40 hu41 hn42 hN V => ?_)
  have hn6 : w40[7]? = some (q39, .inl (g 1, 10, .inr (.inl (fun _ => 0)))) := hn42
  replace hO0 := (hu41 _ (q_pd 0 7 rfl)).trans hO0
  replace hn0 := (hu41 _ (q_pd 1 7 rfl)).trans hn0
  replace hn1 := (hu41 _ (q_pd 2 7 rfl)).trans hn1
  replace hn2 := (hu41 _ (q_pd 3 7 rfl)).trans hn2
  replace hn3 := (hu41 _ (q_pd 4 7 rfl)).trans hn3
  replace hn4 := (hu41 _ (q_pd 5 7 rfl)).trans hn4
  replace hn5 := (hu41 _ (q_pd 6 7 rfl)).trans hn5
  replace hF := q_us hF hu41 (.tail _ (.tail _ (.tail _ (.tail _ (.tail _ (.tail _ (.tail _ (.head _))))))))
  replace hN : w40.length = 8 := hN
  have ho45 := hO0
  refine q_putF (ci := 0) (j := 4) (v := .ref q39) (ty := .array .long) C0 V i_NH o_NH n_NH rfl rfl rfl rfl rfl hO0 (by decide) w_428 rfl rfl rfl (Nat.le_of_ble_eq_true rfl) d_1_1_55 (fun H locs w43 hu44 hO0 V => ?_)
  replace hO0 : w43[0]? = some (qO0, .inr (0, [.ref q1, .ref q13, .ref q25, .ref q32, .ref q39, .null, .null, .null, .null, .null, .null, .null, .null, .null])) := hO0
  replace hN : w43.length = 8 := (q_len1 hu44 hO0 ho45).trans hN
  replace hn0 := (hu44 _ (q_pd 1 0 rfl)).trans hn0
  replace hn1 := (hu44 _ (q_pd 2 0 rfl)).trans hn1
  replace hn2 := (hu44 _ (q_pd 3 0 rfl)).trans hn2
  replace hn3 := (hu44 _ (q_pd 4 0 rfl)).trans hn3
  replace hn4 := (hu44 _ (q_pd 5 0 rfl)).trans hn4
  replace hn5 := (hu44 _ (q_pd 6 0 rfl)).trans hn5
  replace hn6 := (hu44 _ (q_pd 7 0 rfl)).trans hn6
  replace hF := q_us hF hu44 (.head _)
  refine lv_aload_n hx hb d_1_1_58 rfl (lv_at hl 0 rfl) ?_
  refine lv_bipush (v := 10) hx hb d_1_1_59 (by decide) ?_
  refine q_newL (N' := 10) C0 V hN w_67 (by decide) (by decide) (by decide) (Nat.le_of_ble_eq_true rfl) (Nat.le_of_ble_eq_true rfl) d_1_1_61 (fun q46 H w47 hu48 hn49 hN V => ?_)
  have hn7 : w47[8]? = some (q46, .inl (g 1, 10, .inr (.inl (fun _ => 0)))) := hn49
  replace hO0 := (hu48 _ (q_pd 0 8 rfl)).trans hO0
  replace hn0 := (hu48 _ (q_pd 1 8 rfl)).trans hn0
  replace hn1 := (hu48 _ (q_pd 2 8 rfl)).trans hn1
  replace hn2 := (hu48 _ (q_pd 3 8 rfl)).trans hn2
  replace hn3 := (hu48 _ (q_pd 4 8 rfl)).trans hn3
  replace hn4 := (hu48 _ (q_pd 5 8 rfl)).trans hn4
  replace hn5 := (hu48 _ (q_pd 6 8 rfl)).trans hn5
  replace hn6 := (hu48 _ (q_pd 7 8 rfl)).trans hn6
  replace hF := q_us hF hu48 (.tail _ (.tail _ (.tail _ (.tail _ (.tail _ (.tail _ (.tail _ (.tail _ (.head _)))))))))
  replace hN : w47.length = 9 := hN
  have ho52 := hO0
  refine q_putF (ci := 0) (j := 5) (v := .ref q46) (ty := .array .long) C0 V i_NH o_NH n_NH rfl rfl rfl rfl rfl hO0 (by decide) w_429 rfl rfl rfl (Nat.le_of_ble_eq_true rfl) d_1_1_63 (fun H locs w50 hu51 hO0 V => ?_)
  replace hO0 : w50[0]? = some (qO0, .inr (0, [.ref q1, .ref q13, .ref q25, .ref q32, .ref q39, .ref q46, .null, .null, .null, .null, .null, .null, .null, .null])) := hO0
  replace hN : w50.length = 9 := (q_len1 hu51 hO0 ho52).trans hN
  replace hn0 := (hu51 _ (q_pd 1 0 rfl)).trans hn0
  replace hn1 := (hu51 _ (q_pd 2 0 rfl)).trans hn1
  replace hn2 := (hu51 _ (q_pd 3 0 rfl)).trans hn2
  replace hn3 := (hu51 _ (q_pd 4 0 rfl)).trans hn3
  replace hn4 := (hu51 _ (q_pd 5 0 rfl)).trans hn4
  replace hn5 := (hu51 _ (q_pd 6 0 rfl)).trans hn5
  replace hn6 := (hu51 _ (q_pd 7 0 rfl)).trans hn6
  replace hn7 := (hu51 _ (q_pd 8 0 rfl)).trans hn7
  replace hF := q_us hF hu51 (.head _)
  refine lv_aload_n hx hb d_1_1_66 rfl (lv_at hl 0 rfl) ?_
  refine q_new (ci := 4) (fs := [.null, .null, .null, .null, .null, .null, .null, .null, .null, .null]) C0 V hN i_Mil o_Mil rfl w_72 w_73 w_3 rfl (fun j hj => by rcases (show j = 0 ∨ j = 1 ∨ j = 2 ∨ j = 3 ∨ j = 4 ∨ j = 5 ∨ j = 6 ∨ j = 7 ∨ j = 8 ∨ j = 9 by omega) with rfl | rfl | rfl | rfl | rfl | rfl | rfl | rfl | rfl | rfl <;> rfl) (Nat.le_of_ble_eq_true rfl) (Nat.le_of_ble_eq_true rfl) d_1_1_67 (fun q53 H w54 hu55 hn56 hN V => ?_)
  have hn8 : w54[9]? = some (q53, .inr (4, [.null, .null, .null, .null, .null, .null, .null, .null, .null, .null])) := hn56
  replace hO0 := (hu55 _ (q_pd 0 9 rfl)).trans hO0
  replace hn0 := (hu55 _ (q_pd 1 9 rfl)).trans hn0
  replace hn1 := (hu55 _ (q_pd 2 9 rfl)).trans hn1
  replace hn2 := (hu55 _ (q_pd 3 9 rfl)).trans hn2
  replace hn3 := (hu55 _ (q_pd 4 9 rfl)).trans hn3
  replace hn4 := (hu55 _ (q_pd 5 9 rfl)).trans hn4
  replace hn5 := (hu55 _ (q_pd 6 9 rfl)).trans hn5
  replace hn6 := (hu55 _ (q_pd 7 9 rfl)).trans hn6
  replace hn7 := (hu55 _ (q_pd 8 9 rfl)).trans hn7
  replace hF := q_us hF hu55 (.tail _ (.tail _ (.tail _ (.tail _ (.tail _ (.tail _ (.tail _ (.tail _ (.tail _ (.head _))))))))))
  replace hN : w54.length = 10 := hN
  refine lv_dup hx hb d_1_1_70 rfl ?_
  refine q_gov V (q_runN (As := []) (rest := [.ref q53, .ref qO0]) (d := 3) (mc := 20) (ms := 2230) C0 V rfl LN_NH_42 (c_Mil_init l D g w54 q53 hN hn8 _) rfl hl.1 rfl (Nat.le_of_ble_eq_true rfl) ⟨by decide, by decide⟩ ⟨Nat.le_of_ble_eq_true rfl, Nat.le_of_ble_eq_true rfl⟩ d_1_1_71) (fun u58 H locs hp57 V => ?_)
  obtain ⟨q59, q60, q61, q62, q63, q64, q65, q66, q67, q68, q69, q70, q71, q72, q73, q74, q75, q76, q77, q78, hg79, hn8, hq80, hq81, hq82, hq83, hq84, hq85, hq86, hq87, hq88, hq89, hq90, hq91, hq92, hq93, hq94, hq95, hq96, hq97, hq98, hq99, hN⟩ := hp57
  replace hO0 := (hg79 _ (q_nc (q_pd 0 9 rfl) (q_nc (q_pd 0 10 rfl) (q_nc (q_pd 0 11 rfl) (q_nc (q_pd 0 12 rfl) (q_nc (q_pd 0 13 rfl) (q_nc (q_pd 0 14 rfl) (q_nc (q_pd 0 15 rfl) (q_nc (q_pd 0 16 rfl) (q_nc (q_pd 0 17 rfl) (q_nc (q_pd 0 18 rfl) (q_nc (q_pd 0 19 rfl) (q_nc (q_pd 0 20 rfl) (q_nc (q_pd 0 21 rfl) (q_nc (q_pd 0 22 rfl) (q_nc (q_pd 0 23 rfl) (q_nc (q_pd 0 24 rfl) (q_nc (q_pd 0 25 rfl) (q_nc (q_pd 0 26 rfl) (q_nc (q_pd 0 27 rfl) (q_nc (q_pd 0 28 rfl) (q_nc (q_pd 0 29 rfl) List.not_mem_nil)))))))))))))))))))))).trans hO0
  replace hn0 := (hg79 _ (q_nc (q_pd 1 9 rfl) (q_nc (q_pd 1 10 rfl) (q_nc (q_pd 1 11 rfl) (q_nc (q_pd 1 12 rfl) (q_nc (q_pd 1 13 rfl) (q_nc (q_pd 1 14 rfl) (q_nc (q_pd 1 15 rfl) (q_nc (q_pd 1 16 rfl) (q_nc (q_pd 1 17 rfl) (q_nc (q_pd 1 18 rfl) (q_nc (q_pd 1 19 rfl) (q_nc (q_pd 1 20 rfl) (q_nc (q_pd 1 21 rfl) (q_nc (q_pd 1 22 rfl) (q_nc (q_pd 1 23 rfl) (q_nc (q_pd 1 24 rfl) (q_nc (q_pd 1 25 rfl) (q_nc (q_pd 1 26 rfl) (q_nc (q_pd 1 27 rfl) (q_nc (q_pd 1 28 rfl) (q_nc (q_pd 1 29 rfl) List.not_mem_nil)))))))))))))))))))))).trans hn0
  replace hn1 := (hg79 _ (q_nc (q_pd 2 9 rfl) (q_nc (q_pd 2 10 rfl) (q_nc (q_pd 2 11 rfl) (q_nc (q_pd 2 12 rfl) (q_nc (q_pd 2 13 rfl) (q_nc (q_pd 2 14 rfl) (q_nc (q_pd 2 15 rfl) (q_nc (q_pd 2 16 rfl) (q_nc (q_pd 2 17 rfl) (q_nc (q_pd 2 18 rfl) (q_nc (q_pd 2 19 rfl) (q_nc (q_pd 2 20 rfl) (q_nc (q_pd 2 21 rfl) (q_nc (q_pd 2 22 rfl) (q_nc (q_pd 2 23 rfl) (q_nc (q_pd 2 24 rfl) (q_nc (q_pd 2 25 rfl) (q_nc (q_pd 2 26 rfl) (q_nc (q_pd 2 27 rfl) (q_nc (q_pd 2 28 rfl) (q_nc (q_pd 2 29 rfl) List.not_mem_nil)))))))))))))))))))))).trans hn1
  replace hn2 := (hg79 _ (q_nc (q_pd 3 9 rfl) (q_nc (q_pd 3 10 rfl) (q_nc (q_pd 3 11 rfl) (q_nc (q_pd 3 12 rfl) (q_nc (q_pd 3 13 rfl) (q_nc (q_pd 3 14 rfl) (q_nc (q_pd 3 15 rfl) (q_nc (q_pd 3 16 rfl) (q_nc (q_pd 3 17 rfl) (q_nc (q_pd 3 18 rfl) (q_nc (q_pd 3 19 rfl) (q_nc (q_pd 3 20 rfl) (q_nc (q_pd 3 21 rfl) (q_nc (q_pd 3 22 rfl) (q_nc (q_pd 3 23 rfl) (q_nc (q_pd 3 24 rfl) (q_nc (q_pd 3 25 rfl) (q_nc (q_pd 3 26 rfl) (q_nc (q_pd 3 27 rfl) (q_nc (q_pd 3 28 rfl) (q_nc (q_pd 3 29 rfl) List.not_mem_nil)))))))))))))))))))))).trans hn2
  replace hn3 := (hg79 _ (q_nc (q_pd 4 9 rfl) (q_nc (q_pd 4 10 rfl) (q_nc (q_pd 4 11 rfl) (q_nc (q_pd 4 12 rfl) (q_nc (q_pd 4 13 rfl) (q_nc (q_pd 4 14 rfl) (q_nc (q_pd 4 15 rfl) (q_nc (q_pd 4 16 rfl) (q_nc (q_pd 4 17 rfl) (q_nc (q_pd 4 18 rfl) (q_nc (q_pd 4 19 rfl) (q_nc (q_pd 4 20 rfl) (q_nc (q_pd 4 21 rfl) (q_nc (q_pd 4 22 rfl) (q_nc (q_pd 4 23 rfl) (q_nc (q_pd 4 24 rfl) (q_nc (q_pd 4 25 rfl) (q_nc (q_pd 4 26 rfl) (q_nc (q_pd 4 27 rfl) (q_nc (q_pd 4 28 rfl) (q_nc (q_pd 4 29 rfl) List.not_mem_nil)))))))))))))))))))))).trans hn3
  replace hn4 := (hg79 _ (q_nc (q_pd 5 9 rfl) (q_nc (q_pd 5 10 rfl) (q_nc (q_pd 5 11 rfl) (q_nc (q_pd 5 12 rfl) (q_nc (q_pd 5 13 rfl) (q_nc (q_pd 5 14 rfl) (q_nc (q_pd 5 15 rfl) (q_nc (q_pd 5 16 rfl) (q_nc (q_pd 5 17 rfl) (q_nc (q_pd 5 18 rfl) (q_nc (q_pd 5 19 rfl) (q_nc (q_pd 5 20 rfl) (q_nc (q_pd 5 21 rfl) (q_nc (q_pd 5 22 rfl) (q_nc (q_pd 5 23 rfl) (q_nc (q_pd 5 24 rfl) (q_nc (q_pd 5 25 rfl) (q_nc (q_pd 5 26 rfl) (q_nc (q_pd 5 27 rfl) (q_nc (q_pd 5 28 rfl) (q_nc (q_pd 5 29 rfl) List.not_mem_nil)))))))))))))))))))))).trans hn4
  replace hn5 := (hg79 _ (q_nc (q_pd 6 9 rfl) (q_nc (q_pd 6 10 rfl) (q_nc (q_pd 6 11 rfl) (q_nc (q_pd 6 12 rfl) (q_nc (q_pd 6 13 rfl) (q_nc (q_pd 6 14 rfl) (q_nc (q_pd 6 15 rfl) (q_nc (q_pd 6 16 rfl) (q_nc (q_pd 6 17 rfl) (q_nc (q_pd 6 18 rfl) (q_nc (q_pd 6 19 rfl) (q_nc (q_pd 6 20 rfl) (q_nc (q_pd 6 21 rfl) (q_nc (q_pd 6 22 rfl) (q_nc (q_pd 6 23 rfl) (q_nc (q_pd 6 24 rfl) (q_nc (q_pd 6 25 rfl) (q_nc (q_pd 6 26 rfl) (q_nc (q_pd 6 27 rfl) (q_nc (q_pd 6 28 rfl) (q_nc (q_pd 6 29 rfl) List.not_mem_nil)))))))))))))))))))))).trans hn5
  replace hn6 := (hg79 _ (q_nc (q_pd 7 9 rfl) (q_nc (q_pd 7 10 rfl) (q_nc (q_pd 7 11 rfl) (q_nc (q_pd 7 12 rfl) (q_nc (q_pd 7 13 rfl) (q_nc (q_pd 7 14 rfl) (q_nc (q_pd 7 15 rfl) (q_nc (q_pd 7 16 rfl) (q_nc (q_pd 7 17 rfl) (q_nc (q_pd 7 18 rfl) (q_nc (q_pd 7 19 rfl) (q_nc (q_pd 7 20 rfl) (q_nc (q_pd 7 21 rfl) (q_nc (q_pd 7 22 rfl) (q_nc (q_pd 7 23 rfl) (q_nc (q_pd 7 24 rfl) (q_nc (q_pd 7 25 rfl) (q_nc (q_pd 7 26 rfl) (q_nc (q_pd 7 27 rfl) (q_nc (q_pd 7 28 rfl) (q_nc (q_pd 7 29 rfl) List.not_mem_nil)))))))))))))))))))))).trans hn6
  replace hn7 := (hg79 _ (q_nc (q_pd 8 9 rfl) (q_nc (q_pd 8 10 rfl) (q_nc (q_pd 8 11 rfl) (q_nc (q_pd 8 12 rfl) (q_nc (q_pd 8 13 rfl) (q_nc (q_pd 8 14 rfl) (q_nc (q_pd 8 15 rfl) (q_nc (q_pd 8 16 rfl) (q_nc (q_pd 8 17 rfl) (q_nc (q_pd 8 18 rfl) (q_nc (q_pd 8 19 rfl) (q_nc (q_pd 8 20 rfl) (q_nc (q_pd 8 21 rfl) (q_nc (q_pd 8 22 rfl) (q_nc (q_pd 8 23 rfl) (q_nc (q_pd 8 24 rfl) (q_nc (q_pd 8 25 rfl) (q_nc (q_pd 8 26 rfl) (q_nc (q_pd 8 27 rfl) (q_nc (q_pd 8 28 rfl) (q_nc (q_pd 8 29 rfl) List.not_mem_nil)))))))))))))))))))))).trans hn7
  replace hF := q_uc hF hg79 (q_sc (.tail _ (.tail _ (.tail _ (.tail _ (.tail _ (.tail _ (.tail _ (.tail _ (.tail _ (.head _)))))))))) (q_sc (.tail _ (.tail _ (.tail _ (.tail _ (.tail _ (.tail _ (.tail _ (.tail _ (.tail _ (.tail _ (.head _))))))))))) (q_sc (.tail _ (.tail _ (.tail _ (.tail _ (.tail _ (.tail _ (.tail _ (.tail _ (.tail _ (.tail _ (.tail _ (.head _)))))))))))) (q_sc (.tail _ (.tail _ (.tail _ (.tail _ (.tail _ (.tail _ (.tail _ (.tail _ (.tail _ (.tail _ (.tail _ (.tail _ (.head _))))))))))))) (q_sc (.tail _ (.tail _ (.tail _ (.tail _ (.tail _ (.tail _ (.tail _ (.tail _ (.tail _ (.tail _ (.tail _ (.tail _ (.tail _ (.head _)))))))))))))) (q_sc (.tail _ (.tail _ (.tail _ (.tail _ (.tail _ (.tail _ (.tail _ (.tail _ (.tail _ (.tail _ (.tail _ (.tail _ (.tail _ (.tail _ (.head _))))))))))))))) (q_sc (.tail _ (.tail _ (.tail _ (.tail _ (.tail _ (.tail _ (.tail _ (.tail _ (.tail _ (.tail _ (.tail _ (.tail _ (.tail _ (.tail _ (.tail _ (.head _)))))))))))))))) (q_sc (.tail _ (.tail _ (.tail _ (.tail _ (.tail _ (.tail _ (.tail _ (.tail _ (.tail _ (.tail _ (.tail _ (.tail _ (.tail _ (.tail _ (.tail _ (.tail _ (.head _))))))))))))))))) (q_sc (.tail _ (.tail _ (.tail _ (.tail _ (.tail _ (.tail _ (.tail _ (.tail _ (.tail _ (.tail _ (.tail _ (.tail _ (.tail _ (.tail _ (.tail _ (.tail _ (.tail _ (.head _)))))))))))))))))) (q_sc (.tail _ (.tail _ (.tail _ (.tail _ (.tail _ (.tail _ (.tail _ (.tail _ (.tail _ (.tail _ (.tail _ (.tail _ (.tail _ (.tail _ (.tail _ (.tail _ (.tail _ (.tail _ (.head _))))))))))))))))))) (q_sc (.tail _ (.tail _ (.tail _ (.tail _ (.tail _ (.tail _ (.tail _ (.tail _ (.tail _ (.tail _ (.tail _ (.tail _ (.tail _ (.tail _ (.tail _ (.tail _ (.tail _ (.tail _ (.tail _ (.head _)))))))))))))))))))) (q_sc (.tail _ (.tail _ (.tail _ (.tail _ (.tail _ (.tail _ (.tail _ (.tail _ (.tail _ (.tail _ (.tail _ (.tail _ (.tail _ (.tail _ (.tail _ (.tail _ (.tail _ (.tail _ (.tail _ (.tail _ (.head _))))))))))))))))))))) (q_sc (.tail _ (.tail _ (.tail _ (.tail _ (.tail _ (.tail _ (.tail _ (.tail _ (.tail _ (.tail _ (.tail _ (.tail _ (.tail _ (.tail _ (.tail _ (.tail _ (.tail _ (.tail _ (.tail _ (.tail _ (.tail _ (.head _)))))))))))))))))))))) (q_sc (.tail _ (.tail _ (.tail _ (.tail _ (.tail _ (.tail _ (.tail _ (.tail _ (.tail _ (.tail _ (.tail _ (.tail _ (.tail _ (.tail _ (.tail _ (.tail _ (.tail _ (.tail _ (.tail _ (.tail _ (.tail _ (.tail _ (.head _))))))))))))))))))))))) (q_sc (.tail _ (.tail _ (.tail _ (.tail _ (.tail _ (.tail _ (.tail _ (.tail _ (.tail _ (.tail _ (.tail _ (.tail _ (.tail _ (.tail _ (.tail _ (.tail _ (.tail _ (.tail _ (.tail _ (.tail _ (.tail _ (.tail _ (.tail _ (.head _)))))))))))))))))))))))) (q_sc (.tail _ (.tail _ (.tail _ (.tail _ (.tail _ (.tail _ (.tail _ (.tail _ (.tail _ (.tail _ (.tail _ (.tail _ (.tail _ (.tail _ (.tail _ (.tail _ (.tail _ (.tail _ (.tail _ (.tail _ (.tail _ (.tail _ (.tail _ (.tail _ (.head _))))))))))))))))))))))))) (q_sc (.tail _ (.tail _ (.tail _ (.tail _ (.tail _ (.tail _ (.tail _ (.tail _ (.tail _ (.tail _ (.tail _ (.tail _ (.tail _ (.tail _ (.tail _ (.tail _ (.tail _ (.tail _ (.tail _ (.tail _ (.tail _ (.tail _ (.tail _ (.tail _ (.tail _ (.head _)))))))))))))))))))))))))) (q_sc (.tail _ (.tail _ (.tail _ (.tail _ (.tail _ (.tail _ (.tail _ (.tail _ (.tail _ (.tail _ (.tail _ (.tail _ (.tail _ (.tail _ (.tail _ (.tail _ (.tail _ (.tail _ (.tail _ (.tail _ (.tail _ (.tail _ (.tail _ (.tail _ (.tail _ (.tail _ (.head _))))))))))))))))))))))))))) (q_sc (.tail _ (.tail _ (.tail _ (.tail _ (.tail _ (.tail _ (.tail _ (.tail _ (.tail _ (.tail _ (.tail _ (.tail _ (.tail _ (.tail _ (.tail _ (.tail _ (.tail _ (.tail _ (.tail _ (.tail _ (.tail _ (.tail _ (.tail _ (.tail _ (.tail _ (.tail _ (.tail _ (.head _)))))))))))))))))))))))))))) (q_sc (.tail _ (.tail _ (.tail _ (.tail _ (.tail _ (.tail _ (.tail _ (.tail _ (.tail _ (.tail _ (.tail _ (.tail _ (.tail _ (.tail _ (.tail _ (.tail _ (.tail _ (.tail _ (.tail _ (.tail _ (.tail _ (.tail _ (.tail _ (.tail _ (.tail _ (.tail _ (.tail _ (.tail _ (.head _))))))))))))))))))))))))))))) (q_sc (.tail _ (.tail _ (.tail _ (.tail _ (.tail _ (.tail _ (.tail _ (.tail _ (.tail _ (.tail _ (.tail _ (.tail _ (.tail _ (.tail _ (.tail _ (.tail _ (.tail _ (.tail _ (.tail _ (.tail _ (.tail _ (.tail _ (.tail _ (.tail _ (.tail _ (.tail _ (.tail _ (.tail _ (.tail _ (.head _)))))))))))))))))))))))))))))) (fun _ h => absurd h List.not_mem_nil))))))))))))))))))))))
  have hn9 : u58[10]? = some (q59, .inr (2, [.ref q60, .int 0, .int 0])) := hq80
  have hn10 : u58[11]? = some (q60, .inl (g 0, 220, .inl (fun _ => 0))) := hq81
  have hn11 : u58[12]? = some (q61, .inr (2, [.ref q62, .int 0, .int 0])) := hq82
  have hn12 : u58[13]? = some (q62, .inl (g 0, 220, .inl (fun _ => 0))) := hq83
  have hn13 : u58[14]? = some (q63, .inr (2, [.ref q64, .int 0, .int 0])) := hq84
  have hn14 : u58[15]? = some (q64, .inl (g 0, 220, .inl (fun _ => 0))) := hq85
  have hn15 : u58[16]? = some (q65, .inr (2, [.ref q66, .int 0, .int 0])) := hq86
  have hn16 : u58[17]? = some (q66, .inl (g 0, 220, .inl (fun _ => 0))) := hq87
  have hn17 : u58[18]? = some (q67, .inr (2, [.ref q68, .int 0, .int 0])) := hq88
  have hn18 : u58[19]? = some (q68, .inl (g 0, 220, .inl (fun _ => 0))) := hq89
  have hn19 : u58[20]? = some (q69, .inr (2, [.ref q70, .int 0, .int 0])) := hq90
  have hn20 : u58[21]? = some (q70, .inl (g 0, 220, .inl (fun _ => 0))) := hq91
  have hn21 : u58[22]? = some (q71, .inr (2, [.ref q72, .int 0, .int 0])) := hq92
  have hn22 : u58[23]? = some (q72, .inl (g 0, 220, .inl (fun _ => 0))) := hq93
  have hn23 : u58[24]? = some (q73, .inr (2, [.ref q74, .int 0, .int 0])) := hq94
  have hn24 : u58[25]? = some (q74, .inl (g 0, 220, .inl (fun _ => 0))) := hq95
  have hn25 : u58[26]? = some (q75, .inr (2, [.ref q76, .int 0, .int 0])) := hq96
  have hn26 : u58[27]? = some (q76, .inl (g 0, 220, .inl (fun _ => 0))) := hq97
  have hn27 : u58[28]? = some (q77, .inr (2, [.ref q78, .int 0, .int 0])) := hq98
  have hn28 : u58[29]? = some (q78, .inl (g 0, 220, .inl (fun _ => 0))) := hq99
  replace hN : u58.length = 30 := hN
  have ho102 := hO0
  refine q_putF (ci := 0) (j := 6) (v := .ref q53) (ty := .object "NumberHouse$Mill") C0 V i_NH o_NH n_NH rfl rfl rfl rfl rfl hO0 (by decide) w_430 rfl rfl rfl (Nat.le_of_ble_eq_true rfl) d_1_1_74 (fun H locs w100 hu101 hO0 V => ?_)
  replace hO0 : w100[0]? = some (qO0, .inr (0, [.ref q1, .ref q13, .ref q25, .ref q32, .ref q39, .ref q46, .ref q53, .null, .null, .null, .null, .null, .null, .null])) := hO0
  replace hN : w100.length = 30 := (q_len1 hu101 hO0 ho102).trans hN
  replace hn0 := (hu101 _ (q_pd 1 0 rfl)).trans hn0
  replace hn1 := (hu101 _ (q_pd 2 0 rfl)).trans hn1
  replace hn2 := (hu101 _ (q_pd 3 0 rfl)).trans hn2
  replace hn3 := (hu101 _ (q_pd 4 0 rfl)).trans hn3
  replace hn4 := (hu101 _ (q_pd 5 0 rfl)).trans hn4
  replace hn5 := (hu101 _ (q_pd 6 0 rfl)).trans hn5
  replace hn6 := (hu101 _ (q_pd 7 0 rfl)).trans hn6
  replace hn7 := (hu101 _ (q_pd 8 0 rfl)).trans hn7
  replace hn8 := (hu101 _ (q_pd 9 0 rfl)).trans hn8
  replace hn9 := (hu101 _ (q_pd 10 0 rfl)).trans hn9
  replace hn10 := (hu101 _ (q_pd 11 0 rfl)).trans hn10
  replace hn11 := (hu101 _ (q_pd 12 0 rfl)).trans hn11
  replace hn12 := (hu101 _ (q_pd 13 0 rfl)).trans hn12
  replace hn13 := (hu101 _ (q_pd 14 0 rfl)).trans hn13
  replace hn14 := (hu101 _ (q_pd 15 0 rfl)).trans hn14
  replace hn15 := (hu101 _ (q_pd 16 0 rfl)).trans hn15
  replace hn16 := (hu101 _ (q_pd 17 0 rfl)).trans hn16
  replace hn17 := (hu101 _ (q_pd 18 0 rfl)).trans hn17
  replace hn18 := (hu101 _ (q_pd 19 0 rfl)).trans hn18
  replace hn19 := (hu101 _ (q_pd 20 0 rfl)).trans hn19
  replace hn20 := (hu101 _ (q_pd 21 0 rfl)).trans hn20
  replace hn21 := (hu101 _ (q_pd 22 0 rfl)).trans hn21
  replace hn22 := (hu101 _ (q_pd 23 0 rfl)).trans hn22
  replace hn23 := (hu101 _ (q_pd 24 0 rfl)).trans hn23
  replace hn24 := (hu101 _ (q_pd 25 0 rfl)).trans hn24
  replace hn25 := (hu101 _ (q_pd 26 0 rfl)).trans hn25
  replace hn26 := (hu101 _ (q_pd 27 0 rfl)).trans hn26
  replace hn27 := (hu101 _ (q_pd 28 0 rfl)).trans hn27
  replace hn28 := (hu101 _ (q_pd 29 0 rfl)).trans hn28
  replace hF := q_us hF hu101 (.head _)
  refine lv_aload_n hx hb d_1_1_77 rfl (lv_at hl 0 rfl) ?_
  refine q_new (ci := 5) (fs := [.null, .long 0, .null, .int 0]) C0 V hN i_DW o_DW rfl w_156 w_157 w_5 rfl (fun j hj => by rcases (show j = 0 ∨ j = 1 ∨ j = 2 ∨ j = 3 by omega) with rfl | rfl | rfl | rfl <;> rfl) (Nat.le_of_ble_eq_true rfl) (Nat.le_of_ble_eq_true rfl) d_1_1_78 (fun q103 H w104 hu105 hn106 hN V => ?_)
  have hn29 : w104[30]? = some (q103, .inr (5, [.null, .long 0, .null, .int 0])) := hn106
  replace hO0 := (hu105 _ (q_pd 0 30 rfl)).trans hO0
  replace hn0 := (hu105 _ (q_pd 1 30 rfl)).trans hn0
  replace hn1 := (hu105 _ (q_pd 2 30 rfl)).trans hn1
  replace hn2 := (hu105 _ (q_pd 3 30 rfl)).trans hn2
  replace hn3 := (hu105 _ (q_pd 4 30 rfl)).trans hn3
  replace hn4 := (hu105 _ (q_pd 5 30 rfl)).trans hn4
  replace hn5 := (hu105 _ (q_pd 6 30 rfl)).trans hn5
  replace hn6 := (hu105 _ (q_pd 7 30 rfl)).trans hn6
  replace hn7 := (hu105 _ (q_pd 8 30 rfl)).trans hn7
  replace hn8 := (hu105 _ (q_pd 9 30 rfl)).trans hn8
  replace hn9 := (hu105 _ (q_pd 10 30 rfl)).trans hn9
  replace hn10 := (hu105 _ (q_pd 11 30 rfl)).trans hn10
  replace hn11 := (hu105 _ (q_pd 12 30 rfl)).trans hn11
  replace hn12 := (hu105 _ (q_pd 13 30 rfl)).trans hn12
  replace hn13 := (hu105 _ (q_pd 14 30 rfl)).trans hn13
  replace hn14 := (hu105 _ (q_pd 15 30 rfl)).trans hn14
  replace hn15 := (hu105 _ (q_pd 16 30 rfl)).trans hn15
  replace hn16 := (hu105 _ (q_pd 17 30 rfl)).trans hn16
  replace hn17 := (hu105 _ (q_pd 18 30 rfl)).trans hn17
  replace hn18 := (hu105 _ (q_pd 19 30 rfl)).trans hn18
  replace hn19 := (hu105 _ (q_pd 20 30 rfl)).trans hn19
  replace hn20 := (hu105 _ (q_pd 21 30 rfl)).trans hn20
  replace hn21 := (hu105 _ (q_pd 22 30 rfl)).trans hn21
  replace hn22 := (hu105 _ (q_pd 23 30 rfl)).trans hn22
  replace hn23 := (hu105 _ (q_pd 24 30 rfl)).trans hn23
  replace hn24 := (hu105 _ (q_pd 25 30 rfl)).trans hn24
  replace hn25 := (hu105 _ (q_pd 26 30 rfl)).trans hn25
  replace hn26 := (hu105 _ (q_pd 27 30 rfl)).trans hn26
  replace hn27 := (hu105 _ (q_pd 28 30 rfl)).trans hn27
  replace hn28 := (hu105 _ (q_pd 29 30 rfl)).trans hn28
  replace hF := q_us hF hu105 (.tail _ (.tail _ (.tail _ (.tail _ (.tail _ (.tail _ (.tail _ (.tail _ (.tail _ (.tail _ (.tail _ (.tail _ (.tail _ (.tail _ (.tail _ (.tail _ (.tail _ (.tail _ (.tail _ (.tail _ (.tail _ (.tail _ (.tail _ (.tail _ (.tail _ (.tail _ (.tail _ (.tail _ (.tail _ (.tail _ (.head _)))))))))))))))))))))))))))))))
  replace hN : w104.length = 31 := hN
  refine lv_dup hx hb d_1_1_81 rfl ?_
  refine lv_aload_n hx hb d_1_1_82 rfl (lv_at hl 0 rfl) ?_
  refine q_get (ci := 0) (j := 6) (v := .ref q53) C0 V i_NH rfl rfl hO0 (by decide) w_430 rfl d_1_1_83 ?_
  refine q_gov V (q_runI (As := [.ref q53]) (rest := [.ref q103, .ref qO0]) (d := 4) (mc := 3) (ms := 9) C0 V rfl LI_NH_49 (c_DW_init l D g w104 q103 q53 hN hn29 _) rfl hl.1 rfl (Nat.le_of_ble_eq_true rfl) ⟨by decide, by decide⟩ ⟨Nat.le_of_ble_eq_true rfl, Nat.le_of_ble_eq_true rfl⟩ d_1_1_86) (fun u108 H locs hp107 V => ?_)
  obtain ⟨q109, q110, q111, hg112, hn29, hq113, hq114, hq115, hN⟩ := hp107
  replace hO0 := (hg112 _ (q_nc (q_pd 0 30 rfl) (q_nc (q_pd 0 31 rfl) (q_nc (q_pd 0 32 rfl) (q_nc (q_pd 0 33 rfl) List.not_mem_nil))))).trans hO0
  replace hn0 := (hg112 _ (q_nc (q_pd 1 30 rfl) (q_nc (q_pd 1 31 rfl) (q_nc (q_pd 1 32 rfl) (q_nc (q_pd 1 33 rfl) List.not_mem_nil))))).trans hn0
  replace hn1 := (hg112 _ (q_nc (q_pd 2 30 rfl) (q_nc (q_pd 2 31 rfl) (q_nc (q_pd 2 32 rfl) (q_nc (q_pd 2 33 rfl) List.not_mem_nil))))).trans hn1
  replace hn2 := (hg112 _ (q_nc (q_pd 3 30 rfl) (q_nc (q_pd 3 31 rfl) (q_nc (q_pd 3 32 rfl) (q_nc (q_pd 3 33 rfl) List.not_mem_nil))))).trans hn2
  replace hn3 := (hg112 _ (q_nc (q_pd 4 30 rfl) (q_nc (q_pd 4 31 rfl) (q_nc (q_pd 4 32 rfl) (q_nc (q_pd 4 33 rfl) List.not_mem_nil))))).trans hn3
  replace hn4 := (hg112 _ (q_nc (q_pd 5 30 rfl) (q_nc (q_pd 5 31 rfl) (q_nc (q_pd 5 32 rfl) (q_nc (q_pd 5 33 rfl) List.not_mem_nil))))).trans hn4
  replace hn5 := (hg112 _ (q_nc (q_pd 6 30 rfl) (q_nc (q_pd 6 31 rfl) (q_nc (q_pd 6 32 rfl) (q_nc (q_pd 6 33 rfl) List.not_mem_nil))))).trans hn5
  replace hn6 := (hg112 _ (q_nc (q_pd 7 30 rfl) (q_nc (q_pd 7 31 rfl) (q_nc (q_pd 7 32 rfl) (q_nc (q_pd 7 33 rfl) List.not_mem_nil))))).trans hn6
  replace hn7 := (hg112 _ (q_nc (q_pd 8 30 rfl) (q_nc (q_pd 8 31 rfl) (q_nc (q_pd 8 32 rfl) (q_nc (q_pd 8 33 rfl) List.not_mem_nil))))).trans hn7
  replace hn8 := (hg112 _ (q_nc (q_pd 9 30 rfl) (q_nc (q_pd 9 31 rfl) (q_nc (q_pd 9 32 rfl) (q_nc (q_pd 9 33 rfl) List.not_mem_nil))))).trans hn8
  replace hn9 := (hg112 _ (q_nc (q_pd 10 30 rfl) (q_nc (q_pd 10 31 rfl) (q_nc (q_pd 10 32 rfl) (q_nc (q_pd 10 33 rfl) List.not_mem_nil))))).trans hn9
  replace hn10 := (hg112 _ (q_nc (q_pd 11 30 rfl) (q_nc (q_pd 11 31 rfl) (q_nc (q_pd 11 32 rfl) (q_nc (q_pd 11 33 rfl) List.not_mem_nil))))).trans hn10
  replace hn11 := (hg112 _ (q_nc (q_pd 12 30 rfl) (q_nc (q_pd 12 31 rfl) (q_nc (q_pd 12 32 rfl) (q_nc (q_pd 12 33 rfl) List.not_mem_nil))))).trans hn11
  replace hn12 := (hg112 _ (q_nc (q_pd 13 30 rfl) (q_nc (q_pd 13 31 rfl) (q_nc (q_pd 13 32 rfl) (q_nc (q_pd 13 33 rfl) List.not_mem_nil))))).trans hn12
  replace hn13 := (hg112 _ (q_nc (q_pd 14 30 rfl) (q_nc (q_pd 14 31 rfl) (q_nc (q_pd 14 32 rfl) (q_nc (q_pd 14 33 rfl) List.not_mem_nil))))).trans hn13
  replace hn14 := (hg112 _ (q_nc (q_pd 15 30 rfl) (q_nc (q_pd 15 31 rfl) (q_nc (q_pd 15 32 rfl) (q_nc (q_pd 15 33 rfl) List.not_mem_nil))))).trans hn14
  replace hn15 := (hg112 _ (q_nc (q_pd 16 30 rfl) (q_nc (q_pd 16 31 rfl) (q_nc (q_pd 16 32 rfl) (q_nc (q_pd 16 33 rfl) List.not_mem_nil))))).trans hn15
  replace hn16 := (hg112 _ (q_nc (q_pd 17 30 rfl) (q_nc (q_pd 17 31 rfl) (q_nc (q_pd 17 32 rfl) (q_nc (q_pd 17 33 rfl) List.not_mem_nil))))).trans hn16
  replace hn17 := (hg112 _ (q_nc (q_pd 18 30 rfl) (q_nc (q_pd 18 31 rfl) (q_nc (q_pd 18 32 rfl) (q_nc (q_pd 18 33 rfl) List.not_mem_nil))))).trans hn17
  replace hn18 := (hg112 _ (q_nc (q_pd 19 30 rfl) (q_nc (q_pd 19 31 rfl) (q_nc (q_pd 19 32 rfl) (q_nc (q_pd 19 33 rfl) List.not_mem_nil))))).trans hn18
  replace hn19 := (hg112 _ (q_nc (q_pd 20 30 rfl) (q_nc (q_pd 20 31 rfl) (q_nc (q_pd 20 32 rfl) (q_nc (q_pd 20 33 rfl) List.not_mem_nil))))).trans hn19
  replace hn20 := (hg112 _ (q_nc (q_pd 21 30 rfl) (q_nc (q_pd 21 31 rfl) (q_nc (q_pd 21 32 rfl) (q_nc (q_pd 21 33 rfl) List.not_mem_nil))))).trans hn20
  replace hn21 := (hg112 _ (q_nc (q_pd 22 30 rfl) (q_nc (q_pd 22 31 rfl) (q_nc (q_pd 22 32 rfl) (q_nc (q_pd 22 33 rfl) List.not_mem_nil))))).trans hn21
  replace hn22 := (hg112 _ (q_nc (q_pd 23 30 rfl) (q_nc (q_pd 23 31 rfl) (q_nc (q_pd 23 32 rfl) (q_nc (q_pd 23 33 rfl) List.not_mem_nil))))).trans hn22
  replace hn23 := (hg112 _ (q_nc (q_pd 24 30 rfl) (q_nc (q_pd 24 31 rfl) (q_nc (q_pd 24 32 rfl) (q_nc (q_pd 24 33 rfl) List.not_mem_nil))))).trans hn23
  replace hn24 := (hg112 _ (q_nc (q_pd 25 30 rfl) (q_nc (q_pd 25 31 rfl) (q_nc (q_pd 25 32 rfl) (q_nc (q_pd 25 33 rfl) List.not_mem_nil))))).trans hn24
  replace hn25 := (hg112 _ (q_nc (q_pd 26 30 rfl) (q_nc (q_pd 26 31 rfl) (q_nc (q_pd 26 32 rfl) (q_nc (q_pd 26 33 rfl) List.not_mem_nil))))).trans hn25
  replace hn26 := (hg112 _ (q_nc (q_pd 27 30 rfl) (q_nc (q_pd 27 31 rfl) (q_nc (q_pd 27 32 rfl) (q_nc (q_pd 27 33 rfl) List.not_mem_nil))))).trans hn26
  replace hn27 := (hg112 _ (q_nc (q_pd 28 30 rfl) (q_nc (q_pd 28 31 rfl) (q_nc (q_pd 28 32 rfl) (q_nc (q_pd 28 33 rfl) List.not_mem_nil))))).trans hn27
  replace hn28 := (hg112 _ (q_nc (q_pd 29 30 rfl) (q_nc (q_pd 29 31 rfl) (q_nc (q_pd 29 32 rfl) (q_nc (q_pd 29 33 rfl) List.not_mem_nil))))).trans hn28
  replace hF := q_uc hF hg112 (q_sc (.tail _ (.tail _ (.tail _ (.tail _ (.tail _ (.tail _ (.tail _ (.tail _ (.tail _ (.tail _ (.tail _ (.tail _ (.tail _ (.tail _ (.tail _ (.tail _ (.tail _ (.tail _ (.tail _ (.tail _ (.tail _ (.tail _ (.tail _ (.tail _ (.tail _ (.tail _ (.tail _ (.tail _ (.tail _ (.tail _ (.head _))))))))))))))))))))))))))))))) (q_sc (.tail _ (.tail _ (.tail _ (.tail _ (.tail _ (.tail _ (.tail _ (.tail _ (.tail _ (.tail _ (.tail _ (.tail _ (.tail _ (.tail _ (.tail _ (.tail _ (.tail _ (.tail _ (.tail _ (.tail _ (.tail _ (.tail _ (.tail _ (.tail _ (.tail _ (.tail _ (.tail _ (.tail _ (.tail _ (.tail _ (.tail _ (.head _)))))))))))))))))))))))))))))))) (q_sc (.tail _ (.tail _ (.tail _ (.tail _ (.tail _ (.tail _ (.tail _ (.tail _ (.tail _ (.tail _ (.tail _ (.tail _ (.tail _ (.tail _ (.tail _ (.tail _ (.tail _ (.tail _ (.tail _ (.tail _ (.tail _ (.tail _ (.tail _ (.tail _ (.tail _ (.tail _ (.tail _ (.tail _ (.tail _ (.tail _ (.tail _ (.tail _ (.head _))))))))))))))))))))))))))))))))) (q_sc (.tail _ (.tail _ (.tail _ (.tail _ (.tail _ (.tail _ (.tail _ (.tail _ (.tail _ (.tail _ (.tail _ (.tail _ (.tail _ (.tail _ (.tail _ (.tail _ (.tail _ (.tail _ (.tail _ (.tail _ (.tail _ (.tail _ (.tail _ (.tail _ (.tail _ (.tail _ (.tail _ (.tail _ (.tail _ (.tail _ (.tail _ (.tail _ (.tail _ (.head _)))))))))))))))))))))))))))))))))) (fun _ h => absurd h List.not_mem_nil)))))
  have hn30 : u108[31]? = some (q109, .inr (3, [.ref q110, .int 0, .int 1])) := hq113
  have hn31 : u108[32]? = some (q110, .inr (2, [.ref q111, .int 1, .int 0])) := hq114
  have hn32 : u108[33]? = some (q111, .inl (g 0, 3, .inl (upd (upd (upd (fun _ => 0) 0 1) 1 0) 2 0))) := hq115
  replace hN : u108.length = 34 := hN
  have ho118 := hO0
  refine q_putF (ci := 0) (j := 7) (v := .ref q103) (ty := .object "NumberHouse$DecimalWork") C0 V i_NH o_NH n_NH rfl rfl rfl rfl rfl hO0 (by decide) w_431 rfl rfl rfl (Nat.le_of_ble_eq_true rfl) d_1_1_89 (fun H locs w116 hu117 hO0 V => ?_)
  replace hO0 : w116[0]? = some (qO0, .inr (0, [.ref q1, .ref q13, .ref q25, .ref q32, .ref q39, .ref q46, .ref q53, .ref q103, .null, .null, .null, .null, .null, .null])) := hO0
  replace hN : w116.length = 34 := (q_len1 hu117 hO0 ho118).trans hN
  replace hn0 := (hu117 _ (q_pd 1 0 rfl)).trans hn0
  replace hn1 := (hu117 _ (q_pd 2 0 rfl)).trans hn1
  replace hn2 := (hu117 _ (q_pd 3 0 rfl)).trans hn2
  replace hn3 := (hu117 _ (q_pd 4 0 rfl)).trans hn3
  replace hn4 := (hu117 _ (q_pd 5 0 rfl)).trans hn4
  replace hn5 := (hu117 _ (q_pd 6 0 rfl)).trans hn5
  replace hn6 := (hu117 _ (q_pd 7 0 rfl)).trans hn6
  replace hn7 := (hu117 _ (q_pd 8 0 rfl)).trans hn7
  replace hn8 := (hu117 _ (q_pd 9 0 rfl)).trans hn8
  replace hn9 := (hu117 _ (q_pd 10 0 rfl)).trans hn9
  replace hn10 := (hu117 _ (q_pd 11 0 rfl)).trans hn10
  replace hn11 := (hu117 _ (q_pd 12 0 rfl)).trans hn11
  replace hn12 := (hu117 _ (q_pd 13 0 rfl)).trans hn12
  replace hn13 := (hu117 _ (q_pd 14 0 rfl)).trans hn13
  replace hn14 := (hu117 _ (q_pd 15 0 rfl)).trans hn14
  replace hn15 := (hu117 _ (q_pd 16 0 rfl)).trans hn15
  replace hn16 := (hu117 _ (q_pd 17 0 rfl)).trans hn16
  replace hn17 := (hu117 _ (q_pd 18 0 rfl)).trans hn17
  replace hn18 := (hu117 _ (q_pd 19 0 rfl)).trans hn18
  replace hn19 := (hu117 _ (q_pd 20 0 rfl)).trans hn19
  replace hn20 := (hu117 _ (q_pd 21 0 rfl)).trans hn20
  replace hn21 := (hu117 _ (q_pd 22 0 rfl)).trans hn21
  replace hn22 := (hu117 _ (q_pd 23 0 rfl)).trans hn22
  replace hn23 := (hu117 _ (q_pd 24 0 rfl)).trans hn23
  replace hn24 := (hu117 _ (q_pd 25 0 rfl)).trans hn24
  replace hn25 := (hu117 _ (q_pd 26 0 rfl)).trans hn25
  replace hn26 := (hu117 _ (q_pd 27 0 rfl)).trans hn26
  replace hn27 := (hu117 _ (q_pd 28 0 rfl)).trans hn27
  replace hn28 := (hu117 _ (q_pd 29 0 rfl)).trans hn28
  replace hn29 := (hu117 _ (q_pd 30 0 rfl)).trans hn29
  replace hn30 := (hu117 _ (q_pd 31 0 rfl)).trans hn30
  replace hn31 := (hu117 _ (q_pd 32 0 rfl)).trans hn31
  replace hn32 := (hu117 _ (q_pd 33 0 rfl)).trans hn32
  replace hF := q_us hF hu117 (.head _)
  refine lv_aload_n hx hb d_1_1_92 rfl (lv_at hl 0 rfl) ?_
  refine q_new (ci := 6) (fs := [.int 0, .int 0, .int 0, .long 0, .int 0, .null, .int 0]) C0 V hN i_Flo o_Flo rfl w_225 w_226 w_8 rfl (fun j hj => by rcases (show j = 0 ∨ j = 1 ∨ j = 2 ∨ j = 3 ∨ j = 4 ∨ j = 5 ∨ j = 6 by omega) with rfl | rfl | rfl | rfl | rfl | rfl | rfl <;> rfl) (Nat.le_of_ble_eq_true rfl) (Nat.le_of_ble_eq_true rfl) d_1_1_93 (fun q119 H w120 hu121 hn122 hN V => ?_)
  have hn33 : w120[34]? = some (q119, .inr (6, [.int 0, .int 0, .int 0, .long 0, .int 0, .null, .int 0])) := hn122
  replace hO0 := (hu121 _ (q_pd 0 34 rfl)).trans hO0
  replace hn0 := (hu121 _ (q_pd 1 34 rfl)).trans hn0
  replace hn1 := (hu121 _ (q_pd 2 34 rfl)).trans hn1
  replace hn2 := (hu121 _ (q_pd 3 34 rfl)).trans hn2
  replace hn3 := (hu121 _ (q_pd 4 34 rfl)).trans hn3
  replace hn4 := (hu121 _ (q_pd 5 34 rfl)).trans hn4
  replace hn5 := (hu121 _ (q_pd 6 34 rfl)).trans hn5
  replace hn6 := (hu121 _ (q_pd 7 34 rfl)).trans hn6
  replace hn7 := (hu121 _ (q_pd 8 34 rfl)).trans hn7
  replace hn8 := (hu121 _ (q_pd 9 34 rfl)).trans hn8
  replace hn9 := (hu121 _ (q_pd 10 34 rfl)).trans hn9
  replace hn10 := (hu121 _ (q_pd 11 34 rfl)).trans hn10
  replace hn11 := (hu121 _ (q_pd 12 34 rfl)).trans hn11
  replace hn12 := (hu121 _ (q_pd 13 34 rfl)).trans hn12
  replace hn13 := (hu121 _ (q_pd 14 34 rfl)).trans hn13
  replace hn14 := (hu121 _ (q_pd 15 34 rfl)).trans hn14
  replace hn15 := (hu121 _ (q_pd 16 34 rfl)).trans hn15
  replace hn16 := (hu121 _ (q_pd 17 34 rfl)).trans hn16
  replace hn17 := (hu121 _ (q_pd 18 34 rfl)).trans hn17
  replace hn18 := (hu121 _ (q_pd 19 34 rfl)).trans hn18
  replace hn19 := (hu121 _ (q_pd 20 34 rfl)).trans hn19
  replace hn20 := (hu121 _ (q_pd 21 34 rfl)).trans hn20
  replace hn21 := (hu121 _ (q_pd 22 34 rfl)).trans hn21
  replace hn22 := (hu121 _ (q_pd 23 34 rfl)).trans hn22
  replace hn23 := (hu121 _ (q_pd 24 34 rfl)).trans hn23
  replace hn24 := (hu121 _ (q_pd 25 34 rfl)).trans hn24
  replace hn25 := (hu121 _ (q_pd 26 34 rfl)).trans hn25
  replace hn26 := (hu121 _ (q_pd 27 34 rfl)).trans hn26
  replace hn27 := (hu121 _ (q_pd 28 34 rfl)).trans hn27
  replace hn28 := (hu121 _ (q_pd 29 34 rfl)).trans hn28
  replace hn29 := (hu121 _ (q_pd 30 34 rfl)).trans hn29
  replace hn30 := (hu121 _ (q_pd 31 34 rfl)).trans hn30
  replace hn31 := (hu121 _ (q_pd 32 34 rfl)).trans hn31
  replace hn32 := (hu121 _ (q_pd 33 34 rfl)).trans hn32
  replace hF := q_us hF hu121 (.tail _ (.tail _ (.tail _ (.tail _ (.tail _ (.tail _ (.tail _ (.tail _ (.tail _ (.tail _ (.tail _ (.tail _ (.tail _ (.tail _ (.tail _ (.tail _ (.tail _ (.tail _ (.tail _ (.tail _ (.tail _ (.tail _ (.tail _ (.tail _ (.tail _ (.tail _ (.tail _ (.tail _ (.tail _ (.tail _ (.tail _ (.tail _ (.tail _ (.tail _ (.head _)))))))))))))))))))))))))))))))))))
  replace hN : w120.length = 35 := hN
  refine lv_dup hx hb d_1_1_96 rfl ?_
  refine lv_bipush (v := 52) hx hb d_1_1_97 (by decide) ?_
  refine lv_sipush (v := 1075) hx hb d_1_1_99 (by decide) ?_
  refine lv_sipush (v := 2047) hx hb d_1_1_102 (by decide) ?_
  refine lv_aload_n hx hb d_1_1_105 rfl (lv_at hl 0 rfl) ?_
  refine q_get (ci := 0) (j := 6) (v := .ref q53) C0 V i_NH rfl rfl hO0 (by decide) w_430 rfl d_1_1_106 ?_
  refine q_gov V (q_runI (As := [.int 52, .int 1075, .int 2047, .ref q53]) (rest := [.ref q119, .ref qO0]) (d := 2) (mc := 0) (ms := 0) C0 V rfl LI_NH_58 (c_Flo_init l D g w120 q119 q53 hN hn33 _) rfl hl.1 rfl (Nat.le_of_ble_eq_true rfl) ⟨by decide, by decide⟩ ⟨Nat.le_of_ble_eq_true rfl, Nat.le_of_ble_eq_true rfl⟩ d_1_1_109) (fun u124 H locs hp123 V => ?_)
  obtain ⟨hg125, hn33, hN⟩ := hp123
  replace hO0 := (hg125 _ (q_nc (q_pd 0 34 rfl) List.not_mem_nil)).trans hO0
  replace hn0 := (hg125 _ (q_nc (q_pd 1 34 rfl) List.not_mem_nil)).trans hn0
  replace hn1 := (hg125 _ (q_nc (q_pd 2 34 rfl) List.not_mem_nil)).trans hn1
  replace hn2 := (hg125 _ (q_nc (q_pd 3 34 rfl) List.not_mem_nil)).trans hn2
  replace hn3 := (hg125 _ (q_nc (q_pd 4 34 rfl) List.not_mem_nil)).trans hn3
  replace hn4 := (hg125 _ (q_nc (q_pd 5 34 rfl) List.not_mem_nil)).trans hn4
  replace hn5 := (hg125 _ (q_nc (q_pd 6 34 rfl) List.not_mem_nil)).trans hn5
  replace hn6 := (hg125 _ (q_nc (q_pd 7 34 rfl) List.not_mem_nil)).trans hn6
  replace hn7 := (hg125 _ (q_nc (q_pd 8 34 rfl) List.not_mem_nil)).trans hn7
  replace hn8 := (hg125 _ (q_nc (q_pd 9 34 rfl) List.not_mem_nil)).trans hn8
  replace hn9 := (hg125 _ (q_nc (q_pd 10 34 rfl) List.not_mem_nil)).trans hn9
  replace hn10 := (hg125 _ (q_nc (q_pd 11 34 rfl) List.not_mem_nil)).trans hn10
  replace hn11 := (hg125 _ (q_nc (q_pd 12 34 rfl) List.not_mem_nil)).trans hn11
  replace hn12 := (hg125 _ (q_nc (q_pd 13 34 rfl) List.not_mem_nil)).trans hn12
  replace hn13 := (hg125 _ (q_nc (q_pd 14 34 rfl) List.not_mem_nil)).trans hn13
  replace hn14 := (hg125 _ (q_nc (q_pd 15 34 rfl) List.not_mem_nil)).trans hn14
  replace hn15 := (hg125 _ (q_nc (q_pd 16 34 rfl) List.not_mem_nil)).trans hn15
  replace hn16 := (hg125 _ (q_nc (q_pd 17 34 rfl) List.not_mem_nil)).trans hn16
  replace hn17 := (hg125 _ (q_nc (q_pd 18 34 rfl) List.not_mem_nil)).trans hn17
  replace hn18 := (hg125 _ (q_nc (q_pd 19 34 rfl) List.not_mem_nil)).trans hn18
  replace hn19 := (hg125 _ (q_nc (q_pd 20 34 rfl) List.not_mem_nil)).trans hn19
  replace hn20 := (hg125 _ (q_nc (q_pd 21 34 rfl) List.not_mem_nil)).trans hn20
  replace hn21 := (hg125 _ (q_nc (q_pd 22 34 rfl) List.not_mem_nil)).trans hn21
  replace hn22 := (hg125 _ (q_nc (q_pd 23 34 rfl) List.not_mem_nil)).trans hn22
  replace hn23 := (hg125 _ (q_nc (q_pd 24 34 rfl) List.not_mem_nil)).trans hn23
  replace hn24 := (hg125 _ (q_nc (q_pd 25 34 rfl) List.not_mem_nil)).trans hn24
  replace hn25 := (hg125 _ (q_nc (q_pd 26 34 rfl) List.not_mem_nil)).trans hn25
  replace hn26 := (hg125 _ (q_nc (q_pd 27 34 rfl) List.not_mem_nil)).trans hn26
  replace hn27 := (hg125 _ (q_nc (q_pd 28 34 rfl) List.not_mem_nil)).trans hn27
  replace hn28 := (hg125 _ (q_nc (q_pd 29 34 rfl) List.not_mem_nil)).trans hn28
  replace hn29 := (hg125 _ (q_nc (q_pd 30 34 rfl) List.not_mem_nil)).trans hn29
  replace hn30 := (hg125 _ (q_nc (q_pd 31 34 rfl) List.not_mem_nil)).trans hn30
  replace hn31 := (hg125 _ (q_nc (q_pd 32 34 rfl) List.not_mem_nil)).trans hn31
  replace hn32 := (hg125 _ (q_nc (q_pd 33 34 rfl) List.not_mem_nil)).trans hn32
  replace hF := q_uc hF hg125 (q_sc (.tail _ (.tail _ (.tail _ (.tail _ (.tail _ (.tail _ (.tail _ (.tail _ (.tail _ (.tail _ (.tail _ (.tail _ (.tail _ (.tail _ (.tail _ (.tail _ (.tail _ (.tail _ (.tail _ (.tail _ (.tail _ (.tail _ (.tail _ (.tail _ (.tail _ (.tail _ (.tail _ (.tail _ (.tail _ (.tail _ (.tail _ (.tail _ (.tail _ (.tail _ (.head _))))))))))))))))))))))))))))))))))) (fun _ h => absurd h List.not_mem_nil))
  replace hN : u124.length = 35 := hN
  have ho128 := hO0
  refine q_putF (ci := 0) (j := 8) (v := .ref q119) (ty := .object "NumberHouse$Floats") C0 V i_NH o_NH n_NH rfl rfl rfl rfl rfl hO0 (by decide) w_432 rfl rfl rfl (Nat.le_of_ble_eq_true rfl) d_1_1_112 (fun H locs w126 hu127 hO0 V => ?_)
  replace hO0 : w126[0]? = some (qO0, .inr (0, [.ref q1, .ref q13, .ref q25, .ref q32, .ref q39, .ref q46, .ref q53, .ref q103, .ref q119, .null, .null, .null, .null, .null])) := hO0
  replace hN : w126.length = 35 := (q_len1 hu127 hO0 ho128).trans hN
  replace hn0 := (hu127 _ (q_pd 1 0 rfl)).trans hn0
  replace hn1 := (hu127 _ (q_pd 2 0 rfl)).trans hn1
  replace hn2 := (hu127 _ (q_pd 3 0 rfl)).trans hn2
  replace hn3 := (hu127 _ (q_pd 4 0 rfl)).trans hn3
  replace hn4 := (hu127 _ (q_pd 5 0 rfl)).trans hn4
  replace hn5 := (hu127 _ (q_pd 6 0 rfl)).trans hn5
  replace hn6 := (hu127 _ (q_pd 7 0 rfl)).trans hn6
  replace hn7 := (hu127 _ (q_pd 8 0 rfl)).trans hn7
  replace hn8 := (hu127 _ (q_pd 9 0 rfl)).trans hn8
  replace hn9 := (hu127 _ (q_pd 10 0 rfl)).trans hn9
  replace hn10 := (hu127 _ (q_pd 11 0 rfl)).trans hn10
  replace hn11 := (hu127 _ (q_pd 12 0 rfl)).trans hn11
  replace hn12 := (hu127 _ (q_pd 13 0 rfl)).trans hn12
  replace hn13 := (hu127 _ (q_pd 14 0 rfl)).trans hn13
  replace hn14 := (hu127 _ (q_pd 15 0 rfl)).trans hn14
  replace hn15 := (hu127 _ (q_pd 16 0 rfl)).trans hn15
  replace hn16 := (hu127 _ (q_pd 17 0 rfl)).trans hn16
  replace hn17 := (hu127 _ (q_pd 18 0 rfl)).trans hn17
  replace hn18 := (hu127 _ (q_pd 19 0 rfl)).trans hn18
  replace hn19 := (hu127 _ (q_pd 20 0 rfl)).trans hn19
  replace hn20 := (hu127 _ (q_pd 21 0 rfl)).trans hn20
  replace hn21 := (hu127 _ (q_pd 22 0 rfl)).trans hn21
  replace hn22 := (hu127 _ (q_pd 23 0 rfl)).trans hn22
  replace hn23 := (hu127 _ (q_pd 24 0 rfl)).trans hn23
  replace hn24 := (hu127 _ (q_pd 25 0 rfl)).trans hn24
  replace hn25 := (hu127 _ (q_pd 26 0 rfl)).trans hn25
  replace hn26 := (hu127 _ (q_pd 27 0 rfl)).trans hn26
  replace hn27 := (hu127 _ (q_pd 28 0 rfl)).trans hn27
  replace hn28 := (hu127 _ (q_pd 29 0 rfl)).trans hn28
  replace hn29 := (hu127 _ (q_pd 30 0 rfl)).trans hn29
  replace hn30 := (hu127 _ (q_pd 31 0 rfl)).trans hn30
  replace hn31 := (hu127 _ (q_pd 32 0 rfl)).trans hn31
  replace hn32 := (hu127 _ (q_pd 33 0 rfl)).trans hn32
  replace hn33 := (hu127 _ (q_pd 34 0 rfl)).trans hn33
  replace hF := q_us hF hu127 (.head _)
  refine lv_aload_n hx hb d_1_1_115 rfl (lv_at hl 0 rfl) ?_
  refine q_new (ci := 6) (fs := [.int 0, .int 0, .int 0, .long 0, .int 0, .null, .int 0]) C0 V hN i_Flo o_Flo rfl w_225 w_226 w_8 rfl (fun j hj => by rcases (show j = 0 ∨ j = 1 ∨ j = 2 ∨ j = 3 ∨ j = 4 ∨ j = 5 ∨ j = 6 by omega) with rfl | rfl | rfl | rfl | rfl | rfl | rfl <;> rfl) (Nat.le_of_ble_eq_true rfl) (Nat.le_of_ble_eq_true rfl) d_1_1_116 (fun q129 H w130 hu131 hn132 hN V => ?_)
  have hn34 : w130[35]? = some (q129, .inr (6, [.int 0, .int 0, .int 0, .long 0, .int 0, .null, .int 0])) := hn132
  replace hO0 := (hu131 _ (q_pd 0 35 rfl)).trans hO0
  replace hn0 := (hu131 _ (q_pd 1 35 rfl)).trans hn0
  replace hn1 := (hu131 _ (q_pd 2 35 rfl)).trans hn1
  replace hn2 := (hu131 _ (q_pd 3 35 rfl)).trans hn2
  replace hn3 := (hu131 _ (q_pd 4 35 rfl)).trans hn3
  replace hn4 := (hu131 _ (q_pd 5 35 rfl)).trans hn4
  replace hn5 := (hu131 _ (q_pd 6 35 rfl)).trans hn5
  replace hn6 := (hu131 _ (q_pd 7 35 rfl)).trans hn6
  replace hn7 := (hu131 _ (q_pd 8 35 rfl)).trans hn7
  replace hn8 := (hu131 _ (q_pd 9 35 rfl)).trans hn8
  replace hn9 := (hu131 _ (q_pd 10 35 rfl)).trans hn9
  replace hn10 := (hu131 _ (q_pd 11 35 rfl)).trans hn10
  replace hn11 := (hu131 _ (q_pd 12 35 rfl)).trans hn11
  replace hn12 := (hu131 _ (q_pd 13 35 rfl)).trans hn12
  replace hn13 := (hu131 _ (q_pd 14 35 rfl)).trans hn13
  replace hn14 := (hu131 _ (q_pd 15 35 rfl)).trans hn14
  replace hn15 := (hu131 _ (q_pd 16 35 rfl)).trans hn15
  replace hn16 := (hu131 _ (q_pd 17 35 rfl)).trans hn16
  replace hn17 := (hu131 _ (q_pd 18 35 rfl)).trans hn17
  replace hn18 := (hu131 _ (q_pd 19 35 rfl)).trans hn18
  replace hn19 := (hu131 _ (q_pd 20 35 rfl)).trans hn19
  replace hn20 := (hu131 _ (q_pd 21 35 rfl)).trans hn20
  replace hn21 := (hu131 _ (q_pd 22 35 rfl)).trans hn21
  replace hn22 := (hu131 _ (q_pd 23 35 rfl)).trans hn22
  replace hn23 := (hu131 _ (q_pd 24 35 rfl)).trans hn23
  replace hn24 := (hu131 _ (q_pd 25 35 rfl)).trans hn24
  replace hn25 := (hu131 _ (q_pd 26 35 rfl)).trans hn25
  replace hn26 := (hu131 _ (q_pd 27 35 rfl)).trans hn26
  replace hn27 := (hu131 _ (q_pd 28 35 rfl)).trans hn27
  replace hn28 := (hu131 _ (q_pd 29 35 rfl)).trans hn28
  replace hn29 := (hu131 _ (q_pd 30 35 rfl)).trans hn29
  replace hn30 := (hu131 _ (q_pd 31 35 rfl)).trans hn30
  replace hn31 := (hu131 _ (q_pd 32 35 rfl)).trans hn31
  replace hn32 := (hu131 _ (q_pd 33 35 rfl)).trans hn32
  replace hn33 := (hu131 _ (q_pd 34 35 rfl)).trans hn33
  replace hF := q_us hF hu131 (.tail _ (.tail _ (.tail _ (.tail _ (.tail _ (.tail _ (.tail _ (.tail _ (.tail _ (.tail _ (.tail _ (.tail _ (.tail _ (.tail _ (.tail _ (.tail _ (.tail _ (.tail _ (.tail _ (.tail _ (.tail _ (.tail _ (.tail _ (.tail _ (.tail _ (.tail _ (.tail _ (.tail _ (.tail _ (.tail _ (.tail _ (.tail _ (.tail _ (.tail _ (.tail _ (.head _))))))))))))))))))))))))))))))))))))
  replace hN : w130.length = 36 := hN
  refine lv_dup hx hb d_1_1_119 rfl ?_
  refine lv_bipush (v := 23) hx hb d_1_1_120 (by decide) ?_
  refine lv_sipush (v := 150) hx hb d_1_1_122 (by decide) ?_
  refine lv_sipush (v := 255) hx hb d_1_1_125 (by decide) ?_
  refine lv_aload_n hx hb d_1_1_128 rfl (lv_at hl 0 rfl) ?_
  refine q_get (ci := 0) (j := 6) (v := .ref q53) C0 V i_NH rfl rfl hO0 (by decide) w_430 rfl d_1_1_129 ?_
  refine q_gov V (q_runI (As := [.int 23, .int 150, .int 255, .ref q53]) (rest := [.ref q129, .ref qO0]) (d := 2) (mc := 0) (ms := 0) C0 V rfl LI_NH_58 (c_Flo_init_2 l D g w130 q129 q53 hN hn34 _) rfl hl.1 rfl (Nat.le_of_ble_eq_true rfl) ⟨by decide, by decide⟩ ⟨Nat.le_of_ble_eq_true rfl, Nat.le_of_ble_eq_true rfl⟩ d_1_1_132) (fun u134 H locs hp133 V => ?_)
  obtain ⟨hg135, hn34, hN⟩ := hp133
  replace hO0 := (hg135 _ (q_nc (q_pd 0 35 rfl) List.not_mem_nil)).trans hO0
  replace hn0 := (hg135 _ (q_nc (q_pd 1 35 rfl) List.not_mem_nil)).trans hn0
  replace hn1 := (hg135 _ (q_nc (q_pd 2 35 rfl) List.not_mem_nil)).trans hn1
  replace hn2 := (hg135 _ (q_nc (q_pd 3 35 rfl) List.not_mem_nil)).trans hn2
  replace hn3 := (hg135 _ (q_nc (q_pd 4 35 rfl) List.not_mem_nil)).trans hn3
  replace hn4 := (hg135 _ (q_nc (q_pd 5 35 rfl) List.not_mem_nil)).trans hn4
  replace hn5 := (hg135 _ (q_nc (q_pd 6 35 rfl) List.not_mem_nil)).trans hn5
  replace hn6 := (hg135 _ (q_nc (q_pd 7 35 rfl) List.not_mem_nil)).trans hn6
  replace hn7 := (hg135 _ (q_nc (q_pd 8 35 rfl) List.not_mem_nil)).trans hn7
  replace hn8 := (hg135 _ (q_nc (q_pd 9 35 rfl) List.not_mem_nil)).trans hn8
  replace hn9 := (hg135 _ (q_nc (q_pd 10 35 rfl) List.not_mem_nil)).trans hn9
  replace hn10 := (hg135 _ (q_nc (q_pd 11 35 rfl) List.not_mem_nil)).trans hn10
  replace hn11 := (hg135 _ (q_nc (q_pd 12 35 rfl) List.not_mem_nil)).trans hn11
  replace hn12 := (hg135 _ (q_nc (q_pd 13 35 rfl) List.not_mem_nil)).trans hn12
  replace hn13 := (hg135 _ (q_nc (q_pd 14 35 rfl) List.not_mem_nil)).trans hn13
  replace hn14 := (hg135 _ (q_nc (q_pd 15 35 rfl) List.not_mem_nil)).trans hn14
  replace hn15 := (hg135 _ (q_nc (q_pd 16 35 rfl) List.not_mem_nil)).trans hn15
  replace hn16 := (hg135 _ (q_nc (q_pd 17 35 rfl) List.not_mem_nil)).trans hn16
  replace hn17 := (hg135 _ (q_nc (q_pd 18 35 rfl) List.not_mem_nil)).trans hn17
  replace hn18 := (hg135 _ (q_nc (q_pd 19 35 rfl) List.not_mem_nil)).trans hn18
  replace hn19 := (hg135 _ (q_nc (q_pd 20 35 rfl) List.not_mem_nil)).trans hn19
  replace hn20 := (hg135 _ (q_nc (q_pd 21 35 rfl) List.not_mem_nil)).trans hn20
  replace hn21 := (hg135 _ (q_nc (q_pd 22 35 rfl) List.not_mem_nil)).trans hn21
  replace hn22 := (hg135 _ (q_nc (q_pd 23 35 rfl) List.not_mem_nil)).trans hn22
  replace hn23 := (hg135 _ (q_nc (q_pd 24 35 rfl) List.not_mem_nil)).trans hn23
  replace hn24 := (hg135 _ (q_nc (q_pd 25 35 rfl) List.not_mem_nil)).trans hn24
  replace hn25 := (hg135 _ (q_nc (q_pd 26 35 rfl) List.not_mem_nil)).trans hn25
  replace hn26 := (hg135 _ (q_nc (q_pd 27 35 rfl) List.not_mem_nil)).trans hn26
  replace hn27 := (hg135 _ (q_nc (q_pd 28 35 rfl) List.not_mem_nil)).trans hn27
  replace hn28 := (hg135 _ (q_nc (q_pd 29 35 rfl) List.not_mem_nil)).trans hn28
  replace hn29 := (hg135 _ (q_nc (q_pd 30 35 rfl) List.not_mem_nil)).trans hn29
  replace hn30 := (hg135 _ (q_nc (q_pd 31 35 rfl) List.not_mem_nil)).trans hn30
  replace hn31 := (hg135 _ (q_nc (q_pd 32 35 rfl) List.not_mem_nil)).trans hn31
  replace hn32 := (hg135 _ (q_nc (q_pd 33 35 rfl) List.not_mem_nil)).trans hn32
  replace hn33 := (hg135 _ (q_nc (q_pd 34 35 rfl) List.not_mem_nil)).trans hn33
  replace hF := q_uc hF hg135 (q_sc (.tail _ (.tail _ (.tail _ (.tail _ (.tail _ (.tail _ (.tail _ (.tail _ (.tail _ (.tail _ (.tail _ (.tail _ (.tail _ (.tail _ (.tail _ (.tail _ (.tail _ (.tail _ (.tail _ (.tail _ (.tail _ (.tail _ (.tail _ (.tail _ (.tail _ (.tail _ (.tail _ (.tail _ (.tail _ (.tail _ (.tail _ (.tail _ (.tail _ (.tail _ (.tail _ (.head _)))))))))))))))))))))))))))))))))))) (fun _ h => absurd h List.not_mem_nil))
  replace hN : u134.length = 36 := hN
  have ho138 := hO0
  refine q_putF (ci := 0) (j := 9) (v := .ref q129) (ty := .object "NumberHouse$Floats") C0 V i_NH o_NH n_NH rfl rfl rfl rfl rfl hO0 (by decide) w_433 rfl rfl rfl (Nat.le_of_ble_eq_true rfl) d_1_1_135 (fun H locs w136 hu137 hO0 V => ?_)
  replace hO0 : w136[0]? = some (qO0, .inr (0, [.ref q1, .ref q13, .ref q25, .ref q32, .ref q39, .ref q46, .ref q53, .ref q103, .ref q119, .ref q129, .null, .null, .null, .null])) := hO0
  replace hN : w136.length = 36 := (q_len1 hu137 hO0 ho138).trans hN
  replace hn0 := (hu137 _ (q_pd 1 0 rfl)).trans hn0
  replace hn1 := (hu137 _ (q_pd 2 0 rfl)).trans hn1
  replace hn2 := (hu137 _ (q_pd 3 0 rfl)).trans hn2
  replace hn3 := (hu137 _ (q_pd 4 0 rfl)).trans hn3
  replace hn4 := (hu137 _ (q_pd 5 0 rfl)).trans hn4
  replace hn5 := (hu137 _ (q_pd 6 0 rfl)).trans hn5
  replace hn6 := (hu137 _ (q_pd 7 0 rfl)).trans hn6
  replace hn7 := (hu137 _ (q_pd 8 0 rfl)).trans hn7
  replace hn8 := (hu137 _ (q_pd 9 0 rfl)).trans hn8
  replace hn9 := (hu137 _ (q_pd 10 0 rfl)).trans hn9
  replace hn10 := (hu137 _ (q_pd 11 0 rfl)).trans hn10
  replace hn11 := (hu137 _ (q_pd 12 0 rfl)).trans hn11
  replace hn12 := (hu137 _ (q_pd 13 0 rfl)).trans hn12
  replace hn13 := (hu137 _ (q_pd 14 0 rfl)).trans hn13
  replace hn14 := (hu137 _ (q_pd 15 0 rfl)).trans hn14
  replace hn15 := (hu137 _ (q_pd 16 0 rfl)).trans hn15
  replace hn16 := (hu137 _ (q_pd 17 0 rfl)).trans hn16
  replace hn17 := (hu137 _ (q_pd 18 0 rfl)).trans hn17
  replace hn18 := (hu137 _ (q_pd 19 0 rfl)).trans hn18
  replace hn19 := (hu137 _ (q_pd 20 0 rfl)).trans hn19
  replace hn20 := (hu137 _ (q_pd 21 0 rfl)).trans hn20
  replace hn21 := (hu137 _ (q_pd 22 0 rfl)).trans hn21
  replace hn22 := (hu137 _ (q_pd 23 0 rfl)).trans hn22
  replace hn23 := (hu137 _ (q_pd 24 0 rfl)).trans hn23
  replace hn24 := (hu137 _ (q_pd 25 0 rfl)).trans hn24
  replace hn25 := (hu137 _ (q_pd 26 0 rfl)).trans hn25
  replace hn26 := (hu137 _ (q_pd 27 0 rfl)).trans hn26
  replace hn27 := (hu137 _ (q_pd 28 0 rfl)).trans hn27
  replace hn28 := (hu137 _ (q_pd 29 0 rfl)).trans hn28
  replace hn29 := (hu137 _ (q_pd 30 0 rfl)).trans hn29
  replace hn30 := (hu137 _ (q_pd 31 0 rfl)).trans hn30
  replace hn31 := (hu137 _ (q_pd 32 0 rfl)).trans hn31
  replace hn32 := (hu137 _ (q_pd 33 0 rfl)).trans hn32
  replace hn33 := (hu137 _ (q_pd 34 0 rfl)).trans hn33
  replace hn34 := (hu137 _ (q_pd 35 0 rfl)).trans hn34
  replace hF := q_us hF hu137 (.head _)
  refine lv_aload_n hx hb d_1_1_138 rfl (lv_at hl 0 rfl) ?_
  refine q_new (ci := 7) (fs := [.int 0, .int 0, .null]) C0 V hN i_Dig o_Dig rfl w_258 w_259 w_9 rfl (fun j hj => by rcases (show j = 0 ∨ j = 1 ∨ j = 2 by omega) with rfl | rfl | rfl <;> rfl) (Nat.le_of_ble_eq_true rfl) (Nat.le_of_ble_eq_true rfl) d_1_1_139 (fun q139 H w140 hu141 hn142 hN V => ?_)
  have hn35 : w140[36]? = some (q139, .inr (7, [.int 0, .int 0, .null])) := hn142
  replace hO0 := (hu141 _ (q_pd 0 36 rfl)).trans hO0
  replace hn0 := (hu141 _ (q_pd 1 36 rfl)).trans hn0
  replace hn1 := (hu141 _ (q_pd 2 36 rfl)).trans hn1
  replace hn2 := (hu141 _ (q_pd 3 36 rfl)).trans hn2
  replace hn3 := (hu141 _ (q_pd 4 36 rfl)).trans hn3
  replace hn4 := (hu141 _ (q_pd 5 36 rfl)).trans hn4
  replace hn5 := (hu141 _ (q_pd 6 36 rfl)).trans hn5
  replace hn6 := (hu141 _ (q_pd 7 36 rfl)).trans hn6
  replace hn7 := (hu141 _ (q_pd 8 36 rfl)).trans hn7
  replace hn8 := (hu141 _ (q_pd 9 36 rfl)).trans hn8
  replace hn9 := (hu141 _ (q_pd 10 36 rfl)).trans hn9
  replace hn10 := (hu141 _ (q_pd 11 36 rfl)).trans hn10
  replace hn11 := (hu141 _ (q_pd 12 36 rfl)).trans hn11
  replace hn12 := (hu141 _ (q_pd 13 36 rfl)).trans hn12
  replace hn13 := (hu141 _ (q_pd 14 36 rfl)).trans hn13
  replace hn14 := (hu141 _ (q_pd 15 36 rfl)).trans hn14
  replace hn15 := (hu141 _ (q_pd 16 36 rfl)).trans hn15
  replace hn16 := (hu141 _ (q_pd 17 36 rfl)).trans hn16
  replace hn17 := (hu141 _ (q_pd 18 36 rfl)).trans hn17
  replace hn18 := (hu141 _ (q_pd 19 36 rfl)).trans hn18
  replace hn19 := (hu141 _ (q_pd 20 36 rfl)).trans hn19
  replace hn20 := (hu141 _ (q_pd 21 36 rfl)).trans hn20
  replace hn21 := (hu141 _ (q_pd 22 36 rfl)).trans hn21
  replace hn22 := (hu141 _ (q_pd 23 36 rfl)).trans hn22
  replace hn23 := (hu141 _ (q_pd 24 36 rfl)).trans hn23
  replace hn24 := (hu141 _ (q_pd 25 36 rfl)).trans hn24
  replace hn25 := (hu141 _ (q_pd 26 36 rfl)).trans hn25
  replace hn26 := (hu141 _ (q_pd 27 36 rfl)).trans hn26
  replace hn27 := (hu141 _ (q_pd 28 36 rfl)).trans hn27
  replace hn28 := (hu141 _ (q_pd 29 36 rfl)).trans hn28
  replace hn29 := (hu141 _ (q_pd 30 36 rfl)).trans hn29
  replace hn30 := (hu141 _ (q_pd 31 36 rfl)).trans hn30
  replace hn31 := (hu141 _ (q_pd 32 36 rfl)).trans hn31
  replace hn32 := (hu141 _ (q_pd 33 36 rfl)).trans hn32
  replace hn33 := (hu141 _ (q_pd 34 36 rfl)).trans hn33
  replace hn34 := (hu141 _ (q_pd 35 36 rfl)).trans hn34
  replace hF := q_us hF hu141 (.tail _ (.tail _ (.tail _ (.tail _ (.tail _ (.tail _ (.tail _ (.tail _ (.tail _ (.tail _ (.tail _ (.tail _ (.tail _ (.tail _ (.tail _ (.tail _ (.tail _ (.tail _ (.tail _ (.tail _ (.tail _ (.tail _ (.tail _ (.tail _ (.tail _ (.tail _ (.tail _ (.tail _ (.tail _ (.tail _ (.tail _ (.tail _ (.tail _ (.tail _ (.tail _ (.tail _ (.head _)))))))))))))))))))))))))))))))))))))
  replace hN : w140.length = 37 := hN
  refine lv_dup hx hb d_1_1_142 rfl ?_
  refine q_gov V (q_runN (As := []) (rest := [.ref q139, .ref qO0]) (d := 2) (mc := 1) (ms := 1026) C0 V rfl LN_NH_70 (c_Dig_init l D g w140 q139 hN hn35 _) rfl hl.1 rfl (Nat.le_of_ble_eq_true rfl) ⟨by decide, by decide⟩ ⟨Nat.le_of_ble_eq_true rfl, Nat.le_of_ble_eq_true rfl⟩ d_1_1_143) (fun u144 H locs hp143 V => ?_)
  obtain ⟨q145, hg146, hn35, hq147, hN⟩ := hp143
  replace hO0 := (hg146 _ (q_nc (q_pd 0 36 rfl) (q_nc (q_pd 0 37 rfl) List.not_mem_nil))).trans hO0
  replace hn0 := (hg146 _ (q_nc (q_pd 1 36 rfl) (q_nc (q_pd 1 37 rfl) List.not_mem_nil))).trans hn0
  replace hn1 := (hg146 _ (q_nc (q_pd 2 36 rfl) (q_nc (q_pd 2 37 rfl) List.not_mem_nil))).trans hn1
  replace hn2 := (hg146 _ (q_nc (q_pd 3 36 rfl) (q_nc (q_pd 3 37 rfl) List.not_mem_nil))).trans hn2
  replace hn3 := (hg146 _ (q_nc (q_pd 4 36 rfl) (q_nc (q_pd 4 37 rfl) List.not_mem_nil))).trans hn3
  replace hn4 := (hg146 _ (q_nc (q_pd 5 36 rfl) (q_nc (q_pd 5 37 rfl) List.not_mem_nil))).trans hn4
  replace hn5 := (hg146 _ (q_nc (q_pd 6 36 rfl) (q_nc (q_pd 6 37 rfl) List.not_mem_nil))).trans hn5
  replace hn6 := (hg146 _ (q_nc (q_pd 7 36 rfl) (q_nc (q_pd 7 37 rfl) List.not_mem_nil))).trans hn6
  replace hn7 := (hg146 _ (q_nc (q_pd 8 36 rfl) (q_nc (q_pd 8 37 rfl) List.not_mem_nil))).trans hn7
  replace hn8 := (hg146 _ (q_nc (q_pd 9 36 rfl) (q_nc (q_pd 9 37 rfl) List.not_mem_nil))).trans hn8
  replace hn9 := (hg146 _ (q_nc (q_pd 10 36 rfl) (q_nc (q_pd 10 37 rfl) List.not_mem_nil))).trans hn9
  replace hn10 := (hg146 _ (q_nc (q_pd 11 36 rfl) (q_nc (q_pd 11 37 rfl) List.not_mem_nil))).trans hn10
  replace hn11 := (hg146 _ (q_nc (q_pd 12 36 rfl) (q_nc (q_pd 12 37 rfl) List.not_mem_nil))).trans hn11
  replace hn12 := (hg146 _ (q_nc (q_pd 13 36 rfl) (q_nc (q_pd 13 37 rfl) List.not_mem_nil))).trans hn12
  replace hn13 := (hg146 _ (q_nc (q_pd 14 36 rfl) (q_nc (q_pd 14 37 rfl) List.not_mem_nil))).trans hn13
  replace hn14 := (hg146 _ (q_nc (q_pd 15 36 rfl) (q_nc (q_pd 15 37 rfl) List.not_mem_nil))).trans hn14
  replace hn15 := (hg146 _ (q_nc (q_pd 16 36 rfl) (q_nc (q_pd 16 37 rfl) List.not_mem_nil))).trans hn15
  replace hn16 := (hg146 _ (q_nc (q_pd 17 36 rfl) (q_nc (q_pd 17 37 rfl) List.not_mem_nil))).trans hn16
  replace hn17 := (hg146 _ (q_nc (q_pd 18 36 rfl) (q_nc (q_pd 18 37 rfl) List.not_mem_nil))).trans hn17
  replace hn18 := (hg146 _ (q_nc (q_pd 19 36 rfl) (q_nc (q_pd 19 37 rfl) List.not_mem_nil))).trans hn18
  replace hn19 := (hg146 _ (q_nc (q_pd 20 36 rfl) (q_nc (q_pd 20 37 rfl) List.not_mem_nil))).trans hn19
  replace hn20 := (hg146 _ (q_nc (q_pd 21 36 rfl) (q_nc (q_pd 21 37 rfl) List.not_mem_nil))).trans hn20
  replace hn21 := (hg146 _ (q_nc (q_pd 22 36 rfl) (q_nc (q_pd 22 37 rfl) List.not_mem_nil))).trans hn21
  replace hn22 := (hg146 _ (q_nc (q_pd 23 36 rfl) (q_nc (q_pd 23 37 rfl) List.not_mem_nil))).trans hn22
  replace hn23 := (hg146 _ (q_nc (q_pd 24 36 rfl) (q_nc (q_pd 24 37 rfl) List.not_mem_nil))).trans hn23
  replace hn24 := (hg146 _ (q_nc (q_pd 25 36 rfl) (q_nc (q_pd 25 37 rfl) List.not_mem_nil))).trans hn24
  replace hn25 := (hg146 _ (q_nc (q_pd 26 36 rfl) (q_nc (q_pd 26 37 rfl) List.not_mem_nil))).trans hn25
  replace hn26 := (hg146 _ (q_nc (q_pd 27 36 rfl) (q_nc (q_pd 27 37 rfl) List.not_mem_nil))).trans hn26
  replace hn27 := (hg146 _ (q_nc (q_pd 28 36 rfl) (q_nc (q_pd 28 37 rfl) List.not_mem_nil))).trans hn27
  replace hn28 := (hg146 _ (q_nc (q_pd 29 36 rfl) (q_nc (q_pd 29 37 rfl) List.not_mem_nil))).trans hn28
  replace hn29 := (hg146 _ (q_nc (q_pd 30 36 rfl) (q_nc (q_pd 30 37 rfl) List.not_mem_nil))).trans hn29
  replace hn30 := (hg146 _ (q_nc (q_pd 31 36 rfl) (q_nc (q_pd 31 37 rfl) List.not_mem_nil))).trans hn30
  replace hn31 := (hg146 _ (q_nc (q_pd 32 36 rfl) (q_nc (q_pd 32 37 rfl) List.not_mem_nil))).trans hn31
  replace hn32 := (hg146 _ (q_nc (q_pd 33 36 rfl) (q_nc (q_pd 33 37 rfl) List.not_mem_nil))).trans hn32
  replace hn33 := (hg146 _ (q_nc (q_pd 34 36 rfl) (q_nc (q_pd 34 37 rfl) List.not_mem_nil))).trans hn33
  replace hn34 := (hg146 _ (q_nc (q_pd 35 36 rfl) (q_nc (q_pd 35 37 rfl) List.not_mem_nil))).trans hn34
  replace hF := q_uc hF hg146 (q_sc (.tail _ (.tail _ (.tail _ (.tail _ (.tail _ (.tail _ (.tail _ (.tail _ (.tail _ (.tail _ (.tail _ (.tail _ (.tail _ (.tail _ (.tail _ (.tail _ (.tail _ (.tail _ (.tail _ (.tail _ (.tail _ (.tail _ (.tail _ (.tail _ (.tail _ (.tail _ (.tail _ (.tail _ (.tail _ (.tail _ (.tail _ (.tail _ (.tail _ (.tail _ (.tail _ (.tail _ (.head _))))))))))))))))))))))))))))))))))))) (q_sc (.tail _ (.tail _ (.tail _ (.tail _ (.tail _ (.tail _ (.tail _ (.tail _ (.tail _ (.tail _ (.tail _ (.tail _ (.tail _ (.tail _ (.tail _ (.tail _ (.tail _ (.tail _ (.tail _ (.tail _ (.tail _ (.tail _ (.tail _ (.tail _ (.tail _ (.tail _ (.tail _ (.tail _ (.tail _ (.tail _ (.tail _ (.tail _ (.tail _ (.tail _ (.tail _ (.tail _ (.tail _ (.head _)))))))))))))))))))))))))))))))))))))) (fun _ h => absurd h List.not_mem_nil)))
  have hn36 : u144[37]? = some (q145, .inl (g 2, 1026, .inl (fun _ => 0))) := hq147
  replace hN : u144.length = 38 := hN
  have ho150 := hO0
  refine q_putF (ci := 0) (j := 10) (v := .ref q139) (ty := .object "NumberHouse$Digits") C0 V i_NH o_NH n_NH rfl rfl rfl rfl rfl hO0 (by decide) w_434 rfl rfl rfl (Nat.le_of_ble_eq_true rfl) d_1_1_146 (fun H locs w148 hu149 hO0 V => ?_)
  replace hO0 : w148[0]? = some (qO0, .inr (0, [.ref q1, .ref q13, .ref q25, .ref q32, .ref q39, .ref q46, .ref q53, .ref q103, .ref q119, .ref q129, .ref q139, .null, .null, .null])) := hO0
  replace hN : w148.length = 38 := (q_len1 hu149 hO0 ho150).trans hN
  replace hn0 := (hu149 _ (q_pd 1 0 rfl)).trans hn0
  replace hn1 := (hu149 _ (q_pd 2 0 rfl)).trans hn1
  replace hn2 := (hu149 _ (q_pd 3 0 rfl)).trans hn2
  replace hn3 := (hu149 _ (q_pd 4 0 rfl)).trans hn3
  replace hn4 := (hu149 _ (q_pd 5 0 rfl)).trans hn4
  replace hn5 := (hu149 _ (q_pd 6 0 rfl)).trans hn5
  replace hn6 := (hu149 _ (q_pd 7 0 rfl)).trans hn6
  replace hn7 := (hu149 _ (q_pd 8 0 rfl)).trans hn7
  replace hn8 := (hu149 _ (q_pd 9 0 rfl)).trans hn8
  replace hn9 := (hu149 _ (q_pd 10 0 rfl)).trans hn9
  replace hn10 := (hu149 _ (q_pd 11 0 rfl)).trans hn10
  replace hn11 := (hu149 _ (q_pd 12 0 rfl)).trans hn11
  replace hn12 := (hu149 _ (q_pd 13 0 rfl)).trans hn12
  replace hn13 := (hu149 _ (q_pd 14 0 rfl)).trans hn13
  replace hn14 := (hu149 _ (q_pd 15 0 rfl)).trans hn14
  replace hn15 := (hu149 _ (q_pd 16 0 rfl)).trans hn15
  replace hn16 := (hu149 _ (q_pd 17 0 rfl)).trans hn16
  replace hn17 := (hu149 _ (q_pd 18 0 rfl)).trans hn17
  replace hn18 := (hu149 _ (q_pd 19 0 rfl)).trans hn18
  replace hn19 := (hu149 _ (q_pd 20 0 rfl)).trans hn19
  replace hn20 := (hu149 _ (q_pd 21 0 rfl)).trans hn20
  replace hn21 := (hu149 _ (q_pd 22 0 rfl)).trans hn21
  replace hn22 := (hu149 _ (q_pd 23 0 rfl)).trans hn22
  replace hn23 := (hu149 _ (q_pd 24 0 rfl)).trans hn23
  replace hn24 := (hu149 _ (q_pd 25 0 rfl)).trans hn24
  replace hn25 := (hu149 _ (q_pd 26 0 rfl)).trans hn25
  replace hn26 := (hu149 _ (q_pd 27 0 rfl)).trans hn26
  replace hn27 := (hu149 _ (q_pd 28 0 rfl)).trans hn27
  replace hn28 := (hu149 _ (q_pd 29 0 rfl)).trans hn28
  replace hn29 := (hu149 _ (q_pd 30 0 rfl)).trans hn29
  replace hn30 := (hu149 _ (q_pd 31 0 rfl)).trans hn30
  replace hn31 := (hu149 _ (q_pd 32 0 rfl)).trans hn31
  replace hn32 := (hu149 _ (q_pd 33 0 rfl)).trans hn32
  replace hn33 := (hu149 _ (q_pd 34 0 rfl)).trans hn33
  replace hn34 := (hu149 _ (q_pd 35 0 rfl)).trans hn34
  replace hn35 := (hu149 _ (q_pd 36 0 rfl)).trans hn35
  replace hn36 := (hu149 _ (q_pd 37 0 rfl)).trans hn36
  replace hF := q_us hF hu149 (.head _)
  refine lv_aload_n hx hb d_1_1_149 rfl (lv_at hl 0 rfl) ?_
  refine q_new (ci := 8) (fs := [.long 0, .long 0, .null, .null, .int 0, .int 0, .int 0, .int 0, .int 0, .int 0, .int 0, .long 0]) C0 V hN i_Rea o_Rea rfl w_278 w_279 w_10 rfl (fun j hj => by rcases (show j = 0 ∨ j = 1 ∨ j = 2 ∨ j = 3 ∨ j = 4 ∨ j = 5 ∨ j = 6 ∨ j = 7 ∨ j = 8 ∨ j = 9 ∨ j = 10 ∨ j = 11 by omega) with rfl | rfl | rfl | rfl | rfl | rfl | rfl | rfl | rfl | rfl | rfl | rfl <;> rfl) (Nat.le_of_ble_eq_true rfl) (Nat.le_of_ble_eq_true rfl) d_1_1_150 (fun q151 H w152 hu153 hn154 hN V => ?_)
  have hn37 : w152[38]? = some (q151, .inr (8, [.long 0, .long 0, .null, .null, .int 0, .int 0, .int 0, .int 0, .int 0, .int 0, .int 0, .long 0])) := hn154
  replace hO0 := (hu153 _ (q_pd 0 38 rfl)).trans hO0
  replace hn0 := (hu153 _ (q_pd 1 38 rfl)).trans hn0
  replace hn1 := (hu153 _ (q_pd 2 38 rfl)).trans hn1
  replace hn2 := (hu153 _ (q_pd 3 38 rfl)).trans hn2
  replace hn3 := (hu153 _ (q_pd 4 38 rfl)).trans hn3
  replace hn4 := (hu153 _ (q_pd 5 38 rfl)).trans hn4
  replace hn5 := (hu153 _ (q_pd 6 38 rfl)).trans hn5
  replace hn6 := (hu153 _ (q_pd 7 38 rfl)).trans hn6
  replace hn7 := (hu153 _ (q_pd 8 38 rfl)).trans hn7
  replace hn8 := (hu153 _ (q_pd 9 38 rfl)).trans hn8
  replace hn9 := (hu153 _ (q_pd 10 38 rfl)).trans hn9
  replace hn10 := (hu153 _ (q_pd 11 38 rfl)).trans hn10
  replace hn11 := (hu153 _ (q_pd 12 38 rfl)).trans hn11
  replace hn12 := (hu153 _ (q_pd 13 38 rfl)).trans hn12
  replace hn13 := (hu153 _ (q_pd 14 38 rfl)).trans hn13
  replace hn14 := (hu153 _ (q_pd 15 38 rfl)).trans hn14
  replace hn15 := (hu153 _ (q_pd 16 38 rfl)).trans hn15
  replace hn16 := (hu153 _ (q_pd 17 38 rfl)).trans hn16
  replace hn17 := (hu153 _ (q_pd 18 38 rfl)).trans hn17
  replace hn18 := (hu153 _ (q_pd 19 38 rfl)).trans hn18
  replace hn19 := (hu153 _ (q_pd 20 38 rfl)).trans hn19
  replace hn20 := (hu153 _ (q_pd 21 38 rfl)).trans hn20
  replace hn21 := (hu153 _ (q_pd 22 38 rfl)).trans hn21
  replace hn22 := (hu153 _ (q_pd 23 38 rfl)).trans hn22
  replace hn23 := (hu153 _ (q_pd 24 38 rfl)).trans hn23
  replace hn24 := (hu153 _ (q_pd 25 38 rfl)).trans hn24
  replace hn25 := (hu153 _ (q_pd 26 38 rfl)).trans hn25
  replace hn26 := (hu153 _ (q_pd 27 38 rfl)).trans hn26
  replace hn27 := (hu153 _ (q_pd 28 38 rfl)).trans hn27
  replace hn28 := (hu153 _ (q_pd 29 38 rfl)).trans hn28
  replace hn29 := (hu153 _ (q_pd 30 38 rfl)).trans hn29
  replace hn30 := (hu153 _ (q_pd 31 38 rfl)).trans hn30
  replace hn31 := (hu153 _ (q_pd 32 38 rfl)).trans hn31
  replace hn32 := (hu153 _ (q_pd 33 38 rfl)).trans hn32
  replace hn33 := (hu153 _ (q_pd 34 38 rfl)).trans hn33
  replace hn34 := (hu153 _ (q_pd 35 38 rfl)).trans hn34
  replace hn35 := (hu153 _ (q_pd 36 38 rfl)).trans hn35
  replace hn36 := (hu153 _ (q_pd 37 38 rfl)).trans hn36
  replace hF := q_us hF hu153 (.tail _ (.tail _ (.tail _ (.tail _ (.tail _ (.tail _ (.tail _ (.tail _ (.tail _ (.tail _ (.tail _ (.tail _ (.tail _ (.tail _ (.tail _ (.tail _ (.tail _ (.tail _ (.tail _ (.tail _ (.tail _ (.tail _ (.tail _ (.tail _ (.tail _ (.tail _ (.tail _ (.tail _ (.tail _ (.tail _ (.tail _ (.tail _ (.tail _ (.tail _ (.tail _ (.tail _ (.tail _ (.tail _ (.head _)))))))))))))))))))))))))))))))))))))))
  replace hN : w152.length = 39 := hN
  refine lv_dup hx hb d_1_1_153 rfl ?_
  refine lv_aload_n hx hb d_1_1_154 rfl (lv_at hl 0 rfl) ?_
  refine q_get (ci := 0) (j := 0) (v := .ref q1) C0 V i_NH rfl rfl hO0 (by decide) w_424 rfl d_1_1_155 ?_
  refine lv_aload_n hx hb d_1_1_158 rfl (lv_at hl 0 rfl) ?_
  refine q_get (ci := 0) (j := 6) (v := .ref q53) C0 V i_NH rfl rfl hO0 (by decide) w_430 rfl d_1_1_159 ?_
  refine q_gov V (q_runI (As := [.ref q1, .ref q53]) (rest := [.ref q151, .ref qO0]) (d := 2) (mc := 0) (ms := 0) C0 V rfl LI_NH_77 (c_Rea_init l D g w152 q151 q1 q53 hN hn37 _) rfl hl.1 rfl (Nat.le_of_ble_eq_true rfl) ⟨by decide, by decide⟩ ⟨Nat.le_of_ble_eq_true rfl, Nat.le_of_ble_eq_true rfl⟩ d_1_1_162) (fun u156 H locs hp155 V => ?_)
  obtain ⟨hg157, hn37, hN⟩ := hp155
  replace hO0 := (hg157 _ (q_nc (q_pd 0 38 rfl) List.not_mem_nil)).trans hO0
  replace hn0 := (hg157 _ (q_nc (q_pd 1 38 rfl) List.not_mem_nil)).trans hn0
  replace hn1 := (hg157 _ (q_nc (q_pd 2 38 rfl) List.not_mem_nil)).trans hn1
  replace hn2 := (hg157 _ (q_nc (q_pd 3 38 rfl) List.not_mem_nil)).trans hn2
  replace hn3 := (hg157 _ (q_nc (q_pd 4 38 rfl) List.not_mem_nil)).trans hn3
  replace hn4 := (hg157 _ (q_nc (q_pd 5 38 rfl) List.not_mem_nil)).trans hn4
  replace hn5 := (hg157 _ (q_nc (q_pd 6 38 rfl) List.not_mem_nil)).trans hn5
  replace hn6 := (hg157 _ (q_nc (q_pd 7 38 rfl) List.not_mem_nil)).trans hn6
  replace hn7 := (hg157 _ (q_nc (q_pd 8 38 rfl) List.not_mem_nil)).trans hn7
  replace hn8 := (hg157 _ (q_nc (q_pd 9 38 rfl) List.not_mem_nil)).trans hn8
  replace hn9 := (hg157 _ (q_nc (q_pd 10 38 rfl) List.not_mem_nil)).trans hn9
  replace hn10 := (hg157 _ (q_nc (q_pd 11 38 rfl) List.not_mem_nil)).trans hn10
  replace hn11 := (hg157 _ (q_nc (q_pd 12 38 rfl) List.not_mem_nil)).trans hn11
  replace hn12 := (hg157 _ (q_nc (q_pd 13 38 rfl) List.not_mem_nil)).trans hn12
  replace hn13 := (hg157 _ (q_nc (q_pd 14 38 rfl) List.not_mem_nil)).trans hn13
  replace hn14 := (hg157 _ (q_nc (q_pd 15 38 rfl) List.not_mem_nil)).trans hn14
  replace hn15 := (hg157 _ (q_nc (q_pd 16 38 rfl) List.not_mem_nil)).trans hn15
  replace hn16 := (hg157 _ (q_nc (q_pd 17 38 rfl) List.not_mem_nil)).trans hn16
  replace hn17 := (hg157 _ (q_nc (q_pd 18 38 rfl) List.not_mem_nil)).trans hn17
  replace hn18 := (hg157 _ (q_nc (q_pd 19 38 rfl) List.not_mem_nil)).trans hn18
  replace hn19 := (hg157 _ (q_nc (q_pd 20 38 rfl) List.not_mem_nil)).trans hn19
  replace hn20 := (hg157 _ (q_nc (q_pd 21 38 rfl) List.not_mem_nil)).trans hn20
  replace hn21 := (hg157 _ (q_nc (q_pd 22 38 rfl) List.not_mem_nil)).trans hn21
  replace hn22 := (hg157 _ (q_nc (q_pd 23 38 rfl) List.not_mem_nil)).trans hn22
  replace hn23 := (hg157 _ (q_nc (q_pd 24 38 rfl) List.not_mem_nil)).trans hn23
  replace hn24 := (hg157 _ (q_nc (q_pd 25 38 rfl) List.not_mem_nil)).trans hn24
  replace hn25 := (hg157 _ (q_nc (q_pd 26 38 rfl) List.not_mem_nil)).trans hn25
  replace hn26 := (hg157 _ (q_nc (q_pd 27 38 rfl) List.not_mem_nil)).trans hn26
  replace hn27 := (hg157 _ (q_nc (q_pd 28 38 rfl) List.not_mem_nil)).trans hn27
  replace hn28 := (hg157 _ (q_nc (q_pd 29 38 rfl) List.not_mem_nil)).trans hn28
  replace hn29 := (hg157 _ (q_nc (q_pd 30 38 rfl) List.not_mem_nil)).trans hn29
  replace hn30 := (hg157 _ (q_nc (q_pd 31 38 rfl) List.not_mem_nil)).trans hn30
  replace hn31 := (hg157 _ (q_nc (q_pd 32 38 rfl) List.not_mem_nil)).trans hn31
  replace hn32 := (hg157 _ (q_nc (q_pd 33 38 rfl) List.not_mem_nil)).trans hn32
  replace hn33 := (hg157 _ (q_nc (q_pd 34 38 rfl) List.not_mem_nil)).trans hn33
  replace hn34 := (hg157 _ (q_nc (q_pd 35 38 rfl) List.not_mem_nil)).trans hn34
  replace hn35 := (hg157 _ (q_nc (q_pd 36 38 rfl) List.not_mem_nil)).trans hn35
  replace hn36 := (hg157 _ (q_nc (q_pd 37 38 rfl) List.not_mem_nil)).trans hn36
  replace hF := q_uc hF hg157 (q_sc (.tail _ (.tail _ (.tail _ (.tail _ (.tail _ (.tail _ (.tail _ (.tail _ (.tail _ (.tail _ (.tail _ (.tail _ (.tail _ (.tail _ (.tail _ (.tail _ (.tail _ (.tail _ (.tail _ (.tail _ (.tail _ (.tail _ (.tail _ (.tail _ (.tail _ (.tail _ (.tail _ (.tail _ (.tail _ (.tail _ (.tail _ (.tail _ (.tail _ (.tail _ (.tail _ (.tail _ (.tail _ (.tail _ (.head _))))))))))))))))))))))))))))))))))))))) (fun _ h => absurd h List.not_mem_nil))
  replace hN : u156.length = 39 := hN
  have ho160 := hO0
  refine q_putF (ci := 0) (j := 11) (v := .ref q151) (ty := .object "NumberHouse$Reader") C0 V i_NH o_NH n_NH rfl rfl rfl rfl rfl hO0 (by decide) w_435 rfl rfl rfl (Nat.le_of_ble_eq_true rfl) d_1_1_165 (fun H locs w158 hu159 hO0 V => ?_)
  replace hO0 : w158[0]? = some (qO0, .inr (0, [.ref q1, .ref q13, .ref q25, .ref q32, .ref q39, .ref q46, .ref q53, .ref q103, .ref q119, .ref q129, .ref q139, .ref q151, .null, .null])) := hO0
  replace hN : w158.length = 39 := (q_len1 hu159 hO0 ho160).trans hN
  replace hn0 := (hu159 _ (q_pd 1 0 rfl)).trans hn0
  replace hn1 := (hu159 _ (q_pd 2 0 rfl)).trans hn1
  replace hn2 := (hu159 _ (q_pd 3 0 rfl)).trans hn2
  replace hn3 := (hu159 _ (q_pd 4 0 rfl)).trans hn3
  replace hn4 := (hu159 _ (q_pd 5 0 rfl)).trans hn4
  replace hn5 := (hu159 _ (q_pd 6 0 rfl)).trans hn5
  replace hn6 := (hu159 _ (q_pd 7 0 rfl)).trans hn6
  replace hn7 := (hu159 _ (q_pd 8 0 rfl)).trans hn7
  replace hn8 := (hu159 _ (q_pd 9 0 rfl)).trans hn8
  replace hn9 := (hu159 _ (q_pd 10 0 rfl)).trans hn9
  replace hn10 := (hu159 _ (q_pd 11 0 rfl)).trans hn10
  replace hn11 := (hu159 _ (q_pd 12 0 rfl)).trans hn11
  replace hn12 := (hu159 _ (q_pd 13 0 rfl)).trans hn12
  replace hn13 := (hu159 _ (q_pd 14 0 rfl)).trans hn13
  replace hn14 := (hu159 _ (q_pd 15 0 rfl)).trans hn14
  replace hn15 := (hu159 _ (q_pd 16 0 rfl)).trans hn15
  replace hn16 := (hu159 _ (q_pd 17 0 rfl)).trans hn16
  replace hn17 := (hu159 _ (q_pd 18 0 rfl)).trans hn17
  replace hn18 := (hu159 _ (q_pd 19 0 rfl)).trans hn18
  replace hn19 := (hu159 _ (q_pd 20 0 rfl)).trans hn19
  replace hn20 := (hu159 _ (q_pd 21 0 rfl)).trans hn20
  replace hn21 := (hu159 _ (q_pd 22 0 rfl)).trans hn21
  replace hn22 := (hu159 _ (q_pd 23 0 rfl)).trans hn22
  replace hn23 := (hu159 _ (q_pd 24 0 rfl)).trans hn23
  replace hn24 := (hu159 _ (q_pd 25 0 rfl)).trans hn24
  replace hn25 := (hu159 _ (q_pd 26 0 rfl)).trans hn25
  replace hn26 := (hu159 _ (q_pd 27 0 rfl)).trans hn26
  replace hn27 := (hu159 _ (q_pd 28 0 rfl)).trans hn27
  replace hn28 := (hu159 _ (q_pd 29 0 rfl)).trans hn28
  replace hn29 := (hu159 _ (q_pd 30 0 rfl)).trans hn29
  replace hn30 := (hu159 _ (q_pd 31 0 rfl)).trans hn30
  replace hn31 := (hu159 _ (q_pd 32 0 rfl)).trans hn31
  replace hn32 := (hu159 _ (q_pd 33 0 rfl)).trans hn32
  replace hn33 := (hu159 _ (q_pd 34 0 rfl)).trans hn33
  replace hn34 := (hu159 _ (q_pd 35 0 rfl)).trans hn34
  replace hn35 := (hu159 _ (q_pd 36 0 rfl)).trans hn35
  replace hn36 := (hu159 _ (q_pd 37 0 rfl)).trans hn36
  replace hn37 := (hu159 _ (q_pd 38 0 rfl)).trans hn37
  replace hF := q_us hF hu159 (.head _)
  refine lv_aload_n hx hb d_1_1_168 rfl (lv_at hl 0 rfl) ?_
  refine q_new (ci := 9) (fs := [.null, .null, .null]) C0 V hN i_Wri o_Wri rfl w_323 w_324 w_11 rfl (fun j hj => by rcases (show j = 0 ∨ j = 1 ∨ j = 2 by omega) with rfl | rfl | rfl <;> rfl) (Nat.le_of_ble_eq_true rfl) (Nat.le_of_ble_eq_true rfl) d_1_1_169 (fun q161 H w162 hu163 hn164 hN V => ?_)
  have hn38 : w162[39]? = some (q161, .inr (9, [.null, .null, .null])) := hn164
  replace hO0 := (hu163 _ (q_pd 0 39 rfl)).trans hO0
  replace hn0 := (hu163 _ (q_pd 1 39 rfl)).trans hn0
  replace hn1 := (hu163 _ (q_pd 2 39 rfl)).trans hn1
  replace hn2 := (hu163 _ (q_pd 3 39 rfl)).trans hn2
  replace hn3 := (hu163 _ (q_pd 4 39 rfl)).trans hn3
  replace hn4 := (hu163 _ (q_pd 5 39 rfl)).trans hn4
  replace hn5 := (hu163 _ (q_pd 6 39 rfl)).trans hn5
  replace hn6 := (hu163 _ (q_pd 7 39 rfl)).trans hn6
  replace hn7 := (hu163 _ (q_pd 8 39 rfl)).trans hn7
  replace hn8 := (hu163 _ (q_pd 9 39 rfl)).trans hn8
  replace hn9 := (hu163 _ (q_pd 10 39 rfl)).trans hn9
  replace hn10 := (hu163 _ (q_pd 11 39 rfl)).trans hn10
  replace hn11 := (hu163 _ (q_pd 12 39 rfl)).trans hn11
  replace hn12 := (hu163 _ (q_pd 13 39 rfl)).trans hn12
  replace hn13 := (hu163 _ (q_pd 14 39 rfl)).trans hn13
  replace hn14 := (hu163 _ (q_pd 15 39 rfl)).trans hn14
  replace hn15 := (hu163 _ (q_pd 16 39 rfl)).trans hn15
  replace hn16 := (hu163 _ (q_pd 17 39 rfl)).trans hn16
  replace hn17 := (hu163 _ (q_pd 18 39 rfl)).trans hn17
  replace hn18 := (hu163 _ (q_pd 19 39 rfl)).trans hn18
  replace hn19 := (hu163 _ (q_pd 20 39 rfl)).trans hn19
  replace hn20 := (hu163 _ (q_pd 21 39 rfl)).trans hn20
  replace hn21 := (hu163 _ (q_pd 22 39 rfl)).trans hn21
  replace hn22 := (hu163 _ (q_pd 23 39 rfl)).trans hn22
  replace hn23 := (hu163 _ (q_pd 24 39 rfl)).trans hn23
  replace hn24 := (hu163 _ (q_pd 25 39 rfl)).trans hn24
  replace hn25 := (hu163 _ (q_pd 26 39 rfl)).trans hn25
  replace hn26 := (hu163 _ (q_pd 27 39 rfl)).trans hn26
  replace hn27 := (hu163 _ (q_pd 28 39 rfl)).trans hn27
  replace hn28 := (hu163 _ (q_pd 29 39 rfl)).trans hn28
  replace hn29 := (hu163 _ (q_pd 30 39 rfl)).trans hn29
  replace hn30 := (hu163 _ (q_pd 31 39 rfl)).trans hn30
  replace hn31 := (hu163 _ (q_pd 32 39 rfl)).trans hn31
  replace hn32 := (hu163 _ (q_pd 33 39 rfl)).trans hn32
  replace hn33 := (hu163 _ (q_pd 34 39 rfl)).trans hn33
  replace hn34 := (hu163 _ (q_pd 35 39 rfl)).trans hn34
  replace hn35 := (hu163 _ (q_pd 36 39 rfl)).trans hn35
  replace hn36 := (hu163 _ (q_pd 37 39 rfl)).trans hn36
  replace hn37 := (hu163 _ (q_pd 38 39 rfl)).trans hn37
  replace hF := q_us hF hu163 (.tail _ (.tail _ (.tail _ (.tail _ (.tail _ (.tail _ (.tail _ (.tail _ (.tail _ (.tail _ (.tail _ (.tail _ (.tail _ (.tail _ (.tail _ (.tail _ (.tail _ (.tail _ (.tail _ (.tail _ (.tail _ (.tail _ (.tail _ (.tail _ (.tail _ (.tail _ (.tail _ (.tail _ (.tail _ (.tail _ (.tail _ (.tail _ (.tail _ (.tail _ (.tail _ (.tail _ (.tail _ (.tail _ (.tail _ (.head _))))))))))))))))))))))))))))))))))))))))
  replace hN : w162.length = 40 := hN
  refine lv_dup hx hb d_1_1_172 rfl ?_
  refine lv_aload_n hx hb d_1_1_173 rfl (lv_at hl 0 rfl) ?_
  refine q_get (ci := 0) (j := 1) (v := .ref q13) C0 V i_NH rfl rfl hO0 (by decide) w_425 rfl d_1_1_174 ?_
  refine lv_aload_n hx hb d_1_1_177 rfl (lv_at hl 0 rfl) ?_
  refine q_get (ci := 0) (j := 6) (v := .ref q53) C0 V i_NH rfl rfl hO0 (by decide) w_430 rfl d_1_1_178 ?_
  refine lv_aload_n hx hb d_1_1_181 rfl (lv_at hl 0 rfl) ?_
  refine q_get (ci := 0) (j := 10) (v := .ref q139) C0 V i_NH rfl rfl hO0 (by decide) w_434 rfl d_1_1_182 ?_
  refine q_gov V (q_runI (As := [.ref q13, .ref q53, .ref q139]) (rest := [.ref q161, .ref qO0]) (d := 2) (mc := 0) (ms := 0) C0 V rfl LI_NH_86 (c_Wri_init l D g w162 q161 q13 q53 q139 hN hn38 _) rfl hl.1 rfl (Nat.le_of_ble_eq_true rfl) ⟨by decide, by decide⟩ ⟨Nat.le_of_ble_eq_true rfl, Nat.le_of_ble_eq_true rfl⟩ d_1_1_185) (fun u166 H locs hp165 V => ?_)
  obtain ⟨hg167, hn38, hN⟩ := hp165
  replace hO0 := (hg167 _ (q_nc (q_pd 0 39 rfl) List.not_mem_nil)).trans hO0
  replace hn0 := (hg167 _ (q_nc (q_pd 1 39 rfl) List.not_mem_nil)).trans hn0
  replace hn1 := (hg167 _ (q_nc (q_pd 2 39 rfl) List.not_mem_nil)).trans hn1
  replace hn2 := (hg167 _ (q_nc (q_pd 3 39 rfl) List.not_mem_nil)).trans hn2
  replace hn3 := (hg167 _ (q_nc (q_pd 4 39 rfl) List.not_mem_nil)).trans hn3
  replace hn4 := (hg167 _ (q_nc (q_pd 5 39 rfl) List.not_mem_nil)).trans hn4
  replace hn5 := (hg167 _ (q_nc (q_pd 6 39 rfl) List.not_mem_nil)).trans hn5
  replace hn6 := (hg167 _ (q_nc (q_pd 7 39 rfl) List.not_mem_nil)).trans hn6
  replace hn7 := (hg167 _ (q_nc (q_pd 8 39 rfl) List.not_mem_nil)).trans hn7
  replace hn8 := (hg167 _ (q_nc (q_pd 9 39 rfl) List.not_mem_nil)).trans hn8
  replace hn9 := (hg167 _ (q_nc (q_pd 10 39 rfl) List.not_mem_nil)).trans hn9
  replace hn10 := (hg167 _ (q_nc (q_pd 11 39 rfl) List.not_mem_nil)).trans hn10
  replace hn11 := (hg167 _ (q_nc (q_pd 12 39 rfl) List.not_mem_nil)).trans hn11
  replace hn12 := (hg167 _ (q_nc (q_pd 13 39 rfl) List.not_mem_nil)).trans hn12
  replace hn13 := (hg167 _ (q_nc (q_pd 14 39 rfl) List.not_mem_nil)).trans hn13
  replace hn14 := (hg167 _ (q_nc (q_pd 15 39 rfl) List.not_mem_nil)).trans hn14
  replace hn15 := (hg167 _ (q_nc (q_pd 16 39 rfl) List.not_mem_nil)).trans hn15
  replace hn16 := (hg167 _ (q_nc (q_pd 17 39 rfl) List.not_mem_nil)).trans hn16
  replace hn17 := (hg167 _ (q_nc (q_pd 18 39 rfl) List.not_mem_nil)).trans hn17
  replace hn18 := (hg167 _ (q_nc (q_pd 19 39 rfl) List.not_mem_nil)).trans hn18
  replace hn19 := (hg167 _ (q_nc (q_pd 20 39 rfl) List.not_mem_nil)).trans hn19
  replace hn20 := (hg167 _ (q_nc (q_pd 21 39 rfl) List.not_mem_nil)).trans hn20
  replace hn21 := (hg167 _ (q_nc (q_pd 22 39 rfl) List.not_mem_nil)).trans hn21
  replace hn22 := (hg167 _ (q_nc (q_pd 23 39 rfl) List.not_mem_nil)).trans hn22
  replace hn23 := (hg167 _ (q_nc (q_pd 24 39 rfl) List.not_mem_nil)).trans hn23
  replace hn24 := (hg167 _ (q_nc (q_pd 25 39 rfl) List.not_mem_nil)).trans hn24
  replace hn25 := (hg167 _ (q_nc (q_pd 26 39 rfl) List.not_mem_nil)).trans hn25
  replace hn26 := (hg167 _ (q_nc (q_pd 27 39 rfl) List.not_mem_nil)).trans hn26
  replace hn27 := (hg167 _ (q_nc (q_pd 28 39 rfl) List.not_mem_nil)).trans hn27
  replace hn28 := (hg167 _ (q_nc (q_pd 29 39 rfl) List.not_mem_nil)).trans hn28
  replace hn29 := (hg167 _ (q_nc (q_pd 30 39 rfl) List.not_mem_nil)).trans hn29
  replace hn30 := (hg167 _ (q_nc (q_pd 31 39 rfl) List.not_mem_nil)).trans hn30
  replace hn31 := (hg167 _ (q_nc (q_pd 32 39 rfl) List.not_mem_nil)).trans hn31
  replace hn32 := (hg167 _ (q_nc (q_pd 33 39 rfl) List.not_mem_nil)).trans hn32
  replace hn33 := (hg167 _ (q_nc (q_pd 34 39 rfl) List.not_mem_nil)).trans hn33
  replace hn34 := (hg167 _ (q_nc (q_pd 35 39 rfl) List.not_mem_nil)).trans hn34
  replace hn35 := (hg167 _ (q_nc (q_pd 36 39 rfl) List.not_mem_nil)).trans hn35
  replace hn36 := (hg167 _ (q_nc (q_pd 37 39 rfl) List.not_mem_nil)).trans hn36
  replace hn37 := (hg167 _ (q_nc (q_pd 38 39 rfl) List.not_mem_nil)).trans hn37
  replace hF := q_uc hF hg167 (q_sc (.tail _ (.tail _ (.tail _ (.tail _ (.tail _ (.tail _ (.tail _ (.tail _ (.tail _ (.tail _ (.tail _ (.tail _ (.tail _ (.tail _ (.tail _ (.tail _ (.tail _ (.tail _ (.tail _ (.tail _ (.tail _ (.tail _ (.tail _ (.tail _ (.tail _ (.tail _ (.tail _ (.tail _ (.tail _ (.tail _ (.tail _ (.tail _ (.tail _ (.tail _ (.tail _ (.tail _ (.tail _ (.tail _ (.tail _ (.head _)))))))))))))))))))))))))))))))))))))))) (fun _ h => absurd h List.not_mem_nil))
  replace hN : u166.length = 40 := hN
  have ho170 := hO0
  refine q_putF (ci := 0) (j := 12) (v := .ref q161) (ty := .object "NumberHouse$Writer") C0 V i_NH o_NH n_NH rfl rfl rfl rfl rfl hO0 (by decide) w_436 rfl rfl rfl (Nat.le_of_ble_eq_true rfl) d_1_1_188 (fun H locs w168 hu169 hO0 V => ?_)
  replace hO0 : w168[0]? = some (qO0, .inr (0, [.ref q1, .ref q13, .ref q25, .ref q32, .ref q39, .ref q46, .ref q53, .ref q103, .ref q119, .ref q129, .ref q139, .ref q151, .ref q161, .null])) := hO0
  replace hN : w168.length = 40 := (q_len1 hu169 hO0 ho170).trans hN
  replace hn0 := (hu169 _ (q_pd 1 0 rfl)).trans hn0
  replace hn1 := (hu169 _ (q_pd 2 0 rfl)).trans hn1
  replace hn2 := (hu169 _ (q_pd 3 0 rfl)).trans hn2
  replace hn3 := (hu169 _ (q_pd 4 0 rfl)).trans hn3
  replace hn4 := (hu169 _ (q_pd 5 0 rfl)).trans hn4
  replace hn5 := (hu169 _ (q_pd 6 0 rfl)).trans hn5
  replace hn6 := (hu169 _ (q_pd 7 0 rfl)).trans hn6
  replace hn7 := (hu169 _ (q_pd 8 0 rfl)).trans hn7
  replace hn8 := (hu169 _ (q_pd 9 0 rfl)).trans hn8
  replace hn9 := (hu169 _ (q_pd 10 0 rfl)).trans hn9
  replace hn10 := (hu169 _ (q_pd 11 0 rfl)).trans hn10
  replace hn11 := (hu169 _ (q_pd 12 0 rfl)).trans hn11
  replace hn12 := (hu169 _ (q_pd 13 0 rfl)).trans hn12
  replace hn13 := (hu169 _ (q_pd 14 0 rfl)).trans hn13
  replace hn14 := (hu169 _ (q_pd 15 0 rfl)).trans hn14
  replace hn15 := (hu169 _ (q_pd 16 0 rfl)).trans hn15
  replace hn16 := (hu169 _ (q_pd 17 0 rfl)).trans hn16
  replace hn17 := (hu169 _ (q_pd 18 0 rfl)).trans hn17
  replace hn18 := (hu169 _ (q_pd 19 0 rfl)).trans hn18
  replace hn19 := (hu169 _ (q_pd 20 0 rfl)).trans hn19
  replace hn20 := (hu169 _ (q_pd 21 0 rfl)).trans hn20
  replace hn21 := (hu169 _ (q_pd 22 0 rfl)).trans hn21
  replace hn22 := (hu169 _ (q_pd 23 0 rfl)).trans hn22
  replace hn23 := (hu169 _ (q_pd 24 0 rfl)).trans hn23
  replace hn24 := (hu169 _ (q_pd 25 0 rfl)).trans hn24
  replace hn25 := (hu169 _ (q_pd 26 0 rfl)).trans hn25
  replace hn26 := (hu169 _ (q_pd 27 0 rfl)).trans hn26
  replace hn27 := (hu169 _ (q_pd 28 0 rfl)).trans hn27
  replace hn28 := (hu169 _ (q_pd 29 0 rfl)).trans hn28
  replace hn29 := (hu169 _ (q_pd 30 0 rfl)).trans hn29
  replace hn30 := (hu169 _ (q_pd 31 0 rfl)).trans hn30
  replace hn31 := (hu169 _ (q_pd 32 0 rfl)).trans hn31
  replace hn32 := (hu169 _ (q_pd 33 0 rfl)).trans hn32
  replace hn33 := (hu169 _ (q_pd 34 0 rfl)).trans hn33
  replace hn34 := (hu169 _ (q_pd 35 0 rfl)).trans hn34
  replace hn35 := (hu169 _ (q_pd 36 0 rfl)).trans hn35
  replace hn36 := (hu169 _ (q_pd 37 0 rfl)).trans hn36
  replace hn37 := (hu169 _ (q_pd 38 0 rfl)).trans hn37
  replace hn38 := (hu169 _ (q_pd 39 0 rfl)).trans hn38
  replace hF := q_us hF hu169 (.head _)
  refine lv_aload_n hx hb d_1_1_191 rfl (lv_at hl 0 rfl) ?_
  refine q_new (ci := 11) (fs := [.int 0, .null, .null, .null, .null, .null, .null, .null, .null, .int 0, .int 0, .int 0]) C0 V hN i_Pri o_Pri rfl w_339 w_340 w_12 rfl (fun j hj => by rcases (show j = 0 ∨ j = 1 ∨ j = 2 ∨ j = 3 ∨ j = 4 ∨ j = 5 ∨ j = 6 ∨ j = 7 ∨ j = 8 ∨ j = 9 ∨ j = 10 ∨ j = 11 by omega) with rfl | rfl | rfl | rfl | rfl | rfl | rfl | rfl | rfl | rfl | rfl | rfl <;> rfl) (Nat.le_of_ble_eq_true rfl) (Nat.le_of_ble_eq_true rfl) d_1_1_192 (fun q171 H w172 hu173 hn174 hN V => ?_)
  have hn39 : w172[40]? = some (q171, .inr (11, [.int 0, .null, .null, .null, .null, .null, .null, .null, .null, .int 0, .int 0, .int 0])) := hn174
  replace hO0 := (hu173 _ (q_pd 0 40 rfl)).trans hO0
  replace hn0 := (hu173 _ (q_pd 1 40 rfl)).trans hn0
  replace hn1 := (hu173 _ (q_pd 2 40 rfl)).trans hn1
  replace hn2 := (hu173 _ (q_pd 3 40 rfl)).trans hn2
  replace hn3 := (hu173 _ (q_pd 4 40 rfl)).trans hn3
  replace hn4 := (hu173 _ (q_pd 5 40 rfl)).trans hn4
  replace hn5 := (hu173 _ (q_pd 6 40 rfl)).trans hn5
  replace hn6 := (hu173 _ (q_pd 7 40 rfl)).trans hn6
  replace hn7 := (hu173 _ (q_pd 8 40 rfl)).trans hn7
  replace hn8 := (hu173 _ (q_pd 9 40 rfl)).trans hn8
  replace hn9 := (hu173 _ (q_pd 10 40 rfl)).trans hn9
  replace hn10 := (hu173 _ (q_pd 11 40 rfl)).trans hn10
  replace hn11 := (hu173 _ (q_pd 12 40 rfl)).trans hn11
  replace hn12 := (hu173 _ (q_pd 13 40 rfl)).trans hn12
  replace hn13 := (hu173 _ (q_pd 14 40 rfl)).trans hn13
  replace hn14 := (hu173 _ (q_pd 15 40 rfl)).trans hn14
  replace hn15 := (hu173 _ (q_pd 16 40 rfl)).trans hn15
  replace hn16 := (hu173 _ (q_pd 17 40 rfl)).trans hn16
  replace hn17 := (hu173 _ (q_pd 18 40 rfl)).trans hn17
  replace hn18 := (hu173 _ (q_pd 19 40 rfl)).trans hn18
  replace hn19 := (hu173 _ (q_pd 20 40 rfl)).trans hn19
  replace hn20 := (hu173 _ (q_pd 21 40 rfl)).trans hn20
  replace hn21 := (hu173 _ (q_pd 22 40 rfl)).trans hn21
  replace hn22 := (hu173 _ (q_pd 23 40 rfl)).trans hn22
  replace hn23 := (hu173 _ (q_pd 24 40 rfl)).trans hn23
  replace hn24 := (hu173 _ (q_pd 25 40 rfl)).trans hn24
  replace hn25 := (hu173 _ (q_pd 26 40 rfl)).trans hn25
  replace hn26 := (hu173 _ (q_pd 27 40 rfl)).trans hn26
  replace hn27 := (hu173 _ (q_pd 28 40 rfl)).trans hn27
  replace hn28 := (hu173 _ (q_pd 29 40 rfl)).trans hn28
  replace hn29 := (hu173 _ (q_pd 30 40 rfl)).trans hn29
  replace hn30 := (hu173 _ (q_pd 31 40 rfl)).trans hn30
  replace hn31 := (hu173 _ (q_pd 32 40 rfl)).trans hn31
  replace hn32 := (hu173 _ (q_pd 33 40 rfl)).trans hn32
  replace hn33 := (hu173 _ (q_pd 34 40 rfl)).trans hn33
  replace hn34 := (hu173 _ (q_pd 35 40 rfl)).trans hn34
  replace hn35 := (hu173 _ (q_pd 36 40 rfl)).trans hn35
  replace hn36 := (hu173 _ (q_pd 37 40 rfl)).trans hn36
  replace hn37 := (hu173 _ (q_pd 38 40 rfl)).trans hn37
  replace hn38 := (hu173 _ (q_pd 39 40 rfl)).trans hn38
  replace hF := q_us hF hu173 (.tail _ (.tail _ (.tail _ (.tail _ (.tail _ (.tail _ (.tail _ (.tail _ (.tail _ (.tail _ (.tail _ (.tail _ (.tail _ (.tail _ (.tail _ (.tail _ (.tail _ (.tail _ (.tail _ (.tail _ (.tail _ (.tail _ (.tail _ (.tail _ (.tail _ (.tail _ (.tail _ (.tail _ (.tail _ (.tail _ (.tail _ (.tail _ (.tail _ (.tail _ (.tail _ (.tail _ (.tail _ (.tail _ (.tail _ (.tail _ (.head _)))))))))))))))))))))))))))))))))))))))))
  replace hN : w172.length = 41 := hN
  refine lv_dup hx hb d_1_1_195 rfl ?_
  refine lv_aload_n hx hb d_1_1_196 rfl (lv_at hl 0 rfl) ?_
  refine q_get (ci := 0) (j := 0) (v := .ref q1) C0 V i_NH rfl rfl hO0 (by decide) w_424 rfl d_1_1_197 ?_
  refine lv_aload_n hx hb d_1_1_200 rfl (lv_at hl 0 rfl) ?_
  refine q_get (ci := 0) (j := 10) (v := .ref q139) C0 V i_NH rfl rfl hO0 (by decide) w_434 rfl d_1_1_201 ?_
  refine q_gov V (q_runI (As := [.ref q1, .ref q139]) (rest := [.ref q171, .ref qO0]) (d := 3) (mc := 25) (ms := 659) C0 V rfl LI_NH_95 (c_Pri_init l D g w172 q171 q1 q139 hN hn39 _) rfl hl.1 rfl (Nat.le_of_ble_eq_true rfl) ⟨by decide, by decide⟩ ⟨Nat.le_of_ble_eq_true rfl, Nat.le_of_ble_eq_true rfl⟩ d_1_1_204) (fun u176 H locs hp175 V => ?_)
  obtain ⟨q177, q178, q179, q180, q181, q182, q183, q184, q185, q186, q187, q188, q189, q190, q191, q192, q193, q194, q195, q196, q197, q198, q199, q200, q201, hg202, hn39, hq203, hq204, hq205, hq206, hq207, hq208, hq209, hq210, hq211, hq212, hq213, hq214, hq215, hq216, hq217, hq218, hq219, hq220, hq221, hq222, hq223, hq224, hq225, hq226, hq227, hN⟩ := hp175
  replace hO0 := (hg202 _ (q_nc (q_pd 0 40 rfl) (q_nc (q_pd 0 41 rfl) (q_nc (q_pd 0 42 rfl) (q_nc (q_pd 0 43 rfl) (q_nc (q_pd 0 44 rfl) (q_nc (q_pd 0 45 rfl) (q_nc (q_pd 0 46 rfl) (q_nc (q_pd 0 47 rfl) (q_nc (q_pd 0 48 rfl) (q_nc (q_pd 0 49 rfl) (q_nc (q_pd 0 50 rfl) (q_nc (q_pd 0 51 rfl) (q_nc (q_pd 0 52 rfl) (q_nc (q_pd 0 53 rfl) (q_nc (q_pd 0 54 rfl) (q_nc (q_pd 0 55 rfl) (q_nc (q_pd 0 56 rfl) (q_nc (q_pd 0 57 rfl) (q_nc (q_pd 0 58 rfl) (q_nc (q_pd 0 59 rfl) (q_nc (q_pd 0 60 rfl) (q_nc (q_pd 0 61 rfl) (q_nc (q_pd 0 62 rfl) (q_nc (q_pd 0 63 rfl) (q_nc (q_pd 0 64 rfl) (q_nc (q_pd 0 65 rfl) List.not_mem_nil))))))))))))))))))))))))))).trans hO0
  replace hn0 := (hg202 _ (q_nc (q_pd 1 40 rfl) (q_nc (q_pd 1 41 rfl) (q_nc (q_pd 1 42 rfl) (q_nc (q_pd 1 43 rfl) (q_nc (q_pd 1 44 rfl) (q_nc (q_pd 1 45 rfl) (q_nc (q_pd 1 46 rfl) (q_nc (q_pd 1 47 rfl) (q_nc (q_pd 1 48 rfl) (q_nc (q_pd 1 49 rfl) (q_nc (q_pd 1 50 rfl) (q_nc (q_pd 1 51 rfl) (q_nc (q_pd 1 52 rfl) (q_nc (q_pd 1 53 rfl) (q_nc (q_pd 1 54 rfl) (q_nc (q_pd 1 55 rfl) (q_nc (q_pd 1 56 rfl) (q_nc (q_pd 1 57 rfl) (q_nc (q_pd 1 58 rfl) (q_nc (q_pd 1 59 rfl) (q_nc (q_pd 1 60 rfl) (q_nc (q_pd 1 61 rfl) (q_nc (q_pd 1 62 rfl) (q_nc (q_pd 1 63 rfl) (q_nc (q_pd 1 64 rfl) (q_nc (q_pd 1 65 rfl) List.not_mem_nil))))))))))))))))))))))))))).trans hn0
  replace hn1 := (hg202 _ (q_nc (q_pd 2 40 rfl) (q_nc (q_pd 2 41 rfl) (q_nc (q_pd 2 42 rfl) (q_nc (q_pd 2 43 rfl) (q_nc (q_pd 2 44 rfl) (q_nc (q_pd 2 45 rfl) (q_nc (q_pd 2 46 rfl) (q_nc (q_pd 2 47 rfl) (q_nc (q_pd 2 48 rfl) (q_nc (q_pd 2 49 rfl) (q_nc (q_pd 2 50 rfl) (q_nc (q_pd 2 51 rfl) (q_nc (q_pd 2 52 rfl) (q_nc (q_pd 2 53 rfl) (q_nc (q_pd 2 54 rfl) (q_nc (q_pd 2 55 rfl) (q_nc (q_pd 2 56 rfl) (q_nc (q_pd 2 57 rfl) (q_nc (q_pd 2 58 rfl) (q_nc (q_pd 2 59 rfl) (q_nc (q_pd 2 60 rfl) (q_nc (q_pd 2 61 rfl) (q_nc (q_pd 2 62 rfl) (q_nc (q_pd 2 63 rfl) (q_nc (q_pd 2 64 rfl) (q_nc (q_pd 2 65 rfl) List.not_mem_nil))))))))))))))))))))))))))).trans hn1
  replace hn2 := (hg202 _ (q_nc (q_pd 3 40 rfl) (q_nc (q_pd 3 41 rfl) (q_nc (q_pd 3 42 rfl) (q_nc (q_pd 3 43 rfl) (q_nc (q_pd 3 44 rfl) (q_nc (q_pd 3 45 rfl) (q_nc (q_pd 3 46 rfl) (q_nc (q_pd 3 47 rfl) (q_nc (q_pd 3 48 rfl) (q_nc (q_pd 3 49 rfl) (q_nc (q_pd 3 50 rfl) (q_nc (q_pd 3 51 rfl) (q_nc (q_pd 3 52 rfl) (q_nc (q_pd 3 53 rfl) (q_nc (q_pd 3 54 rfl) (q_nc (q_pd 3 55 rfl) (q_nc (q_pd 3 56 rfl) (q_nc (q_pd 3 57 rfl) (q_nc (q_pd 3 58 rfl) (q_nc (q_pd 3 59 rfl) (q_nc (q_pd 3 60 rfl) (q_nc (q_pd 3 61 rfl) (q_nc (q_pd 3 62 rfl) (q_nc (q_pd 3 63 rfl) (q_nc (q_pd 3 64 rfl) (q_nc (q_pd 3 65 rfl) List.not_mem_nil))))))))))))))))))))))))))).trans hn2
  replace hn3 := (hg202 _ (q_nc (q_pd 4 40 rfl) (q_nc (q_pd 4 41 rfl) (q_nc (q_pd 4 42 rfl) (q_nc (q_pd 4 43 rfl) (q_nc (q_pd 4 44 rfl) (q_nc (q_pd 4 45 rfl) (q_nc (q_pd 4 46 rfl) (q_nc (q_pd 4 47 rfl) (q_nc (q_pd 4 48 rfl) (q_nc (q_pd 4 49 rfl) (q_nc (q_pd 4 50 rfl) (q_nc (q_pd 4 51 rfl) (q_nc (q_pd 4 52 rfl) (q_nc (q_pd 4 53 rfl) (q_nc (q_pd 4 54 rfl) (q_nc (q_pd 4 55 rfl) (q_nc (q_pd 4 56 rfl) (q_nc (q_pd 4 57 rfl) (q_nc (q_pd 4 58 rfl) (q_nc (q_pd 4 59 rfl) (q_nc (q_pd 4 60 rfl) (q_nc (q_pd 4 61 rfl) (q_nc (q_pd 4 62 rfl) (q_nc (q_pd 4 63 rfl) (q_nc (q_pd 4 64 rfl) (q_nc (q_pd 4 65 rfl) List.not_mem_nil))))))))))))))))))))))))))).trans hn3
  replace hn4 := (hg202 _ (q_nc (q_pd 5 40 rfl) (q_nc (q_pd 5 41 rfl) (q_nc (q_pd 5 42 rfl) (q_nc (q_pd 5 43 rfl) (q_nc (q_pd 5 44 rfl) (q_nc (q_pd 5 45 rfl) (q_nc (q_pd 5 46 rfl) (q_nc (q_pd 5 47 rfl) (q_nc (q_pd 5 48 rfl) (q_nc (q_pd 5 49 rfl) (q_nc (q_pd 5 50 rfl) (q_nc (q_pd 5 51 rfl) (q_nc (q_pd 5 52 rfl) (q_nc (q_pd 5 53 rfl) (q_nc (q_pd 5 54 rfl) (q_nc (q_pd 5 55 rfl) (q_nc (q_pd 5 56 rfl) (q_nc (q_pd 5 57 rfl) (q_nc (q_pd 5 58 rfl) (q_nc (q_pd 5 59 rfl) (q_nc (q_pd 5 60 rfl) (q_nc (q_pd 5 61 rfl) (q_nc (q_pd 5 62 rfl) (q_nc (q_pd 5 63 rfl) (q_nc (q_pd 5 64 rfl) (q_nc (q_pd 5 65 rfl) List.not_mem_nil))))))))))))))))))))))))))).trans hn4
  replace hn5 := (hg202 _ (q_nc (q_pd 6 40 rfl) (q_nc (q_pd 6 41 rfl) (q_nc (q_pd 6 42 rfl) (q_nc (q_pd 6 43 rfl) (q_nc (q_pd 6 44 rfl) (q_nc (q_pd 6 45 rfl) (q_nc (q_pd 6 46 rfl) (q_nc (q_pd 6 47 rfl) (q_nc (q_pd 6 48 rfl) (q_nc (q_pd 6 49 rfl) (q_nc (q_pd 6 50 rfl) (q_nc (q_pd 6 51 rfl) (q_nc (q_pd 6 52 rfl) (q_nc (q_pd 6 53 rfl) (q_nc (q_pd 6 54 rfl) (q_nc (q_pd 6 55 rfl) (q_nc (q_pd 6 56 rfl) (q_nc (q_pd 6 57 rfl) (q_nc (q_pd 6 58 rfl) (q_nc (q_pd 6 59 rfl) (q_nc (q_pd 6 60 rfl) (q_nc (q_pd 6 61 rfl) (q_nc (q_pd 6 62 rfl) (q_nc (q_pd 6 63 rfl) (q_nc (q_pd 6 64 rfl) (q_nc (q_pd 6 65 rfl) List.not_mem_nil))))))))))))))))))))))))))).trans hn5
  replace hn6 := (hg202 _ (q_nc (q_pd 7 40 rfl) (q_nc (q_pd 7 41 rfl) (q_nc (q_pd 7 42 rfl) (q_nc (q_pd 7 43 rfl) (q_nc (q_pd 7 44 rfl) (q_nc (q_pd 7 45 rfl) (q_nc (q_pd 7 46 rfl) (q_nc (q_pd 7 47 rfl) (q_nc (q_pd 7 48 rfl) (q_nc (q_pd 7 49 rfl) (q_nc (q_pd 7 50 rfl) (q_nc (q_pd 7 51 rfl) (q_nc (q_pd 7 52 rfl) (q_nc (q_pd 7 53 rfl) (q_nc (q_pd 7 54 rfl) (q_nc (q_pd 7 55 rfl) (q_nc (q_pd 7 56 rfl) (q_nc (q_pd 7 57 rfl) (q_nc (q_pd 7 58 rfl) (q_nc (q_pd 7 59 rfl) (q_nc (q_pd 7 60 rfl) (q_nc (q_pd 7 61 rfl) (q_nc (q_pd 7 62 rfl) (q_nc (q_pd 7 63 rfl) (q_nc (q_pd 7 64 rfl) (q_nc (q_pd 7 65 rfl) List.not_mem_nil))))))))))))))))))))))))))).trans hn6
  replace hn7 := (hg202 _ (q_nc (q_pd 8 40 rfl) (q_nc (q_pd 8 41 rfl) (q_nc (q_pd 8 42 rfl) (q_nc (q_pd 8 43 rfl) (q_nc (q_pd 8 44 rfl) (q_nc (q_pd 8 45 rfl) (q_nc (q_pd 8 46 rfl) (q_nc (q_pd 8 47 rfl) (q_nc (q_pd 8 48 rfl) (q_nc (q_pd 8 49 rfl) (q_nc (q_pd 8 50 rfl) (q_nc (q_pd 8 51 rfl) (q_nc (q_pd 8 52 rfl) (q_nc (q_pd 8 53 rfl) (q_nc (q_pd 8 54 rfl) (q_nc (q_pd 8 55 rfl) (q_nc (q_pd 8 56 rfl) (q_nc (q_pd 8 57 rfl) (q_nc (q_pd 8 58 rfl) (q_nc (q_pd 8 59 rfl) (q_nc (q_pd 8 60 rfl) (q_nc (q_pd 8 61 rfl) (q_nc (q_pd 8 62 rfl) (q_nc (q_pd 8 63 rfl) (q_nc (q_pd 8 64 rfl) (q_nc (q_pd 8 65 rfl) List.not_mem_nil))))))))))))))))))))))))))).trans hn7
  replace hn8 := (hg202 _ (q_nc (q_pd 9 40 rfl) (q_nc (q_pd 9 41 rfl) (q_nc (q_pd 9 42 rfl) (q_nc (q_pd 9 43 rfl) (q_nc (q_pd 9 44 rfl) (q_nc (q_pd 9 45 rfl) (q_nc (q_pd 9 46 rfl) (q_nc (q_pd 9 47 rfl) (q_nc (q_pd 9 48 rfl) (q_nc (q_pd 9 49 rfl) (q_nc (q_pd 9 50 rfl) (q_nc (q_pd 9 51 rfl) (q_nc (q_pd 9 52 rfl) (q_nc (q_pd 9 53 rfl) (q_nc (q_pd 9 54 rfl) (q_nc (q_pd 9 55 rfl) (q_nc (q_pd 9 56 rfl) (q_nc (q_pd 9 57 rfl) (q_nc (q_pd 9 58 rfl) (q_nc (q_pd 9 59 rfl) (q_nc (q_pd 9 60 rfl) (q_nc (q_pd 9 61 rfl) (q_nc (q_pd 9 62 rfl) (q_nc (q_pd 9 63 rfl) (q_nc (q_pd 9 64 rfl) (q_nc (q_pd 9 65 rfl) List.not_mem_nil))))))))))))))))))))))))))).trans hn8
  replace hn9 := (hg202 _ (q_nc (q_pd 10 40 rfl) (q_nc (q_pd 10 41 rfl) (q_nc (q_pd 10 42 rfl) (q_nc (q_pd 10 43 rfl) (q_nc (q_pd 10 44 rfl) (q_nc (q_pd 10 45 rfl) (q_nc (q_pd 10 46 rfl) (q_nc (q_pd 10 47 rfl) (q_nc (q_pd 10 48 rfl) (q_nc (q_pd 10 49 rfl) (q_nc (q_pd 10 50 rfl) (q_nc (q_pd 10 51 rfl) (q_nc (q_pd 10 52 rfl) (q_nc (q_pd 10 53 rfl) (q_nc (q_pd 10 54 rfl) (q_nc (q_pd 10 55 rfl) (q_nc (q_pd 10 56 rfl) (q_nc (q_pd 10 57 rfl) (q_nc (q_pd 10 58 rfl) (q_nc (q_pd 10 59 rfl) (q_nc (q_pd 10 60 rfl) (q_nc (q_pd 10 61 rfl) (q_nc (q_pd 10 62 rfl) (q_nc (q_pd 10 63 rfl) (q_nc (q_pd 10 64 rfl) (q_nc (q_pd 10 65 rfl) List.not_mem_nil))))))))))))))))))))))))))).trans hn9
  replace hn10 := (hg202 _ (q_nc (q_pd 11 40 rfl) (q_nc (q_pd 11 41 rfl) (q_nc (q_pd 11 42 rfl) (q_nc (q_pd 11 43 rfl) (q_nc (q_pd 11 44 rfl) (q_nc (q_pd 11 45 rfl) (q_nc (q_pd 11 46 rfl) (q_nc (q_pd 11 47 rfl) (q_nc (q_pd 11 48 rfl) (q_nc (q_pd 11 49 rfl) (q_nc (q_pd 11 50 rfl) (q_nc (q_pd 11 51 rfl) (q_nc (q_pd 11 52 rfl) (q_nc (q_pd 11 53 rfl) (q_nc (q_pd 11 54 rfl) (q_nc (q_pd 11 55 rfl) (q_nc (q_pd 11 56 rfl) (q_nc (q_pd 11 57 rfl) (q_nc (q_pd 11 58 rfl) (q_nc (q_pd 11 59 rfl) (q_nc (q_pd 11 60 rfl) (q_nc (q_pd 11 61 rfl) (q_nc (q_pd 11 62 rfl) (q_nc (q_pd 11 63 rfl) (q_nc (q_pd 11 64 rfl) (q_nc (q_pd 11 65 rfl) List.not_mem_nil))))))))))))))))))))))))))).trans hn10
  replace hn11 := (hg202 _ (q_nc (q_pd 12 40 rfl) (q_nc (q_pd 12 41 rfl) (q_nc (q_pd 12 42 rfl) (q_nc (q_pd 12 43 rfl) (q_nc (q_pd 12 44 rfl) (q_nc (q_pd 12 45 rfl) (q_nc (q_pd 12 46 rfl) (q_nc (q_pd 12 47 rfl) (q_nc (q_pd 12 48 rfl) (q_nc (q_pd 12 49 rfl) (q_nc (q_pd 12 50 rfl) (q_nc (q_pd 12 51 rfl) (q_nc (q_pd 12 52 rfl) (q_nc (q_pd 12 53 rfl) (q_nc (q_pd 12 54 rfl) (q_nc (q_pd 12 55 rfl) (q_nc (q_pd 12 56 rfl) (q_nc (q_pd 12 57 rfl) (q_nc (q_pd 12 58 rfl) (q_nc (q_pd 12 59 rfl) (q_nc (q_pd 12 60 rfl) (q_nc (q_pd 12 61 rfl) (q_nc (q_pd 12 62 rfl) (q_nc (q_pd 12 63 rfl) (q_nc (q_pd 12 64 rfl) (q_nc (q_pd 12 65 rfl) List.not_mem_nil))))))))))))))))))))))))))).trans hn11
  replace hn12 := (hg202 _ (q_nc (q_pd 13 40 rfl) (q_nc (q_pd 13 41 rfl) (q_nc (q_pd 13 42 rfl) (q_nc (q_pd 13 43 rfl) (q_nc (q_pd 13 44 rfl) (q_nc (q_pd 13 45 rfl) (q_nc (q_pd 13 46 rfl) (q_nc (q_pd 13 47 rfl) (q_nc (q_pd 13 48 rfl) (q_nc (q_pd 13 49 rfl) (q_nc (q_pd 13 50 rfl) (q_nc (q_pd 13 51 rfl) (q_nc (q_pd 13 52 rfl) (q_nc (q_pd 13 53 rfl) (q_nc (q_pd 13 54 rfl) (q_nc (q_pd 13 55 rfl) (q_nc (q_pd 13 56 rfl) (q_nc (q_pd 13 57 rfl) (q_nc (q_pd 13 58 rfl) (q_nc (q_pd 13 59 rfl) (q_nc (q_pd 13 60 rfl) (q_nc (q_pd 13 61 rfl) (q_nc (q_pd 13 62 rfl) (q_nc (q_pd 13 63 rfl) (q_nc (q_pd 13 64 rfl) (q_nc (q_pd 13 65 rfl) List.not_mem_nil))))))))))))))))))))))))))).trans hn12
  replace hn13 := (hg202 _ (q_nc (q_pd 14 40 rfl) (q_nc (q_pd 14 41 rfl) (q_nc (q_pd 14 42 rfl) (q_nc (q_pd 14 43 rfl) (q_nc (q_pd 14 44 rfl) (q_nc (q_pd 14 45 rfl) (q_nc (q_pd 14 46 rfl) (q_nc (q_pd 14 47 rfl) (q_nc (q_pd 14 48 rfl) (q_nc (q_pd 14 49 rfl) (q_nc (q_pd 14 50 rfl) (q_nc (q_pd 14 51 rfl) (q_nc (q_pd 14 52 rfl) (q_nc (q_pd 14 53 rfl) (q_nc (q_pd 14 54 rfl) (q_nc (q_pd 14 55 rfl) (q_nc (q_pd 14 56 rfl) (q_nc (q_pd 14 57 rfl) (q_nc (q_pd 14 58 rfl) (q_nc (q_pd 14 59 rfl) (q_nc (q_pd 14 60 rfl) (q_nc (q_pd 14 61 rfl) (q_nc (q_pd 14 62 rfl) (q_nc (q_pd 14 63 rfl) (q_nc (q_pd 14 64 rfl) (q_nc (q_pd 14 65 rfl) List.not_mem_nil))))))))))))))))))))))))))).trans hn13
  replace hn14 := (hg202 _ (q_nc (q_pd 15 40 rfl) (q_nc (q_pd 15 41 rfl) (q_nc (q_pd 15 42 rfl) (q_nc (q_pd 15 43 rfl) (q_nc (q_pd 15 44 rfl) (q_nc (q_pd 15 45 rfl) (q_nc (q_pd 15 46 rfl) (q_nc (q_pd 15 47 rfl) (q_nc (q_pd 15 48 rfl) (q_nc (q_pd 15 49 rfl) (q_nc (q_pd 15 50 rfl) (q_nc (q_pd 15 51 rfl) (q_nc (q_pd 15 52 rfl) (q_nc (q_pd 15 53 rfl) (q_nc (q_pd 15 54 rfl) (q_nc (q_pd 15 55 rfl) (q_nc (q_pd 15 56 rfl) (q_nc (q_pd 15 57 rfl) (q_nc (q_pd 15 58 rfl) (q_nc (q_pd 15 59 rfl) (q_nc (q_pd 15 60 rfl) (q_nc (q_pd 15 61 rfl) (q_nc (q_pd 15 62 rfl) (q_nc (q_pd 15 63 rfl) (q_nc (q_pd 15 64 rfl) (q_nc (q_pd 15 65 rfl) List.not_mem_nil))))))))))))))))))))))))))).trans hn14
  replace hn15 := (hg202 _ (q_nc (q_pd 16 40 rfl) (q_nc (q_pd 16 41 rfl) (q_nc (q_pd 16 42 rfl) (q_nc (q_pd 16 43 rfl) (q_nc (q_pd 16 44 rfl) (q_nc (q_pd 16 45 rfl) (q_nc (q_pd 16 46 rfl) (q_nc (q_pd 16 47 rfl) (q_nc (q_pd 16 48 rfl) (q_nc (q_pd 16 49 rfl) (q_nc (q_pd 16 50 rfl) (q_nc (q_pd 16 51 rfl) (q_nc (q_pd 16 52 rfl) (q_nc (q_pd 16 53 rfl) (q_nc (q_pd 16 54 rfl) (q_nc (q_pd 16 55 rfl) (q_nc (q_pd 16 56 rfl) (q_nc (q_pd 16 57 rfl) (q_nc (q_pd 16 58 rfl) (q_nc (q_pd 16 59 rfl) (q_nc (q_pd 16 60 rfl) (q_nc (q_pd 16 61 rfl) (q_nc (q_pd 16 62 rfl) (q_nc (q_pd 16 63 rfl) (q_nc (q_pd 16 64 rfl) (q_nc (q_pd 16 65 rfl) List.not_mem_nil))))))))))))))))))))))))))).trans hn15
  replace hn16 := (hg202 _ (q_nc (q_pd 17 40 rfl) (q_nc (q_pd 17 41 rfl) (q_nc (q_pd 17 42 rfl) (q_nc (q_pd 17 43 rfl) (q_nc (q_pd 17 44 rfl) (q_nc (q_pd 17 45 rfl) (q_nc (q_pd 17 46 rfl) (q_nc (q_pd 17 47 rfl) (q_nc (q_pd 17 48 rfl) (q_nc (q_pd 17 49 rfl) (q_nc (q_pd 17 50 rfl) (q_nc (q_pd 17 51 rfl) (q_nc (q_pd 17 52 rfl) (q_nc (q_pd 17 53 rfl) (q_nc (q_pd 17 54 rfl) (q_nc (q_pd 17 55 rfl) (q_nc (q_pd 17 56 rfl) (q_nc (q_pd 17 57 rfl) (q_nc (q_pd 17 58 rfl) (q_nc (q_pd 17 59 rfl) (q_nc (q_pd 17 60 rfl) (q_nc (q_pd 17 61 rfl) (q_nc (q_pd 17 62 rfl) (q_nc (q_pd 17 63 rfl) (q_nc (q_pd 17 64 rfl) (q_nc (q_pd 17 65 rfl) List.not_mem_nil))))))))))))))))))))))))))).trans hn16
  replace hn17 := (hg202 _ (q_nc (q_pd 18 40 rfl) (q_nc (q_pd 18 41 rfl) (q_nc (q_pd 18 42 rfl) (q_nc (q_pd 18 43 rfl) (q_nc (q_pd 18 44 rfl) (q_nc (q_pd 18 45 rfl) (q_nc (q_pd 18 46 rfl) (q_nc (q_pd 18 47 rfl) (q_nc (q_pd 18 48 rfl) (q_nc (q_pd 18 49 rfl) (q_nc (q_pd 18 50 rfl) (q_nc (q_pd 18 51 rfl) (q_nc (q_pd 18 52 rfl) (q_nc (q_pd 18 53 rfl) (q_nc (q_pd 18 54 rfl) (q_nc (q_pd 18 55 rfl) (q_nc (q_pd 18 56 rfl) (q_nc (q_pd 18 57 rfl) (q_nc (q_pd 18 58 rfl) (q_nc (q_pd 18 59 rfl) (q_nc (q_pd 18 60 rfl) (q_nc (q_pd 18 61 rfl) (q_nc (q_pd 18 62 rfl) (q_nc (q_pd 18 63 rfl) (q_nc (q_pd 18 64 rfl) (q_nc (q_pd 18 65 rfl) List.not_mem_nil))))))))))))))))))))))))))).trans hn17
  replace hn18 := (hg202 _ (q_nc (q_pd 19 40 rfl) (q_nc (q_pd 19 41 rfl) (q_nc (q_pd 19 42 rfl) (q_nc (q_pd 19 43 rfl) (q_nc (q_pd 19 44 rfl) (q_nc (q_pd 19 45 rfl) (q_nc (q_pd 19 46 rfl) (q_nc (q_pd 19 47 rfl) (q_nc (q_pd 19 48 rfl) (q_nc (q_pd 19 49 rfl) (q_nc (q_pd 19 50 rfl) (q_nc (q_pd 19 51 rfl) (q_nc (q_pd 19 52 rfl) (q_nc (q_pd 19 53 rfl) (q_nc (q_pd 19 54 rfl) (q_nc (q_pd 19 55 rfl) (q_nc (q_pd 19 56 rfl) (q_nc (q_pd 19 57 rfl) (q_nc (q_pd 19 58 rfl) (q_nc (q_pd 19 59 rfl) (q_nc (q_pd 19 60 rfl) (q_nc (q_pd 19 61 rfl) (q_nc (q_pd 19 62 rfl) (q_nc (q_pd 19 63 rfl) (q_nc (q_pd 19 64 rfl) (q_nc (q_pd 19 65 rfl) List.not_mem_nil))))))))))))))))))))))))))).trans hn18
  replace hn19 := (hg202 _ (q_nc (q_pd 20 40 rfl) (q_nc (q_pd 20 41 rfl) (q_nc (q_pd 20 42 rfl) (q_nc (q_pd 20 43 rfl) (q_nc (q_pd 20 44 rfl) (q_nc (q_pd 20 45 rfl) (q_nc (q_pd 20 46 rfl) (q_nc (q_pd 20 47 rfl) (q_nc (q_pd 20 48 rfl) (q_nc (q_pd 20 49 rfl) (q_nc (q_pd 20 50 rfl) (q_nc (q_pd 20 51 rfl) (q_nc (q_pd 20 52 rfl) (q_nc (q_pd 20 53 rfl) (q_nc (q_pd 20 54 rfl) (q_nc (q_pd 20 55 rfl) (q_nc (q_pd 20 56 rfl) (q_nc (q_pd 20 57 rfl) (q_nc (q_pd 20 58 rfl) (q_nc (q_pd 20 59 rfl) (q_nc (q_pd 20 60 rfl) (q_nc (q_pd 20 61 rfl) (q_nc (q_pd 20 62 rfl) (q_nc (q_pd 20 63 rfl) (q_nc (q_pd 20 64 rfl) (q_nc (q_pd 20 65 rfl) List.not_mem_nil))))))))))))))))))))))))))).trans hn19
  replace hn20 := (hg202 _ (q_nc (q_pd 21 40 rfl) (q_nc (q_pd 21 41 rfl) (q_nc (q_pd 21 42 rfl) (q_nc (q_pd 21 43 rfl) (q_nc (q_pd 21 44 rfl) (q_nc (q_pd 21 45 rfl) (q_nc (q_pd 21 46 rfl) (q_nc (q_pd 21 47 rfl) (q_nc (q_pd 21 48 rfl) (q_nc (q_pd 21 49 rfl) (q_nc (q_pd 21 50 rfl) (q_nc (q_pd 21 51 rfl) (q_nc (q_pd 21 52 rfl) (q_nc (q_pd 21 53 rfl) (q_nc (q_pd 21 54 rfl) (q_nc (q_pd 21 55 rfl) (q_nc (q_pd 21 56 rfl) (q_nc (q_pd 21 57 rfl) (q_nc (q_pd 21 58 rfl) (q_nc (q_pd 21 59 rfl) (q_nc (q_pd 21 60 rfl) (q_nc (q_pd 21 61 rfl) (q_nc (q_pd 21 62 rfl) (q_nc (q_pd 21 63 rfl) (q_nc (q_pd 21 64 rfl) (q_nc (q_pd 21 65 rfl) List.not_mem_nil))))))))))))))))))))))))))).trans hn20
  replace hn21 := (hg202 _ (q_nc (q_pd 22 40 rfl) (q_nc (q_pd 22 41 rfl) (q_nc (q_pd 22 42 rfl) (q_nc (q_pd 22 43 rfl) (q_nc (q_pd 22 44 rfl) (q_nc (q_pd 22 45 rfl) (q_nc (q_pd 22 46 rfl) (q_nc (q_pd 22 47 rfl) (q_nc (q_pd 22 48 rfl) (q_nc (q_pd 22 49 rfl) (q_nc (q_pd 22 50 rfl) (q_nc (q_pd 22 51 rfl) (q_nc (q_pd 22 52 rfl) (q_nc (q_pd 22 53 rfl) (q_nc (q_pd 22 54 rfl) (q_nc (q_pd 22 55 rfl) (q_nc (q_pd 22 56 rfl) (q_nc (q_pd 22 57 rfl) (q_nc (q_pd 22 58 rfl) (q_nc (q_pd 22 59 rfl) (q_nc (q_pd 22 60 rfl) (q_nc (q_pd 22 61 rfl) (q_nc (q_pd 22 62 rfl) (q_nc (q_pd 22 63 rfl) (q_nc (q_pd 22 64 rfl) (q_nc (q_pd 22 65 rfl) List.not_mem_nil))))))))))))))))))))))))))).trans hn21
  replace hn22 := (hg202 _ (q_nc (q_pd 23 40 rfl) (q_nc (q_pd 23 41 rfl) (q_nc (q_pd 23 42 rfl) (q_nc (q_pd 23 43 rfl) (q_nc (q_pd 23 44 rfl) (q_nc (q_pd 23 45 rfl) (q_nc (q_pd 23 46 rfl) (q_nc (q_pd 23 47 rfl) (q_nc (q_pd 23 48 rfl) (q_nc (q_pd 23 49 rfl) (q_nc (q_pd 23 50 rfl) (q_nc (q_pd 23 51 rfl) (q_nc (q_pd 23 52 rfl) (q_nc (q_pd 23 53 rfl) (q_nc (q_pd 23 54 rfl) (q_nc (q_pd 23 55 rfl) (q_nc (q_pd 23 56 rfl) (q_nc (q_pd 23 57 rfl) (q_nc (q_pd 23 58 rfl) (q_nc (q_pd 23 59 rfl) (q_nc (q_pd 23 60 rfl) (q_nc (q_pd 23 61 rfl) (q_nc (q_pd 23 62 rfl) (q_nc (q_pd 23 63 rfl) (q_nc (q_pd 23 64 rfl) (q_nc (q_pd 23 65 rfl) List.not_mem_nil))))))))))))))))))))))))))).trans hn22
  replace hn23 := (hg202 _ (q_nc (q_pd 24 40 rfl) (q_nc (q_pd 24 41 rfl) (q_nc (q_pd 24 42 rfl) (q_nc (q_pd 24 43 rfl) (q_nc (q_pd 24 44 rfl) (q_nc (q_pd 24 45 rfl) (q_nc (q_pd 24 46 rfl) (q_nc (q_pd 24 47 rfl) (q_nc (q_pd 24 48 rfl) (q_nc (q_pd 24 49 rfl) (q_nc (q_pd 24 50 rfl) (q_nc (q_pd 24 51 rfl) (q_nc (q_pd 24 52 rfl) (q_nc (q_pd 24 53 rfl) (q_nc (q_pd 24 54 rfl) (q_nc (q_pd 24 55 rfl) (q_nc (q_pd 24 56 rfl) (q_nc (q_pd 24 57 rfl) (q_nc (q_pd 24 58 rfl) (q_nc (q_pd 24 59 rfl) (q_nc (q_pd 24 60 rfl) (q_nc (q_pd 24 61 rfl) (q_nc (q_pd 24 62 rfl) (q_nc (q_pd 24 63 rfl) (q_nc (q_pd 24 64 rfl) (q_nc (q_pd 24 65 rfl) List.not_mem_nil))))))))))))))))))))))))))).trans hn23
  replace hn24 := (hg202 _ (q_nc (q_pd 25 40 rfl) (q_nc (q_pd 25 41 rfl) (q_nc (q_pd 25 42 rfl) (q_nc (q_pd 25 43 rfl) (q_nc (q_pd 25 44 rfl) (q_nc (q_pd 25 45 rfl) (q_nc (q_pd 25 46 rfl) (q_nc (q_pd 25 47 rfl) (q_nc (q_pd 25 48 rfl) (q_nc (q_pd 25 49 rfl) (q_nc (q_pd 25 50 rfl) (q_nc (q_pd 25 51 rfl) (q_nc (q_pd 25 52 rfl) (q_nc (q_pd 25 53 rfl) (q_nc (q_pd 25 54 rfl) (q_nc (q_pd 25 55 rfl) (q_nc (q_pd 25 56 rfl) (q_nc (q_pd 25 57 rfl) (q_nc (q_pd 25 58 rfl) (q_nc (q_pd 25 59 rfl) (q_nc (q_pd 25 60 rfl) (q_nc (q_pd 25 61 rfl) (q_nc (q_pd 25 62 rfl) (q_nc (q_pd 25 63 rfl) (q_nc (q_pd 25 64 rfl) (q_nc (q_pd 25 65 rfl) List.not_mem_nil))))))))))))))))))))))))))).trans hn24
  replace hn25 := (hg202 _ (q_nc (q_pd 26 40 rfl) (q_nc (q_pd 26 41 rfl) (q_nc (q_pd 26 42 rfl) (q_nc (q_pd 26 43 rfl) (q_nc (q_pd 26 44 rfl) (q_nc (q_pd 26 45 rfl) (q_nc (q_pd 26 46 rfl) (q_nc (q_pd 26 47 rfl) (q_nc (q_pd 26 48 rfl) (q_nc (q_pd 26 49 rfl) (q_nc (q_pd 26 50 rfl) (q_nc (q_pd 26 51 rfl) (q_nc (q_pd 26 52 rfl) (q_nc (q_pd 26 53 rfl) (q_nc (q_pd 26 54 rfl) (q_nc (q_pd 26 55 rfl) (q_nc (q_pd 26 56 rfl) (q_nc (q_pd 26 57 rfl) (q_nc (q_pd 26 58 rfl) (q_nc (q_pd 26 59 rfl) (q_nc (q_pd 26 60 rfl) (q_nc (q_pd 26 61 rfl) (q_nc (q_pd 26 62 rfl) (q_nc (q_pd 26 63 rfl) (q_nc (q_pd 26 64 rfl) (q_nc (q_pd 26 65 rfl) List.not_mem_nil))))))))))))))))))))))))))).trans hn25
  replace hn26 := (hg202 _ (q_nc (q_pd 27 40 rfl) (q_nc (q_pd 27 41 rfl) (q_nc (q_pd 27 42 rfl) (q_nc (q_pd 27 43 rfl) (q_nc (q_pd 27 44 rfl) (q_nc (q_pd 27 45 rfl) (q_nc (q_pd 27 46 rfl) (q_nc (q_pd 27 47 rfl) (q_nc (q_pd 27 48 rfl) (q_nc (q_pd 27 49 rfl) (q_nc (q_pd 27 50 rfl) (q_nc (q_pd 27 51 rfl) (q_nc (q_pd 27 52 rfl) (q_nc (q_pd 27 53 rfl) (q_nc (q_pd 27 54 rfl) (q_nc (q_pd 27 55 rfl) (q_nc (q_pd 27 56 rfl) (q_nc (q_pd 27 57 rfl) (q_nc (q_pd 27 58 rfl) (q_nc (q_pd 27 59 rfl) (q_nc (q_pd 27 60 rfl) (q_nc (q_pd 27 61 rfl) (q_nc (q_pd 27 62 rfl) (q_nc (q_pd 27 63 rfl) (q_nc (q_pd 27 64 rfl) (q_nc (q_pd 27 65 rfl) List.not_mem_nil))))))))))))))))))))))))))).trans hn26
  replace hn27 := (hg202 _ (q_nc (q_pd 28 40 rfl) (q_nc (q_pd 28 41 rfl) (q_nc (q_pd 28 42 rfl) (q_nc (q_pd 28 43 rfl) (q_nc (q_pd 28 44 rfl) (q_nc (q_pd 28 45 rfl) (q_nc (q_pd 28 46 rfl) (q_nc (q_pd 28 47 rfl) (q_nc (q_pd 28 48 rfl) (q_nc (q_pd 28 49 rfl) (q_nc (q_pd 28 50 rfl) (q_nc (q_pd 28 51 rfl) (q_nc (q_pd 28 52 rfl) (q_nc (q_pd 28 53 rfl) (q_nc (q_pd 28 54 rfl) (q_nc (q_pd 28 55 rfl) (q_nc (q_pd 28 56 rfl) (q_nc (q_pd 28 57 rfl) (q_nc (q_pd 28 58 rfl) (q_nc (q_pd 28 59 rfl) (q_nc (q_pd 28 60 rfl) (q_nc (q_pd 28 61 rfl) (q_nc (q_pd 28 62 rfl) (q_nc (q_pd 28 63 rfl) (q_nc (q_pd 28 64 rfl) (q_nc (q_pd 28 65 rfl) List.not_mem_nil))))))))))))))))))))))))))).trans hn27
  replace hn28 := (hg202 _ (q_nc (q_pd 29 40 rfl) (q_nc (q_pd 29 41 rfl) (q_nc (q_pd 29 42 rfl) (q_nc (q_pd 29 43 rfl) (q_nc (q_pd 29 44 rfl) (q_nc (q_pd 29 45 rfl) (q_nc (q_pd 29 46 rfl) (q_nc (q_pd 29 47 rfl) (q_nc (q_pd 29 48 rfl) (q_nc (q_pd 29 49 rfl) (q_nc (q_pd 29 50 rfl) (q_nc (q_pd 29 51 rfl) (q_nc (q_pd 29 52 rfl) (q_nc (q_pd 29 53 rfl) (q_nc (q_pd 29 54 rfl) (q_nc (q_pd 29 55 rfl) (q_nc (q_pd 29 56 rfl) (q_nc (q_pd 29 57 rfl) (q_nc (q_pd 29 58 rfl) (q_nc (q_pd 29 59 rfl) (q_nc (q_pd 29 60 rfl) (q_nc (q_pd 29 61 rfl) (q_nc (q_pd 29 62 rfl) (q_nc (q_pd 29 63 rfl) (q_nc (q_pd 29 64 rfl) (q_nc (q_pd 29 65 rfl) List.not_mem_nil))))))))))))))))))))))))))).trans hn28
  replace hn29 := (hg202 _ (q_nc (q_pd 30 40 rfl) (q_nc (q_pd 30 41 rfl) (q_nc (q_pd 30 42 rfl) (q_nc (q_pd 30 43 rfl) (q_nc (q_pd 30 44 rfl) (q_nc (q_pd 30 45 rfl) (q_nc (q_pd 30 46 rfl) (q_nc (q_pd 30 47 rfl) (q_nc (q_pd 30 48 rfl) (q_nc (q_pd 30 49 rfl) (q_nc (q_pd 30 50 rfl) (q_nc (q_pd 30 51 rfl) (q_nc (q_pd 30 52 rfl) (q_nc (q_pd 30 53 rfl) (q_nc (q_pd 30 54 rfl) (q_nc (q_pd 30 55 rfl) (q_nc (q_pd 30 56 rfl) (q_nc (q_pd 30 57 rfl) (q_nc (q_pd 30 58 rfl) (q_nc (q_pd 30 59 rfl) (q_nc (q_pd 30 60 rfl) (q_nc (q_pd 30 61 rfl) (q_nc (q_pd 30 62 rfl) (q_nc (q_pd 30 63 rfl) (q_nc (q_pd 30 64 rfl) (q_nc (q_pd 30 65 rfl) List.not_mem_nil))))))))))))))))))))))))))).trans hn29
  replace hn30 := (hg202 _ (q_nc (q_pd 31 40 rfl) (q_nc (q_pd 31 41 rfl) (q_nc (q_pd 31 42 rfl) (q_nc (q_pd 31 43 rfl) (q_nc (q_pd 31 44 rfl) (q_nc (q_pd 31 45 rfl) (q_nc (q_pd 31 46 rfl) (q_nc (q_pd 31 47 rfl) (q_nc (q_pd 31 48 rfl) (q_nc (q_pd 31 49 rfl) (q_nc (q_pd 31 50 rfl) (q_nc (q_pd 31 51 rfl) (q_nc (q_pd 31 52 rfl) (q_nc (q_pd 31 53 rfl) (q_nc (q_pd 31 54 rfl) (q_nc (q_pd 31 55 rfl) (q_nc (q_pd 31 56 rfl) (q_nc (q_pd 31 57 rfl) (q_nc (q_pd 31 58 rfl) (q_nc (q_pd 31 59 rfl) (q_nc (q_pd 31 60 rfl) (q_nc (q_pd 31 61 rfl) (q_nc (q_pd 31 62 rfl) (q_nc (q_pd 31 63 rfl) (q_nc (q_pd 31 64 rfl) (q_nc (q_pd 31 65 rfl) List.not_mem_nil))))))))))))))))))))))))))).trans hn30
  replace hn31 := (hg202 _ (q_nc (q_pd 32 40 rfl) (q_nc (q_pd 32 41 rfl) (q_nc (q_pd 32 42 rfl) (q_nc (q_pd 32 43 rfl) (q_nc (q_pd 32 44 rfl) (q_nc (q_pd 32 45 rfl) (q_nc (q_pd 32 46 rfl) (q_nc (q_pd 32 47 rfl) (q_nc (q_pd 32 48 rfl) (q_nc (q_pd 32 49 rfl) (q_nc (q_pd 32 50 rfl) (q_nc (q_pd 32 51 rfl) (q_nc (q_pd 32 52 rfl) (q_nc (q_pd 32 53 rfl) (q_nc (q_pd 32 54 rfl) (q_nc (q_pd 32 55 rfl) (q_nc (q_pd 32 56 rfl) (q_nc (q_pd 32 57 rfl) (q_nc (q_pd 32 58 rfl) (q_nc (q_pd 32 59 rfl) (q_nc (q_pd 32 60 rfl) (q_nc (q_pd 32 61 rfl) (q_nc (q_pd 32 62 rfl) (q_nc (q_pd 32 63 rfl) (q_nc (q_pd 32 64 rfl) (q_nc (q_pd 32 65 rfl) List.not_mem_nil))))))))))))))))))))))))))).trans hn31
  replace hn32 := (hg202 _ (q_nc (q_pd 33 40 rfl) (q_nc (q_pd 33 41 rfl) (q_nc (q_pd 33 42 rfl) (q_nc (q_pd 33 43 rfl) (q_nc (q_pd 33 44 rfl) (q_nc (q_pd 33 45 rfl) (q_nc (q_pd 33 46 rfl) (q_nc (q_pd 33 47 rfl) (q_nc (q_pd 33 48 rfl) (q_nc (q_pd 33 49 rfl) (q_nc (q_pd 33 50 rfl) (q_nc (q_pd 33 51 rfl) (q_nc (q_pd 33 52 rfl) (q_nc (q_pd 33 53 rfl) (q_nc (q_pd 33 54 rfl) (q_nc (q_pd 33 55 rfl) (q_nc (q_pd 33 56 rfl) (q_nc (q_pd 33 57 rfl) (q_nc (q_pd 33 58 rfl) (q_nc (q_pd 33 59 rfl) (q_nc (q_pd 33 60 rfl) (q_nc (q_pd 33 61 rfl) (q_nc (q_pd 33 62 rfl) (q_nc (q_pd 33 63 rfl) (q_nc (q_pd 33 64 rfl) (q_nc (q_pd 33 65 rfl) List.not_mem_nil))))))))))))))))))))))))))).trans hn32
  replace hn33 := (hg202 _ (q_nc (q_pd 34 40 rfl) (q_nc (q_pd 34 41 rfl) (q_nc (q_pd 34 42 rfl) (q_nc (q_pd 34 43 rfl) (q_nc (q_pd 34 44 rfl) (q_nc (q_pd 34 45 rfl) (q_nc (q_pd 34 46 rfl) (q_nc (q_pd 34 47 rfl) (q_nc (q_pd 34 48 rfl) (q_nc (q_pd 34 49 rfl) (q_nc (q_pd 34 50 rfl) (q_nc (q_pd 34 51 rfl) (q_nc (q_pd 34 52 rfl) (q_nc (q_pd 34 53 rfl) (q_nc (q_pd 34 54 rfl) (q_nc (q_pd 34 55 rfl) (q_nc (q_pd 34 56 rfl) (q_nc (q_pd 34 57 rfl) (q_nc (q_pd 34 58 rfl) (q_nc (q_pd 34 59 rfl) (q_nc (q_pd 34 60 rfl) (q_nc (q_pd 34 61 rfl) (q_nc (q_pd 34 62 rfl) (q_nc (q_pd 34 63 rfl) (q_nc (q_pd 34 64 rfl) (q_nc (q_pd 34 65 rfl) List.not_mem_nil))))))))))))))))))))))))))).trans hn33
  replace hn34 := (hg202 _ (q_nc (q_pd 35 40 rfl) (q_nc (q_pd 35 41 rfl) (q_nc (q_pd 35 42 rfl) (q_nc (q_pd 35 43 rfl) (q_nc (q_pd 35 44 rfl) (q_nc (q_pd 35 45 rfl) (q_nc (q_pd 35 46 rfl) (q_nc (q_pd 35 47 rfl) (q_nc (q_pd 35 48 rfl) (q_nc (q_pd 35 49 rfl) (q_nc (q_pd 35 50 rfl) (q_nc (q_pd 35 51 rfl) (q_nc (q_pd 35 52 rfl) (q_nc (q_pd 35 53 rfl) (q_nc (q_pd 35 54 rfl) (q_nc (q_pd 35 55 rfl) (q_nc (q_pd 35 56 rfl) (q_nc (q_pd 35 57 rfl) (q_nc (q_pd 35 58 rfl) (q_nc (q_pd 35 59 rfl) (q_nc (q_pd 35 60 rfl) (q_nc (q_pd 35 61 rfl) (q_nc (q_pd 35 62 rfl) (q_nc (q_pd 35 63 rfl) (q_nc (q_pd 35 64 rfl) (q_nc (q_pd 35 65 rfl) List.not_mem_nil))))))))))))))))))))))))))).trans hn34
  replace hn35 := (hg202 _ (q_nc (q_pd 36 40 rfl) (q_nc (q_pd 36 41 rfl) (q_nc (q_pd 36 42 rfl) (q_nc (q_pd 36 43 rfl) (q_nc (q_pd 36 44 rfl) (q_nc (q_pd 36 45 rfl) (q_nc (q_pd 36 46 rfl) (q_nc (q_pd 36 47 rfl) (q_nc (q_pd 36 48 rfl) (q_nc (q_pd 36 49 rfl) (q_nc (q_pd 36 50 rfl) (q_nc (q_pd 36 51 rfl) (q_nc (q_pd 36 52 rfl) (q_nc (q_pd 36 53 rfl) (q_nc (q_pd 36 54 rfl) (q_nc (q_pd 36 55 rfl) (q_nc (q_pd 36 56 rfl) (q_nc (q_pd 36 57 rfl) (q_nc (q_pd 36 58 rfl) (q_nc (q_pd 36 59 rfl) (q_nc (q_pd 36 60 rfl) (q_nc (q_pd 36 61 rfl) (q_nc (q_pd 36 62 rfl) (q_nc (q_pd 36 63 rfl) (q_nc (q_pd 36 64 rfl) (q_nc (q_pd 36 65 rfl) List.not_mem_nil))))))))))))))))))))))))))).trans hn35
  replace hn36 := (hg202 _ (q_nc (q_pd 37 40 rfl) (q_nc (q_pd 37 41 rfl) (q_nc (q_pd 37 42 rfl) (q_nc (q_pd 37 43 rfl) (q_nc (q_pd 37 44 rfl) (q_nc (q_pd 37 45 rfl) (q_nc (q_pd 37 46 rfl) (q_nc (q_pd 37 47 rfl) (q_nc (q_pd 37 48 rfl) (q_nc (q_pd 37 49 rfl) (q_nc (q_pd 37 50 rfl) (q_nc (q_pd 37 51 rfl) (q_nc (q_pd 37 52 rfl) (q_nc (q_pd 37 53 rfl) (q_nc (q_pd 37 54 rfl) (q_nc (q_pd 37 55 rfl) (q_nc (q_pd 37 56 rfl) (q_nc (q_pd 37 57 rfl) (q_nc (q_pd 37 58 rfl) (q_nc (q_pd 37 59 rfl) (q_nc (q_pd 37 60 rfl) (q_nc (q_pd 37 61 rfl) (q_nc (q_pd 37 62 rfl) (q_nc (q_pd 37 63 rfl) (q_nc (q_pd 37 64 rfl) (q_nc (q_pd 37 65 rfl) List.not_mem_nil))))))))))))))))))))))))))).trans hn36
  replace hn37 := (hg202 _ (q_nc (q_pd 38 40 rfl) (q_nc (q_pd 38 41 rfl) (q_nc (q_pd 38 42 rfl) (q_nc (q_pd 38 43 rfl) (q_nc (q_pd 38 44 rfl) (q_nc (q_pd 38 45 rfl) (q_nc (q_pd 38 46 rfl) (q_nc (q_pd 38 47 rfl) (q_nc (q_pd 38 48 rfl) (q_nc (q_pd 38 49 rfl) (q_nc (q_pd 38 50 rfl) (q_nc (q_pd 38 51 rfl) (q_nc (q_pd 38 52 rfl) (q_nc (q_pd 38 53 rfl) (q_nc (q_pd 38 54 rfl) (q_nc (q_pd 38 55 rfl) (q_nc (q_pd 38 56 rfl) (q_nc (q_pd 38 57 rfl) (q_nc (q_pd 38 58 rfl) (q_nc (q_pd 38 59 rfl) (q_nc (q_pd 38 60 rfl) (q_nc (q_pd 38 61 rfl) (q_nc (q_pd 38 62 rfl) (q_nc (q_pd 38 63 rfl) (q_nc (q_pd 38 64 rfl) (q_nc (q_pd 38 65 rfl) List.not_mem_nil))))))))))))))))))))))))))).trans hn37
  replace hn38 := (hg202 _ (q_nc (q_pd 39 40 rfl) (q_nc (q_pd 39 41 rfl) (q_nc (q_pd 39 42 rfl) (q_nc (q_pd 39 43 rfl) (q_nc (q_pd 39 44 rfl) (q_nc (q_pd 39 45 rfl) (q_nc (q_pd 39 46 rfl) (q_nc (q_pd 39 47 rfl) (q_nc (q_pd 39 48 rfl) (q_nc (q_pd 39 49 rfl) (q_nc (q_pd 39 50 rfl) (q_nc (q_pd 39 51 rfl) (q_nc (q_pd 39 52 rfl) (q_nc (q_pd 39 53 rfl) (q_nc (q_pd 39 54 rfl) (q_nc (q_pd 39 55 rfl) (q_nc (q_pd 39 56 rfl) (q_nc (q_pd 39 57 rfl) (q_nc (q_pd 39 58 rfl) (q_nc (q_pd 39 59 rfl) (q_nc (q_pd 39 60 rfl) (q_nc (q_pd 39 61 rfl) (q_nc (q_pd 39 62 rfl) (q_nc (q_pd 39 63 rfl) (q_nc (q_pd 39 64 rfl) (q_nc (q_pd 39 65 rfl) List.not_mem_nil))))))))))))))))))))))))))).trans hn38
  replace hF := q_uc hF hg202 (q_sc (.tail _ (.tail _ (.tail _ (.tail _ (.tail _ (.tail _ (.tail _ (.tail _ (.tail _ (.tail _ (.tail _ (.tail _ (.tail _ (.tail _ (.tail _ (.tail _ (.tail _ (.tail _ (.tail _ (.tail _ (.tail _ (.tail _ (.tail _ (.tail _ (.tail _ (.tail _ (.tail _ (.tail _ (.tail _ (.tail _ (.tail _ (.tail _ (.tail _ (.tail _ (.tail _ (.tail _ (.tail _ (.tail _ (.tail _ (.tail _ (.head _))))))))))))))))))))))))))))))))))))))))) (q_sc (.tail _ (.tail _ (.tail _ (.tail _ (.tail _ (.tail _ (.tail _ (.tail _ (.tail _ (.tail _ (.tail _ (.tail _ (.tail _ (.tail _ (.tail _ (.tail _ (.tail _ (.tail _ (.tail _ (.tail _ (.tail _ (.tail _ (.tail _ (.tail _ (.tail _ (.tail _ (.tail _ (.tail _ (.tail _ (.tail _ (.tail _ (.tail _ (.tail _ (.tail _ (.tail _ (.tail _ (.tail _ (.tail _ (.tail _ (.tail _ (.tail _ (.head _)))))))))))))))))))))))))))))))))))))))))) (q_sc (.tail _ (.tail _ (.tail _ (.tail _ (.tail _ (.tail _ (.tail _ (.tail _ (.tail _ (.tail _ (.tail _ (.tail _ (.tail _ (.tail _ (.tail _ (.tail _ (.tail _ (.tail _ (.tail _ (.tail _ (.tail _ (.tail _ (.tail _ (.tail _ (.tail _ (.tail _ (.tail _ (.tail _ (.tail _ (.tail _ (.tail _ (.tail _ (.tail _ (.tail _ (.tail _ (.tail _ (.tail _ (.tail _ (.tail _ (.tail _ (.tail _ (.tail _ (.head _))))))))))))))))))))))))))))))))))))))))))) (q_sc (.tail _ (.tail _ (.tail _ (.tail _ (.tail _ (.tail _ (.tail _ (.tail _ (.tail _ (.tail _ (.tail _ (.tail _ (.tail _ (.tail _ (.tail _ (.tail _ (.tail _ (.tail _ (.tail _ (.tail _ (.tail _ (.tail _ (.tail _ (.tail _ (.tail _ (.tail _ (.tail _ (.tail _ (.tail _ (.tail _ (.tail _ (.tail _ (.tail _ (.tail _ (.tail _ (.tail _ (.tail _ (.tail _ (.tail _ (.tail _ (.tail _ (.tail _ (.tail _ (.head _)))))))))))))))))))))))))))))))))))))))))))) (q_sc (.tail _ (.tail _ (.tail _ (.tail _ (.tail _ (.tail _ (.tail _ (.tail _ (.tail _ (.tail _ (.tail _ (.tail _ (.tail _ (.tail _ (.tail _ (.tail _ (.tail _ (.tail _ (.tail _ (.tail _ (.tail _ (.tail _ (.tail _ (.tail _ (.tail _ (.tail _ (.tail _ (.tail _ (.tail _ (.tail _ (.tail _ (.tail _ (.tail _ (.tail _ (.tail _ (.tail _ (.tail _ (.tail _ (.tail _ (.tail _ (.tail _ (.tail _ (.tail _ (.tail _ (.head _))))))))))))))))))))))))))))))))))))))))))))) (q_sc (.tail _ (.tail _ (.tail _ (.tail _ (.tail _ (.tail _ (.tail _ (.tail _ (.tail _ (.tail _ (.tail _ (.tail _ (.tail _ (.tail _ (.tail _ (.tail _ (.tail _ (.tail _ (.tail _ (.tail _ (.tail _ (.tail _ (.tail _ (.tail _ (.tail _ (.tail _ (.tail _ (.tail _ (.tail _ (.tail _ (.tail _ (.tail _ (.tail _ (.tail _ (.tail _ (.tail _ (.tail _ (.tail _ (.tail _ (.tail _ (.tail _ (.tail _ (.tail _ (.tail _ (.tail _ (.head _)))))))))))))))))))))))))))))))))))))))))))))) (q_sc (.tail _ (.tail _ (.tail _ (.tail _ (.tail _ (.tail _ (.tail _ (.tail _ (.tail _ (.tail _ (.tail _ (.tail _ (.tail _ (.tail _ (.tail _ (.tail _ (.tail _ (.tail _ (.tail _ (.tail _ (.tail _ (.tail _ (.tail _ (.tail _ (.tail _ (.tail _ (.tail _ (.tail _ (.tail _ (.tail _ (.tail _ (.tail _ (.tail _ (.tail _ (.tail _ (.tail _ (.tail _ (.tail _ (.tail _ (.tail _ (.tail _ (.tail _ (.tail _ (.tail _ (.tail _ (.tail _ (.head _))))))))))))))))))))))))))))))))))))))))))))))) (q_sc (.tail _ (.tail _ (.tail _ (.tail _ (.tail _ (.tail _ (.tail _ (.tail _ (.tail _ (.tail _ (.tail _ (.tail _ (.tail _ (.tail _ (.tail _ (.tail _ (.tail _ (.tail _ (.tail _ (.tail _ (.tail _ (.tail _ (.tail _ (.tail _ (.tail _ (.tail _ (.tail _ (.tail _ (.tail _ (.tail _ (.tail _ (.tail _ (.tail _ (.tail _ (.tail _ (.tail _ (.tail _ (.tail _ (.tail _ (.tail _ (.tail _ (.tail _ (.tail _ (.tail _ (.tail _ (.tail _ (.tail _ (.head _)))))))))))))))))))))))))))))))))))))))))))))))) (q_sc (.tail _ (.tail _ (.tail _ (.tail _ (.tail _ (.tail _ (.tail _ (.tail _ (.tail _ (.tail _ (.tail _ (.tail _ (.tail _ (.tail _ (.tail _ (.tail _ (.tail _ (.tail _ (.tail _ (.tail _ (.tail _ (.tail _ (.tail _ (.tail _ (.tail _ (.tail _ (.tail _ (.tail _ (.tail _ (.tail _ (.tail _ (.tail _ (.tail _ (.tail _ (.tail _ (.tail _ (.tail _ (.tail _ (.tail _ (.tail _ (.tail _ (.tail _ (.tail _ (.tail _ (.tail _ (.tail _ (.tail _ (.tail _ (.head _))))))))))))))))))))))))))))))))))))))))))))))))) (q_sc (.tail _ (.tail _ (.tail _ (.tail _ (.tail _ (.tail _ (.tail _ (.tail _ (.tail _ (.tail _ (.tail _ (.tail _ (.tail _ (.tail _ (.tail _ (.tail _ (.tail _ (.tail _ (.tail _ (.tail _ (.tail _ (.tail _ (.tail _ (.tail _ (.tail _ (.tail _ (.tail _ (.tail _ (.tail _ (.tail _ (.tail _ (.tail _ (.tail _ (.tail _ (.tail _ (.tail _ (.tail _ (.tail _ (.tail _ (.tail _ (.tail _ (.tail _ (.tail _ (.tail _ (.tail _ (.tail _ (.tail _ (.tail _ (.tail _ (.head _)))))))))))))))))))))))))))))))))))))))))))))))))) (q_sc (.tail _ (.tail _ (.tail _ (.tail _ (.tail _ (.tail _ (.tail _ (.tail _ (.tail _ (.tail _ (.tail _ (.tail _ (.tail _ (.tail _ (.tail _ (.tail _ (.tail _ (.tail _ (.tail _ (.tail _ (.tail _ (.tail _ (.tail _ (.tail _ (.tail _ (.tail _ (.tail _ (.tail _ (.tail _ (.tail _ (.tail _ (.tail _ (.tail _ (.tail _ (.tail _ (.tail _ (.tail _ (.tail _ (.tail _ (.tail _ (.tail _ (.tail _ (.tail _ (.tail _ (.tail _ (.tail _ (.tail _ (.tail _ (.tail _ (.tail _ (.head _))))))))))))))))))))))))))))))))))))))))))))))))))) (q_sc (.tail _ (.tail _ (.tail _ (.tail _ (.tail _ (.tail _ (.tail _ (.tail _ (.tail _ (.tail _ (.tail _ (.tail _ (.tail _ (.tail _ (.tail _ (.tail _ (.tail _ (.tail _ (.tail _ (.tail _ (.tail _ (.tail _ (.tail _ (.tail _ (.tail _ (.tail _ (.tail _ (.tail _ (.tail _ (.tail _ (.tail _ (.tail _ (.tail _ (.tail _ (.tail _ (.tail _ (.tail _ (.tail _ (.tail _ (.tail _ (.tail _ (.tail _ (.tail _ (.tail _ (.tail _ (.tail _ (.tail _ (.tail _ (.tail _ (.tail _ (.tail _ (.head _)))))))))))))))))))))))))))))))))))))))))))))))))))) (q_sc (.tail _ (.tail _ (.tail _ (.tail _ (.tail _ (.tail _ (.tail _ (.tail _ (.tail _ (.tail _ (.tail _ (.tail _ (.tail _ (.tail _ (.tail _ (.tail _ (.tail _ (.tail _ (.tail _ (.tail _ (.tail _ (.tail _ (.tail _ (.tail _ (.tail _ (.tail _ (.tail _ (.tail _ (.tail _ (.tail _ (.tail _ (.tail _ (.tail _ (.tail _ (.tail _ (.tail _ (.tail _ (.tail _ (.tail _ (.tail _ (.tail _ (.tail _ (.tail _ (.tail _ (.tail _ (.tail _ (.tail _ (.tail _ (.tail _ (.tail _ (.tail _ (.tail _ (.head _))))))))))))))))))))))))))))))))))))))))))))))))))))) (q_sc (.tail _ (.tail _ (.tail _ (.tail _ (.tail _ (.tail _ (.tail _ (.tail _ (.tail _ (.tail _ (.tail _ (.tail _ (.tail _ (.tail _ (.tail _ (.tail _ (.tail _ (.tail _ (.tail _ (.tail _ (.tail _ (.tail _ (.tail _ (.tail _ (.tail _ (.tail _ (.tail _ (.tail _ (.tail _ (.tail _ (.tail _ (.tail _ (.tail _ (.tail _ (.tail _ (.tail _ (.tail _ (.tail _ (.tail _ (.tail _ (.tail _ (.tail _ (.tail _ (.tail _ (.tail _ (.tail _ (.tail _ (.tail _ (.tail _ (.tail _ (.tail _ (.tail _ (.tail _ (.head _)))))))))))))))))))))))))))))))))))))))))))))))))))))) (q_sc (.tail _ (.tail _ (.tail _ (.tail _ (.tail _ (.tail _ (.tail _ (.tail _ (.tail _ (.tail _ (.tail _ (.tail _ (.tail _ (.tail _ (.tail _ (.tail _ (.tail _ (.tail _ (.tail _ (.tail _ (.tail _ (.tail _ (.tail _ (.tail _ (.tail _ (.tail _ (.tail _ (.tail _ (.tail _ (.tail _ (.tail _ (.tail _ (.tail _ (.tail _ (.tail _ (.tail _ (.tail _ (.tail _ (.tail _ (.tail _ (.tail _ (.tail _ (.tail _ (.tail _ (.tail _ (.tail _ (.tail _ (.tail _ (.tail _ (.tail _ (.tail _ (.tail _ (.tail _ (.tail _ (.head _))))))))))))))))))))))))))))))))))))))))))))))))))))))) (q_sc (.tail _ (.tail _ (.tail _ (.tail _ (.tail _ (.tail _ (.tail _ (.tail _ (.tail _ (.tail _ (.tail _ (.tail _ (.tail _ (.tail _ (.tail _ (.tail _ (.tail _ (.tail _ (.tail _ (.tail _ (.tail _ (.tail _ (.tail _ (.tail _ (.tail _ (.tail _ (.tail _ (.tail _ (.tail _ (.tail _ (.tail _ (.tail _ (.tail _ (.tail _ (.tail _ (.tail _ (.tail _ (.tail _ (.tail _ (.tail _ (.tail _ (.tail _ (.tail _ (.tail _ (.tail _ (.tail _ (.tail _ (.tail _ (.tail _ (.tail _ (.tail _ (.tail _ (.tail _ (.tail _ (.tail _ (.head _)))))))))))))))))))))))))))))))))))))))))))))))))))))))) (q_sc (.tail _ (.tail _ (.tail _ (.tail _ (.tail _ (.tail _ (.tail _ (.tail _ (.tail _ (.tail _ (.tail _ (.tail _ (.tail _ (.tail _ (.tail _ (.tail _ (.tail _ (.tail _ (.tail _ (.tail _ (.tail _ (.tail _ (.tail _ (.tail _ (.tail _ (.tail _ (.tail _ (.tail _ (.tail _ (.tail _ (.tail _ (.tail _ (.tail _ (.tail _ (.tail _ (.tail _ (.tail _ (.tail _ (.tail _ (.tail _ (.tail _ (.tail _ (.tail _ (.tail _ (.tail _ (.tail _ (.tail _ (.tail _ (.tail _ (.tail _ (.tail _ (.tail _ (.tail _ (.tail _ (.tail _ (.tail _ (.head _))))))))))))))))))))))))))))))))))))))))))))))))))))))))) (q_sc (.tail _ (.tail _ (.tail _ (.tail _ (.tail _ (.tail _ (.tail _ (.tail _ (.tail _ (.tail _ (.tail _ (.tail _ (.tail _ (.tail _ (.tail _ (.tail _ (.tail _ (.tail _ (.tail _ (.tail _ (.tail _ (.tail _ (.tail _ (.tail _ (.tail _ (.tail _ (.tail _ (.tail _ (.tail _ (.tail _ (.tail _ (.tail _ (.tail _ (.tail _ (.tail _ (.tail _ (.tail _ (.tail _ (.tail _ (.tail _ (.tail _ (.tail _ (.tail _ (.tail _ (.tail _ (.tail _ (.tail _ (.tail _ (.tail _ (.tail _ (.tail _ (.tail _ (.tail _ (.tail _ (.tail _ (.tail _ (.tail _ (.head _)))))))))))))))))))))))))))))))))))))))))))))))))))))))))) (q_sc (.tail _ (.tail _ (.tail _ (.tail _ (.tail _ (.tail _ (.tail _ (.tail _ (.tail _ (.tail _ (.tail _ (.tail _ (.tail _ (.tail _ (.tail _ (.tail _ (.tail _ (.tail _ (.tail _ (.tail _ (.tail _ (.tail _ (.tail _ (.tail _ (.tail _ (.tail _ (.tail _ (.tail _ (.tail _ (.tail _ (.tail _ (.tail _ (.tail _ (.tail _ (.tail _ (.tail _ (.tail _ (.tail _ (.tail _ (.tail _ (.tail _ (.tail _ (.tail _ (.tail _ (.tail _ (.tail _ (.tail _ (.tail _ (.tail _ (.tail _ (.tail _ (.tail _ (.tail _ (.tail _ (.tail _ (.tail _ (.tail _ (.tail _ (.head _))))))))))))))))))))))))))))))))))))))))))))))))))))))))))) (q_sc (.tail _ (.tail _ (.tail _ (.tail _ (.tail _ (.tail _ (.tail _ (.tail _ (.tail _ (.tail _ (.tail _ (.tail _ (.tail _ (.tail _ (.tail _ (.tail _ (.tail _ (.tail _ (.tail _ (.tail _ (.tail _ (.tail _ (.tail _ (.tail _ (.tail _ (.tail _ (.tail _ (.tail _ (.tail _ (.tail _ (.tail _ (.tail _ (.tail _ (.tail _ (.tail _ (.tail _ (.tail _ (.tail _ (.tail _ (.tail _ (.tail _ (.tail _ (.tail _ (.tail _ (.tail _ (.tail _ (.tail _ (.tail _ (.tail _ (.tail _ (.tail _ (.tail _ (.tail _ (.tail _ (.tail _ (.tail _ (.tail _ (.tail _ (.tail _ (.head _)))))))))))))))))))))))))))))))))))))))))))))))))))))))))))) (q_sc (.tail _ (.tail _ (.tail _ (.tail _ (.tail _ (.tail _ (.tail _ (.tail _ (.tail _ (.tail _ (.tail _ (.tail _ (.tail _ (.tail _ (.tail _ (.tail _ (.tail _ (.tail _ (.tail _ (.tail _ (.tail _ (.tail _ (.tail _ (.tail _ (.tail _ (.tail _ (.tail _ (.tail _ (.tail _ (.tail _ (.tail _ (.tail _ (.tail _ (.tail _ (.tail _ (.tail _ (.tail _ (.tail _ (.tail _ (.tail _ (.tail _ (.tail _ (.tail _ (.tail _ (.tail _ (.tail _ (.tail _ (.tail _ (.tail _ (.tail _ (.tail _ (.tail _ (.tail _ (.tail _ (.tail _ (.tail _ (.tail _ (.tail _ (.tail _ (.tail _ (.head _))))))))))))))))))))))))))))))))))))))))))))))))))))))))))))) (q_sc (.tail _ (.tail _ (.tail _ (.tail _ (.tail _ (.tail _ (.tail _ (.tail _ (.tail _ (.tail _ (.tail _ (.tail _ (.tail _ (.tail _ (.tail _ (.tail _ (.tail _ (.tail _ (.tail _ (.tail _ (.tail _ (.tail _ (.tail _ (.tail _ (.tail _ (.tail _ (.tail _ (.tail _ (.tail _ (.tail _ (.tail _ (.tail _ (.tail _ (.tail _ (.tail _ (.tail _ (.tail _ (.tail _ (.tail _ (.tail _ (.tail _ (.tail _ (.tail _ (.tail _ (.tail _ (.tail _ (.tail _ (.tail _ (.tail _ (.tail _ (.tail _ (.tail _ (.tail _ (.tail _ (.tail _ (.tail _ (.tail _ (.tail _ (.tail _ (.tail _ (.tail _ (.head _)))))))))))))))))))))))))))))))))))))))))))))))))))))))))))))) (q_sc (.tail _ (.tail _ (.tail _ (.tail _ (.tail _ (.tail _ (.tail _ (.tail _ (.tail _ (.tail _ (.tail _ (.tail _ (.tail _ (.tail _ (.tail _ (.tail _ (.tail _ (.tail _ (.tail _ (.tail _ (.tail _ (.tail _ (.tail _ (.tail _ (.tail _ (.tail _ (.tail _ (.tail _ (.tail _ (.tail _ (.tail _ (.tail _ (.tail _ (.tail _ (.tail _ (.tail _ (.tail _ (.tail _ (.tail _ (.tail _ (.tail _ (.tail _ (.tail _ (.tail _ (.tail _ (.tail _ (.tail _ (.tail _ (.tail _ (.tail _ (.tail _ (.tail _ (.tail _ (.tail _ (.tail _ (.tail _ (.tail _ (.tail _ (.tail _ (.tail _ (.tail _ (.tail _ (.head _))))))))))))))))))))))))))))))))))))))))))))))))))))))))))))))) (q_sc (.tail _ (.tail _ (.tail _ (.tail _ (.tail _ (.tail _ (.tail _ (.tail _ (.tail _ (.tail _ (.tail _ (.tail _ (.tail _ (.tail _ (.tail _ (.tail _ (.tail _ (.tail _ (.tail _ (.tail _ (.tail _ (.tail _ (.tail _ (.tail _ (.tail _ (.tail _ (.tail _ (.tail _ (.tail _ (.tail _ (.tail _ (.tail _ (.tail _ (.tail _ (.tail _ (.tail _ (.tail _ (.tail _ (.tail _ (.tail _ (.tail _ (.tail _ (.tail _ (.tail _ (.tail _ (.tail _ (.tail _ (.tail _ (.tail _ (.tail _ (.tail _ (.tail _ (.tail _ (.tail _ (.tail _ (.tail _ (.tail _ (.tail _ (.tail _ (.tail _ (.tail _ (.tail _ (.tail _ (.head _)))))))))))))))))))))))))))))))))))))))))))))))))))))))))))))))) (q_sc (.tail _ (.tail _ (.tail _ (.tail _ (.tail _ (.tail _ (.tail _ (.tail _ (.tail _ (.tail _ (.tail _ (.tail _ (.tail _ (.tail _ (.tail _ (.tail _ (.tail _ (.tail _ (.tail _ (.tail _ (.tail _ (.tail _ (.tail _ (.tail _ (.tail _ (.tail _ (.tail _ (.tail _ (.tail _ (.tail _ (.tail _ (.tail _ (.tail _ (.tail _ (.tail _ (.tail _ (.tail _ (.tail _ (.tail _ (.tail _ (.tail _ (.tail _ (.tail _ (.tail _ (.tail _ (.tail _ (.tail _ (.tail _ (.tail _ (.tail _ (.tail _ (.tail _ (.tail _ (.tail _ (.tail _ (.tail _ (.tail _ (.tail _ (.tail _ (.tail _ (.tail _ (.tail _ (.tail _ (.tail _ (.head _))))))))))))))))))))))))))))))))))))))))))))))))))))))))))))))))) (q_sc (.tail _ (.tail _ (.tail _ (.tail _ (.tail _ (.tail _ (.tail _ (.tail _ (.tail _ (.tail _ (.tail _ (.tail _ (.tail _ (.tail _ (.tail _ (.tail _ (.tail _ (.tail _ (.tail _ (.tail _ (.tail _ (.tail _ (.tail _ (.tail _ (.tail _ (.tail _ (.tail _ (.tail _ (.tail _ (.tail _ (.tail _ (.tail _ (.tail _ (.tail _ (.tail _ (.tail _ (.tail _ (.tail _ (.tail _ (.tail _ (.tail _ (.tail _ (.tail _ (.tail _ (.tail _ (.tail _ (.tail _ (.tail _ (.tail _ (.tail _ (.tail _ (.tail _ (.tail _ (.tail _ (.tail _ (.tail _ (.tail _ (.tail _ (.tail _ (.tail _ (.tail _ (.tail _ (.tail _ (.tail _ (.tail _ (.head _)))))))))))))))))))))))))))))))))))))))))))))))))))))))))))))))))) (fun _ h => absurd h List.not_mem_nil)))))))))))))))))))))))))))
  have hn40 : u176[41]? = some (q177, .inl (g 0, 9, .inl (fun _ => 0))) := hq203
  have hn41 : u176[42]? = some (q178, .inl (g 1, 9, .inr (.inl (fun _ => 0)))) := hq204
  have hn42 : u176[43]? = some (q179, .inl (g 0, 9, .inl (fun _ => 0))) := hq205
  have hn43 : u176[44]? = some (q180, .inl (g 6, 9, .inr (.inr (.inr (.inr (va_up (va_up (va_up (va_up (va_up (va_up (va_up (va_up (va_up (fun _ => none) 0 (some q184)) 1 (some q186)) 2 (some q188)) 3 (some q190)) 4 (some q192)) 5 (some q194)) 6 (some q196)) 7 (some q198)) 8 (some q200))))))) := hq206
  have hn44 : u176[45]? = some (q181, .inr (1, [.ref q182, .int 4104, .int 0])) := hq207
  have hn45 : u176[46]? = some (q182, .inl (g 1, 513, .inr (.inl (fun _ => 0)))) := hq208
  have hn46 : u176[47]? = some (q183, .inr (10, [.int 0, .int 0, .int 0, .int 0, .int 0, .int 0, .ref q177, .int 0])) := hq209
  have hn47 : u176[48]? = some (q184, .inr (1, [.ref q185, .int 64, .int 0])) := hq210
  have hn48 : u176[49]? = some (q185, .inl (g 1, 8, .inr (.inl (fun _ => 0)))) := hq211
  have hn49 : u176[50]? = some (q186, .inr (1, [.ref q187, .int 64, .int 0])) := hq212
  have hn50 : u176[51]? = some (q187, .inl (g 1, 8, .inr (.inl (fun _ => 0)))) := hq213
  have hn51 : u176[52]? = some (q188, .inr (1, [.ref q189, .int 64, .int 0])) := hq214
  have hn52 : u176[53]? = some (q189, .inl (g 1, 8, .inr (.inl (fun _ => 0)))) := hq215
  have hn53 : u176[54]? = some (q190, .inr (1, [.ref q191, .int 64, .int 0])) := hq216
  have hn54 : u176[55]? = some (q191, .inl (g 1, 8, .inr (.inl (fun _ => 0)))) := hq217
  have hn55 : u176[56]? = some (q192, .inr (1, [.ref q193, .int 64, .int 0])) := hq218
  have hn56 : u176[57]? = some (q193, .inl (g 1, 8, .inr (.inl (fun _ => 0)))) := hq219
  have hn57 : u176[58]? = some (q194, .inr (1, [.ref q195, .int 64, .int 0])) := hq220
  have hn58 : u176[59]? = some (q195, .inl (g 1, 8, .inr (.inl (fun _ => 0)))) := hq221
  have hn59 : u176[60]? = some (q196, .inr (1, [.ref q197, .int 64, .int 0])) := hq222
  have hn60 : u176[61]? = some (q197, .inl (g 1, 8, .inr (.inl (fun _ => 0)))) := hq223
  have hn61 : u176[62]? = some (q198, .inr (1, [.ref q199, .int 64, .int 0])) := hq224
  have hn62 : u176[63]? = some (q199, .inl (g 1, 8, .inr (.inl (fun _ => 0)))) := hq225
  have hn63 : u176[64]? = some (q200, .inr (1, [.ref q201, .int 64, .int 0])) := hq226
  have hn64 : u176[65]? = some (q201, .inl (g 1, 8, .inr (.inl (fun _ => 0)))) := hq227
  replace hN : u176.length = 66 := hN
  have ho230 := hO0
  refine q_putF (ci := 0) (j := 13) (v := .ref q171) (ty := .object "NumberHouse$Printer") C0 V i_NH o_NH n_NH rfl rfl rfl rfl rfl hO0 (by decide) w_437 rfl rfl rfl (Nat.le_of_ble_eq_true rfl) d_1_1_207 (fun H locs w228 hu229 hO0 V => ?_)
  replace hO0 : w228[0]? = some (qO0, .inr (0, [.ref q1, .ref q13, .ref q25, .ref q32, .ref q39, .ref q46, .ref q53, .ref q103, .ref q119, .ref q129, .ref q139, .ref q151, .ref q161, .ref q171])) := hO0
  replace hN : w228.length = 66 := (q_len1 hu229 hO0 ho230).trans hN
  replace hn0 := (hu229 _ (q_pd 1 0 rfl)).trans hn0
  replace hn1 := (hu229 _ (q_pd 2 0 rfl)).trans hn1
  replace hn2 := (hu229 _ (q_pd 3 0 rfl)).trans hn2
  replace hn3 := (hu229 _ (q_pd 4 0 rfl)).trans hn3
  replace hn4 := (hu229 _ (q_pd 5 0 rfl)).trans hn4
  replace hn5 := (hu229 _ (q_pd 6 0 rfl)).trans hn5
  replace hn6 := (hu229 _ (q_pd 7 0 rfl)).trans hn6
  replace hn7 := (hu229 _ (q_pd 8 0 rfl)).trans hn7
  replace hn8 := (hu229 _ (q_pd 9 0 rfl)).trans hn8
  replace hn9 := (hu229 _ (q_pd 10 0 rfl)).trans hn9
  replace hn10 := (hu229 _ (q_pd 11 0 rfl)).trans hn10
  replace hn11 := (hu229 _ (q_pd 12 0 rfl)).trans hn11
  replace hn12 := (hu229 _ (q_pd 13 0 rfl)).trans hn12
  replace hn13 := (hu229 _ (q_pd 14 0 rfl)).trans hn13
  replace hn14 := (hu229 _ (q_pd 15 0 rfl)).trans hn14
  replace hn15 := (hu229 _ (q_pd 16 0 rfl)).trans hn15
  replace hn16 := (hu229 _ (q_pd 17 0 rfl)).trans hn16
  replace hn17 := (hu229 _ (q_pd 18 0 rfl)).trans hn17
  replace hn18 := (hu229 _ (q_pd 19 0 rfl)).trans hn18
  replace hn19 := (hu229 _ (q_pd 20 0 rfl)).trans hn19
  replace hn20 := (hu229 _ (q_pd 21 0 rfl)).trans hn20
  replace hn21 := (hu229 _ (q_pd 22 0 rfl)).trans hn21
  replace hn22 := (hu229 _ (q_pd 23 0 rfl)).trans hn22
  replace hn23 := (hu229 _ (q_pd 24 0 rfl)).trans hn23
  replace hn24 := (hu229 _ (q_pd 25 0 rfl)).trans hn24
  replace hn25 := (hu229 _ (q_pd 26 0 rfl)).trans hn25
  replace hn26 := (hu229 _ (q_pd 27 0 rfl)).trans hn26
  replace hn27 := (hu229 _ (q_pd 28 0 rfl)).trans hn27
  replace hn28 := (hu229 _ (q_pd 29 0 rfl)).trans hn28
  replace hn29 := (hu229 _ (q_pd 30 0 rfl)).trans hn29
  replace hn30 := (hu229 _ (q_pd 31 0 rfl)).trans hn30
  replace hn31 := (hu229 _ (q_pd 32 0 rfl)).trans hn31
  replace hn32 := (hu229 _ (q_pd 33 0 rfl)).trans hn32
  replace hn33 := (hu229 _ (q_pd 34 0 rfl)).trans hn33
  replace hn34 := (hu229 _ (q_pd 35 0 rfl)).trans hn34
  replace hn35 := (hu229 _ (q_pd 36 0 rfl)).trans hn35
  replace hn36 := (hu229 _ (q_pd 37 0 rfl)).trans hn36
  replace hn37 := (hu229 _ (q_pd 38 0 rfl)).trans hn37
  replace hn38 := (hu229 _ (q_pd 39 0 rfl)).trans hn38
  replace hn39 := (hu229 _ (q_pd 40 0 rfl)).trans hn39
  replace hn40 := (hu229 _ (q_pd 41 0 rfl)).trans hn40
  replace hn41 := (hu229 _ (q_pd 42 0 rfl)).trans hn41
  replace hn42 := (hu229 _ (q_pd 43 0 rfl)).trans hn42
  replace hn43 := (hu229 _ (q_pd 44 0 rfl)).trans hn43
  replace hn44 := (hu229 _ (q_pd 45 0 rfl)).trans hn44
  replace hn45 := (hu229 _ (q_pd 46 0 rfl)).trans hn45
  replace hn46 := (hu229 _ (q_pd 47 0 rfl)).trans hn46
  replace hn47 := (hu229 _ (q_pd 48 0 rfl)).trans hn47
  replace hn48 := (hu229 _ (q_pd 49 0 rfl)).trans hn48
  replace hn49 := (hu229 _ (q_pd 50 0 rfl)).trans hn49
  replace hn50 := (hu229 _ (q_pd 51 0 rfl)).trans hn50
  replace hn51 := (hu229 _ (q_pd 52 0 rfl)).trans hn51
  replace hn52 := (hu229 _ (q_pd 53 0 rfl)).trans hn52
  replace hn53 := (hu229 _ (q_pd 54 0 rfl)).trans hn53
  replace hn54 := (hu229 _ (q_pd 55 0 rfl)).trans hn54
  replace hn55 := (hu229 _ (q_pd 56 0 rfl)).trans hn55
  replace hn56 := (hu229 _ (q_pd 57 0 rfl)).trans hn56
  replace hn57 := (hu229 _ (q_pd 58 0 rfl)).trans hn57
  replace hn58 := (hu229 _ (q_pd 59 0 rfl)).trans hn58
  replace hn59 := (hu229 _ (q_pd 60 0 rfl)).trans hn59
  replace hn60 := (hu229 _ (q_pd 61 0 rfl)).trans hn60
  replace hn61 := (hu229 _ (q_pd 62 0 rfl)).trans hn61
  replace hn62 := (hu229 _ (q_pd 63 0 rfl)).trans hn62
  replace hn63 := (hu229 _ (q_pd 64 0 rfl)).trans hn63
  replace hn64 := (hu229 _ (q_pd 65 0 rfl)).trans hn64
  replace hF := q_us hF hu229 (.head _)
  refine lv_iconst (v := 0) hx hb d_1_1_210 (by decide) ?_
  refine lv_istore_n (lv' := [(1, .int 0), (0, .ref qO0)]) hx hb d_1_1_211 rfl hl (by decide) rfl (fun ls hl => ?_)
  refine lv_iload_n hx hb d_1_1_212 rfl (lv_at hl 0 rfl) ?_
  refine lv_bipush (v := 10) hx hb d_1_1_213 (by decide) ?_
  refine lv_icmp_ge (tgt := 254) hx hb d_1_1_215 (by decide) (fun c231 => absurd c231 (by decide)) (fun c231 => ?_)
  refine lv_aload_n hx hb d_1_1_218 rfl (lv_at hl 1 rfl) ?_
  refine q_get (ci := 0) (j := 2) (v := .ref q25) C0 V i_NH rfl rfl hO0 (by decide) w_426 rfl d_1_1_219 ?_
  refine lv_iload_n hx hb d_1_1_222 rfl (lv_at hl 0 rfl) ?_
  refine q_new (ci := 2) (fs := [.null, .int 0, .int 0]) C0 V hN i_Big o_Big rfl w_68 w_79 w_4 rfl (fun j hj => by rcases (show j = 0 ∨ j = 1 ∨ j = 2 by omega) with rfl | rfl | rfl <;> rfl) (Nat.le_of_ble_eq_true rfl) (Nat.le_of_ble_eq_true rfl) d_1_1_223 (fun q232 H w233 hu234 hn235 hN V => ?_)
  have hn65 : w233[66]? = some (q232, .inr (2, [.null, .int 0, .int 0])) := hn235
  replace hO0 := (hu234 _ (q_pd 0 66 rfl)).trans hO0
  replace hn0 := (hu234 _ (q_pd 1 66 rfl)).trans hn0
  replace hn1 := (hu234 _ (q_pd 2 66 rfl)).trans hn1
  replace hn2 := (hu234 _ (q_pd 3 66 rfl)).trans hn2
  replace hn3 := (hu234 _ (q_pd 4 66 rfl)).trans hn3
  replace hn4 := (hu234 _ (q_pd 5 66 rfl)).trans hn4
  replace hn5 := (hu234 _ (q_pd 6 66 rfl)).trans hn5
  replace hn6 := (hu234 _ (q_pd 7 66 rfl)).trans hn6
  replace hn7 := (hu234 _ (q_pd 8 66 rfl)).trans hn7
  replace hn8 := (hu234 _ (q_pd 9 66 rfl)).trans hn8
  replace hn9 := (hu234 _ (q_pd 10 66 rfl)).trans hn9
  replace hn10 := (hu234 _ (q_pd 11 66 rfl)).trans hn10
  replace hn11 := (hu234 _ (q_pd 12 66 rfl)).trans hn11
  replace hn12 := (hu234 _ (q_pd 13 66 rfl)).trans hn12
  replace hn13 := (hu234 _ (q_pd 14 66 rfl)).trans hn13
  replace hn14 := (hu234 _ (q_pd 15 66 rfl)).trans hn14
  replace hn15 := (hu234 _ (q_pd 16 66 rfl)).trans hn15
  replace hn16 := (hu234 _ (q_pd 17 66 rfl)).trans hn16
  replace hn17 := (hu234 _ (q_pd 18 66 rfl)).trans hn17
  replace hn18 := (hu234 _ (q_pd 19 66 rfl)).trans hn18
  replace hn19 := (hu234 _ (q_pd 20 66 rfl)).trans hn19
  replace hn20 := (hu234 _ (q_pd 21 66 rfl)).trans hn20
  replace hn21 := (hu234 _ (q_pd 22 66 rfl)).trans hn21
  replace hn22 := (hu234 _ (q_pd 23 66 rfl)).trans hn22
  replace hn23 := (hu234 _ (q_pd 24 66 rfl)).trans hn23
  replace hn24 := (hu234 _ (q_pd 25 66 rfl)).trans hn24
  replace hn25 := (hu234 _ (q_pd 26 66 rfl)).trans hn25
  replace hn26 := (hu234 _ (q_pd 27 66 rfl)).trans hn26
  replace hn27 := (hu234 _ (q_pd 28 66 rfl)).trans hn27
  replace hn28 := (hu234 _ (q_pd 29 66 rfl)).trans hn28
  replace hn29 := (hu234 _ (q_pd 30 66 rfl)).trans hn29
  replace hn30 := (hu234 _ (q_pd 31 66 rfl)).trans hn30
  replace hn31 := (hu234 _ (q_pd 32 66 rfl)).trans hn31
  replace hn32 := (hu234 _ (q_pd 33 66 rfl)).trans hn32
  replace hn33 := (hu234 _ (q_pd 34 66 rfl)).trans hn33
  replace hn34 := (hu234 _ (q_pd 35 66 rfl)).trans hn34
  replace hn35 := (hu234 _ (q_pd 36 66 rfl)).trans hn35
  replace hn36 := (hu234 _ (q_pd 37 66 rfl)).trans hn36
  replace hn37 := (hu234 _ (q_pd 38 66 rfl)).trans hn37
  replace hn38 := (hu234 _ (q_pd 39 66 rfl)).trans hn38
  replace hn39 := (hu234 _ (q_pd 40 66 rfl)).trans hn39
  replace hn40 := (hu234 _ (q_pd 41 66 rfl)).trans hn40
  replace hn41 := (hu234 _ (q_pd 42 66 rfl)).trans hn41
  replace hn42 := (hu234 _ (q_pd 43 66 rfl)).trans hn42
  replace hn43 := (hu234 _ (q_pd 44 66 rfl)).trans hn43
  replace hn44 := (hu234 _ (q_pd 45 66 rfl)).trans hn44
  replace hn45 := (hu234 _ (q_pd 46 66 rfl)).trans hn45
  replace hn46 := (hu234 _ (q_pd 47 66 rfl)).trans hn46
  replace hn47 := (hu234 _ (q_pd 48 66 rfl)).trans hn47
  replace hn48 := (hu234 _ (q_pd 49 66 rfl)).trans hn48
  replace hn49 := (hu234 _ (q_pd 50 66 rfl)).trans hn49
  replace hn50 := (hu234 _ (q_pd 51 66 rfl)).trans hn50
  replace hn51 := (hu234 _ (q_pd 52 66 rfl)).trans hn51
  replace hn52 := (hu234 _ (q_pd 53 66 rfl)).trans hn52
  replace hn53 := (hu234 _ (q_pd 54 66 rfl)).trans hn53
  replace hn54 := (hu234 _ (q_pd 55 66 rfl)).trans hn54
  replace hn55 := (hu234 _ (q_pd 56 66 rfl)).trans hn55
  replace hn56 := (hu234 _ (q_pd 57 66 rfl)).trans hn56
  replace hn57 := (hu234 _ (q_pd 58 66 rfl)).trans hn57
  replace hn58 := (hu234 _ (q_pd 59 66 rfl)).trans hn58
  replace hn59 := (hu234 _ (q_pd 60 66 rfl)).trans hn59
  replace hn60 := (hu234 _ (q_pd 61 66 rfl)).trans hn60
  replace hn61 := (hu234 _ (q_pd 62 66 rfl)).trans hn61
  replace hn62 := (hu234 _ (q_pd 63 66 rfl)).trans hn62
  replace hn63 := (hu234 _ (q_pd 64 66 rfl)).trans hn63
  replace hn64 := (hu234 _ (q_pd 65 66 rfl)).trans hn64
  replace hF := q_us hF hu234 (.tail _ (.tail _ (.tail _ (.tail _ (.tail _ (.tail _ (.tail _ (.tail _ (.tail _ (.tail _ (.tail _ (.tail _ (.tail _ (.tail _ (.tail _ (.tail _ (.tail _ (.tail _ (.tail _ (.tail _ (.tail _ (.tail _ (.tail _ (.tail _ (.tail _ (.tail _ (.tail _ (.tail _ (.tail _ (.tail _ (.tail _ (.tail _ (.tail _ (.tail _ (.tail _ (.tail _ (.tail _ (.tail _ (.tail _ (.tail _ (.tail _ (.tail _ (.tail _ (.tail _ (.tail _ (.tail _ (.tail _ (.tail _ (.tail _ (.tail _ (.tail _ (.tail _ (.tail _ (.tail _ (.tail _ (.tail _ (.tail _ (.tail _ (.tail _ (.tail _ (.tail _ (.tail _ (.tail _ (.tail _ (.tail _ (.tail _ (.head _)))))))))))))))))))))))))))))))))))))))))))))))))))))))))))))))))))
  replace hN : w233.length = 67 := hN
  refine lv_dup hx hb d_1_1_226 rfl ?_
  refine lv_bipush (v := 68) hx hb d_1_1_227 (by decide) ?_
  refine q_gov V (q_runI (As := [.int 68]) (rest := [.ref q232, .int 0, .ref q25]) (d := 2) (mc := 1) (ms := 68) C0 V rfl LI_NH_102 (c_Big_init l D g w233 66 q232 67 hN hn65 _) rfl hl.1 rfl (Nat.le_of_ble_eq_true rfl) ⟨by decide, by decide⟩ ⟨Nat.le_of_ble_eq_true rfl, Nat.le_of_ble_eq_true rfl⟩ d_1_1_229) (fun u237 H locs hp236 V => ?_)
  obtain ⟨q238, hg239, hn65, hq240, hN⟩ := hp236
  replace hO0 := (hg239 _ (q_nc (q_pd 0 66 rfl) (q_nc (q_pd 0 67 rfl) List.not_mem_nil))).trans hO0
  replace hn0 := (hg239 _ (q_nc (q_pd 1 66 rfl) (q_nc (q_pd 1 67 rfl) List.not_mem_nil))).trans hn0
  replace hn1 := (hg239 _ (q_nc (q_pd 2 66 rfl) (q_nc (q_pd 2 67 rfl) List.not_mem_nil))).trans hn1
  replace hn2 := (hg239 _ (q_nc (q_pd 3 66 rfl) (q_nc (q_pd 3 67 rfl) List.not_mem_nil))).trans hn2
  replace hn3 := (hg239 _ (q_nc (q_pd 4 66 rfl) (q_nc (q_pd 4 67 rfl) List.not_mem_nil))).trans hn3
  replace hn4 := (hg239 _ (q_nc (q_pd 5 66 rfl) (q_nc (q_pd 5 67 rfl) List.not_mem_nil))).trans hn4
  replace hn5 := (hg239 _ (q_nc (q_pd 6 66 rfl) (q_nc (q_pd 6 67 rfl) List.not_mem_nil))).trans hn5
  replace hn6 := (hg239 _ (q_nc (q_pd 7 66 rfl) (q_nc (q_pd 7 67 rfl) List.not_mem_nil))).trans hn6
  replace hn7 := (hg239 _ (q_nc (q_pd 8 66 rfl) (q_nc (q_pd 8 67 rfl) List.not_mem_nil))).trans hn7
  replace hn8 := (hg239 _ (q_nc (q_pd 9 66 rfl) (q_nc (q_pd 9 67 rfl) List.not_mem_nil))).trans hn8
  replace hn9 := (hg239 _ (q_nc (q_pd 10 66 rfl) (q_nc (q_pd 10 67 rfl) List.not_mem_nil))).trans hn9
  replace hn10 := (hg239 _ (q_nc (q_pd 11 66 rfl) (q_nc (q_pd 11 67 rfl) List.not_mem_nil))).trans hn10
  replace hn11 := (hg239 _ (q_nc (q_pd 12 66 rfl) (q_nc (q_pd 12 67 rfl) List.not_mem_nil))).trans hn11
  replace hn12 := (hg239 _ (q_nc (q_pd 13 66 rfl) (q_nc (q_pd 13 67 rfl) List.not_mem_nil))).trans hn12
  replace hn13 := (hg239 _ (q_nc (q_pd 14 66 rfl) (q_nc (q_pd 14 67 rfl) List.not_mem_nil))).trans hn13
  replace hn14 := (hg239 _ (q_nc (q_pd 15 66 rfl) (q_nc (q_pd 15 67 rfl) List.not_mem_nil))).trans hn14
  replace hn15 := (hg239 _ (q_nc (q_pd 16 66 rfl) (q_nc (q_pd 16 67 rfl) List.not_mem_nil))).trans hn15
  replace hn16 := (hg239 _ (q_nc (q_pd 17 66 rfl) (q_nc (q_pd 17 67 rfl) List.not_mem_nil))).trans hn16
  replace hn17 := (hg239 _ (q_nc (q_pd 18 66 rfl) (q_nc (q_pd 18 67 rfl) List.not_mem_nil))).trans hn17
  replace hn18 := (hg239 _ (q_nc (q_pd 19 66 rfl) (q_nc (q_pd 19 67 rfl) List.not_mem_nil))).trans hn18
  replace hn19 := (hg239 _ (q_nc (q_pd 20 66 rfl) (q_nc (q_pd 20 67 rfl) List.not_mem_nil))).trans hn19
  replace hn20 := (hg239 _ (q_nc (q_pd 21 66 rfl) (q_nc (q_pd 21 67 rfl) List.not_mem_nil))).trans hn20
  replace hn21 := (hg239 _ (q_nc (q_pd 22 66 rfl) (q_nc (q_pd 22 67 rfl) List.not_mem_nil))).trans hn21
  replace hn22 := (hg239 _ (q_nc (q_pd 23 66 rfl) (q_nc (q_pd 23 67 rfl) List.not_mem_nil))).trans hn22
  replace hn23 := (hg239 _ (q_nc (q_pd 24 66 rfl) (q_nc (q_pd 24 67 rfl) List.not_mem_nil))).trans hn23
  replace hn24 := (hg239 _ (q_nc (q_pd 25 66 rfl) (q_nc (q_pd 25 67 rfl) List.not_mem_nil))).trans hn24
  replace hn25 := (hg239 _ (q_nc (q_pd 26 66 rfl) (q_nc (q_pd 26 67 rfl) List.not_mem_nil))).trans hn25
  replace hn26 := (hg239 _ (q_nc (q_pd 27 66 rfl) (q_nc (q_pd 27 67 rfl) List.not_mem_nil))).trans hn26
  replace hn27 := (hg239 _ (q_nc (q_pd 28 66 rfl) (q_nc (q_pd 28 67 rfl) List.not_mem_nil))).trans hn27
  replace hn28 := (hg239 _ (q_nc (q_pd 29 66 rfl) (q_nc (q_pd 29 67 rfl) List.not_mem_nil))).trans hn28
  replace hn29 := (hg239 _ (q_nc (q_pd 30 66 rfl) (q_nc (q_pd 30 67 rfl) List.not_mem_nil))).trans hn29
  replace hn30 := (hg239 _ (q_nc (q_pd 31 66 rfl) (q_nc (q_pd 31 67 rfl) List.not_mem_nil))).trans hn30
  replace hn31 := (hg239 _ (q_nc (q_pd 32 66 rfl) (q_nc (q_pd 32 67 rfl) List.not_mem_nil))).trans hn31
  replace hn32 := (hg239 _ (q_nc (q_pd 33 66 rfl) (q_nc (q_pd 33 67 rfl) List.not_mem_nil))).trans hn32
  replace hn33 := (hg239 _ (q_nc (q_pd 34 66 rfl) (q_nc (q_pd 34 67 rfl) List.not_mem_nil))).trans hn33
  replace hn34 := (hg239 _ (q_nc (q_pd 35 66 rfl) (q_nc (q_pd 35 67 rfl) List.not_mem_nil))).trans hn34
  replace hn35 := (hg239 _ (q_nc (q_pd 36 66 rfl) (q_nc (q_pd 36 67 rfl) List.not_mem_nil))).trans hn35
  replace hn36 := (hg239 _ (q_nc (q_pd 37 66 rfl) (q_nc (q_pd 37 67 rfl) List.not_mem_nil))).trans hn36
  replace hn37 := (hg239 _ (q_nc (q_pd 38 66 rfl) (q_nc (q_pd 38 67 rfl) List.not_mem_nil))).trans hn37
  replace hn38 := (hg239 _ (q_nc (q_pd 39 66 rfl) (q_nc (q_pd 39 67 rfl) List.not_mem_nil))).trans hn38
  replace hn39 := (hg239 _ (q_nc (q_pd 40 66 rfl) (q_nc (q_pd 40 67 rfl) List.not_mem_nil))).trans hn39
  replace hn40 := (hg239 _ (q_nc (q_pd 41 66 rfl) (q_nc (q_pd 41 67 rfl) List.not_mem_nil))).trans hn40
  replace hn41 := (hg239 _ (q_nc (q_pd 42 66 rfl) (q_nc (q_pd 42 67 rfl) List.not_mem_nil))).trans hn41
  replace hn42 := (hg239 _ (q_nc (q_pd 43 66 rfl) (q_nc (q_pd 43 67 rfl) List.not_mem_nil))).trans hn42
  replace hn43 := (hg239 _ (q_nc (q_pd 44 66 rfl) (q_nc (q_pd 44 67 rfl) List.not_mem_nil))).trans hn43
  replace hn44 := (hg239 _ (q_nc (q_pd 45 66 rfl) (q_nc (q_pd 45 67 rfl) List.not_mem_nil))).trans hn44
  replace hn45 := (hg239 _ (q_nc (q_pd 46 66 rfl) (q_nc (q_pd 46 67 rfl) List.not_mem_nil))).trans hn45
  replace hn46 := (hg239 _ (q_nc (q_pd 47 66 rfl) (q_nc (q_pd 47 67 rfl) List.not_mem_nil))).trans hn46
  replace hn47 := (hg239 _ (q_nc (q_pd 48 66 rfl) (q_nc (q_pd 48 67 rfl) List.not_mem_nil))).trans hn47
  replace hn48 := (hg239 _ (q_nc (q_pd 49 66 rfl) (q_nc (q_pd 49 67 rfl) List.not_mem_nil))).trans hn48
  replace hn49 := (hg239 _ (q_nc (q_pd 50 66 rfl) (q_nc (q_pd 50 67 rfl) List.not_mem_nil))).trans hn49
  replace hn50 := (hg239 _ (q_nc (q_pd 51 66 rfl) (q_nc (q_pd 51 67 rfl) List.not_mem_nil))).trans hn50
  replace hn51 := (hg239 _ (q_nc (q_pd 52 66 rfl) (q_nc (q_pd 52 67 rfl) List.not_mem_nil))).trans hn51
  replace hn52 := (hg239 _ (q_nc (q_pd 53 66 rfl) (q_nc (q_pd 53 67 rfl) List.not_mem_nil))).trans hn52
  replace hn53 := (hg239 _ (q_nc (q_pd 54 66 rfl) (q_nc (q_pd 54 67 rfl) List.not_mem_nil))).trans hn53
  replace hn54 := (hg239 _ (q_nc (q_pd 55 66 rfl) (q_nc (q_pd 55 67 rfl) List.not_mem_nil))).trans hn54
  replace hn55 := (hg239 _ (q_nc (q_pd 56 66 rfl) (q_nc (q_pd 56 67 rfl) List.not_mem_nil))).trans hn55
  replace hn56 := (hg239 _ (q_nc (q_pd 57 66 rfl) (q_nc (q_pd 57 67 rfl) List.not_mem_nil))).trans hn56
  replace hn57 := (hg239 _ (q_nc (q_pd 58 66 rfl) (q_nc (q_pd 58 67 rfl) List.not_mem_nil))).trans hn57
  replace hn58 := (hg239 _ (q_nc (q_pd 59 66 rfl) (q_nc (q_pd 59 67 rfl) List.not_mem_nil))).trans hn58
  replace hn59 := (hg239 _ (q_nc (q_pd 60 66 rfl) (q_nc (q_pd 60 67 rfl) List.not_mem_nil))).trans hn59
  replace hn60 := (hg239 _ (q_nc (q_pd 61 66 rfl) (q_nc (q_pd 61 67 rfl) List.not_mem_nil))).trans hn60
  replace hn61 := (hg239 _ (q_nc (q_pd 62 66 rfl) (q_nc (q_pd 62 67 rfl) List.not_mem_nil))).trans hn61
  replace hn62 := (hg239 _ (q_nc (q_pd 63 66 rfl) (q_nc (q_pd 63 67 rfl) List.not_mem_nil))).trans hn62
  replace hn63 := (hg239 _ (q_nc (q_pd 64 66 rfl) (q_nc (q_pd 64 67 rfl) List.not_mem_nil))).trans hn63
  replace hn64 := (hg239 _ (q_nc (q_pd 65 66 rfl) (q_nc (q_pd 65 67 rfl) List.not_mem_nil))).trans hn64
  replace hF := q_uc hF hg239 (q_sc (.tail _ (.tail _ (.tail _ (.tail _ (.tail _ (.tail _ (.tail _ (.tail _ (.tail _ (.tail _ (.tail _ (.tail _ (.tail _ (.tail _ (.tail _ (.tail _ (.tail _ (.tail _ (.tail _ (.tail _ (.tail _ (.tail _ (.tail _ (.tail _ (.tail _ (.tail _ (.tail _ (.tail _ (.tail _ (.tail _ (.tail _ (.tail _ (.tail _ (.tail _ (.tail _ (.tail _ (.tail _ (.tail _ (.tail _ (.tail _ (.tail _ (.tail _ (.tail _ (.tail _ (.tail _ (.tail _ (.tail _ (.tail _ (.tail _ (.tail _ (.tail _ (.tail _ (.tail _ (.tail _ (.tail _ (.tail _ (.tail _ (.tail _ (.tail _ (.tail _ (.tail _ (.tail _ (.tail _ (.tail _ (.tail _ (.tail _ (.head _))))))))))))))))))))))))))))))))))))))))))))))))))))))))))))))))))) (q_sc (.tail _ (.tail _ (.tail _ (.tail _ (.tail _ (.tail _ (.tail _ (.tail _ (.tail _ (.tail _ (.tail _ (.tail _ (.tail _ (.tail _ (.tail _ (.tail _ (.tail _ (.tail _ (.tail _ (.tail _ (.tail _ (.tail _ (.tail _ (.tail _ (.tail _ (.tail _ (.tail _ (.tail _ (.tail _ (.tail _ (.tail _ (.tail _ (.tail _ (.tail _ (.tail _ (.tail _ (.tail _ (.tail _ (.tail _ (.tail _ (.tail _ (.tail _ (.tail _ (.tail _ (.tail _ (.tail _ (.tail _ (.tail _ (.tail _ (.tail _ (.tail _ (.tail _ (.tail _ (.tail _ (.tail _ (.tail _ (.tail _ (.tail _ (.tail _ (.tail _ (.tail _ (.tail _ (.tail _ (.tail _ (.tail _ (.tail _ (.tail _ (.head _)))))))))))))))))))))))))))))))))))))))))))))))))))))))))))))))))))) (fun _ h => absurd h List.not_mem_nil)))
  have hn66 : u237[67]? = some (q238, .inl (g 0, 68, .inl (fun _ => 0))) := hq240
  replace hN : u237.length = 68 := hN
  have ho241 := hn4
  refine q_aast (t := 4) (ci := 2) (i9 := 0) C0 V hn4 rfl hn65 rfl (by decide) (by decide) d_1_1_232 (fun H locs w242 hu243 hn4 V => ?_)
  replace hn4 : w242[5]? = some (q25, .inl (g 4, 10, .inr (.inr (.inr (.inr (va_up (fun _ => none) 0 (some q232))))))) := hn4
  replace hN : w242.length = 68 := (q_len1 hu243 hn4 ho241).trans hN
  replace hO0 := (hu243 _ (q_pd 0 5 rfl)).trans hO0
  replace hn0 := (hu243 _ (q_pd 1 5 rfl)).trans hn0
  replace hn1 := (hu243 _ (q_pd 2 5 rfl)).trans hn1
  replace hn2 := (hu243 _ (q_pd 3 5 rfl)).trans hn2
  replace hn3 := (hu243 _ (q_pd 4 5 rfl)).trans hn3
  replace hn5 := (hu243 _ (q_pd 6 5 rfl)).trans hn5
  replace hn6 := (hu243 _ (q_pd 7 5 rfl)).trans hn6
  replace hn7 := (hu243 _ (q_pd 8 5 rfl)).trans hn7
  replace hn8 := (hu243 _ (q_pd 9 5 rfl)).trans hn8
  replace hn9 := (hu243 _ (q_pd 10 5 rfl)).trans hn9
  replace hn10 := (hu243 _ (q_pd 11 5 rfl)).trans hn10
  replace hn11 := (hu243 _ (q_pd 12 5 rfl)).trans hn11
  replace hn12 := (hu243 _ (q_pd 13 5 rfl)).trans hn12
  replace hn13 := (hu243 _ (q_pd 14 5 rfl)).trans hn13
  replace hn14 := (hu243 _ (q_pd 15 5 rfl)).trans hn14
  replace hn15 := (hu243 _ (q_pd 16 5 rfl)).trans hn15
  replace hn16 := (hu243 _ (q_pd 17 5 rfl)).trans hn16
  replace hn17 := (hu243 _ (q_pd 18 5 rfl)).trans hn17
  replace hn18 := (hu243 _ (q_pd 19 5 rfl)).trans hn18
  replace hn19 := (hu243 _ (q_pd 20 5 rfl)).trans hn19
  replace hn20 := (hu243 _ (q_pd 21 5 rfl)).trans hn20
  replace hn21 := (hu243 _ (q_pd 22 5 rfl)).trans hn21
  replace hn22 := (hu243 _ (q_pd 23 5 rfl)).trans hn22
  replace hn23 := (hu243 _ (q_pd 24 5 rfl)).trans hn23
  replace hn24 := (hu243 _ (q_pd 25 5 rfl)).trans hn24
  replace hn25 := (hu243 _ (q_pd 26 5 rfl)).trans hn25
  replace hn26 := (hu243 _ (q_pd 27 5 rfl)).trans hn26
  replace hn27 := (hu243 _ (q_pd 28 5 rfl)).trans hn27
  replace hn28 := (hu243 _ (q_pd 29 5 rfl)).trans hn28
  replace hn29 := (hu243 _ (q_pd 30 5 rfl)).trans hn29
  replace hn30 := (hu243 _ (q_pd 31 5 rfl)).trans hn30
  replace hn31 := (hu243 _ (q_pd 32 5 rfl)).trans hn31
  replace hn32 := (hu243 _ (q_pd 33 5 rfl)).trans hn32
  replace hn33 := (hu243 _ (q_pd 34 5 rfl)).trans hn33
  replace hn34 := (hu243 _ (q_pd 35 5 rfl)).trans hn34
  replace hn35 := (hu243 _ (q_pd 36 5 rfl)).trans hn35
  replace hn36 := (hu243 _ (q_pd 37 5 rfl)).trans hn36
  replace hn37 := (hu243 _ (q_pd 38 5 rfl)).trans hn37
  replace hn38 := (hu243 _ (q_pd 39 5 rfl)).trans hn38
  replace hn39 := (hu243 _ (q_pd 40 5 rfl)).trans hn39
  replace hn40 := (hu243 _ (q_pd 41 5 rfl)).trans hn40
  replace hn41 := (hu243 _ (q_pd 42 5 rfl)).trans hn41
  replace hn42 := (hu243 _ (q_pd 43 5 rfl)).trans hn42
  replace hn43 := (hu243 _ (q_pd 44 5 rfl)).trans hn43
  replace hn44 := (hu243 _ (q_pd 45 5 rfl)).trans hn44
  replace hn45 := (hu243 _ (q_pd 46 5 rfl)).trans hn45
  replace hn46 := (hu243 _ (q_pd 47 5 rfl)).trans hn46
  replace hn47 := (hu243 _ (q_pd 48 5 rfl)).trans hn47
  replace hn48 := (hu243 _ (q_pd 49 5 rfl)).trans hn48
  replace hn49 := (hu243 _ (q_pd 50 5 rfl)).trans hn49
  replace hn50 := (hu243 _ (q_pd 51 5 rfl)).trans hn50
  replace hn51 := (hu243 _ (q_pd 52 5 rfl)).trans hn51
  replace hn52 := (hu243 _ (q_pd 53 5 rfl)).trans hn52
  replace hn53 := (hu243 _ (q_pd 54 5 rfl)).trans hn53
  replace hn54 := (hu243 _ (q_pd 55 5 rfl)).trans hn54
  replace hn55 := (hu243 _ (q_pd 56 5 rfl)).trans hn55
  replace hn56 := (hu243 _ (q_pd 57 5 rfl)).trans hn56
  replace hn57 := (hu243 _ (q_pd 58 5 rfl)).trans hn57
  replace hn58 := (hu243 _ (q_pd 59 5 rfl)).trans hn58
  replace hn59 := (hu243 _ (q_pd 60 5 rfl)).trans hn59
  replace hn60 := (hu243 _ (q_pd 61 5 rfl)).trans hn60
  replace hn61 := (hu243 _ (q_pd 62 5 rfl)).trans hn61
  replace hn62 := (hu243 _ (q_pd 63 5 rfl)).trans hn62
  replace hn63 := (hu243 _ (q_pd 64 5 rfl)).trans hn63
  replace hn64 := (hu243 _ (q_pd 65 5 rfl)).trans hn64
  replace hn65 := (hu243 _ (q_pd 66 5 rfl)).trans hn65
  replace hn66 := (hu243 _ (q_pd 67 5 rfl)).trans hn66
  replace hF := q_us hF hu243 (.tail _ (.tail _ (.tail _ (.tail _ (.tail _ (.head _))))))
  refine lv_aload_n hx hb d_1_1_233 rfl (lv_at hl 1 rfl) ?_
  refine q_get (ci := 0) (j := 3) (v := .ref q32) C0 V i_NH rfl rfl hO0 (by decide) w_427 rfl d_1_1_234 ?_
  refine lv_iload_n hx hb d_1_1_237 rfl (lv_at hl 0 rfl) ?_
  refine q_new (ci := 3) (fs := [.null, .int 0, .int 0]) C0 V hN i_Dec o_Dec rfl w_70 w_163 w_6 rfl (fun j hj => by rcases (show j = 0 ∨ j = 1 ∨ j = 2 by omega) with rfl | rfl | rfl <;> rfl) (Nat.le_of_ble_eq_true rfl) (Nat.le_of_ble_eq_true rfl) d_1_1_238 (fun q244 H w245 hu246 hn247 hN V => ?_)
  have hn67 : w245[68]? = some (q244, .inr (3, [.null, .int 0, .int 0])) := hn247
  replace hO0 := (hu246 _ (q_pd 0 68 rfl)).trans hO0
  replace hn0 := (hu246 _ (q_pd 1 68 rfl)).trans hn0
  replace hn1 := (hu246 _ (q_pd 2 68 rfl)).trans hn1
  replace hn2 := (hu246 _ (q_pd 3 68 rfl)).trans hn2
  replace hn3 := (hu246 _ (q_pd 4 68 rfl)).trans hn3
  replace hn4 := (hu246 _ (q_pd 5 68 rfl)).trans hn4
  replace hn5 := (hu246 _ (q_pd 6 68 rfl)).trans hn5
  replace hn6 := (hu246 _ (q_pd 7 68 rfl)).trans hn6
  replace hn7 := (hu246 _ (q_pd 8 68 rfl)).trans hn7
  replace hn8 := (hu246 _ (q_pd 9 68 rfl)).trans hn8
  replace hn9 := (hu246 _ (q_pd 10 68 rfl)).trans hn9
  replace hn10 := (hu246 _ (q_pd 11 68 rfl)).trans hn10
  replace hn11 := (hu246 _ (q_pd 12 68 rfl)).trans hn11
  replace hn12 := (hu246 _ (q_pd 13 68 rfl)).trans hn12
  replace hn13 := (hu246 _ (q_pd 14 68 rfl)).trans hn13
  replace hn14 := (hu246 _ (q_pd 15 68 rfl)).trans hn14
  replace hn15 := (hu246 _ (q_pd 16 68 rfl)).trans hn15
  replace hn16 := (hu246 _ (q_pd 17 68 rfl)).trans hn16
  replace hn17 := (hu246 _ (q_pd 18 68 rfl)).trans hn17
  replace hn18 := (hu246 _ (q_pd 19 68 rfl)).trans hn18
  replace hn19 := (hu246 _ (q_pd 20 68 rfl)).trans hn19
  replace hn20 := (hu246 _ (q_pd 21 68 rfl)).trans hn20
  replace hn21 := (hu246 _ (q_pd 22 68 rfl)).trans hn21
  replace hn22 := (hu246 _ (q_pd 23 68 rfl)).trans hn22
  replace hn23 := (hu246 _ (q_pd 24 68 rfl)).trans hn23
  replace hn24 := (hu246 _ (q_pd 25 68 rfl)).trans hn24
  replace hn25 := (hu246 _ (q_pd 26 68 rfl)).trans hn25
  replace hn26 := (hu246 _ (q_pd 27 68 rfl)).trans hn26
  replace hn27 := (hu246 _ (q_pd 28 68 rfl)).trans hn27
  replace hn28 := (hu246 _ (q_pd 29 68 rfl)).trans hn28
  replace hn29 := (hu246 _ (q_pd 30 68 rfl)).trans hn29
  replace hn30 := (hu246 _ (q_pd 31 68 rfl)).trans hn30
  replace hn31 := (hu246 _ (q_pd 32 68 rfl)).trans hn31
  replace hn32 := (hu246 _ (q_pd 33 68 rfl)).trans hn32
  replace hn33 := (hu246 _ (q_pd 34 68 rfl)).trans hn33
  replace hn34 := (hu246 _ (q_pd 35 68 rfl)).trans hn34
  replace hn35 := (hu246 _ (q_pd 36 68 rfl)).trans hn35
  replace hn36 := (hu246 _ (q_pd 37 68 rfl)).trans hn36
  replace hn37 := (hu246 _ (q_pd 38 68 rfl)).trans hn37
  replace hn38 := (hu246 _ (q_pd 39 68 rfl)).trans hn38
  replace hn39 := (hu246 _ (q_pd 40 68 rfl)).trans hn39
  replace hn40 := (hu246 _ (q_pd 41 68 rfl)).trans hn40
  replace hn41 := (hu246 _ (q_pd 42 68 rfl)).trans hn41
  replace hn42 := (hu246 _ (q_pd 43 68 rfl)).trans hn42
  replace hn43 := (hu246 _ (q_pd 44 68 rfl)).trans hn43
  replace hn44 := (hu246 _ (q_pd 45 68 rfl)).trans hn44
  replace hn45 := (hu246 _ (q_pd 46 68 rfl)).trans hn45
  replace hn46 := (hu246 _ (q_pd 47 68 rfl)).trans hn46
  replace hn47 := (hu246 _ (q_pd 48 68 rfl)).trans hn47
  replace hn48 := (hu246 _ (q_pd 49 68 rfl)).trans hn48
  replace hn49 := (hu246 _ (q_pd 50 68 rfl)).trans hn49
  replace hn50 := (hu246 _ (q_pd 51 68 rfl)).trans hn50
  replace hn51 := (hu246 _ (q_pd 52 68 rfl)).trans hn51
  replace hn52 := (hu246 _ (q_pd 53 68 rfl)).trans hn52
  replace hn53 := (hu246 _ (q_pd 54 68 rfl)).trans hn53
  replace hn54 := (hu246 _ (q_pd 55 68 rfl)).trans hn54
  replace hn55 := (hu246 _ (q_pd 56 68 rfl)).trans hn55
  replace hn56 := (hu246 _ (q_pd 57 68 rfl)).trans hn56
  replace hn57 := (hu246 _ (q_pd 58 68 rfl)).trans hn57
  replace hn58 := (hu246 _ (q_pd 59 68 rfl)).trans hn58
  replace hn59 := (hu246 _ (q_pd 60 68 rfl)).trans hn59
  replace hn60 := (hu246 _ (q_pd 61 68 rfl)).trans hn60
  replace hn61 := (hu246 _ (q_pd 62 68 rfl)).trans hn61
  replace hn62 := (hu246 _ (q_pd 63 68 rfl)).trans hn62
  replace hn63 := (hu246 _ (q_pd 64 68 rfl)).trans hn63
  replace hn64 := (hu246 _ (q_pd 65 68 rfl)).trans hn64
  replace hn65 := (hu246 _ (q_pd 66 68 rfl)).trans hn65
  replace hn66 := (hu246 _ (q_pd 67 68 rfl)).trans hn66
  replace hF := q_us hF hu246 (.tail _ (.tail _ (.tail _ (.tail _ (.tail _ (.tail _ (.tail _ (.tail _ (.tail _ (.tail _ (.tail _ (.tail _ (.tail _ (.tail _ (.tail _ (.tail _ (.tail _ (.tail _ (.tail _ (.tail _ (.tail _ (.tail _ (.tail _ (.tail _ (.tail _ (.tail _ (.tail _ (.tail _ (.tail _ (.tail _ (.tail _ (.tail _ (.tail _ (.tail _ (.tail _ (.tail _ (.tail _ (.tail _ (.tail _ (.tail _ (.tail _ (.tail _ (.tail _ (.tail _ (.tail _ (.tail _ (.tail _ (.tail _ (.tail _ (.tail _ (.tail _ (.tail _ (.tail _ (.tail _ (.tail _ (.tail _ (.tail _ (.tail _ (.tail _ (.tail _ (.tail _ (.tail _ (.tail _ (.tail _ (.tail _ (.tail _ (.tail _ (.tail _ (.head _)))))))))))))))))))))))))))))))))))))))))))))))))))))))))))))))))))))
  replace hN : w245.length = 69 := hN
  refine lv_dup hx hb d_1_1_241 rfl ?_
  refine lv_bipush (v := 108) hx hb d_1_1_242 (by decide) ?_
  refine q_gov V (q_runI (As := [.int 108]) (rest := [.ref q244, .int 0, .ref q32]) (d := 3) (mc := 2) (ms := 111) C0 V rfl LI_NH_103 (c_Dec_init l D g w245 68 q244 69 hN hn67 _) rfl hl.1 rfl (Nat.le_of_ble_eq_true rfl) ⟨by decide, by decide⟩ ⟨Nat.le_of_ble_eq_true rfl, Nat.le_of_ble_eq_true rfl⟩ d_1_1_244) (fun u249 H locs hp248 V => ?_)
  obtain ⟨q250, q251, hg252, hn67, hq253, hq254, hN⟩ := hp248
  replace hO0 := (hg252 _ (q_nc (q_pd 0 68 rfl) (q_nc (q_pd 0 69 rfl) (q_nc (q_pd 0 70 rfl) List.not_mem_nil)))).trans hO0
  replace hn0 := (hg252 _ (q_nc (q_pd 1 68 rfl) (q_nc (q_pd 1 69 rfl) (q_nc (q_pd 1 70 rfl) List.not_mem_nil)))).trans hn0
  replace hn1 := (hg252 _ (q_nc (q_pd 2 68 rfl) (q_nc (q_pd 2 69 rfl) (q_nc (q_pd 2 70 rfl) List.not_mem_nil)))).trans hn1
  replace hn2 := (hg252 _ (q_nc (q_pd 3 68 rfl) (q_nc (q_pd 3 69 rfl) (q_nc (q_pd 3 70 rfl) List.not_mem_nil)))).trans hn2
  replace hn3 := (hg252 _ (q_nc (q_pd 4 68 rfl) (q_nc (q_pd 4 69 rfl) (q_nc (q_pd 4 70 rfl) List.not_mem_nil)))).trans hn3
  replace hn4 := (hg252 _ (q_nc (q_pd 5 68 rfl) (q_nc (q_pd 5 69 rfl) (q_nc (q_pd 5 70 rfl) List.not_mem_nil)))).trans hn4
  replace hn5 := (hg252 _ (q_nc (q_pd 6 68 rfl) (q_nc (q_pd 6 69 rfl) (q_nc (q_pd 6 70 rfl) List.not_mem_nil)))).trans hn5
  replace hn6 := (hg252 _ (q_nc (q_pd 7 68 rfl) (q_nc (q_pd 7 69 rfl) (q_nc (q_pd 7 70 rfl) List.not_mem_nil)))).trans hn6
  replace hn7 := (hg252 _ (q_nc (q_pd 8 68 rfl) (q_nc (q_pd 8 69 rfl) (q_nc (q_pd 8 70 rfl) List.not_mem_nil)))).trans hn7
  replace hn8 := (hg252 _ (q_nc (q_pd 9 68 rfl) (q_nc (q_pd 9 69 rfl) (q_nc (q_pd 9 70 rfl) List.not_mem_nil)))).trans hn8
  replace hn9 := (hg252 _ (q_nc (q_pd 10 68 rfl) (q_nc (q_pd 10 69 rfl) (q_nc (q_pd 10 70 rfl) List.not_mem_nil)))).trans hn9
  replace hn10 := (hg252 _ (q_nc (q_pd 11 68 rfl) (q_nc (q_pd 11 69 rfl) (q_nc (q_pd 11 70 rfl) List.not_mem_nil)))).trans hn10
  replace hn11 := (hg252 _ (q_nc (q_pd 12 68 rfl) (q_nc (q_pd 12 69 rfl) (q_nc (q_pd 12 70 rfl) List.not_mem_nil)))).trans hn11
  replace hn12 := (hg252 _ (q_nc (q_pd 13 68 rfl) (q_nc (q_pd 13 69 rfl) (q_nc (q_pd 13 70 rfl) List.not_mem_nil)))).trans hn12
  replace hn13 := (hg252 _ (q_nc (q_pd 14 68 rfl) (q_nc (q_pd 14 69 rfl) (q_nc (q_pd 14 70 rfl) List.not_mem_nil)))).trans hn13
  replace hn14 := (hg252 _ (q_nc (q_pd 15 68 rfl) (q_nc (q_pd 15 69 rfl) (q_nc (q_pd 15 70 rfl) List.not_mem_nil)))).trans hn14
  replace hn15 := (hg252 _ (q_nc (q_pd 16 68 rfl) (q_nc (q_pd 16 69 rfl) (q_nc (q_pd 16 70 rfl) List.not_mem_nil)))).trans hn15
  replace hn16 := (hg252 _ (q_nc (q_pd 17 68 rfl) (q_nc (q_pd 17 69 rfl) (q_nc (q_pd 17 70 rfl) List.not_mem_nil)))).trans hn16
  replace hn17 := (hg252 _ (q_nc (q_pd 18 68 rfl) (q_nc (q_pd 18 69 rfl) (q_nc (q_pd 18 70 rfl) List.not_mem_nil)))).trans hn17
  replace hn18 := (hg252 _ (q_nc (q_pd 19 68 rfl) (q_nc (q_pd 19 69 rfl) (q_nc (q_pd 19 70 rfl) List.not_mem_nil)))).trans hn18
  replace hn19 := (hg252 _ (q_nc (q_pd 20 68 rfl) (q_nc (q_pd 20 69 rfl) (q_nc (q_pd 20 70 rfl) List.not_mem_nil)))).trans hn19
  replace hn20 := (hg252 _ (q_nc (q_pd 21 68 rfl) (q_nc (q_pd 21 69 rfl) (q_nc (q_pd 21 70 rfl) List.not_mem_nil)))).trans hn20
  replace hn21 := (hg252 _ (q_nc (q_pd 22 68 rfl) (q_nc (q_pd 22 69 rfl) (q_nc (q_pd 22 70 rfl) List.not_mem_nil)))).trans hn21
  replace hn22 := (hg252 _ (q_nc (q_pd 23 68 rfl) (q_nc (q_pd 23 69 rfl) (q_nc (q_pd 23 70 rfl) List.not_mem_nil)))).trans hn22
  replace hn23 := (hg252 _ (q_nc (q_pd 24 68 rfl) (q_nc (q_pd 24 69 rfl) (q_nc (q_pd 24 70 rfl) List.not_mem_nil)))).trans hn23
  replace hn24 := (hg252 _ (q_nc (q_pd 25 68 rfl) (q_nc (q_pd 25 69 rfl) (q_nc (q_pd 25 70 rfl) List.not_mem_nil)))).trans hn24
  replace hn25 := (hg252 _ (q_nc (q_pd 26 68 rfl) (q_nc (q_pd 26 69 rfl) (q_nc (q_pd 26 70 rfl) List.not_mem_nil)))).trans hn25
  replace hn26 := (hg252 _ (q_nc (q_pd 27 68 rfl) (q_nc (q_pd 27 69 rfl) (q_nc (q_pd 27 70 rfl) List.not_mem_nil)))).trans hn26
  replace hn27 := (hg252 _ (q_nc (q_pd 28 68 rfl) (q_nc (q_pd 28 69 rfl) (q_nc (q_pd 28 70 rfl) List.not_mem_nil)))).trans hn27
  replace hn28 := (hg252 _ (q_nc (q_pd 29 68 rfl) (q_nc (q_pd 29 69 rfl) (q_nc (q_pd 29 70 rfl) List.not_mem_nil)))).trans hn28
  replace hn29 := (hg252 _ (q_nc (q_pd 30 68 rfl) (q_nc (q_pd 30 69 rfl) (q_nc (q_pd 30 70 rfl) List.not_mem_nil)))).trans hn29
  replace hn30 := (hg252 _ (q_nc (q_pd 31 68 rfl) (q_nc (q_pd 31 69 rfl) (q_nc (q_pd 31 70 rfl) List.not_mem_nil)))).trans hn30
  replace hn31 := (hg252 _ (q_nc (q_pd 32 68 rfl) (q_nc (q_pd 32 69 rfl) (q_nc (q_pd 32 70 rfl) List.not_mem_nil)))).trans hn31
  replace hn32 := (hg252 _ (q_nc (q_pd 33 68 rfl) (q_nc (q_pd 33 69 rfl) (q_nc (q_pd 33 70 rfl) List.not_mem_nil)))).trans hn32
  replace hn33 := (hg252 _ (q_nc (q_pd 34 68 rfl) (q_nc (q_pd 34 69 rfl) (q_nc (q_pd 34 70 rfl) List.not_mem_nil)))).trans hn33
  replace hn34 := (hg252 _ (q_nc (q_pd 35 68 rfl) (q_nc (q_pd 35 69 rfl) (q_nc (q_pd 35 70 rfl) List.not_mem_nil)))).trans hn34
  replace hn35 := (hg252 _ (q_nc (q_pd 36 68 rfl) (q_nc (q_pd 36 69 rfl) (q_nc (q_pd 36 70 rfl) List.not_mem_nil)))).trans hn35
  replace hn36 := (hg252 _ (q_nc (q_pd 37 68 rfl) (q_nc (q_pd 37 69 rfl) (q_nc (q_pd 37 70 rfl) List.not_mem_nil)))).trans hn36
  replace hn37 := (hg252 _ (q_nc (q_pd 38 68 rfl) (q_nc (q_pd 38 69 rfl) (q_nc (q_pd 38 70 rfl) List.not_mem_nil)))).trans hn37
  replace hn38 := (hg252 _ (q_nc (q_pd 39 68 rfl) (q_nc (q_pd 39 69 rfl) (q_nc (q_pd 39 70 rfl) List.not_mem_nil)))).trans hn38
  replace hn39 := (hg252 _ (q_nc (q_pd 40 68 rfl) (q_nc (q_pd 40 69 rfl) (q_nc (q_pd 40 70 rfl) List.not_mem_nil)))).trans hn39
  replace hn40 := (hg252 _ (q_nc (q_pd 41 68 rfl) (q_nc (q_pd 41 69 rfl) (q_nc (q_pd 41 70 rfl) List.not_mem_nil)))).trans hn40
  replace hn41 := (hg252 _ (q_nc (q_pd 42 68 rfl) (q_nc (q_pd 42 69 rfl) (q_nc (q_pd 42 70 rfl) List.not_mem_nil)))).trans hn41
  replace hn42 := (hg252 _ (q_nc (q_pd 43 68 rfl) (q_nc (q_pd 43 69 rfl) (q_nc (q_pd 43 70 rfl) List.not_mem_nil)))).trans hn42
  replace hn43 := (hg252 _ (q_nc (q_pd 44 68 rfl) (q_nc (q_pd 44 69 rfl) (q_nc (q_pd 44 70 rfl) List.not_mem_nil)))).trans hn43
  replace hn44 := (hg252 _ (q_nc (q_pd 45 68 rfl) (q_nc (q_pd 45 69 rfl) (q_nc (q_pd 45 70 rfl) List.not_mem_nil)))).trans hn44
  replace hn45 := (hg252 _ (q_nc (q_pd 46 68 rfl) (q_nc (q_pd 46 69 rfl) (q_nc (q_pd 46 70 rfl) List.not_mem_nil)))).trans hn45
  replace hn46 := (hg252 _ (q_nc (q_pd 47 68 rfl) (q_nc (q_pd 47 69 rfl) (q_nc (q_pd 47 70 rfl) List.not_mem_nil)))).trans hn46
  replace hn47 := (hg252 _ (q_nc (q_pd 48 68 rfl) (q_nc (q_pd 48 69 rfl) (q_nc (q_pd 48 70 rfl) List.not_mem_nil)))).trans hn47
  replace hn48 := (hg252 _ (q_nc (q_pd 49 68 rfl) (q_nc (q_pd 49 69 rfl) (q_nc (q_pd 49 70 rfl) List.not_mem_nil)))).trans hn48
  replace hn49 := (hg252 _ (q_nc (q_pd 50 68 rfl) (q_nc (q_pd 50 69 rfl) (q_nc (q_pd 50 70 rfl) List.not_mem_nil)))).trans hn49
  replace hn50 := (hg252 _ (q_nc (q_pd 51 68 rfl) (q_nc (q_pd 51 69 rfl) (q_nc (q_pd 51 70 rfl) List.not_mem_nil)))).trans hn50
  replace hn51 := (hg252 _ (q_nc (q_pd 52 68 rfl) (q_nc (q_pd 52 69 rfl) (q_nc (q_pd 52 70 rfl) List.not_mem_nil)))).trans hn51
  replace hn52 := (hg252 _ (q_nc (q_pd 53 68 rfl) (q_nc (q_pd 53 69 rfl) (q_nc (q_pd 53 70 rfl) List.not_mem_nil)))).trans hn52
  replace hn53 := (hg252 _ (q_nc (q_pd 54 68 rfl) (q_nc (q_pd 54 69 rfl) (q_nc (q_pd 54 70 rfl) List.not_mem_nil)))).trans hn53
  replace hn54 := (hg252 _ (q_nc (q_pd 55 68 rfl) (q_nc (q_pd 55 69 rfl) (q_nc (q_pd 55 70 rfl) List.not_mem_nil)))).trans hn54
  replace hn55 := (hg252 _ (q_nc (q_pd 56 68 rfl) (q_nc (q_pd 56 69 rfl) (q_nc (q_pd 56 70 rfl) List.not_mem_nil)))).trans hn55
  replace hn56 := (hg252 _ (q_nc (q_pd 57 68 rfl) (q_nc (q_pd 57 69 rfl) (q_nc (q_pd 57 70 rfl) List.not_mem_nil)))).trans hn56
  replace hn57 := (hg252 _ (q_nc (q_pd 58 68 rfl) (q_nc (q_pd 58 69 rfl) (q_nc (q_pd 58 70 rfl) List.not_mem_nil)))).trans hn57
  replace hn58 := (hg252 _ (q_nc (q_pd 59 68 rfl) (q_nc (q_pd 59 69 rfl) (q_nc (q_pd 59 70 rfl) List.not_mem_nil)))).trans hn58
  replace hn59 := (hg252 _ (q_nc (q_pd 60 68 rfl) (q_nc (q_pd 60 69 rfl) (q_nc (q_pd 60 70 rfl) List.not_mem_nil)))).trans hn59
  replace hn60 := (hg252 _ (q_nc (q_pd 61 68 rfl) (q_nc (q_pd 61 69 rfl) (q_nc (q_pd 61 70 rfl) List.not_mem_nil)))).trans hn60
  replace hn61 := (hg252 _ (q_nc (q_pd 62 68 rfl) (q_nc (q_pd 62 69 rfl) (q_nc (q_pd 62 70 rfl) List.not_mem_nil)))).trans hn61
  replace hn62 := (hg252 _ (q_nc (q_pd 63 68 rfl) (q_nc (q_pd 63 69 rfl) (q_nc (q_pd 63 70 rfl) List.not_mem_nil)))).trans hn62
  replace hn63 := (hg252 _ (q_nc (q_pd 64 68 rfl) (q_nc (q_pd 64 69 rfl) (q_nc (q_pd 64 70 rfl) List.not_mem_nil)))).trans hn63
  replace hn64 := (hg252 _ (q_nc (q_pd 65 68 rfl) (q_nc (q_pd 65 69 rfl) (q_nc (q_pd 65 70 rfl) List.not_mem_nil)))).trans hn64
  replace hn65 := (hg252 _ (q_nc (q_pd 66 68 rfl) (q_nc (q_pd 66 69 rfl) (q_nc (q_pd 66 70 rfl) List.not_mem_nil)))).trans hn65
  replace hn66 := (hg252 _ (q_nc (q_pd 67 68 rfl) (q_nc (q_pd 67 69 rfl) (q_nc (q_pd 67 70 rfl) List.not_mem_nil)))).trans hn66
  replace hF := q_uc hF hg252 (q_sc (.tail _ (.tail _ (.tail _ (.tail _ (.tail _ (.tail _ (.tail _ (.tail _ (.tail _ (.tail _ (.tail _ (.tail _ (.tail _ (.tail _ (.tail _ (.tail _ (.tail _ (.tail _ (.tail _ (.tail _ (.tail _ (.tail _ (.tail _ (.tail _ (.tail _ (.tail _ (.tail _ (.tail _ (.tail _ (.tail _ (.tail _ (.tail _ (.tail _ (.tail _ (.tail _ (.tail _ (.tail _ (.tail _ (.tail _ (.tail _ (.tail _ (.tail _ (.tail _ (.tail _ (.tail _ (.tail _ (.tail _ (.tail _ (.tail _ (.tail _ (.tail _ (.tail _ (.tail _ (.tail _ (.tail _ (.tail _ (.tail _ (.tail _ (.tail _ (.tail _ (.tail _ (.tail _ (.tail _ (.tail _ (.tail _ (.tail _ (.tail _ (.tail _ (.head _))))))))))))))))))))))))))))))))))))))))))))))))))))))))))))))))))))) (q_sc (.tail _ (.tail _ (.tail _ (.tail _ (.tail _ (.tail _ (.tail _ (.tail _ (.tail _ (.tail _ (.tail _ (.tail _ (.tail _ (.tail _ (.tail _ (.tail _ (.tail _ (.tail _ (.tail _ (.tail _ (.tail _ (.tail _ (.tail _ (.tail _ (.tail _ (.tail _ (.tail _ (.tail _ (.tail _ (.tail _ (.tail _ (.tail _ (.tail _ (.tail _ (.tail _ (.tail _ (.tail _ (.tail _ (.tail _ (.tail _ (.tail _ (.tail _ (.tail _ (.tail _ (.tail _ (.tail _ (.tail _ (.tail _ (.tail _ (.tail _ (.tail _ (.tail _ (.tail _ (.tail _ (.tail _ (.tail _ (.tail _ (.tail _ (.tail _ (.tail _ (.tail _ (.tail _ (.tail _ (.tail _ (.tail _ (.tail _ (.tail _ (.tail _ (.tail _ (.head _)))))))))))))))))))))))))))))))))))))))))))))))))))))))))))))))))))))) (q_sc (.tail _ (.tail _ (.tail _ (.tail _ (.tail _ (.tail _ (.tail _ (.tail _ (.tail _ (.tail _ (.tail _ (.tail _ (.tail _ (.tail _ (.tail _ (.tail _ (.tail _ (.tail _ (.tail _ (.tail _ (.tail _ (.tail _ (.tail _ (.tail _ (.tail _ (.tail _ (.tail _ (.tail _ (.tail _ (.tail _ (.tail _ (.tail _ (.tail _ (.tail _ (.tail _ (.tail _ (.tail _ (.tail _ (.tail _ (.tail _ (.tail _ (.tail _ (.tail _ (.tail _ (.tail _ (.tail _ (.tail _ (.tail _ (.tail _ (.tail _ (.tail _ (.tail _ (.tail _ (.tail _ (.tail _ (.tail _ (.tail _ (.tail _ (.tail _ (.tail _ (.tail _ (.tail _ (.tail _ (.tail _ (.tail _ (.tail _ (.tail _ (.tail _ (.tail _ (.tail _ (.head _))))))))))))))))))))))))))))))))))))))))))))))))))))))))))))))))))))))) (fun _ h => absurd h List.not_mem_nil))))
  have hn68 : u249[69]? = some (q250, .inr (2, [.ref q251, .int 0, .int 0])) := hq253
  have hn69 : u249[70]? = some (q251, .inl (g 0, 108, .inl (fun _ => 0))) := hq254
  replace hN : u249.length = 71 := hN
  have ho255 := hn5
  refine q_aast (t := 5) (ci := 3) (i9 := 0) C0 V hn5 rfl hn67 rfl (by decide) (by decide) d_1_1_247 (fun H locs w256 hu257 hn5 V => ?_)
  replace hn5 : w256[6]? = some (q32, .inl (g 5, 10, .inr (.inr (.inr (.inr (va_up (fun _ => none) 0 (some q244))))))) := hn5
  replace hN : w256.length = 71 := (q_len1 hu257 hn5 ho255).trans hN
  replace hO0 := (hu257 _ (q_pd 0 6 rfl)).trans hO0
  replace hn0 := (hu257 _ (q_pd 1 6 rfl)).trans hn0
  replace hn1 := (hu257 _ (q_pd 2 6 rfl)).trans hn1
  replace hn2 := (hu257 _ (q_pd 3 6 rfl)).trans hn2
  replace hn3 := (hu257 _ (q_pd 4 6 rfl)).trans hn3
  replace hn4 := (hu257 _ (q_pd 5 6 rfl)).trans hn4
  replace hn6 := (hu257 _ (q_pd 7 6 rfl)).trans hn6
  replace hn7 := (hu257 _ (q_pd 8 6 rfl)).trans hn7
  replace hn8 := (hu257 _ (q_pd 9 6 rfl)).trans hn8
  replace hn9 := (hu257 _ (q_pd 10 6 rfl)).trans hn9
  replace hn10 := (hu257 _ (q_pd 11 6 rfl)).trans hn10
  replace hn11 := (hu257 _ (q_pd 12 6 rfl)).trans hn11
  replace hn12 := (hu257 _ (q_pd 13 6 rfl)).trans hn12
  replace hn13 := (hu257 _ (q_pd 14 6 rfl)).trans hn13
  replace hn14 := (hu257 _ (q_pd 15 6 rfl)).trans hn14
  replace hn15 := (hu257 _ (q_pd 16 6 rfl)).trans hn15
  replace hn16 := (hu257 _ (q_pd 17 6 rfl)).trans hn16
  replace hn17 := (hu257 _ (q_pd 18 6 rfl)).trans hn17
  replace hn18 := (hu257 _ (q_pd 19 6 rfl)).trans hn18
  replace hn19 := (hu257 _ (q_pd 20 6 rfl)).trans hn19
  replace hn20 := (hu257 _ (q_pd 21 6 rfl)).trans hn20
  replace hn21 := (hu257 _ (q_pd 22 6 rfl)).trans hn21
  replace hn22 := (hu257 _ (q_pd 23 6 rfl)).trans hn22
  replace hn23 := (hu257 _ (q_pd 24 6 rfl)).trans hn23
  replace hn24 := (hu257 _ (q_pd 25 6 rfl)).trans hn24
  replace hn25 := (hu257 _ (q_pd 26 6 rfl)).trans hn25
  replace hn26 := (hu257 _ (q_pd 27 6 rfl)).trans hn26
  replace hn27 := (hu257 _ (q_pd 28 6 rfl)).trans hn27
  replace hn28 := (hu257 _ (q_pd 29 6 rfl)).trans hn28
  replace hn29 := (hu257 _ (q_pd 30 6 rfl)).trans hn29
  replace hn30 := (hu257 _ (q_pd 31 6 rfl)).trans hn30
  replace hn31 := (hu257 _ (q_pd 32 6 rfl)).trans hn31
  replace hn32 := (hu257 _ (q_pd 33 6 rfl)).trans hn32
  replace hn33 := (hu257 _ (q_pd 34 6 rfl)).trans hn33
  replace hn34 := (hu257 _ (q_pd 35 6 rfl)).trans hn34
  replace hn35 := (hu257 _ (q_pd 36 6 rfl)).trans hn35
  replace hn36 := (hu257 _ (q_pd 37 6 rfl)).trans hn36
  replace hn37 := (hu257 _ (q_pd 38 6 rfl)).trans hn37
  replace hn38 := (hu257 _ (q_pd 39 6 rfl)).trans hn38
  replace hn39 := (hu257 _ (q_pd 40 6 rfl)).trans hn39
  replace hn40 := (hu257 _ (q_pd 41 6 rfl)).trans hn40
  replace hn41 := (hu257 _ (q_pd 42 6 rfl)).trans hn41
  replace hn42 := (hu257 _ (q_pd 43 6 rfl)).trans hn42
  replace hn43 := (hu257 _ (q_pd 44 6 rfl)).trans hn43
  replace hn44 := (hu257 _ (q_pd 45 6 rfl)).trans hn44
  replace hn45 := (hu257 _ (q_pd 46 6 rfl)).trans hn45
  replace hn46 := (hu257 _ (q_pd 47 6 rfl)).trans hn46
  replace hn47 := (hu257 _ (q_pd 48 6 rfl)).trans hn47
  replace hn48 := (hu257 _ (q_pd 49 6 rfl)).trans hn48
  replace hn49 := (hu257 _ (q_pd 50 6 rfl)).trans hn49
  replace hn50 := (hu257 _ (q_pd 51 6 rfl)).trans hn50
  replace hn51 := (hu257 _ (q_pd 52 6 rfl)).trans hn51
  replace hn52 := (hu257 _ (q_pd 53 6 rfl)).trans hn52
  replace hn53 := (hu257 _ (q_pd 54 6 rfl)).trans hn53
  replace hn54 := (hu257 _ (q_pd 55 6 rfl)).trans hn54
  replace hn55 := (hu257 _ (q_pd 56 6 rfl)).trans hn55
  replace hn56 := (hu257 _ (q_pd 57 6 rfl)).trans hn56
  replace hn57 := (hu257 _ (q_pd 58 6 rfl)).trans hn57
  replace hn58 := (hu257 _ (q_pd 59 6 rfl)).trans hn58
  replace hn59 := (hu257 _ (q_pd 60 6 rfl)).trans hn59
  replace hn60 := (hu257 _ (q_pd 61 6 rfl)).trans hn60
  replace hn61 := (hu257 _ (q_pd 62 6 rfl)).trans hn61
  replace hn62 := (hu257 _ (q_pd 63 6 rfl)).trans hn62
  replace hn63 := (hu257 _ (q_pd 64 6 rfl)).trans hn63
  replace hn64 := (hu257 _ (q_pd 65 6 rfl)).trans hn64
  replace hn65 := (hu257 _ (q_pd 66 6 rfl)).trans hn65
  replace hn66 := (hu257 _ (q_pd 67 6 rfl)).trans hn66
  replace hn67 := (hu257 _ (q_pd 68 6 rfl)).trans hn67
  replace hn68 := (hu257 _ (q_pd 69 6 rfl)).trans hn68
  replace hn69 := (hu257 _ (q_pd 70 6 rfl)).trans hn69
  replace hF := q_us hF hu257 (.tail _ (.tail _ (.tail _ (.tail _ (.tail _ (.tail _ (.head _)))))))
  refine lv_iinc (v := 1) (lv' := [(1, .int 1), (0, .ref qO0)]) hx hb d_1_1_248 hl (k := 0) rfl (by decide) (by decide) rfl (fun ls hl => ?_)
  refine lv_goto (tgt := 212) hx hb d_1_1_251 (by decide) ?_
  refine lv_iload_n hx hb d_1_1_212 rfl (lv_at hl 0 rfl) ?_
  refine lv_bipush (v := 10) hx hb d_1_1_213 (by decide) ?_
  refine lv_icmp_ge (tgt := 254) hx hb d_1_1_215 (by decide) (fun c258 => absurd c258 (by decide)) (fun c258 => ?_)
  refine lv_aload_n hx hb d_1_1_218 rfl (lv_at hl 1 rfl) ?_
  refine q_get (ci := 0) (j := 2) (v := .ref q25) C0 V i_NH rfl rfl hO0 (by decide) w_426 rfl d_1_1_219 ?_
  refine lv_iload_n hx hb d_1_1_222 rfl (lv_at hl 0 rfl) ?_
  refine q_new (ci := 2) (fs := [.null, .int 0, .int 0]) C0 V hN i_Big o_Big rfl w_68 w_79 w_4 rfl (fun j hj => by rcases (show j = 0 ∨ j = 1 ∨ j = 2 by omega) with rfl | rfl | rfl <;> rfl) (Nat.le_of_ble_eq_true rfl) (Nat.le_of_ble_eq_true rfl) d_1_1_223 (fun q259 H w260 hu261 hn262 hN V => ?_)
  have hn70 : w260[71]? = some (q259, .inr (2, [.null, .int 0, .int 0])) := hn262
  replace hO0 := (hu261 _ (q_pd 0 71 rfl)).trans hO0
  replace hn0 := (hu261 _ (q_pd 1 71 rfl)).trans hn0
  replace hn1 := (hu261 _ (q_pd 2 71 rfl)).trans hn1
  replace hn2 := (hu261 _ (q_pd 3 71 rfl)).trans hn2
  replace hn3 := (hu261 _ (q_pd 4 71 rfl)).trans hn3
  replace hn4 := (hu261 _ (q_pd 5 71 rfl)).trans hn4
  replace hn5 := (hu261 _ (q_pd 6 71 rfl)).trans hn5
  replace hn6 := (hu261 _ (q_pd 7 71 rfl)).trans hn6
  replace hn7 := (hu261 _ (q_pd 8 71 rfl)).trans hn7
  replace hn8 := (hu261 _ (q_pd 9 71 rfl)).trans hn8
  replace hn9 := (hu261 _ (q_pd 10 71 rfl)).trans hn9
  replace hn10 := (hu261 _ (q_pd 11 71 rfl)).trans hn10
  replace hn11 := (hu261 _ (q_pd 12 71 rfl)).trans hn11
  replace hn12 := (hu261 _ (q_pd 13 71 rfl)).trans hn12
  replace hn13 := (hu261 _ (q_pd 14 71 rfl)).trans hn13
  replace hn14 := (hu261 _ (q_pd 15 71 rfl)).trans hn14
  replace hn15 := (hu261 _ (q_pd 16 71 rfl)).trans hn15
  replace hn16 := (hu261 _ (q_pd 17 71 rfl)).trans hn16
  replace hn17 := (hu261 _ (q_pd 18 71 rfl)).trans hn17
  replace hn18 := (hu261 _ (q_pd 19 71 rfl)).trans hn18
  replace hn19 := (hu261 _ (q_pd 20 71 rfl)).trans hn19
  replace hn20 := (hu261 _ (q_pd 21 71 rfl)).trans hn20
  replace hn21 := (hu261 _ (q_pd 22 71 rfl)).trans hn21
  replace hn22 := (hu261 _ (q_pd 23 71 rfl)).trans hn22
  replace hn23 := (hu261 _ (q_pd 24 71 rfl)).trans hn23
  replace hn24 := (hu261 _ (q_pd 25 71 rfl)).trans hn24
  replace hn25 := (hu261 _ (q_pd 26 71 rfl)).trans hn25
  replace hn26 := (hu261 _ (q_pd 27 71 rfl)).trans hn26
  replace hn27 := (hu261 _ (q_pd 28 71 rfl)).trans hn27
  replace hn28 := (hu261 _ (q_pd 29 71 rfl)).trans hn28
  replace hn29 := (hu261 _ (q_pd 30 71 rfl)).trans hn29
  replace hn30 := (hu261 _ (q_pd 31 71 rfl)).trans hn30
  replace hn31 := (hu261 _ (q_pd 32 71 rfl)).trans hn31
  replace hn32 := (hu261 _ (q_pd 33 71 rfl)).trans hn32
  replace hn33 := (hu261 _ (q_pd 34 71 rfl)).trans hn33
  replace hn34 := (hu261 _ (q_pd 35 71 rfl)).trans hn34
  replace hn35 := (hu261 _ (q_pd 36 71 rfl)).trans hn35
  replace hn36 := (hu261 _ (q_pd 37 71 rfl)).trans hn36
  replace hn37 := (hu261 _ (q_pd 38 71 rfl)).trans hn37
  replace hn38 := (hu261 _ (q_pd 39 71 rfl)).trans hn38
  replace hn39 := (hu261 _ (q_pd 40 71 rfl)).trans hn39
  replace hn40 := (hu261 _ (q_pd 41 71 rfl)).trans hn40
  replace hn41 := (hu261 _ (q_pd 42 71 rfl)).trans hn41
  replace hn42 := (hu261 _ (q_pd 43 71 rfl)).trans hn42
  replace hn43 := (hu261 _ (q_pd 44 71 rfl)).trans hn43
  replace hn44 := (hu261 _ (q_pd 45 71 rfl)).trans hn44
  replace hn45 := (hu261 _ (q_pd 46 71 rfl)).trans hn45
  replace hn46 := (hu261 _ (q_pd 47 71 rfl)).trans hn46
  replace hn47 := (hu261 _ (q_pd 48 71 rfl)).trans hn47
  replace hn48 := (hu261 _ (q_pd 49 71 rfl)).trans hn48
  replace hn49 := (hu261 _ (q_pd 50 71 rfl)).trans hn49
  replace hn50 := (hu261 _ (q_pd 51 71 rfl)).trans hn50
  replace hn51 := (hu261 _ (q_pd 52 71 rfl)).trans hn51
  replace hn52 := (hu261 _ (q_pd 53 71 rfl)).trans hn52
  replace hn53 := (hu261 _ (q_pd 54 71 rfl)).trans hn53
  replace hn54 := (hu261 _ (q_pd 55 71 rfl)).trans hn54
  replace hn55 := (hu261 _ (q_pd 56 71 rfl)).trans hn55
  replace hn56 := (hu261 _ (q_pd 57 71 rfl)).trans hn56
  replace hn57 := (hu261 _ (q_pd 58 71 rfl)).trans hn57
  replace hn58 := (hu261 _ (q_pd 59 71 rfl)).trans hn58
  replace hn59 := (hu261 _ (q_pd 60 71 rfl)).trans hn59
  replace hn60 := (hu261 _ (q_pd 61 71 rfl)).trans hn60
  replace hn61 := (hu261 _ (q_pd 62 71 rfl)).trans hn61
  replace hn62 := (hu261 _ (q_pd 63 71 rfl)).trans hn62
  replace hn63 := (hu261 _ (q_pd 64 71 rfl)).trans hn63
  replace hn64 := (hu261 _ (q_pd 65 71 rfl)).trans hn64
  replace hn65 := (hu261 _ (q_pd 66 71 rfl)).trans hn65
  replace hn66 := (hu261 _ (q_pd 67 71 rfl)).trans hn66
  replace hn67 := (hu261 _ (q_pd 68 71 rfl)).trans hn67
  replace hn68 := (hu261 _ (q_pd 69 71 rfl)).trans hn68
  replace hn69 := (hu261 _ (q_pd 70 71 rfl)).trans hn69
  replace hF := q_us hF hu261 (.tail _ (.tail _ (.tail _ (.tail _ (.tail _ (.tail _ (.tail _ (.tail _ (.tail _ (.tail _ (.tail _ (.tail _ (.tail _ (.tail _ (.tail _ (.tail _ (.tail _ (.tail _ (.tail _ (.tail _ (.tail _ (.tail _ (.tail _ (.tail _ (.tail _ (.tail _ (.tail _ (.tail _ (.tail _ (.tail _ (.tail _ (.tail _ (.tail _ (.tail _ (.tail _ (.tail _ (.tail _ (.tail _ (.tail _ (.tail _ (.tail _ (.tail _ (.tail _ (.tail _ (.tail _ (.tail _ (.tail _ (.tail _ (.tail _ (.tail _ (.tail _ (.tail _ (.tail _ (.tail _ (.tail _ (.tail _ (.tail _ (.tail _ (.tail _ (.tail _ (.tail _ (.tail _ (.tail _ (.tail _ (.tail _ (.tail _ (.tail _ (.tail _ (.tail _ (.tail _ (.tail _ (.head _))))))))))))))))))))))))))))))))))))))))))))))))))))))))))))))))))))))))
  replace hN : w260.length = 72 := hN
  refine lv_dup hx hb d_1_1_226 rfl ?_
  refine lv_bipush (v := 68) hx hb d_1_1_227 (by decide) ?_
  refine q_gov V (q_runI (As := [.int 68]) (rest := [.ref q259, .int 1, .ref q25]) (d := 2) (mc := 1) (ms := 68) C0 V rfl LI_NH_102 (c_Big_init l D g w260 71 q259 72 hN hn70 _) rfl hl.1 rfl (Nat.le_of_ble_eq_true rfl) ⟨by decide, by decide⟩ ⟨Nat.le_of_ble_eq_true rfl, Nat.le_of_ble_eq_true rfl⟩ d_1_1_229) (fun u264 H locs hp263 V => ?_)
  obtain ⟨q265, hg266, hn70, hq267, hN⟩ := hp263
  replace hO0 := (hg266 _ (q_nc (q_pd 0 71 rfl) (q_nc (q_pd 0 72 rfl) List.not_mem_nil))).trans hO0
  replace hn0 := (hg266 _ (q_nc (q_pd 1 71 rfl) (q_nc (q_pd 1 72 rfl) List.not_mem_nil))).trans hn0
  replace hn1 := (hg266 _ (q_nc (q_pd 2 71 rfl) (q_nc (q_pd 2 72 rfl) List.not_mem_nil))).trans hn1
  replace hn2 := (hg266 _ (q_nc (q_pd 3 71 rfl) (q_nc (q_pd 3 72 rfl) List.not_mem_nil))).trans hn2
  replace hn3 := (hg266 _ (q_nc (q_pd 4 71 rfl) (q_nc (q_pd 4 72 rfl) List.not_mem_nil))).trans hn3
  replace hn4 := (hg266 _ (q_nc (q_pd 5 71 rfl) (q_nc (q_pd 5 72 rfl) List.not_mem_nil))).trans hn4
  replace hn5 := (hg266 _ (q_nc (q_pd 6 71 rfl) (q_nc (q_pd 6 72 rfl) List.not_mem_nil))).trans hn5
  replace hn6 := (hg266 _ (q_nc (q_pd 7 71 rfl) (q_nc (q_pd 7 72 rfl) List.not_mem_nil))).trans hn6
  replace hn7 := (hg266 _ (q_nc (q_pd 8 71 rfl) (q_nc (q_pd 8 72 rfl) List.not_mem_nil))).trans hn7
  replace hn8 := (hg266 _ (q_nc (q_pd 9 71 rfl) (q_nc (q_pd 9 72 rfl) List.not_mem_nil))).trans hn8
  replace hn9 := (hg266 _ (q_nc (q_pd 10 71 rfl) (q_nc (q_pd 10 72 rfl) List.not_mem_nil))).trans hn9
  replace hn10 := (hg266 _ (q_nc (q_pd 11 71 rfl) (q_nc (q_pd 11 72 rfl) List.not_mem_nil))).trans hn10
  replace hn11 := (hg266 _ (q_nc (q_pd 12 71 rfl) (q_nc (q_pd 12 72 rfl) List.not_mem_nil))).trans hn11
  replace hn12 := (hg266 _ (q_nc (q_pd 13 71 rfl) (q_nc (q_pd 13 72 rfl) List.not_mem_nil))).trans hn12
  replace hn13 := (hg266 _ (q_nc (q_pd 14 71 rfl) (q_nc (q_pd 14 72 rfl) List.not_mem_nil))).trans hn13
  replace hn14 := (hg266 _ (q_nc (q_pd 15 71 rfl) (q_nc (q_pd 15 72 rfl) List.not_mem_nil))).trans hn14
  replace hn15 := (hg266 _ (q_nc (q_pd 16 71 rfl) (q_nc (q_pd 16 72 rfl) List.not_mem_nil))).trans hn15
  replace hn16 := (hg266 _ (q_nc (q_pd 17 71 rfl) (q_nc (q_pd 17 72 rfl) List.not_mem_nil))).trans hn16
  replace hn17 := (hg266 _ (q_nc (q_pd 18 71 rfl) (q_nc (q_pd 18 72 rfl) List.not_mem_nil))).trans hn17
  replace hn18 := (hg266 _ (q_nc (q_pd 19 71 rfl) (q_nc (q_pd 19 72 rfl) List.not_mem_nil))).trans hn18
  replace hn19 := (hg266 _ (q_nc (q_pd 20 71 rfl) (q_nc (q_pd 20 72 rfl) List.not_mem_nil))).trans hn19
  replace hn20 := (hg266 _ (q_nc (q_pd 21 71 rfl) (q_nc (q_pd 21 72 rfl) List.not_mem_nil))).trans hn20
  replace hn21 := (hg266 _ (q_nc (q_pd 22 71 rfl) (q_nc (q_pd 22 72 rfl) List.not_mem_nil))).trans hn21
  replace hn22 := (hg266 _ (q_nc (q_pd 23 71 rfl) (q_nc (q_pd 23 72 rfl) List.not_mem_nil))).trans hn22
  replace hn23 := (hg266 _ (q_nc (q_pd 24 71 rfl) (q_nc (q_pd 24 72 rfl) List.not_mem_nil))).trans hn23
  replace hn24 := (hg266 _ (q_nc (q_pd 25 71 rfl) (q_nc (q_pd 25 72 rfl) List.not_mem_nil))).trans hn24
  replace hn25 := (hg266 _ (q_nc (q_pd 26 71 rfl) (q_nc (q_pd 26 72 rfl) List.not_mem_nil))).trans hn25
  replace hn26 := (hg266 _ (q_nc (q_pd 27 71 rfl) (q_nc (q_pd 27 72 rfl) List.not_mem_nil))).trans hn26
  replace hn27 := (hg266 _ (q_nc (q_pd 28 71 rfl) (q_nc (q_pd 28 72 rfl) List.not_mem_nil))).trans hn27
  replace hn28 := (hg266 _ (q_nc (q_pd 29 71 rfl) (q_nc (q_pd 29 72 rfl) List.not_mem_nil))).trans hn28
  replace hn29 := (hg266 _ (q_nc (q_pd 30 71 rfl) (q_nc (q_pd 30 72 rfl) List.not_mem_nil))).trans hn29
  replace hn30 := (hg266 _ (q_nc (q_pd 31 71 rfl) (q_nc (q_pd 31 72 rfl) List.not_mem_nil))).trans hn30
  replace hn31 := (hg266 _ (q_nc (q_pd 32 71 rfl) (q_nc (q_pd 32 72 rfl) List.not_mem_nil))).trans hn31
  replace hn32 := (hg266 _ (q_nc (q_pd 33 71 rfl) (q_nc (q_pd 33 72 rfl) List.not_mem_nil))).trans hn32
  replace hn33 := (hg266 _ (q_nc (q_pd 34 71 rfl) (q_nc (q_pd 34 72 rfl) List.not_mem_nil))).trans hn33
  replace hn34 := (hg266 _ (q_nc (q_pd 35 71 rfl) (q_nc (q_pd 35 72 rfl) List.not_mem_nil))).trans hn34
  replace hn35 := (hg266 _ (q_nc (q_pd 36 71 rfl) (q_nc (q_pd 36 72 rfl) List.not_mem_nil))).trans hn35
  replace hn36 := (hg266 _ (q_nc (q_pd 37 71 rfl) (q_nc (q_pd 37 72 rfl) List.not_mem_nil))).trans hn36
  replace hn37 := (hg266 _ (q_nc (q_pd 38 71 rfl) (q_nc (q_pd 38 72 rfl) List.not_mem_nil))).trans hn37
  replace hn38 := (hg266 _ (q_nc (q_pd 39 71 rfl) (q_nc (q_pd 39 72 rfl) List.not_mem_nil))).trans hn38
  replace hn39 := (hg266 _ (q_nc (q_pd 40 71 rfl) (q_nc (q_pd 40 72 rfl) List.not_mem_nil))).trans hn39
  replace hn40 := (hg266 _ (q_nc (q_pd 41 71 rfl) (q_nc (q_pd 41 72 rfl) List.not_mem_nil))).trans hn40
  replace hn41 := (hg266 _ (q_nc (q_pd 42 71 rfl) (q_nc (q_pd 42 72 rfl) List.not_mem_nil))).trans hn41
  replace hn42 := (hg266 _ (q_nc (q_pd 43 71 rfl) (q_nc (q_pd 43 72 rfl) List.not_mem_nil))).trans hn42
  replace hn43 := (hg266 _ (q_nc (q_pd 44 71 rfl) (q_nc (q_pd 44 72 rfl) List.not_mem_nil))).trans hn43
  replace hn44 := (hg266 _ (q_nc (q_pd 45 71 rfl) (q_nc (q_pd 45 72 rfl) List.not_mem_nil))).trans hn44
  replace hn45 := (hg266 _ (q_nc (q_pd 46 71 rfl) (q_nc (q_pd 46 72 rfl) List.not_mem_nil))).trans hn45
  replace hn46 := (hg266 _ (q_nc (q_pd 47 71 rfl) (q_nc (q_pd 47 72 rfl) List.not_mem_nil))).trans hn46
  replace hn47 := (hg266 _ (q_nc (q_pd 48 71 rfl) (q_nc (q_pd 48 72 rfl) List.not_mem_nil))).trans hn47
  replace hn48 := (hg266 _ (q_nc (q_pd 49 71 rfl) (q_nc (q_pd 49 72 rfl) List.not_mem_nil))).trans hn48
  replace hn49 := (hg266 _ (q_nc (q_pd 50 71 rfl) (q_nc (q_pd 50 72 rfl) List.not_mem_nil))).trans hn49
  replace hn50 := (hg266 _ (q_nc (q_pd 51 71 rfl) (q_nc (q_pd 51 72 rfl) List.not_mem_nil))).trans hn50
  replace hn51 := (hg266 _ (q_nc (q_pd 52 71 rfl) (q_nc (q_pd 52 72 rfl) List.not_mem_nil))).trans hn51
  replace hn52 := (hg266 _ (q_nc (q_pd 53 71 rfl) (q_nc (q_pd 53 72 rfl) List.not_mem_nil))).trans hn52
  replace hn53 := (hg266 _ (q_nc (q_pd 54 71 rfl) (q_nc (q_pd 54 72 rfl) List.not_mem_nil))).trans hn53
  replace hn54 := (hg266 _ (q_nc (q_pd 55 71 rfl) (q_nc (q_pd 55 72 rfl) List.not_mem_nil))).trans hn54
  replace hn55 := (hg266 _ (q_nc (q_pd 56 71 rfl) (q_nc (q_pd 56 72 rfl) List.not_mem_nil))).trans hn55
  replace hn56 := (hg266 _ (q_nc (q_pd 57 71 rfl) (q_nc (q_pd 57 72 rfl) List.not_mem_nil))).trans hn56
  replace hn57 := (hg266 _ (q_nc (q_pd 58 71 rfl) (q_nc (q_pd 58 72 rfl) List.not_mem_nil))).trans hn57
  replace hn58 := (hg266 _ (q_nc (q_pd 59 71 rfl) (q_nc (q_pd 59 72 rfl) List.not_mem_nil))).trans hn58
  replace hn59 := (hg266 _ (q_nc (q_pd 60 71 rfl) (q_nc (q_pd 60 72 rfl) List.not_mem_nil))).trans hn59
  replace hn60 := (hg266 _ (q_nc (q_pd 61 71 rfl) (q_nc (q_pd 61 72 rfl) List.not_mem_nil))).trans hn60
  replace hn61 := (hg266 _ (q_nc (q_pd 62 71 rfl) (q_nc (q_pd 62 72 rfl) List.not_mem_nil))).trans hn61
  replace hn62 := (hg266 _ (q_nc (q_pd 63 71 rfl) (q_nc (q_pd 63 72 rfl) List.not_mem_nil))).trans hn62
  replace hn63 := (hg266 _ (q_nc (q_pd 64 71 rfl) (q_nc (q_pd 64 72 rfl) List.not_mem_nil))).trans hn63
  replace hn64 := (hg266 _ (q_nc (q_pd 65 71 rfl) (q_nc (q_pd 65 72 rfl) List.not_mem_nil))).trans hn64
  replace hn65 := (hg266 _ (q_nc (q_pd 66 71 rfl) (q_nc (q_pd 66 72 rfl) List.not_mem_nil))).trans hn65
  replace hn66 := (hg266 _ (q_nc (q_pd 67 71 rfl) (q_nc (q_pd 67 72 rfl) List.not_mem_nil))).trans hn66
  replace hn67 := (hg266 _ (q_nc (q_pd 68 71 rfl) (q_nc (q_pd 68 72 rfl) List.not_mem_nil))).trans hn67
  replace hn68 := (hg266 _ (q_nc (q_pd 69 71 rfl) (q_nc (q_pd 69 72 rfl) List.not_mem_nil))).trans hn68
  replace hn69 := (hg266 _ (q_nc (q_pd 70 71 rfl) (q_nc (q_pd 70 72 rfl) List.not_mem_nil))).trans hn69
  replace hF := q_uc hF hg266 (q_sc (.tail _ (.tail _ (.tail _ (.tail _ (.tail _ (.tail _ (.tail _ (.tail _ (.tail _ (.tail _ (.tail _ (.tail _ (.tail _ (.tail _ (.tail _ (.tail _ (.tail _ (.tail _ (.tail _ (.tail _ (.tail _ (.tail _ (.tail _ (.tail _ (.tail _ (.tail _ (.tail _ (.tail _ (.tail _ (.tail _ (.tail _ (.tail _ (.tail _ (.tail _ (.tail _ (.tail _ (.tail _ (.tail _ (.tail _ (.tail _ (.tail _ (.tail _ (.tail _ (.tail _ (.tail _ (.tail _ (.tail _ (.tail _ (.tail _ (.tail _ (.tail _ (.tail _ (.tail _ (.tail _ (.tail _ (.tail _ (.tail _ (.tail _ (.tail _ (.tail _ (.tail _ (.tail _ (.tail _ (.tail _ (.tail _ (.tail _ (.tail _ (.tail _ (.tail _ (.tail _ (.tail _ (.head _)))))))))))))))))))))))))))))))))))))))))))))))))))))))))))))))))))))))) (q_sc (.tail _ (.tail _ (.tail _ (.tail _ (.tail _ (.tail _ (.tail _ (.tail _ (.tail _ (.tail _ (.tail _ (.tail _ (.tail _ (.tail _ (.tail _ (.tail _ (.tail _ (.tail _ (.tail _ (.tail _ (.tail _ (.tail _ (.tail _ (.tail _ (.tail _ (.tail _ (.tail _ (.tail _ (.tail _ (.tail _ (.tail _ (.tail _ (.tail _ (.tail _ (.tail _ (.tail _ (.tail _ (.tail _ (.tail _ (.tail _ (.tail _ (.tail _ (.tail _ (.tail _ (.tail _ (.tail _ (.tail _ (.tail _ (.tail _ (.tail _ (.tail _ (.tail _ (.tail _ (.tail _ (.tail _ (.tail _ (.tail _ (.tail _ (.tail _ (.tail _ (.tail _ (.tail _ (.tail _ (.tail _ (.tail _ (.tail _ (.tail _ (.tail _ (.tail _ (.tail _ (.tail _ (.tail _ (.head _))))))))))))))))))))))))))))))))))))))))))))))))))))))))))))))))))))))))) (fun _ h => absurd h List.not_mem_nil)))
  have hn71 : u264[72]? = some (q265, .inl (g 0, 68, .inl (fun _ => 0))) := hq267
  replace hN : u264.length = 73 := hN
  have ho268 := hn4
  refine q_aast (t := 4) (ci := 2) (i9 := 1) C0 V hn4 rfl hn70 rfl (by decide) (by decide) d_1_1_232 (fun H locs w269 hu270 hn4 V => ?_)
  replace hn4 : w269[5]? = some (q25, .inl (g 4, 10, .inr (.inr (.inr (.inr (va_up (va_up (fun _ => none) 0 (some q232)) 1 (some q259))))))) := hn4
  replace hN : w269.length = 73 := (q_len1 hu270 hn4 ho268).trans hN
  replace hO0 := (hu270 _ (q_pd 0 5 rfl)).trans hO0
  replace hn0 := (hu270 _ (q_pd 1 5 rfl)).trans hn0
  replace hn1 := (hu270 _ (q_pd 2 5 rfl)).trans hn1
  replace hn2 := (hu270 _ (q_pd 3 5 rfl)).trans hn2
  replace hn3 := (hu270 _ (q_pd 4 5 rfl)).trans hn3
  replace hn5 := (hu270 _ (q_pd 6 5 rfl)).trans hn5
  replace hn6 := (hu270 _ (q_pd 7 5 rfl)).trans hn6
  replace hn7 := (hu270 _ (q_pd 8 5 rfl)).trans hn7
  replace hn8 := (hu270 _ (q_pd 9 5 rfl)).trans hn8
  replace hn9 := (hu270 _ (q_pd 10 5 rfl)).trans hn9
  replace hn10 := (hu270 _ (q_pd 11 5 rfl)).trans hn10
  replace hn11 := (hu270 _ (q_pd 12 5 rfl)).trans hn11
  replace hn12 := (hu270 _ (q_pd 13 5 rfl)).trans hn12
  replace hn13 := (hu270 _ (q_pd 14 5 rfl)).trans hn13
  replace hn14 := (hu270 _ (q_pd 15 5 rfl)).trans hn14
  replace hn15 := (hu270 _ (q_pd 16 5 rfl)).trans hn15
  replace hn16 := (hu270 _ (q_pd 17 5 rfl)).trans hn16
  replace hn17 := (hu270 _ (q_pd 18 5 rfl)).trans hn17
  replace hn18 := (hu270 _ (q_pd 19 5 rfl)).trans hn18
  replace hn19 := (hu270 _ (q_pd 20 5 rfl)).trans hn19
  replace hn20 := (hu270 _ (q_pd 21 5 rfl)).trans hn20
  replace hn21 := (hu270 _ (q_pd 22 5 rfl)).trans hn21
  replace hn22 := (hu270 _ (q_pd 23 5 rfl)).trans hn22
  replace hn23 := (hu270 _ (q_pd 24 5 rfl)).trans hn23
  replace hn24 := (hu270 _ (q_pd 25 5 rfl)).trans hn24
  replace hn25 := (hu270 _ (q_pd 26 5 rfl)).trans hn25
  replace hn26 := (hu270 _ (q_pd 27 5 rfl)).trans hn26
  replace hn27 := (hu270 _ (q_pd 28 5 rfl)).trans hn27
  replace hn28 := (hu270 _ (q_pd 29 5 rfl)).trans hn28
  replace hn29 := (hu270 _ (q_pd 30 5 rfl)).trans hn29
  replace hn30 := (hu270 _ (q_pd 31 5 rfl)).trans hn30
  replace hn31 := (hu270 _ (q_pd 32 5 rfl)).trans hn31
  replace hn32 := (hu270 _ (q_pd 33 5 rfl)).trans hn32
  replace hn33 := (hu270 _ (q_pd 34 5 rfl)).trans hn33
  replace hn34 := (hu270 _ (q_pd 35 5 rfl)).trans hn34
  replace hn35 := (hu270 _ (q_pd 36 5 rfl)).trans hn35
  replace hn36 := (hu270 _ (q_pd 37 5 rfl)).trans hn36
  replace hn37 := (hu270 _ (q_pd 38 5 rfl)).trans hn37
  replace hn38 := (hu270 _ (q_pd 39 5 rfl)).trans hn38
  replace hn39 := (hu270 _ (q_pd 40 5 rfl)).trans hn39
  replace hn40 := (hu270 _ (q_pd 41 5 rfl)).trans hn40
  replace hn41 := (hu270 _ (q_pd 42 5 rfl)).trans hn41
  replace hn42 := (hu270 _ (q_pd 43 5 rfl)).trans hn42
  replace hn43 := (hu270 _ (q_pd 44 5 rfl)).trans hn43
  replace hn44 := (hu270 _ (q_pd 45 5 rfl)).trans hn44
  replace hn45 := (hu270 _ (q_pd 46 5 rfl)).trans hn45
  replace hn46 := (hu270 _ (q_pd 47 5 rfl)).trans hn46
  replace hn47 := (hu270 _ (q_pd 48 5 rfl)).trans hn47
  replace hn48 := (hu270 _ (q_pd 49 5 rfl)).trans hn48
  replace hn49 := (hu270 _ (q_pd 50 5 rfl)).trans hn49
  replace hn50 := (hu270 _ (q_pd 51 5 rfl)).trans hn50
  replace hn51 := (hu270 _ (q_pd 52 5 rfl)).trans hn51
  replace hn52 := (hu270 _ (q_pd 53 5 rfl)).trans hn52
  replace hn53 := (hu270 _ (q_pd 54 5 rfl)).trans hn53
  replace hn54 := (hu270 _ (q_pd 55 5 rfl)).trans hn54
  replace hn55 := (hu270 _ (q_pd 56 5 rfl)).trans hn55
  replace hn56 := (hu270 _ (q_pd 57 5 rfl)).trans hn56
  replace hn57 := (hu270 _ (q_pd 58 5 rfl)).trans hn57
  replace hn58 := (hu270 _ (q_pd 59 5 rfl)).trans hn58
  replace hn59 := (hu270 _ (q_pd 60 5 rfl)).trans hn59
  replace hn60 := (hu270 _ (q_pd 61 5 rfl)).trans hn60
  replace hn61 := (hu270 _ (q_pd 62 5 rfl)).trans hn61
  replace hn62 := (hu270 _ (q_pd 63 5 rfl)).trans hn62
  replace hn63 := (hu270 _ (q_pd 64 5 rfl)).trans hn63
  replace hn64 := (hu270 _ (q_pd 65 5 rfl)).trans hn64
  replace hn65 := (hu270 _ (q_pd 66 5 rfl)).trans hn65
  replace hn66 := (hu270 _ (q_pd 67 5 rfl)).trans hn66
  replace hn67 := (hu270 _ (q_pd 68 5 rfl)).trans hn67
  replace hn68 := (hu270 _ (q_pd 69 5 rfl)).trans hn68
  replace hn69 := (hu270 _ (q_pd 70 5 rfl)).trans hn69
  replace hn70 := (hu270 _ (q_pd 71 5 rfl)).trans hn70
  replace hn71 := (hu270 _ (q_pd 72 5 rfl)).trans hn71
  replace hF := q_us hF hu270 (.tail _ (.tail _ (.tail _ (.tail _ (.tail _ (.head _))))))
  refine lv_aload_n hx hb d_1_1_233 rfl (lv_at hl 1 rfl) ?_
  refine q_get (ci := 0) (j := 3) (v := .ref q32) C0 V i_NH rfl rfl hO0 (by decide) w_427 rfl d_1_1_234 ?_
  refine lv_iload_n hx hb d_1_1_237 rfl (lv_at hl 0 rfl) ?_
  refine q_new (ci := 3) (fs := [.null, .int 0, .int 0]) C0 V hN i_Dec o_Dec rfl w_70 w_163 w_6 rfl (fun j hj => by rcases (show j = 0 ∨ j = 1 ∨ j = 2 by omega) with rfl | rfl | rfl <;> rfl) (Nat.le_of_ble_eq_true rfl) (Nat.le_of_ble_eq_true rfl) d_1_1_238 (fun q271 H w272 hu273 hn274 hN V => ?_)
  have hn72 : w272[73]? = some (q271, .inr (3, [.null, .int 0, .int 0])) := hn274
  replace hO0 := (hu273 _ (q_pd 0 73 rfl)).trans hO0
  replace hn0 := (hu273 _ (q_pd 1 73 rfl)).trans hn0
  replace hn1 := (hu273 _ (q_pd 2 73 rfl)).trans hn1
  replace hn2 := (hu273 _ (q_pd 3 73 rfl)).trans hn2
  replace hn3 := (hu273 _ (q_pd 4 73 rfl)).trans hn3
  replace hn4 := (hu273 _ (q_pd 5 73 rfl)).trans hn4
  replace hn5 := (hu273 _ (q_pd 6 73 rfl)).trans hn5
  replace hn6 := (hu273 _ (q_pd 7 73 rfl)).trans hn6
  replace hn7 := (hu273 _ (q_pd 8 73 rfl)).trans hn7
  replace hn8 := (hu273 _ (q_pd 9 73 rfl)).trans hn8
  replace hn9 := (hu273 _ (q_pd 10 73 rfl)).trans hn9
  replace hn10 := (hu273 _ (q_pd 11 73 rfl)).trans hn10
  replace hn11 := (hu273 _ (q_pd 12 73 rfl)).trans hn11
  replace hn12 := (hu273 _ (q_pd 13 73 rfl)).trans hn12
  replace hn13 := (hu273 _ (q_pd 14 73 rfl)).trans hn13
  replace hn14 := (hu273 _ (q_pd 15 73 rfl)).trans hn14
  replace hn15 := (hu273 _ (q_pd 16 73 rfl)).trans hn15
  replace hn16 := (hu273 _ (q_pd 17 73 rfl)).trans hn16
  replace hn17 := (hu273 _ (q_pd 18 73 rfl)).trans hn17
  replace hn18 := (hu273 _ (q_pd 19 73 rfl)).trans hn18
  replace hn19 := (hu273 _ (q_pd 20 73 rfl)).trans hn19
  replace hn20 := (hu273 _ (q_pd 21 73 rfl)).trans hn20
  replace hn21 := (hu273 _ (q_pd 22 73 rfl)).trans hn21
  replace hn22 := (hu273 _ (q_pd 23 73 rfl)).trans hn22
  replace hn23 := (hu273 _ (q_pd 24 73 rfl)).trans hn23
  replace hn24 := (hu273 _ (q_pd 25 73 rfl)).trans hn24
  replace hn25 := (hu273 _ (q_pd 26 73 rfl)).trans hn25
  replace hn26 := (hu273 _ (q_pd 27 73 rfl)).trans hn26
  replace hn27 := (hu273 _ (q_pd 28 73 rfl)).trans hn27
  replace hn28 := (hu273 _ (q_pd 29 73 rfl)).trans hn28
  replace hn29 := (hu273 _ (q_pd 30 73 rfl)).trans hn29
  replace hn30 := (hu273 _ (q_pd 31 73 rfl)).trans hn30
  replace hn31 := (hu273 _ (q_pd 32 73 rfl)).trans hn31
  replace hn32 := (hu273 _ (q_pd 33 73 rfl)).trans hn32
  replace hn33 := (hu273 _ (q_pd 34 73 rfl)).trans hn33
  replace hn34 := (hu273 _ (q_pd 35 73 rfl)).trans hn34
  replace hn35 := (hu273 _ (q_pd 36 73 rfl)).trans hn35
  replace hn36 := (hu273 _ (q_pd 37 73 rfl)).trans hn36
  replace hn37 := (hu273 _ (q_pd 38 73 rfl)).trans hn37
  replace hn38 := (hu273 _ (q_pd 39 73 rfl)).trans hn38
  replace hn39 := (hu273 _ (q_pd 40 73 rfl)).trans hn39
  replace hn40 := (hu273 _ (q_pd 41 73 rfl)).trans hn40
  replace hn41 := (hu273 _ (q_pd 42 73 rfl)).trans hn41
  replace hn42 := (hu273 _ (q_pd 43 73 rfl)).trans hn42
  replace hn43 := (hu273 _ (q_pd 44 73 rfl)).trans hn43
  replace hn44 := (hu273 _ (q_pd 45 73 rfl)).trans hn44
  replace hn45 := (hu273 _ (q_pd 46 73 rfl)).trans hn45
  replace hn46 := (hu273 _ (q_pd 47 73 rfl)).trans hn46
  replace hn47 := (hu273 _ (q_pd 48 73 rfl)).trans hn47
  replace hn48 := (hu273 _ (q_pd 49 73 rfl)).trans hn48
  replace hn49 := (hu273 _ (q_pd 50 73 rfl)).trans hn49
  replace hn50 := (hu273 _ (q_pd 51 73 rfl)).trans hn50
  replace hn51 := (hu273 _ (q_pd 52 73 rfl)).trans hn51
  replace hn52 := (hu273 _ (q_pd 53 73 rfl)).trans hn52
  replace hn53 := (hu273 _ (q_pd 54 73 rfl)).trans hn53
  replace hn54 := (hu273 _ (q_pd 55 73 rfl)).trans hn54
  replace hn55 := (hu273 _ (q_pd 56 73 rfl)).trans hn55
  replace hn56 := (hu273 _ (q_pd 57 73 rfl)).trans hn56
  replace hn57 := (hu273 _ (q_pd 58 73 rfl)).trans hn57
  replace hn58 := (hu273 _ (q_pd 59 73 rfl)).trans hn58
  replace hn59 := (hu273 _ (q_pd 60 73 rfl)).trans hn59
  replace hn60 := (hu273 _ (q_pd 61 73 rfl)).trans hn60
  replace hn61 := (hu273 _ (q_pd 62 73 rfl)).trans hn61
  replace hn62 := (hu273 _ (q_pd 63 73 rfl)).trans hn62
  replace hn63 := (hu273 _ (q_pd 64 73 rfl)).trans hn63
  replace hn64 := (hu273 _ (q_pd 65 73 rfl)).trans hn64
  replace hn65 := (hu273 _ (q_pd 66 73 rfl)).trans hn65
  replace hn66 := (hu273 _ (q_pd 67 73 rfl)).trans hn66
  replace hn67 := (hu273 _ (q_pd 68 73 rfl)).trans hn67
  replace hn68 := (hu273 _ (q_pd 69 73 rfl)).trans hn68
  replace hn69 := (hu273 _ (q_pd 70 73 rfl)).trans hn69
  replace hn70 := (hu273 _ (q_pd 71 73 rfl)).trans hn70
  replace hn71 := (hu273 _ (q_pd 72 73 rfl)).trans hn71
  replace hF := q_us hF hu273 (.tail _ (.tail _ (.tail _ (.tail _ (.tail _ (.tail _ (.tail _ (.tail _ (.tail _ (.tail _ (.tail _ (.tail _ (.tail _ (.tail _ (.tail _ (.tail _ (.tail _ (.tail _ (.tail _ (.tail _ (.tail _ (.tail _ (.tail _ (.tail _ (.tail _ (.tail _ (.tail _ (.tail _ (.tail _ (.tail _ (.tail _ (.tail _ (.tail _ (.tail _ (.tail _ (.tail _ (.tail _ (.tail _ (.tail _ (.tail _ (.tail _ (.tail _ (.tail _ (.tail _ (.tail _ (.tail _ (.tail _ (.tail _ (.tail _ (.tail _ (.tail _ (.tail _ (.tail _ (.tail _ (.tail _ (.tail _ (.tail _ (.tail _ (.tail _ (.tail _ (.tail _ (.tail _ (.tail _ (.tail _ (.tail _ (.tail _ (.tail _ (.tail _ (.tail _ (.tail _ (.tail _ (.tail _ (.tail _ (.head _))))))))))))))))))))))))))))))))))))))))))))))))))))))))))))))))))))))))))
  replace hN : w272.length = 74 := hN
  refine lv_dup hx hb d_1_1_241 rfl ?_
  refine lv_bipush (v := 108) hx hb d_1_1_242 (by decide) ?_
  refine q_gov V (q_runI (As := [.int 108]) (rest := [.ref q271, .int 1, .ref q32]) (d := 3) (mc := 2) (ms := 111) C0 V rfl LI_NH_103 (c_Dec_init l D g w272 73 q271 74 hN hn72 _) rfl hl.1 rfl (Nat.le_of_ble_eq_true rfl) ⟨by decide, by decide⟩ ⟨Nat.le_of_ble_eq_true rfl, Nat.le_of_ble_eq_true rfl⟩ d_1_1_244) (fun u276 H locs hp275 V => ?_)
  obtain ⟨q277, q278, hg279, hn72, hq280, hq281, hN⟩ := hp275
  replace hO0 := (hg279 _ (q_nc (q_pd 0 73 rfl) (q_nc (q_pd 0 74 rfl) (q_nc (q_pd 0 75 rfl) List.not_mem_nil)))).trans hO0
  replace hn0 := (hg279 _ (q_nc (q_pd 1 73 rfl) (q_nc (q_pd 1 74 rfl) (q_nc (q_pd 1 75 rfl) List.not_mem_nil)))).trans hn0
  replace hn1 := (hg279 _ (q_nc (q_pd 2 73 rfl) (q_nc (q_pd 2 74 rfl) (q_nc (q_pd 2 75 rfl) List.not_mem_nil)))).trans hn1
  replace hn2 := (hg279 _ (q_nc (q_pd 3 73 rfl) (q_nc (q_pd 3 74 rfl) (q_nc (q_pd 3 75 rfl) List.not_mem_nil)))).trans hn2
  replace hn3 := (hg279 _ (q_nc (q_pd 4 73 rfl) (q_nc (q_pd 4 74 rfl) (q_nc (q_pd 4 75 rfl) List.not_mem_nil)))).trans hn3
  replace hn4 := (hg279 _ (q_nc (q_pd 5 73 rfl) (q_nc (q_pd 5 74 rfl) (q_nc (q_pd 5 75 rfl) List.not_mem_nil)))).trans hn4
  replace hn5 := (hg279 _ (q_nc (q_pd 6 73 rfl) (q_nc (q_pd 6 74 rfl) (q_nc (q_pd 6 75 rfl) List.not_mem_nil)))).trans hn5
  replace hn6 := (hg279 _ (q_nc (q_pd 7 73 rfl) (q_nc (q_pd 7 74 rfl) (q_nc (q_pd 7 75 rfl) List.not_mem_nil)))).trans hn6
  replace hn7 := (hg279 _ (q_nc (q_pd 8 73 rfl) (q_nc (q_pd 8 74 rfl) (q_nc (q_pd 8 75 rfl) List.not_mem_nil)))).trans hn7
  replace hn8 := (hg279 _ (q_nc (q_pd 9 73 rfl) (q_nc (q_pd 9 74 rfl) (q_nc (q_pd 9 75 rfl) List.not_mem_nil)))).trans hn8
  replace hn9 := (hg279 _ (q_nc (q_pd 10 73 rfl) (q_nc (q_pd 10 74 rfl) (q_nc (q_pd 10 75 rfl) List.not_mem_nil)))).trans hn9
  replace hn10 := (hg279 _ (q_nc (q_pd 11 73 rfl) (q_nc (q_pd 11 74 rfl) (q_nc (q_pd 11 75 rfl) List.not_mem_nil)))).trans hn10
  replace hn11 := (hg279 _ (q_nc (q_pd 12 73 rfl) (q_nc (q_pd 12 74 rfl) (q_nc (q_pd 12 75 rfl) List.not_mem_nil)))).trans hn11
  replace hn12 := (hg279 _ (q_nc (q_pd 13 73 rfl) (q_nc (q_pd 13 74 rfl) (q_nc (q_pd 13 75 rfl) List.not_mem_nil)))).trans hn12
  replace hn13 := (hg279 _ (q_nc (q_pd 14 73 rfl) (q_nc (q_pd 14 74 rfl) (q_nc (q_pd 14 75 rfl) List.not_mem_nil)))).trans hn13
  replace hn14 := (hg279 _ (q_nc (q_pd 15 73 rfl) (q_nc (q_pd 15 74 rfl) (q_nc (q_pd 15 75 rfl) List.not_mem_nil)))).trans hn14
  replace hn15 := (hg279 _ (q_nc (q_pd 16 73 rfl) (q_nc (q_pd 16 74 rfl) (q_nc (q_pd 16 75 rfl) List.not_mem_nil)))).trans hn15
  replace hn16 := (hg279 _ (q_nc (q_pd 17 73 rfl) (q_nc (q_pd 17 74 rfl) (q_nc (q_pd 17 75 rfl) List.not_mem_nil)))).trans hn16
  replace hn17 := (hg279 _ (q_nc (q_pd 18 73 rfl) (q_nc (q_pd 18 74 rfl) (q_nc (q_pd 18 75 rfl) List.not_mem_nil)))).trans hn17
  replace hn18 := (hg279 _ (q_nc (q_pd 19 73 rfl) (q_nc (q_pd 19 74 rfl) (q_nc (q_pd 19 75 rfl) List.not_mem_nil)))).trans hn18
  replace hn19 := (hg279 _ (q_nc (q_pd 20 73 rfl) (q_nc (q_pd 20 74 rfl) (q_nc (q_pd 20 75 rfl) List.not_mem_nil)))).trans hn19
  replace hn20 := (hg279 _ (q_nc (q_pd 21 73 rfl) (q_nc (q_pd 21 74 rfl) (q_nc (q_pd 21 75 rfl) List.not_mem_nil)))).trans hn20
  replace hn21 := (hg279 _ (q_nc (q_pd 22 73 rfl) (q_nc (q_pd 22 74 rfl) (q_nc (q_pd 22 75 rfl) List.not_mem_nil)))).trans hn21
  replace hn22 := (hg279 _ (q_nc (q_pd 23 73 rfl) (q_nc (q_pd 23 74 rfl) (q_nc (q_pd 23 75 rfl) List.not_mem_nil)))).trans hn22
  replace hn23 := (hg279 _ (q_nc (q_pd 24 73 rfl) (q_nc (q_pd 24 74 rfl) (q_nc (q_pd 24 75 rfl) List.not_mem_nil)))).trans hn23
  replace hn24 := (hg279 _ (q_nc (q_pd 25 73 rfl) (q_nc (q_pd 25 74 rfl) (q_nc (q_pd 25 75 rfl) List.not_mem_nil)))).trans hn24
  replace hn25 := (hg279 _ (q_nc (q_pd 26 73 rfl) (q_nc (q_pd 26 74 rfl) (q_nc (q_pd 26 75 rfl) List.not_mem_nil)))).trans hn25
  replace hn26 := (hg279 _ (q_nc (q_pd 27 73 rfl) (q_nc (q_pd 27 74 rfl) (q_nc (q_pd 27 75 rfl) List.not_mem_nil)))).trans hn26
  replace hn27 := (hg279 _ (q_nc (q_pd 28 73 rfl) (q_nc (q_pd 28 74 rfl) (q_nc (q_pd 28 75 rfl) List.not_mem_nil)))).trans hn27
  replace hn28 := (hg279 _ (q_nc (q_pd 29 73 rfl) (q_nc (q_pd 29 74 rfl) (q_nc (q_pd 29 75 rfl) List.not_mem_nil)))).trans hn28
  replace hn29 := (hg279 _ (q_nc (q_pd 30 73 rfl) (q_nc (q_pd 30 74 rfl) (q_nc (q_pd 30 75 rfl) List.not_mem_nil)))).trans hn29
  replace hn30 := (hg279 _ (q_nc (q_pd 31 73 rfl) (q_nc (q_pd 31 74 rfl) (q_nc (q_pd 31 75 rfl) List.not_mem_nil)))).trans hn30
  replace hn31 := (hg279 _ (q_nc (q_pd 32 73 rfl) (q_nc (q_pd 32 74 rfl) (q_nc (q_pd 32 75 rfl) List.not_mem_nil)))).trans hn31
  replace hn32 := (hg279 _ (q_nc (q_pd 33 73 rfl) (q_nc (q_pd 33 74 rfl) (q_nc (q_pd 33 75 rfl) List.not_mem_nil)))).trans hn32
  replace hn33 := (hg279 _ (q_nc (q_pd 34 73 rfl) (q_nc (q_pd 34 74 rfl) (q_nc (q_pd 34 75 rfl) List.not_mem_nil)))).trans hn33
  replace hn34 := (hg279 _ (q_nc (q_pd 35 73 rfl) (q_nc (q_pd 35 74 rfl) (q_nc (q_pd 35 75 rfl) List.not_mem_nil)))).trans hn34
  replace hn35 := (hg279 _ (q_nc (q_pd 36 73 rfl) (q_nc (q_pd 36 74 rfl) (q_nc (q_pd 36 75 rfl) List.not_mem_nil)))).trans hn35
  replace hn36 := (hg279 _ (q_nc (q_pd 37 73 rfl) (q_nc (q_pd 37 74 rfl) (q_nc (q_pd 37 75 rfl) List.not_mem_nil)))).trans hn36
  replace hn37 := (hg279 _ (q_nc (q_pd 38 73 rfl) (q_nc (q_pd 38 74 rfl) (q_nc (q_pd 38 75 rfl) List.not_mem_nil)))).trans hn37
  replace hn38 := (hg279 _ (q_nc (q_pd 39 73 rfl) (q_nc (q_pd 39 74 rfl) (q_nc (q_pd 39 75 rfl) List.not_mem_nil)))).trans hn38
  replace hn39 := (hg279 _ (q_nc (q_pd 40 73 rfl) (q_nc (q_pd 40 74 rfl) (q_nc (q_pd 40 75 rfl) List.not_mem_nil)))).trans hn39
  replace hn40 := (hg279 _ (q_nc (q_pd 41 73 rfl) (q_nc (q_pd 41 74 rfl) (q_nc (q_pd 41 75 rfl) List.not_mem_nil)))).trans hn40
  replace hn41 := (hg279 _ (q_nc (q_pd 42 73 rfl) (q_nc (q_pd 42 74 rfl) (q_nc (q_pd 42 75 rfl) List.not_mem_nil)))).trans hn41
  replace hn42 := (hg279 _ (q_nc (q_pd 43 73 rfl) (q_nc (q_pd 43 74 rfl) (q_nc (q_pd 43 75 rfl) List.not_mem_nil)))).trans hn42
  replace hn43 := (hg279 _ (q_nc (q_pd 44 73 rfl) (q_nc (q_pd 44 74 rfl) (q_nc (q_pd 44 75 rfl) List.not_mem_nil)))).trans hn43
  replace hn44 := (hg279 _ (q_nc (q_pd 45 73 rfl) (q_nc (q_pd 45 74 rfl) (q_nc (q_pd 45 75 rfl) List.not_mem_nil)))).trans hn44
  replace hn45 := (hg279 _ (q_nc (q_pd 46 73 rfl) (q_nc (q_pd 46 74 rfl) (q_nc (q_pd 46 75 rfl) List.not_mem_nil)))).trans hn45
  replace hn46 := (hg279 _ (q_nc (q_pd 47 73 rfl) (q_nc (q_pd 47 74 rfl) (q_nc (q_pd 47 75 rfl) List.not_mem_nil)))).trans hn46
  replace hn47 := (hg279 _ (q_nc (q_pd 48 73 rfl) (q_nc (q_pd 48 74 rfl) (q_nc (q_pd 48 75 rfl) List.not_mem_nil)))).trans hn47
  replace hn48 := (hg279 _ (q_nc (q_pd 49 73 rfl) (q_nc (q_pd 49 74 rfl) (q_nc (q_pd 49 75 rfl) List.not_mem_nil)))).trans hn48
  replace hn49 := (hg279 _ (q_nc (q_pd 50 73 rfl) (q_nc (q_pd 50 74 rfl) (q_nc (q_pd 50 75 rfl) List.not_mem_nil)))).trans hn49
  replace hn50 := (hg279 _ (q_nc (q_pd 51 73 rfl) (q_nc (q_pd 51 74 rfl) (q_nc (q_pd 51 75 rfl) List.not_mem_nil)))).trans hn50
  replace hn51 := (hg279 _ (q_nc (q_pd 52 73 rfl) (q_nc (q_pd 52 74 rfl) (q_nc (q_pd 52 75 rfl) List.not_mem_nil)))).trans hn51
  replace hn52 := (hg279 _ (q_nc (q_pd 53 73 rfl) (q_nc (q_pd 53 74 rfl) (q_nc (q_pd 53 75 rfl) List.not_mem_nil)))).trans hn52
  replace hn53 := (hg279 _ (q_nc (q_pd 54 73 rfl) (q_nc (q_pd 54 74 rfl) (q_nc (q_pd 54 75 rfl) List.not_mem_nil)))).trans hn53
  replace hn54 := (hg279 _ (q_nc (q_pd 55 73 rfl) (q_nc (q_pd 55 74 rfl) (q_nc (q_pd 55 75 rfl) List.not_mem_nil)))).trans hn54
  replace hn55 := (hg279 _ (q_nc (q_pd 56 73 rfl) (q_nc (q_pd 56 74 rfl) (q_nc (q_pd 56 75 rfl) List.not_mem_nil)))).trans hn55
  replace hn56 := (hg279 _ (q_nc (q_pd 57 73 rfl) (q_nc (q_pd 57 74 rfl) (q_nc (q_pd 57 75 rfl) List.not_mem_nil)))).trans hn56
  replace hn57 := (hg279 _ (q_nc (q_pd 58 73 rfl) (q_nc (q_pd 58 74 rfl) (q_nc (q_pd 58 75 rfl) List.not_mem_nil)))).trans hn57
  replace hn58 := (hg279 _ (q_nc (q_pd 59 73 rfl) (q_nc (q_pd 59 74 rfl) (q_nc (q_pd 59 75 rfl) List.not_mem_nil)))).trans hn58
  replace hn59 := (hg279 _ (q_nc (q_pd 60 73 rfl) (q_nc (q_pd 60 74 rfl) (q_nc (q_pd 60 75 rfl) List.not_mem_nil)))).trans hn59
  replace hn60 := (hg279 _ (q_nc (q_pd 61 73 rfl) (q_nc (q_pd 61 74 rfl) (q_nc (q_pd 61 75 rfl) List.not_mem_nil)))).trans hn60
  replace hn61 := (hg279 _ (q_nc (q_pd 62 73 rfl) (q_nc (q_pd 62 74 rfl) (q_nc (q_pd 62 75 rfl) List.not_mem_nil)))).trans hn61
  replace hn62 := (hg279 _ (q_nc (q_pd 63 73 rfl) (q_nc (q_pd 63 74 rfl) (q_nc (q_pd 63 75 rfl) List.not_mem_nil)))).trans hn62
  replace hn63 := (hg279 _ (q_nc (q_pd 64 73 rfl) (q_nc (q_pd 64 74 rfl) (q_nc (q_pd 64 75 rfl) List.not_mem_nil)))).trans hn63
  replace hn64 := (hg279 _ (q_nc (q_pd 65 73 rfl) (q_nc (q_pd 65 74 rfl) (q_nc (q_pd 65 75 rfl) List.not_mem_nil)))).trans hn64
  replace hn65 := (hg279 _ (q_nc (q_pd 66 73 rfl) (q_nc (q_pd 66 74 rfl) (q_nc (q_pd 66 75 rfl) List.not_mem_nil)))).trans hn65
  replace hn66 := (hg279 _ (q_nc (q_pd 67 73 rfl) (q_nc (q_pd 67 74 rfl) (q_nc (q_pd 67 75 rfl) List.not_mem_nil)))).trans hn66
  replace hn67 := (hg279 _ (q_nc (q_pd 68 73 rfl) (q_nc (q_pd 68 74 rfl) (q_nc (q_pd 68 75 rfl) List.not_mem_nil)))).trans hn67
  replace hn68 := (hg279 _ (q_nc (q_pd 69 73 rfl) (q_nc (q_pd 69 74 rfl) (q_nc (q_pd 69 75 rfl) List.not_mem_nil)))).trans hn68
  replace hn69 := (hg279 _ (q_nc (q_pd 70 73 rfl) (q_nc (q_pd 70 74 rfl) (q_nc (q_pd 70 75 rfl) List.not_mem_nil)))).trans hn69
  replace hn70 := (hg279 _ (q_nc (q_pd 71 73 rfl) (q_nc (q_pd 71 74 rfl) (q_nc (q_pd 71 75 rfl) List.not_mem_nil)))).trans hn70
  replace hn71 := (hg279 _ (q_nc (q_pd 72 73 rfl) (q_nc (q_pd 72 74 rfl) (q_nc (q_pd 72 75 rfl) List.not_mem_nil)))).trans hn71
  replace hF := q_uc hF hg279 (q_sc (.tail _ (.tail _ (.tail _ (.tail _ (.tail _ (.tail _ (.tail _ (.tail _ (.tail _ (.tail _ (.tail _ (.tail _ (.tail _ (.tail _ (.tail _ (.tail _ (.tail _ (.tail _ (.tail _ (.tail _ (.tail _ (.tail _ (.tail _ (.tail _ (.tail _ (.tail _ (.tail _ (.tail _ (.tail _ (.tail _ (.tail _ (.tail _ (.tail _ (.tail _ (.tail _ (.tail _ (.tail _ (.tail _ (.tail _ (.tail _ (.tail _ (.tail _ (.tail _ (.tail _ (.tail _ (.tail _ (.tail _ (.tail _ (.tail _ (.tail _ (.tail _ (.tail _ (.tail _ (.tail _ (.tail _ (.tail _ (.tail _ (.tail _ (.tail _ (.tail _ (.tail _ (.tail _ (.tail _ (.tail _ (.tail _ (.tail _ (.tail _ (.tail _ (.tail _ (.tail _ (.tail _ (.tail _ (.tail _ (.head _)))))))))))))))))))))))))))))))))))))))))))))))))))))))))))))))))))))))))) (q_sc (.tail _ (.tail _ (.tail _ (.tail _ (.tail _ (.tail _ (.tail _ (.tail _ (.tail _ (.tail _ (.tail _ (.tail _ (.tail _ (.tail _ (.tail _ (.tail _ (.tail _ (.tail _ (.tail _ (.tail _ (.tail _ (.tail _ (.tail _ (.tail _ (.tail _ (.tail _ (.tail _ (.tail _ (.tail _ (.tail _ (.tail _ (.tail _ (.tail _ (.tail _ (.tail _ (.tail _ (.tail _ (.tail _ (.tail _ (.tail _ (.tail _ (.tail _ (.tail _ (.tail _ (.tail _ (.tail _ (.tail _ (.tail _ (.tail _ (.tail _ (.tail _ (.tail _ (.tail _ (.tail _ (.tail _ (.tail _ (.tail _ (.tail _ (.tail _ (.tail _ (.tail _ (.tail _ (.tail _ (.tail _ (.tail _ (.tail _ (.tail _ (.tail _ (.tail _ (.tail _ (.tail _ (.tail _ (.tail _ (.tail _ (.head _))))))))))))))))))))))))))))))))))))))))))))))))))))))))))))))))))))))))))) (q_sc (.tail _ (.tail _ (.tail _ (.tail _ (.tail _ (.tail _ (.tail _ (.tail _ (.tail _ (.tail _ (.tail _ (.tail _ (.tail _ (.tail _ (.tail _ (.tail _ (.tail _ (.tail _ (.tail _ (.tail _ (.tail _ (.tail _ (.tail _ (.tail _ (.tail _ (.tail _ (.tail _ (.tail _ (.tail _ (.tail _ (.tail _ (.tail _ (.tail _ (.tail _ (.tail _ (.tail _ (.tail _ (.tail _ (.tail _ (.tail _ (.tail _ (.tail _ (.tail _ (.tail _ (.tail _ (.tail _ (.tail _ (.tail _ (.tail _ (.tail _ (.tail _ (.tail _ (.tail _ (.tail _ (.tail _ (.tail _ (.tail _ (.tail _ (.tail _ (.tail _ (.tail _ (.tail _ (.tail _ (.tail _ (.tail _ (.tail _ (.tail _ (.tail _ (.tail _ (.tail _ (.tail _ (.tail _ (.tail _ (.tail _ (.tail _ (.head _)))))))))))))))))))))))))))))))))))))))))))))))))))))))))))))))))))))))))))) (fun _ h => absurd h List.not_mem_nil))))
  have hn73 : u276[74]? = some (q277, .inr (2, [.ref q278, .int 0, .int 0])) := hq280
  have hn74 : u276[75]? = some (q278, .inl (g 0, 108, .inl (fun _ => 0))) := hq281
  replace hN : u276.length = 76 := hN
  have ho282 := hn5
  refine q_aast (t := 5) (ci := 3) (i9 := 1) C0 V hn5 rfl hn72 rfl (by decide) (by decide) d_1_1_247 (fun H locs w283 hu284 hn5 V => ?_)
  replace hn5 : w283[6]? = some (q32, .inl (g 5, 10, .inr (.inr (.inr (.inr (va_up (va_up (fun _ => none) 0 (some q244)) 1 (some q271))))))) := hn5
  replace hN : w283.length = 76 := (q_len1 hu284 hn5 ho282).trans hN
  replace hO0 := (hu284 _ (q_pd 0 6 rfl)).trans hO0
  replace hn0 := (hu284 _ (q_pd 1 6 rfl)).trans hn0
  replace hn1 := (hu284 _ (q_pd 2 6 rfl)).trans hn1
  replace hn2 := (hu284 _ (q_pd 3 6 rfl)).trans hn2
  replace hn3 := (hu284 _ (q_pd 4 6 rfl)).trans hn3
  replace hn4 := (hu284 _ (q_pd 5 6 rfl)).trans hn4
  replace hn6 := (hu284 _ (q_pd 7 6 rfl)).trans hn6
  replace hn7 := (hu284 _ (q_pd 8 6 rfl)).trans hn7
  replace hn8 := (hu284 _ (q_pd 9 6 rfl)).trans hn8
  replace hn9 := (hu284 _ (q_pd 10 6 rfl)).trans hn9
  replace hn10 := (hu284 _ (q_pd 11 6 rfl)).trans hn10
  replace hn11 := (hu284 _ (q_pd 12 6 rfl)).trans hn11
  replace hn12 := (hu284 _ (q_pd 13 6 rfl)).trans hn12
  replace hn13 := (hu284 _ (q_pd 14 6 rfl)).trans hn13
  replace hn14 := (hu284 _ (q_pd 15 6 rfl)).trans hn14
  replace hn15 := (hu284 _ (q_pd 16 6 rfl)).trans hn15
  replace hn16 := (hu284 _ (q_pd 17 6 rfl)).trans hn16
  replace hn17 := (hu284 _ (q_pd 18 6 rfl)).trans hn17
  replace hn18 := (hu284 _ (q_pd 19 6 rfl)).trans hn18
  replace hn19 := (hu284 _ (q_pd 20 6 rfl)).trans hn19
  replace hn20 := (hu284 _ (q_pd 21 6 rfl)).trans hn20
  replace hn21 := (hu284 _ (q_pd 22 6 rfl)).trans hn21
  replace hn22 := (hu284 _ (q_pd 23 6 rfl)).trans hn22
  replace hn23 := (hu284 _ (q_pd 24 6 rfl)).trans hn23
  replace hn24 := (hu284 _ (q_pd 25 6 rfl)).trans hn24
  replace hn25 := (hu284 _ (q_pd 26 6 rfl)).trans hn25
  replace hn26 := (hu284 _ (q_pd 27 6 rfl)).trans hn26
  replace hn27 := (hu284 _ (q_pd 28 6 rfl)).trans hn27
  replace hn28 := (hu284 _ (q_pd 29 6 rfl)).trans hn28
  replace hn29 := (hu284 _ (q_pd 30 6 rfl)).trans hn29
  replace hn30 := (hu284 _ (q_pd 31 6 rfl)).trans hn30
  replace hn31 := (hu284 _ (q_pd 32 6 rfl)).trans hn31
  replace hn32 := (hu284 _ (q_pd 33 6 rfl)).trans hn32
  replace hn33 := (hu284 _ (q_pd 34 6 rfl)).trans hn33
  replace hn34 := (hu284 _ (q_pd 35 6 rfl)).trans hn34
  replace hn35 := (hu284 _ (q_pd 36 6 rfl)).trans hn35
  replace hn36 := (hu284 _ (q_pd 37 6 rfl)).trans hn36
  replace hn37 := (hu284 _ (q_pd 38 6 rfl)).trans hn37
  replace hn38 := (hu284 _ (q_pd 39 6 rfl)).trans hn38
  replace hn39 := (hu284 _ (q_pd 40 6 rfl)).trans hn39
  replace hn40 := (hu284 _ (q_pd 41 6 rfl)).trans hn40
  replace hn41 := (hu284 _ (q_pd 42 6 rfl)).trans hn41
  replace hn42 := (hu284 _ (q_pd 43 6 rfl)).trans hn42
  replace hn43 := (hu284 _ (q_pd 44 6 rfl)).trans hn43
  replace hn44 := (hu284 _ (q_pd 45 6 rfl)).trans hn44
  replace hn45 := (hu284 _ (q_pd 46 6 rfl)).trans hn45
  replace hn46 := (hu284 _ (q_pd 47 6 rfl)).trans hn46
  replace hn47 := (hu284 _ (q_pd 48 6 rfl)).trans hn47
  replace hn48 := (hu284 _ (q_pd 49 6 rfl)).trans hn48
  replace hn49 := (hu284 _ (q_pd 50 6 rfl)).trans hn49
  replace hn50 := (hu284 _ (q_pd 51 6 rfl)).trans hn50
  replace hn51 := (hu284 _ (q_pd 52 6 rfl)).trans hn51
  replace hn52 := (hu284 _ (q_pd 53 6 rfl)).trans hn52
  replace hn53 := (hu284 _ (q_pd 54 6 rfl)).trans hn53
  replace hn54 := (hu284 _ (q_pd 55 6 rfl)).trans hn54
  replace hn55 := (hu284 _ (q_pd 56 6 rfl)).trans hn55
  replace hn56 := (hu284 _ (q_pd 57 6 rfl)).trans hn56
  replace hn57 := (hu284 _ (q_pd 58 6 rfl)).trans hn57
  replace hn58 := (hu284 _ (q_pd 59 6 rfl)).trans hn58
  replace hn59 := (hu284 _ (q_pd 60 6 rfl)).trans hn59
  replace hn60 := (hu284 _ (q_pd 61 6 rfl)).trans hn60
  replace hn61 := (hu284 _ (q_pd 62 6 rfl)).trans hn61
  replace hn62 := (hu284 _ (q_pd 63 6 rfl)).trans hn62
  replace hn63 := (hu284 _ (q_pd 64 6 rfl)).trans hn63
  replace hn64 := (hu284 _ (q_pd 65 6 rfl)).trans hn64
  replace hn65 := (hu284 _ (q_pd 66 6 rfl)).trans hn65
  replace hn66 := (hu284 _ (q_pd 67 6 rfl)).trans hn66
  replace hn67 := (hu284 _ (q_pd 68 6 rfl)).trans hn67
  replace hn68 := (hu284 _ (q_pd 69 6 rfl)).trans hn68
  replace hn69 := (hu284 _ (q_pd 70 6 rfl)).trans hn69
  replace hn70 := (hu284 _ (q_pd 71 6 rfl)).trans hn70
  replace hn71 := (hu284 _ (q_pd 72 6 rfl)).trans hn71
  replace hn72 := (hu284 _ (q_pd 73 6 rfl)).trans hn72
  replace hn73 := (hu284 _ (q_pd 74 6 rfl)).trans hn73
  replace hn74 := (hu284 _ (q_pd 75 6 rfl)).trans hn74
  replace hF := q_us hF hu284 (.tail _ (.tail _ (.tail _ (.tail _ (.tail _ (.tail _ (.head _)))))))
  refine lv_iinc (v := 2) (lv' := [(1, .int 2), (0, .ref qO0)]) hx hb d_1_1_248 hl (k := 0) rfl (by decide) (by decide) rfl (fun ls hl => ?_)
  refine lv_goto (tgt := 212) hx hb d_1_1_251 (by decide) ?_
  refine lv_iload_n hx hb d_1_1_212 rfl (lv_at hl 0 rfl) ?_
  refine lv_bipush (v := 10) hx hb d_1_1_213 (by decide) ?_
  refine lv_icmp_ge (tgt := 254) hx hb d_1_1_215 (by decide) (fun c285 => absurd c285 (by decide)) (fun c285 => ?_)
  refine lv_aload_n hx hb d_1_1_218 rfl (lv_at hl 1 rfl) ?_
  refine q_get (ci := 0) (j := 2) (v := .ref q25) C0 V i_NH rfl rfl hO0 (by decide) w_426 rfl d_1_1_219 ?_
  refine lv_iload_n hx hb d_1_1_222 rfl (lv_at hl 0 rfl) ?_
  refine q_new (ci := 2) (fs := [.null, .int 0, .int 0]) C0 V hN i_Big o_Big rfl w_68 w_79 w_4 rfl (fun j hj => by rcases (show j = 0 ∨ j = 1 ∨ j = 2 by omega) with rfl | rfl | rfl <;> rfl) (Nat.le_of_ble_eq_true rfl) (Nat.le_of_ble_eq_true rfl) d_1_1_223 (fun q286 H w287 hu288 hn289 hN V => ?_)
  have hn75 : w287[76]? = some (q286, .inr (2, [.null, .int 0, .int 0])) := hn289
  replace hO0 := (hu288 _ (q_pd 0 76 rfl)).trans hO0
  replace hn0 := (hu288 _ (q_pd 1 76 rfl)).trans hn0
  replace hn1 := (hu288 _ (q_pd 2 76 rfl)).trans hn1
  replace hn2 := (hu288 _ (q_pd 3 76 rfl)).trans hn2
  replace hn3 := (hu288 _ (q_pd 4 76 rfl)).trans hn3
  replace hn4 := (hu288 _ (q_pd 5 76 rfl)).trans hn4
  replace hn5 := (hu288 _ (q_pd 6 76 rfl)).trans hn5
  replace hn6 := (hu288 _ (q_pd 7 76 rfl)).trans hn6
  replace hn7 := (hu288 _ (q_pd 8 76 rfl)).trans hn7
  replace hn8 := (hu288 _ (q_pd 9 76 rfl)).trans hn8
  replace hn9 := (hu288 _ (q_pd 10 76 rfl)).trans hn9
  replace hn10 := (hu288 _ (q_pd 11 76 rfl)).trans hn10
  replace hn11 := (hu288 _ (q_pd 12 76 rfl)).trans hn11
  replace hn12 := (hu288 _ (q_pd 13 76 rfl)).trans hn12
  replace hn13 := (hu288 _ (q_pd 14 76 rfl)).trans hn13
  replace hn14 := (hu288 _ (q_pd 15 76 rfl)).trans hn14
  replace hn15 := (hu288 _ (q_pd 16 76 rfl)).trans hn15
  replace hn16 := (hu288 _ (q_pd 17 76 rfl)).trans hn16
  replace hn17 := (hu288 _ (q_pd 18 76 rfl)).trans hn17
  replace hn18 := (hu288 _ (q_pd 19 76 rfl)).trans hn18
  replace hn19 := (hu288 _ (q_pd 20 76 rfl)).trans hn19
  replace hn20 := (hu288 _ (q_pd 21 76 rfl)).trans hn20
  replace hn21 := (hu288 _ (q_pd 22 76 rfl)).trans hn21
  replace hn22 := (hu288 _ (q_pd 23 76 rfl)).trans hn22
  replace hn23 := (hu288 _ (q_pd 24 76 rfl)).trans hn23
  replace hn24 := (hu288 _ (q_pd 25 76 rfl)).trans hn24
  replace hn25 := (hu288 _ (q_pd 26 76 rfl)).trans hn25
  replace hn26 := (hu288 _ (q_pd 27 76 rfl)).trans hn26
  replace hn27 := (hu288 _ (q_pd 28 76 rfl)).trans hn27
  replace hn28 := (hu288 _ (q_pd 29 76 rfl)).trans hn28
  replace hn29 := (hu288 _ (q_pd 30 76 rfl)).trans hn29
  replace hn30 := (hu288 _ (q_pd 31 76 rfl)).trans hn30
  replace hn31 := (hu288 _ (q_pd 32 76 rfl)).trans hn31
  replace hn32 := (hu288 _ (q_pd 33 76 rfl)).trans hn32
  replace hn33 := (hu288 _ (q_pd 34 76 rfl)).trans hn33
  replace hn34 := (hu288 _ (q_pd 35 76 rfl)).trans hn34
  replace hn35 := (hu288 _ (q_pd 36 76 rfl)).trans hn35
  replace hn36 := (hu288 _ (q_pd 37 76 rfl)).trans hn36
  replace hn37 := (hu288 _ (q_pd 38 76 rfl)).trans hn37
  replace hn38 := (hu288 _ (q_pd 39 76 rfl)).trans hn38
  replace hn39 := (hu288 _ (q_pd 40 76 rfl)).trans hn39
  replace hn40 := (hu288 _ (q_pd 41 76 rfl)).trans hn40
  replace hn41 := (hu288 _ (q_pd 42 76 rfl)).trans hn41
  replace hn42 := (hu288 _ (q_pd 43 76 rfl)).trans hn42
  replace hn43 := (hu288 _ (q_pd 44 76 rfl)).trans hn43
  replace hn44 := (hu288 _ (q_pd 45 76 rfl)).trans hn44
  replace hn45 := (hu288 _ (q_pd 46 76 rfl)).trans hn45
  replace hn46 := (hu288 _ (q_pd 47 76 rfl)).trans hn46
  replace hn47 := (hu288 _ (q_pd 48 76 rfl)).trans hn47
  replace hn48 := (hu288 _ (q_pd 49 76 rfl)).trans hn48
  replace hn49 := (hu288 _ (q_pd 50 76 rfl)).trans hn49
  replace hn50 := (hu288 _ (q_pd 51 76 rfl)).trans hn50
  replace hn51 := (hu288 _ (q_pd 52 76 rfl)).trans hn51
  replace hn52 := (hu288 _ (q_pd 53 76 rfl)).trans hn52
  replace hn53 := (hu288 _ (q_pd 54 76 rfl)).trans hn53
  replace hn54 := (hu288 _ (q_pd 55 76 rfl)).trans hn54
  replace hn55 := (hu288 _ (q_pd 56 76 rfl)).trans hn55
  replace hn56 := (hu288 _ (q_pd 57 76 rfl)).trans hn56
  replace hn57 := (hu288 _ (q_pd 58 76 rfl)).trans hn57
  replace hn58 := (hu288 _ (q_pd 59 76 rfl)).trans hn58
  replace hn59 := (hu288 _ (q_pd 60 76 rfl)).trans hn59
  replace hn60 := (hu288 _ (q_pd 61 76 rfl)).trans hn60
  replace hn61 := (hu288 _ (q_pd 62 76 rfl)).trans hn61
  replace hn62 := (hu288 _ (q_pd 63 76 rfl)).trans hn62
  replace hn63 := (hu288 _ (q_pd 64 76 rfl)).trans hn63
  replace hn64 := (hu288 _ (q_pd 65 76 rfl)).trans hn64
  replace hn65 := (hu288 _ (q_pd 66 76 rfl)).trans hn65
  replace hn66 := (hu288 _ (q_pd 67 76 rfl)).trans hn66
  replace hn67 := (hu288 _ (q_pd 68 76 rfl)).trans hn67
  replace hn68 := (hu288 _ (q_pd 69 76 rfl)).trans hn68
  replace hn69 := (hu288 _ (q_pd 70 76 rfl)).trans hn69
  replace hn70 := (hu288 _ (q_pd 71 76 rfl)).trans hn70
  replace hn71 := (hu288 _ (q_pd 72 76 rfl)).trans hn71
  replace hn72 := (hu288 _ (q_pd 73 76 rfl)).trans hn72
  replace hn73 := (hu288 _ (q_pd 74 76 rfl)).trans hn73
  replace hn74 := (hu288 _ (q_pd 75 76 rfl)).trans hn74
  replace hF := q_us hF hu288 (.tail _ (.tail _ (.tail _ (.tail _ (.tail _ (.tail _ (.tail _ (.tail _ (.tail _ (.tail _ (.tail _ (.tail _ (.tail _ (.tail _ (.tail _ (.tail _ (.tail _ (.tail _ (.tail _ (.tail _ (.tail _ (.tail _ (.tail _ (.tail _ (.tail _ (.tail _ (.tail _ (.tail _ (.tail _ (.tail _ (.tail _ (.tail _ (.tail _ (.tail _ (.tail _ (.tail _ (.tail _ (.tail _ (.tail _ (.tail _ (.tail _ (.tail _ (.tail _ (.tail _ (.tail _ (.tail _ (.tail _ (.tail _ (.tail _ (.tail _ (.tail _ (.tail _ (.tail _ (.tail _ (.tail _ (.tail _ (.tail _ (.tail _ (.tail _ (.tail _ (.tail _ (.tail _ (.tail _ (.tail _ (.tail _ (.tail _ (.tail _ (.tail _ (.tail _ (.tail _ (.tail _ (.tail _ (.tail _ (.tail _ (.tail _ (.tail _ (.head _)))))))))))))))))))))))))))))))))))))))))))))))))))))))))))))))))))))))))))))
  replace hN : w287.length = 77 := hN
  refine lv_dup hx hb d_1_1_226 rfl ?_
  refine lv_bipush (v := 68) hx hb d_1_1_227 (by decide) ?_
  refine q_gov V (q_runI (As := [.int 68]) (rest := [.ref q286, .int 2, .ref q25]) (d := 2) (mc := 1) (ms := 68) C0 V rfl LI_NH_102 (c_Big_init l D g w287 76 q286 77 hN hn75 _) rfl hl.1 rfl (Nat.le_of_ble_eq_true rfl) ⟨by decide, by decide⟩ ⟨Nat.le_of_ble_eq_true rfl, Nat.le_of_ble_eq_true rfl⟩ d_1_1_229) (fun u291 H locs hp290 V => ?_)
  obtain ⟨q292, hg293, hn75, hq294, hN⟩ := hp290
  replace hO0 := (hg293 _ (q_nc (q_pd 0 76 rfl) (q_nc (q_pd 0 77 rfl) List.not_mem_nil))).trans hO0
  replace hn0 := (hg293 _ (q_nc (q_pd 1 76 rfl) (q_nc (q_pd 1 77 rfl) List.not_mem_nil))).trans hn0
  replace hn1 := (hg293 _ (q_nc (q_pd 2 76 rfl) (q_nc (q_pd 2 77 rfl) List.not_mem_nil))).trans hn1
  replace hn2 := (hg293 _ (q_nc (q_pd 3 76 rfl) (q_nc (q_pd 3 77 rfl) List.not_mem_nil))).trans hn2
  replace hn3 := (hg293 _ (q_nc (q_pd 4 76 rfl) (q_nc (q_pd 4 77 rfl) List.not_mem_nil))).trans hn3
  replace hn4 := (hg293 _ (q_nc (q_pd 5 76 rfl) (q_nc (q_pd 5 77 rfl) List.not_mem_nil))).trans hn4
  replace hn5 := (hg293 _ (q_nc (q_pd 6 76 rfl) (q_nc (q_pd 6 77 rfl) List.not_mem_nil))).trans hn5
  replace hn6 := (hg293 _ (q_nc (q_pd 7 76 rfl) (q_nc (q_pd 7 77 rfl) List.not_mem_nil))).trans hn6
  replace hn7 := (hg293 _ (q_nc (q_pd 8 76 rfl) (q_nc (q_pd 8 77 rfl) List.not_mem_nil))).trans hn7
  replace hn8 := (hg293 _ (q_nc (q_pd 9 76 rfl) (q_nc (q_pd 9 77 rfl) List.not_mem_nil))).trans hn8
  replace hn9 := (hg293 _ (q_nc (q_pd 10 76 rfl) (q_nc (q_pd 10 77 rfl) List.not_mem_nil))).trans hn9
  replace hn10 := (hg293 _ (q_nc (q_pd 11 76 rfl) (q_nc (q_pd 11 77 rfl) List.not_mem_nil))).trans hn10
  replace hn11 := (hg293 _ (q_nc (q_pd 12 76 rfl) (q_nc (q_pd 12 77 rfl) List.not_mem_nil))).trans hn11
  replace hn12 := (hg293 _ (q_nc (q_pd 13 76 rfl) (q_nc (q_pd 13 77 rfl) List.not_mem_nil))).trans hn12
  replace hn13 := (hg293 _ (q_nc (q_pd 14 76 rfl) (q_nc (q_pd 14 77 rfl) List.not_mem_nil))).trans hn13
  replace hn14 := (hg293 _ (q_nc (q_pd 15 76 rfl) (q_nc (q_pd 15 77 rfl) List.not_mem_nil))).trans hn14
  replace hn15 := (hg293 _ (q_nc (q_pd 16 76 rfl) (q_nc (q_pd 16 77 rfl) List.not_mem_nil))).trans hn15
  replace hn16 := (hg293 _ (q_nc (q_pd 17 76 rfl) (q_nc (q_pd 17 77 rfl) List.not_mem_nil))).trans hn16
  replace hn17 := (hg293 _ (q_nc (q_pd 18 76 rfl) (q_nc (q_pd 18 77 rfl) List.not_mem_nil))).trans hn17
  replace hn18 := (hg293 _ (q_nc (q_pd 19 76 rfl) (q_nc (q_pd 19 77 rfl) List.not_mem_nil))).trans hn18
  replace hn19 := (hg293 _ (q_nc (q_pd 20 76 rfl) (q_nc (q_pd 20 77 rfl) List.not_mem_nil))).trans hn19
  replace hn20 := (hg293 _ (q_nc (q_pd 21 76 rfl) (q_nc (q_pd 21 77 rfl) List.not_mem_nil))).trans hn20
  replace hn21 := (hg293 _ (q_nc (q_pd 22 76 rfl) (q_nc (q_pd 22 77 rfl) List.not_mem_nil))).trans hn21
  replace hn22 := (hg293 _ (q_nc (q_pd 23 76 rfl) (q_nc (q_pd 23 77 rfl) List.not_mem_nil))).trans hn22
  replace hn23 := (hg293 _ (q_nc (q_pd 24 76 rfl) (q_nc (q_pd 24 77 rfl) List.not_mem_nil))).trans hn23
  replace hn24 := (hg293 _ (q_nc (q_pd 25 76 rfl) (q_nc (q_pd 25 77 rfl) List.not_mem_nil))).trans hn24
  replace hn25 := (hg293 _ (q_nc (q_pd 26 76 rfl) (q_nc (q_pd 26 77 rfl) List.not_mem_nil))).trans hn25
  replace hn26 := (hg293 _ (q_nc (q_pd 27 76 rfl) (q_nc (q_pd 27 77 rfl) List.not_mem_nil))).trans hn26
  replace hn27 := (hg293 _ (q_nc (q_pd 28 76 rfl) (q_nc (q_pd 28 77 rfl) List.not_mem_nil))).trans hn27
  replace hn28 := (hg293 _ (q_nc (q_pd 29 76 rfl) (q_nc (q_pd 29 77 rfl) List.not_mem_nil))).trans hn28
  replace hn29 := (hg293 _ (q_nc (q_pd 30 76 rfl) (q_nc (q_pd 30 77 rfl) List.not_mem_nil))).trans hn29
  replace hn30 := (hg293 _ (q_nc (q_pd 31 76 rfl) (q_nc (q_pd 31 77 rfl) List.not_mem_nil))).trans hn30
  replace hn31 := (hg293 _ (q_nc (q_pd 32 76 rfl) (q_nc (q_pd 32 77 rfl) List.not_mem_nil))).trans hn31
  replace hn32 := (hg293 _ (q_nc (q_pd 33 76 rfl) (q_nc (q_pd 33 77 rfl) List.not_mem_nil))).trans hn32
  replace hn33 := (hg293 _ (q_nc (q_pd 34 76 rfl) (q_nc (q_pd 34 77 rfl) List.not_mem_nil))).trans hn33
  replace hn34 := (hg293 _ (q_nc (q_pd 35 76 rfl) (q_nc (q_pd 35 77 rfl) List.not_mem_nil))).trans hn34
  replace hn35 := (hg293 _ (q_nc (q_pd 36 76 rfl) (q_nc (q_pd 36 77 rfl) List.not_mem_nil))).trans hn35
  replace hn36 := (hg293 _ (q_nc (q_pd 37 76 rfl) (q_nc (q_pd 37 77 rfl) List.not_mem_nil))).trans hn36
  replace hn37 := (hg293 _ (q_nc (q_pd 38 76 rfl) (q_nc (q_pd 38 77 rfl) List.not_mem_nil))).trans hn37
  replace hn38 := (hg293 _ (q_nc (q_pd 39 76 rfl) (q_nc (q_pd 39 77 rfl) List.not_mem_nil))).trans hn38
  replace hn39 := (hg293 _ (q_nc (q_pd 40 76 rfl) (q_nc (q_pd 40 77 rfl) List.not_mem_nil))).trans hn39
  replace hn40 := (hg293 _ (q_nc (q_pd 41 76 rfl) (q_nc (q_pd 41 77 rfl) List.not_mem_nil))).trans hn40
  replace hn41 := (hg293 _ (q_nc (q_pd 42 76 rfl) (q_nc (q_pd 42 77 rfl) List.not_mem_nil))).trans hn41
  replace hn42 := (hg293 _ (q_nc (q_pd 43 76 rfl) (q_nc (q_pd 43 77 rfl) List.not_mem_nil))).trans hn42
  replace hn43 := (hg293 _ (q_nc (q_pd 44 76 rfl) (q_nc (q_pd 44 77 rfl) List.not_mem_nil))).trans hn43
  replace hn44 := (hg293 _ (q_nc (q_pd 45 76 rfl) (q_nc (q_pd 45 77 rfl) List.not_mem_nil))).trans hn44
  replace hn45 := (hg293 _ (q_nc (q_pd 46 76 rfl) (q_nc (q_pd 46 77 rfl) List.not_mem_nil))).trans hn45
  replace hn46 := (hg293 _ (q_nc (q_pd 47 76 rfl) (q_nc (q_pd 47 77 rfl) List.not_mem_nil))).trans hn46
  replace hn47 := (hg293 _ (q_nc (q_pd 48 76 rfl) (q_nc (q_pd 48 77 rfl) List.not_mem_nil))).trans hn47
  replace hn48 := (hg293 _ (q_nc (q_pd 49 76 rfl) (q_nc (q_pd 49 77 rfl) List.not_mem_nil))).trans hn48
  replace hn49 := (hg293 _ (q_nc (q_pd 50 76 rfl) (q_nc (q_pd 50 77 rfl) List.not_mem_nil))).trans hn49
  replace hn50 := (hg293 _ (q_nc (q_pd 51 76 rfl) (q_nc (q_pd 51 77 rfl) List.not_mem_nil))).trans hn50
  replace hn51 := (hg293 _ (q_nc (q_pd 52 76 rfl) (q_nc (q_pd 52 77 rfl) List.not_mem_nil))).trans hn51
  replace hn52 := (hg293 _ (q_nc (q_pd 53 76 rfl) (q_nc (q_pd 53 77 rfl) List.not_mem_nil))).trans hn52
  replace hn53 := (hg293 _ (q_nc (q_pd 54 76 rfl) (q_nc (q_pd 54 77 rfl) List.not_mem_nil))).trans hn53
  replace hn54 := (hg293 _ (q_nc (q_pd 55 76 rfl) (q_nc (q_pd 55 77 rfl) List.not_mem_nil))).trans hn54
  replace hn55 := (hg293 _ (q_nc (q_pd 56 76 rfl) (q_nc (q_pd 56 77 rfl) List.not_mem_nil))).trans hn55
  replace hn56 := (hg293 _ (q_nc (q_pd 57 76 rfl) (q_nc (q_pd 57 77 rfl) List.not_mem_nil))).trans hn56
  replace hn57 := (hg293 _ (q_nc (q_pd 58 76 rfl) (q_nc (q_pd 58 77 rfl) List.not_mem_nil))).trans hn57
  replace hn58 := (hg293 _ (q_nc (q_pd 59 76 rfl) (q_nc (q_pd 59 77 rfl) List.not_mem_nil))).trans hn58
  replace hn59 := (hg293 _ (q_nc (q_pd 60 76 rfl) (q_nc (q_pd 60 77 rfl) List.not_mem_nil))).trans hn59
  replace hn60 := (hg293 _ (q_nc (q_pd 61 76 rfl) (q_nc (q_pd 61 77 rfl) List.not_mem_nil))).trans hn60
  replace hn61 := (hg293 _ (q_nc (q_pd 62 76 rfl) (q_nc (q_pd 62 77 rfl) List.not_mem_nil))).trans hn61
  replace hn62 := (hg293 _ (q_nc (q_pd 63 76 rfl) (q_nc (q_pd 63 77 rfl) List.not_mem_nil))).trans hn62
  replace hn63 := (hg293 _ (q_nc (q_pd 64 76 rfl) (q_nc (q_pd 64 77 rfl) List.not_mem_nil))).trans hn63
  replace hn64 := (hg293 _ (q_nc (q_pd 65 76 rfl) (q_nc (q_pd 65 77 rfl) List.not_mem_nil))).trans hn64
  replace hn65 := (hg293 _ (q_nc (q_pd 66 76 rfl) (q_nc (q_pd 66 77 rfl) List.not_mem_nil))).trans hn65
  replace hn66 := (hg293 _ (q_nc (q_pd 67 76 rfl) (q_nc (q_pd 67 77 rfl) List.not_mem_nil))).trans hn66
  replace hn67 := (hg293 _ (q_nc (q_pd 68 76 rfl) (q_nc (q_pd 68 77 rfl) List.not_mem_nil))).trans hn67
  replace hn68 := (hg293 _ (q_nc (q_pd 69 76 rfl) (q_nc (q_pd 69 77 rfl) List.not_mem_nil))).trans hn68
  replace hn69 := (hg293 _ (q_nc (q_pd 70 76 rfl) (q_nc (q_pd 70 77 rfl) List.not_mem_nil))).trans hn69
  replace hn70 := (hg293 _ (q_nc (q_pd 71 76 rfl) (q_nc (q_pd 71 77 rfl) List.not_mem_nil))).trans hn70
  replace hn71 := (hg293 _ (q_nc (q_pd 72 76 rfl) (q_nc (q_pd 72 77 rfl) List.not_mem_nil))).trans hn71
  replace hn72 := (hg293 _ (q_nc (q_pd 73 76 rfl) (q_nc (q_pd 73 77 rfl) List.not_mem_nil))).trans hn72
  replace hn73 := (hg293 _ (q_nc (q_pd 74 76 rfl) (q_nc (q_pd 74 77 rfl) List.not_mem_nil))).trans hn73
  replace hn74 := (hg293 _ (q_nc (q_pd 75 76 rfl) (q_nc (q_pd 75 77 rfl) List.not_mem_nil))).trans hn74
  replace hF := q_uc hF hg293 (q_sc (.tail _ (.tail _ (.tail _ (.tail _ (.tail _ (.tail _ (.tail _ (.tail _ (.tail _ (.tail _ (.tail _ (.tail _ (.tail _ (.tail _ (.tail _ (.tail _ (.tail _ (.tail _ (.tail _ (.tail _ (.tail _ (.tail _ (.tail _ (.tail _ (.tail _ (.tail _ (.tail _ (.tail _ (.tail _ (.tail _ (.tail _ (.tail _ (.tail _ (.tail _ (.tail _ (.tail _ (.tail _ (.tail _ (.tail _ (.tail _ (.tail _ (.tail _ (.tail _ (.tail _ (.tail _ (.tail _ (.tail _ (.tail _ (.tail _ (.tail _ (.tail _ (.tail _ (.tail _ (.tail _ (.tail _ (.tail _ (.tail _ (.tail _ (.tail _ (.tail _ (.tail _ (.tail _ (.tail _ (.tail _ (.tail _ (.tail _ (.tail _ (.tail _ (.tail _ (.tail _ (.tail _ (.tail _ (.tail _ (.tail _ (.tail _ (.tail _ (.head _))))))))))))))))))))))))))))))))))))))))))))))))))))))))))))))))))))))))))))) (q_sc (.tail _ (.tail _ (.tail _ (.tail _ (.tail _ (.tail _ (.tail _ (.tail _ (.tail _ (.tail _ (.tail _ (.tail _ (.tail _ (.tail _ (.tail _ (.tail _ (.tail _ (.tail _ (.tail _ (.tail _ (.tail _ (.tail _ (.tail _ (.tail _ (.tail _ (.tail _ (.tail _ (.tail _ (.tail _ (.tail _ (.tail _ (.tail _ (.tail _ (.tail _ (.tail _ (.tail _ (.tail _ (.tail _ (.tail _ (.tail _ (.tail _ (.tail _ (.tail _ (.tail _ (.tail _ (.tail _ (.tail _ (.tail _ (.tail _ (.tail _ (.tail _ (.tail _ (.tail _ (.tail _ (.tail _ (.tail _ (.tail _ (.tail _ (.tail _ (.tail _ (.tail _ (.tail _ (.tail _ (.tail _ (.tail _ (.tail _ (.tail _ (.tail _ (.tail _ (.tail _ (.tail _ (.tail _ (.tail _ (.tail _ (.tail _ (.tail _ (.tail _ (.head _)))))))))))))))))))))))))))))))))))))))))))))))))))))))))))))))))))))))))))))) (fun _ h => absurd h List.not_mem_nil)))
  have hn76 : u291[77]? = some (q292, .inl (g 0, 68, .inl (fun _ => 0))) := hq294
  replace hN : u291.length = 78 := hN
  have ho295 := hn4
  refine q_aast (t := 4) (ci := 2) (i9 := 2) C0 V hn4 rfl hn75 rfl (by decide) (by decide) d_1_1_232 (fun H locs w296 hu297 hn4 V => ?_)
  replace hn4 : w296[5]? = some (q25, .inl (g 4, 10, .inr (.inr (.inr (.inr (va_up (va_up (va_up (fun _ => none) 0 (some q232)) 1 (some q259)) 2 (some q286))))))) := hn4
  replace hN : w296.length = 78 := (q_len1 hu297 hn4 ho295).trans hN
  replace hO0 := (hu297 _ (q_pd 0 5 rfl)).trans hO0
  replace hn0 := (hu297 _ (q_pd 1 5 rfl)).trans hn0
  replace hn1 := (hu297 _ (q_pd 2 5 rfl)).trans hn1
  replace hn2 := (hu297 _ (q_pd 3 5 rfl)).trans hn2
  replace hn3 := (hu297 _ (q_pd 4 5 rfl)).trans hn3
  replace hn5 := (hu297 _ (q_pd 6 5 rfl)).trans hn5
  replace hn6 := (hu297 _ (q_pd 7 5 rfl)).trans hn6
  replace hn7 := (hu297 _ (q_pd 8 5 rfl)).trans hn7
  replace hn8 := (hu297 _ (q_pd 9 5 rfl)).trans hn8
  replace hn9 := (hu297 _ (q_pd 10 5 rfl)).trans hn9
  replace hn10 := (hu297 _ (q_pd 11 5 rfl)).trans hn10
  replace hn11 := (hu297 _ (q_pd 12 5 rfl)).trans hn11
  replace hn12 := (hu297 _ (q_pd 13 5 rfl)).trans hn12
  replace hn13 := (hu297 _ (q_pd 14 5 rfl)).trans hn13
  replace hn14 := (hu297 _ (q_pd 15 5 rfl)).trans hn14
  replace hn15 := (hu297 _ (q_pd 16 5 rfl)).trans hn15
  replace hn16 := (hu297 _ (q_pd 17 5 rfl)).trans hn16
  replace hn17 := (hu297 _ (q_pd 18 5 rfl)).trans hn17
  replace hn18 := (hu297 _ (q_pd 19 5 rfl)).trans hn18
  replace hn19 := (hu297 _ (q_pd 20 5 rfl)).trans hn19
  replace hn20 := (hu297 _ (q_pd 21 5 rfl)).trans hn20
  replace hn21 := (hu297 _ (q_pd 22 5 rfl)).trans hn21
  replace hn22 := (hu297 _ (q_pd 23 5 rfl)).trans hn22
  replace hn23 := (hu297 _ (q_pd 24 5 rfl)).trans hn23
  replace hn24 := (hu297 _ (q_pd 25 5 rfl)).trans hn24
  replace hn25 := (hu297 _ (q_pd 26 5 rfl)).trans hn25
  replace hn26 := (hu297 _ (q_pd 27 5 rfl)).trans hn26
  replace hn27 := (hu297 _ (q_pd 28 5 rfl)).trans hn27
  replace hn28 := (hu297 _ (q_pd 29 5 rfl)).trans hn28
  replace hn29 := (hu297 _ (q_pd 30 5 rfl)).trans hn29
  replace hn30 := (hu297 _ (q_pd 31 5 rfl)).trans hn30
  replace hn31 := (hu297 _ (q_pd 32 5 rfl)).trans hn31
  replace hn32 := (hu297 _ (q_pd 33 5 rfl)).trans hn32
  replace hn33 := (hu297 _ (q_pd 34 5 rfl)).trans hn33
  replace hn34 := (hu297 _ (q_pd 35 5 rfl)).trans hn34
  replace hn35 := (hu297 _ (q_pd 36 5 rfl)).trans hn35
  replace hn36 := (hu297 _ (q_pd 37 5 rfl)).trans hn36
  replace hn37 := (hu297 _ (q_pd 38 5 rfl)).trans hn37
  replace hn38 := (hu297 _ (q_pd 39 5 rfl)).trans hn38
  replace hn39 := (hu297 _ (q_pd 40 5 rfl)).trans hn39
  replace hn40 := (hu297 _ (q_pd 41 5 rfl)).trans hn40
  replace hn41 := (hu297 _ (q_pd 42 5 rfl)).trans hn41
  replace hn42 := (hu297 _ (q_pd 43 5 rfl)).trans hn42
  replace hn43 := (hu297 _ (q_pd 44 5 rfl)).trans hn43
  replace hn44 := (hu297 _ (q_pd 45 5 rfl)).trans hn44
  replace hn45 := (hu297 _ (q_pd 46 5 rfl)).trans hn45
  replace hn46 := (hu297 _ (q_pd 47 5 rfl)).trans hn46
  replace hn47 := (hu297 _ (q_pd 48 5 rfl)).trans hn47
  replace hn48 := (hu297 _ (q_pd 49 5 rfl)).trans hn48
  replace hn49 := (hu297 _ (q_pd 50 5 rfl)).trans hn49
  replace hn50 := (hu297 _ (q_pd 51 5 rfl)).trans hn50
  replace hn51 := (hu297 _ (q_pd 52 5 rfl)).trans hn51
  replace hn52 := (hu297 _ (q_pd 53 5 rfl)).trans hn52
  replace hn53 := (hu297 _ (q_pd 54 5 rfl)).trans hn53
  replace hn54 := (hu297 _ (q_pd 55 5 rfl)).trans hn54
  replace hn55 := (hu297 _ (q_pd 56 5 rfl)).trans hn55
  replace hn56 := (hu297 _ (q_pd 57 5 rfl)).trans hn56
  replace hn57 := (hu297 _ (q_pd 58 5 rfl)).trans hn57
  replace hn58 := (hu297 _ (q_pd 59 5 rfl)).trans hn58
  replace hn59 := (hu297 _ (q_pd 60 5 rfl)).trans hn59
  replace hn60 := (hu297 _ (q_pd 61 5 rfl)).trans hn60
  replace hn61 := (hu297 _ (q_pd 62 5 rfl)).trans hn61
  replace hn62 := (hu297 _ (q_pd 63 5 rfl)).trans hn62
  replace hn63 := (hu297 _ (q_pd 64 5 rfl)).trans hn63
  replace hn64 := (hu297 _ (q_pd 65 5 rfl)).trans hn64
  replace hn65 := (hu297 _ (q_pd 66 5 rfl)).trans hn65
  replace hn66 := (hu297 _ (q_pd 67 5 rfl)).trans hn66
  replace hn67 := (hu297 _ (q_pd 68 5 rfl)).trans hn67
  replace hn68 := (hu297 _ (q_pd 69 5 rfl)).trans hn68
  replace hn69 := (hu297 _ (q_pd 70 5 rfl)).trans hn69
  replace hn70 := (hu297 _ (q_pd 71 5 rfl)).trans hn70
  replace hn71 := (hu297 _ (q_pd 72 5 rfl)).trans hn71
  replace hn72 := (hu297 _ (q_pd 73 5 rfl)).trans hn72
  replace hn73 := (hu297 _ (q_pd 74 5 rfl)).trans hn73
  replace hn74 := (hu297 _ (q_pd 75 5 rfl)).trans hn74
  replace hn75 := (hu297 _ (q_pd 76 5 rfl)).trans hn75
  replace hn76 := (hu297 _ (q_pd 77 5 rfl)).trans hn76
  replace hF := q_us hF hu297 (.tail _ (.tail _ (.tail _ (.tail _ (.tail _ (.head _))))))
  refine lv_aload_n hx hb d_1_1_233 rfl (lv_at hl 1 rfl) ?_
  refine q_get (ci := 0) (j := 3) (v := .ref q32) C0 V i_NH rfl rfl hO0 (by decide) w_427 rfl d_1_1_234 ?_
  refine lv_iload_n hx hb d_1_1_237 rfl (lv_at hl 0 rfl) ?_
  refine q_new (ci := 3) (fs := [.null, .int 0, .int 0]) C0 V hN i_Dec o_Dec rfl w_70 w_163 w_6 rfl (fun j hj => by rcases (show j = 0 ∨ j = 1 ∨ j = 2 by omega) with rfl | rfl | rfl <;> rfl) (Nat.le_of_ble_eq_true rfl) (Nat.le_of_ble_eq_true rfl) d_1_1_238 (fun q298 H w299 hu300 hn301 hN V => ?_)
  have hn77 : w299[78]? = some (q298, .inr (3, [.null, .int 0, .int 0])) := hn301
  replace hO0 := (hu300 _ (q_pd 0 78 rfl)).trans hO0
  replace hn0 := (hu300 _ (q_pd 1 78 rfl)).trans hn0
  replace hn1 := (hu300 _ (q_pd 2 78 rfl)).trans hn1
  replace hn2 := (hu300 _ (q_pd 3 78 rfl)).trans hn2
  replace hn3 := (hu300 _ (q_pd 4 78 rfl)).trans hn3
  replace hn4 := (hu300 _ (q_pd 5 78 rfl)).trans hn4
  replace hn5 := (hu300 _ (q_pd 6 78 rfl)).trans hn5
  replace hn6 := (hu300 _ (q_pd 7 78 rfl)).trans hn6
  replace hn7 := (hu300 _ (q_pd 8 78 rfl)).trans hn7
  replace hn8 := (hu300 _ (q_pd 9 78 rfl)).trans hn8
  replace hn9 := (hu300 _ (q_pd 10 78 rfl)).trans hn9
  replace hn10 := (hu300 _ (q_pd 11 78 rfl)).trans hn10
  replace hn11 := (hu300 _ (q_pd 12 78 rfl)).trans hn11
  replace hn12 := (hu300 _ (q_pd 13 78 rfl)).trans hn12
  replace hn13 := (hu300 _ (q_pd 14 78 rfl)).trans hn13
  replace hn14 := (hu300 _ (q_pd 15 78 rfl)).trans hn14
  replace hn15 := (hu300 _ (q_pd 16 78 rfl)).trans hn15
  replace hn16 := (hu300 _ (q_pd 17 78 rfl)).trans hn16
  replace hn17 := (hu300 _ (q_pd 18 78 rfl)).trans hn17
  replace hn18 := (hu300 _ (q_pd 19 78 rfl)).trans hn18
  replace hn19 := (hu300 _ (q_pd 20 78 rfl)).trans hn19
  replace hn20 := (hu300 _ (q_pd 21 78 rfl)).trans hn20
  replace hn21 := (hu300 _ (q_pd 22 78 rfl)).trans hn21
  replace hn22 := (hu300 _ (q_pd 23 78 rfl)).trans hn22
  replace hn23 := (hu300 _ (q_pd 24 78 rfl)).trans hn23
  replace hn24 := (hu300 _ (q_pd 25 78 rfl)).trans hn24
  replace hn25 := (hu300 _ (q_pd 26 78 rfl)).trans hn25
  replace hn26 := (hu300 _ (q_pd 27 78 rfl)).trans hn26
  replace hn27 := (hu300 _ (q_pd 28 78 rfl)).trans hn27
  replace hn28 := (hu300 _ (q_pd 29 78 rfl)).trans hn28
  replace hn29 := (hu300 _ (q_pd 30 78 rfl)).trans hn29
  replace hn30 := (hu300 _ (q_pd 31 78 rfl)).trans hn30
  replace hn31 := (hu300 _ (q_pd 32 78 rfl)).trans hn31
  replace hn32 := (hu300 _ (q_pd 33 78 rfl)).trans hn32
  replace hn33 := (hu300 _ (q_pd 34 78 rfl)).trans hn33
  replace hn34 := (hu300 _ (q_pd 35 78 rfl)).trans hn34
  replace hn35 := (hu300 _ (q_pd 36 78 rfl)).trans hn35
  replace hn36 := (hu300 _ (q_pd 37 78 rfl)).trans hn36
  replace hn37 := (hu300 _ (q_pd 38 78 rfl)).trans hn37
  replace hn38 := (hu300 _ (q_pd 39 78 rfl)).trans hn38
  replace hn39 := (hu300 _ (q_pd 40 78 rfl)).trans hn39
  replace hn40 := (hu300 _ (q_pd 41 78 rfl)).trans hn40
  replace hn41 := (hu300 _ (q_pd 42 78 rfl)).trans hn41
  replace hn42 := (hu300 _ (q_pd 43 78 rfl)).trans hn42
  replace hn43 := (hu300 _ (q_pd 44 78 rfl)).trans hn43
  replace hn44 := (hu300 _ (q_pd 45 78 rfl)).trans hn44
  replace hn45 := (hu300 _ (q_pd 46 78 rfl)).trans hn45
  replace hn46 := (hu300 _ (q_pd 47 78 rfl)).trans hn46
  replace hn47 := (hu300 _ (q_pd 48 78 rfl)).trans hn47
  replace hn48 := (hu300 _ (q_pd 49 78 rfl)).trans hn48
  replace hn49 := (hu300 _ (q_pd 50 78 rfl)).trans hn49
  replace hn50 := (hu300 _ (q_pd 51 78 rfl)).trans hn50
  replace hn51 := (hu300 _ (q_pd 52 78 rfl)).trans hn51
  replace hn52 := (hu300 _ (q_pd 53 78 rfl)).trans hn52
  replace hn53 := (hu300 _ (q_pd 54 78 rfl)).trans hn53
  replace hn54 := (hu300 _ (q_pd 55 78 rfl)).trans hn54
  replace hn55 := (hu300 _ (q_pd 56 78 rfl)).trans hn55
  replace hn56 := (hu300 _ (q_pd 57 78 rfl)).trans hn56
  replace hn57 := (hu300 _ (q_pd 58 78 rfl)).trans hn57
  replace hn58 := (hu300 _ (q_pd 59 78 rfl)).trans hn58
  replace hn59 := (hu300 _ (q_pd 60 78 rfl)).trans hn59
  replace hn60 := (hu300 _ (q_pd 61 78 rfl)).trans hn60
  replace hn61 := (hu300 _ (q_pd 62 78 rfl)).trans hn61
  replace hn62 := (hu300 _ (q_pd 63 78 rfl)).trans hn62
  replace hn63 := (hu300 _ (q_pd 64 78 rfl)).trans hn63
  replace hn64 := (hu300 _ (q_pd 65 78 rfl)).trans hn64
  replace hn65 := (hu300 _ (q_pd 66 78 rfl)).trans hn65
  replace hn66 := (hu300 _ (q_pd 67 78 rfl)).trans hn66
  replace hn67 := (hu300 _ (q_pd 68 78 rfl)).trans hn67
  replace hn68 := (hu300 _ (q_pd 69 78 rfl)).trans hn68
  replace hn69 := (hu300 _ (q_pd 70 78 rfl)).trans hn69
  replace hn70 := (hu300 _ (q_pd 71 78 rfl)).trans hn70
  replace hn71 := (hu300 _ (q_pd 72 78 rfl)).trans hn71
  replace hn72 := (hu300 _ (q_pd 73 78 rfl)).trans hn72
  replace hn73 := (hu300 _ (q_pd 74 78 rfl)).trans hn73
  replace hn74 := (hu300 _ (q_pd 75 78 rfl)).trans hn74
  replace hn75 := (hu300 _ (q_pd 76 78 rfl)).trans hn75
  replace hn76 := (hu300 _ (q_pd 77 78 rfl)).trans hn76
  replace hF := q_us hF hu300 (.tail _ (.tail _ (.tail _ (.tail _ (.tail _ (.tail _ (.tail _ (.tail _ (.tail _ (.tail _ (.tail _ (.tail _ (.tail _ (.tail _ (.tail _ (.tail _ (.tail _ (.tail _ (.tail _ (.tail _ (.tail _ (.tail _ (.tail _ (.tail _ (.tail _ (.tail _ (.tail _ (.tail _ (.tail _ (.tail _ (.tail _ (.tail _ (.tail _ (.tail _ (.tail _ (.tail _ (.tail _ (.tail _ (.tail _ (.tail _ (.tail _ (.tail _ (.tail _ (.tail _ (.tail _ (.tail _ (.tail _ (.tail _ (.tail _ (.tail _ (.tail _ (.tail _ (.tail _ (.tail _ (.tail _ (.tail _ (.tail _ (.tail _ (.tail _ (.tail _ (.tail _ (.tail _ (.tail _ (.tail _ (.tail _ (.tail _ (.tail _ (.tail _ (.tail _ (.tail _ (.tail _ (.tail _ (.tail _ (.tail _ (.tail _ (.tail _ (.tail _ (.tail _ (.head _)))))))))))))))))))))))))))))))))))))))))))))))))))))))))))))))))))))))))))))))
  replace hN : w299.length = 79 := hN
  refine lv_dup hx hb d_1_1_241 rfl ?_
  refine lv_bipush (v := 108) hx hb d_1_1_242 (by decide) ?_
  refine q_gov V (q_runI (As := [.int 108]) (rest := [.ref q298, .int 2, .ref q32]) (d := 3) (mc := 2) (ms := 111) C0 V rfl LI_NH_103 (c_Dec_init l D g w299 78 q298 79 hN hn77 _) rfl hl.1 rfl (Nat.le_of_ble_eq_true rfl) ⟨by decide, by decide⟩ ⟨Nat.le_of_ble_eq_true rfl, Nat.le_of_ble_eq_true rfl⟩ d_1_1_244) (fun u303 H locs hp302 V => ?_)
  obtain ⟨q304, q305, hg306, hn77, hq307, hq308, hN⟩ := hp302
  replace hO0 := (hg306 _ (q_nc (q_pd 0 78 rfl) (q_nc (q_pd 0 79 rfl) (q_nc (q_pd 0 80 rfl) List.not_mem_nil)))).trans hO0
  replace hn0 := (hg306 _ (q_nc (q_pd 1 78 rfl) (q_nc (q_pd 1 79 rfl) (q_nc (q_pd 1 80 rfl) List.not_mem_nil)))).trans hn0
  replace hn1 := (hg306 _ (q_nc (q_pd 2 78 rfl) (q_nc (q_pd 2 79 rfl) (q_nc (q_pd 2 80 rfl) List.not_mem_nil)))).trans hn1
  replace hn2 := (hg306 _ (q_nc (q_pd 3 78 rfl) (q_nc (q_pd 3 79 rfl) (q_nc (q_pd 3 80 rfl) List.not_mem_nil)))).trans hn2
  replace hn3 := (hg306 _ (q_nc (q_pd 4 78 rfl) (q_nc (q_pd 4 79 rfl) (q_nc (q_pd 4 80 rfl) List.not_mem_nil)))).trans hn3
  replace hn4 := (hg306 _ (q_nc (q_pd 5 78 rfl) (q_nc (q_pd 5 79 rfl) (q_nc (q_pd 5 80 rfl) List.not_mem_nil)))).trans hn4
  replace hn5 := (hg306 _ (q_nc (q_pd 6 78 rfl) (q_nc (q_pd 6 79 rfl) (q_nc (q_pd 6 80 rfl) List.not_mem_nil)))).trans hn5
  replace hn6 := (hg306 _ (q_nc (q_pd 7 78 rfl) (q_nc (q_pd 7 79 rfl) (q_nc (q_pd 7 80 rfl) List.not_mem_nil)))).trans hn6
  replace hn7 := (hg306 _ (q_nc (q_pd 8 78 rfl) (q_nc (q_pd 8 79 rfl) (q_nc (q_pd 8 80 rfl) List.not_mem_nil)))).trans hn7
  replace hn8 := (hg306 _ (q_nc (q_pd 9 78 rfl) (q_nc (q_pd 9 79 rfl) (q_nc (q_pd 9 80 rfl) List.not_mem_nil)))).trans hn8
  replace hn9 := (hg306 _ (q_nc (q_pd 10 78 rfl) (q_nc (q_pd 10 79 rfl) (q_nc (q_pd 10 80 rfl) List.not_mem_nil)))).trans hn9
  replace hn10 := (hg306 _ (q_nc (q_pd 11 78 rfl) (q_nc (q_pd 11 79 rfl) (q_nc (q_pd 11 80 rfl) List.not_mem_nil)))).trans hn10
  replace hn11 := (hg306 _ (q_nc (q_pd 12 78 rfl) (q_nc (q_pd 12 79 rfl) (q_nc (q_pd 12 80 rfl) List.not_mem_nil)))).trans hn11
  replace hn12 := (hg306 _ (q_nc (q_pd 13 78 rfl) (q_nc (q_pd 13 79 rfl) (q_nc (q_pd 13 80 rfl) List.not_mem_nil)))).trans hn12
  replace hn13 := (hg306 _ (q_nc (q_pd 14 78 rfl) (q_nc (q_pd 14 79 rfl) (q_nc (q_pd 14 80 rfl) List.not_mem_nil)))).trans hn13
  replace hn14 := (hg306 _ (q_nc (q_pd 15 78 rfl) (q_nc (q_pd 15 79 rfl) (q_nc (q_pd 15 80 rfl) List.not_mem_nil)))).trans hn14
  replace hn15 := (hg306 _ (q_nc (q_pd 16 78 rfl) (q_nc (q_pd 16 79 rfl) (q_nc (q_pd 16 80 rfl) List.not_mem_nil)))).trans hn15
  replace hn16 := (hg306 _ (q_nc (q_pd 17 78 rfl) (q_nc (q_pd 17 79 rfl) (q_nc (q_pd 17 80 rfl) List.not_mem_nil)))).trans hn16
  replace hn17 := (hg306 _ (q_nc (q_pd 18 78 rfl) (q_nc (q_pd 18 79 rfl) (q_nc (q_pd 18 80 rfl) List.not_mem_nil)))).trans hn17
  replace hn18 := (hg306 _ (q_nc (q_pd 19 78 rfl) (q_nc (q_pd 19 79 rfl) (q_nc (q_pd 19 80 rfl) List.not_mem_nil)))).trans hn18
  replace hn19 := (hg306 _ (q_nc (q_pd 20 78 rfl) (q_nc (q_pd 20 79 rfl) (q_nc (q_pd 20 80 rfl) List.not_mem_nil)))).trans hn19
  replace hn20 := (hg306 _ (q_nc (q_pd 21 78 rfl) (q_nc (q_pd 21 79 rfl) (q_nc (q_pd 21 80 rfl) List.not_mem_nil)))).trans hn20
  replace hn21 := (hg306 _ (q_nc (q_pd 22 78 rfl) (q_nc (q_pd 22 79 rfl) (q_nc (q_pd 22 80 rfl) List.not_mem_nil)))).trans hn21
  replace hn22 := (hg306 _ (q_nc (q_pd 23 78 rfl) (q_nc (q_pd 23 79 rfl) (q_nc (q_pd 23 80 rfl) List.not_mem_nil)))).trans hn22
  replace hn23 := (hg306 _ (q_nc (q_pd 24 78 rfl) (q_nc (q_pd 24 79 rfl) (q_nc (q_pd 24 80 rfl) List.not_mem_nil)))).trans hn23
  replace hn24 := (hg306 _ (q_nc (q_pd 25 78 rfl) (q_nc (q_pd 25 79 rfl) (q_nc (q_pd 25 80 rfl) List.not_mem_nil)))).trans hn24
  replace hn25 := (hg306 _ (q_nc (q_pd 26 78 rfl) (q_nc (q_pd 26 79 rfl) (q_nc (q_pd 26 80 rfl) List.not_mem_nil)))).trans hn25
  replace hn26 := (hg306 _ (q_nc (q_pd 27 78 rfl) (q_nc (q_pd 27 79 rfl) (q_nc (q_pd 27 80 rfl) List.not_mem_nil)))).trans hn26
  replace hn27 := (hg306 _ (q_nc (q_pd 28 78 rfl) (q_nc (q_pd 28 79 rfl) (q_nc (q_pd 28 80 rfl) List.not_mem_nil)))).trans hn27
  replace hn28 := (hg306 _ (q_nc (q_pd 29 78 rfl) (q_nc (q_pd 29 79 rfl) (q_nc (q_pd 29 80 rfl) List.not_mem_nil)))).trans hn28
  replace hn29 := (hg306 _ (q_nc (q_pd 30 78 rfl) (q_nc (q_pd 30 79 rfl) (q_nc (q_pd 30 80 rfl) List.not_mem_nil)))).trans hn29
  replace hn30 := (hg306 _ (q_nc (q_pd 31 78 rfl) (q_nc (q_pd 31 79 rfl) (q_nc (q_pd 31 80 rfl) List.not_mem_nil)))).trans hn30
  replace hn31 := (hg306 _ (q_nc (q_pd 32 78 rfl) (q_nc (q_pd 32 79 rfl) (q_nc (q_pd 32 80 rfl) List.not_mem_nil)))).trans hn31
  replace hn32 := (hg306 _ (q_nc (q_pd 33 78 rfl) (q_nc (q_pd 33 79 rfl) (q_nc (q_pd 33 80 rfl) List.not_mem_nil)))).trans hn32
  replace hn33 := (hg306 _ (q_nc (q_pd 34 78 rfl) (q_nc (q_pd 34 79 rfl) (q_nc (q_pd 34 80 rfl) List.not_mem_nil)))).trans hn33
  replace hn34 := (hg306 _ (q_nc (q_pd 35 78 rfl) (q_nc (q_pd 35 79 rfl) (q_nc (q_pd 35 80 rfl) List.not_mem_nil)))).trans hn34
  replace hn35 := (hg306 _ (q_nc (q_pd 36 78 rfl) (q_nc (q_pd 36 79 rfl) (q_nc (q_pd 36 80 rfl) List.not_mem_nil)))).trans hn35
  replace hn36 := (hg306 _ (q_nc (q_pd 37 78 rfl) (q_nc (q_pd 37 79 rfl) (q_nc (q_pd 37 80 rfl) List.not_mem_nil)))).trans hn36
  replace hn37 := (hg306 _ (q_nc (q_pd 38 78 rfl) (q_nc (q_pd 38 79 rfl) (q_nc (q_pd 38 80 rfl) List.not_mem_nil)))).trans hn37
  replace hn38 := (hg306 _ (q_nc (q_pd 39 78 rfl) (q_nc (q_pd 39 79 rfl) (q_nc (q_pd 39 80 rfl) List.not_mem_nil)))).trans hn38
  replace hn39 := (hg306 _ (q_nc (q_pd 40 78 rfl) (q_nc (q_pd 40 79 rfl) (q_nc (q_pd 40 80 rfl) List.not_mem_nil)))).trans hn39
  replace hn40 := (hg306 _ (q_nc (q_pd 41 78 rfl) (q_nc (q_pd 41 79 rfl) (q_nc (q_pd 41 80 rfl) List.not_mem_nil)))).trans hn40
  replace hn41 := (hg306 _ (q_nc (q_pd 42 78 rfl) (q_nc (q_pd 42 79 rfl) (q_nc (q_pd 42 80 rfl) List.not_mem_nil)))).trans hn41
  replace hn42 := (hg306 _ (q_nc (q_pd 43 78 rfl) (q_nc (q_pd 43 79 rfl) (q_nc (q_pd 43 80 rfl) List.not_mem_nil)))).trans hn42
  replace hn43 := (hg306 _ (q_nc (q_pd 44 78 rfl) (q_nc (q_pd 44 79 rfl) (q_nc (q_pd 44 80 rfl) List.not_mem_nil)))).trans hn43
  replace hn44 := (hg306 _ (q_nc (q_pd 45 78 rfl) (q_nc (q_pd 45 79 rfl) (q_nc (q_pd 45 80 rfl) List.not_mem_nil)))).trans hn44
  replace hn45 := (hg306 _ (q_nc (q_pd 46 78 rfl) (q_nc (q_pd 46 79 rfl) (q_nc (q_pd 46 80 rfl) List.not_mem_nil)))).trans hn45
  replace hn46 := (hg306 _ (q_nc (q_pd 47 78 rfl) (q_nc (q_pd 47 79 rfl) (q_nc (q_pd 47 80 rfl) List.not_mem_nil)))).trans hn46
  replace hn47 := (hg306 _ (q_nc (q_pd 48 78 rfl) (q_nc (q_pd 48 79 rfl) (q_nc (q_pd 48 80 rfl) List.not_mem_nil)))).trans hn47
  replace hn48 := (hg306 _ (q_nc (q_pd 49 78 rfl) (q_nc (q_pd 49 79 rfl) (q_nc (q_pd 49 80 rfl) List.not_mem_nil)))).trans hn48
  replace hn49 := (hg306 _ (q_nc (q_pd 50 78 rfl) (q_nc (q_pd 50 79 rfl) (q_nc (q_pd 50 80 rfl) List.not_mem_nil)))).trans hn49
  replace hn50 := (hg306 _ (q_nc (q_pd 51 78 rfl) (q_nc (q_pd 51 79 rfl) (q_nc (q_pd 51 80 rfl) List.not_mem_nil)))).trans hn50
  replace hn51 := (hg306 _ (q_nc (q_pd 52 78 rfl) (q_nc (q_pd 52 79 rfl) (q_nc (q_pd 52 80 rfl) List.not_mem_nil)))).trans hn51
  replace hn52 := (hg306 _ (q_nc (q_pd 53 78 rfl) (q_nc (q_pd 53 79 rfl) (q_nc (q_pd 53 80 rfl) List.not_mem_nil)))).trans hn52
  replace hn53 := (hg306 _ (q_nc (q_pd 54 78 rfl) (q_nc (q_pd 54 79 rfl) (q_nc (q_pd 54 80 rfl) List.not_mem_nil)))).trans hn53
  replace hn54 := (hg306 _ (q_nc (q_pd 55 78 rfl) (q_nc (q_pd 55 79 rfl) (q_nc (q_pd 55 80 rfl) List.not_mem_nil)))).trans hn54
  replace hn55 := (hg306 _ (q_nc (q_pd 56 78 rfl) (q_nc (q_pd 56 79 rfl) (q_nc (q_pd 56 80 rfl) List.not_mem_nil)))).trans hn55
  replace hn56 := (hg306 _ (q_nc (q_pd 57 78 rfl) (q_nc (q_pd 57 79 rfl) (q_nc (q_pd 57 80 rfl) List.not_mem_nil)))).trans hn56
  replace hn57 := (hg306 _ (q_nc (q_pd 58 78 rfl) (q_nc (q_pd 58 79 rfl) (q_nc (q_pd 58 80 rfl) List.not_mem_nil)))).trans hn57
  replace hn58 := (hg306 _ (q_nc (q_pd 59 78 rfl) (q_nc (q_pd 59 79 rfl) (q_nc (q_pd 59 80 rfl) List.not_mem_nil)))).trans hn58
  replace hn59 := (hg306 _ (q_nc (q_pd 60 78 rfl) (q_nc (q_pd 60 79 rfl) (q_nc (q_pd 60 80 rfl) List.not_mem_nil)))).trans hn59
  replace hn60 := (hg306 _ (q_nc (q_pd 61 78 rfl) (q_nc (q_pd 61 79 rfl) (q_nc (q_pd 61 80 rfl) List.not_mem_nil)))).trans hn60
  replace hn61 := (hg306 _ (q_nc (q_pd 62 78 rfl) (q_nc (q_pd 62 79 rfl) (q_nc (q_pd 62 80 rfl) List.not_mem_nil)))).trans hn61
  replace hn62 := (hg306 _ (q_nc (q_pd 63 78 rfl) (q_nc (q_pd 63 79 rfl) (q_nc (q_pd 63 80 rfl) List.not_mem_nil)))).trans hn62
  replace hn63 := (hg306 _ (q_nc (q_pd 64 78 rfl) (q_nc (q_pd 64 79 rfl) (q_nc (q_pd 64 80 rfl) List.not_mem_nil)))).trans hn63
  replace hn64 := (hg306 _ (q_nc (q_pd 65 78 rfl) (q_nc (q_pd 65 79 rfl) (q_nc (q_pd 65 80 rfl) List.not_mem_nil)))).trans hn64
  replace hn65 := (hg306 _ (q_nc (q_pd 66 78 rfl) (q_nc (q_pd 66 79 rfl) (q_nc (q_pd 66 80 rfl) List.not_mem_nil)))).trans hn65
  replace hn66 := (hg306 _ (q_nc (q_pd 67 78 rfl) (q_nc (q_pd 67 79 rfl) (q_nc (q_pd 67 80 rfl) List.not_mem_nil)))).trans hn66
  replace hn67 := (hg306 _ (q_nc (q_pd 68 78 rfl) (q_nc (q_pd 68 79 rfl) (q_nc (q_pd 68 80 rfl) List.not_mem_nil)))).trans hn67
  replace hn68 := (hg306 _ (q_nc (q_pd 69 78 rfl) (q_nc (q_pd 69 79 rfl) (q_nc (q_pd 69 80 rfl) List.not_mem_nil)))).trans hn68
  replace hn69 := (hg306 _ (q_nc (q_pd 70 78 rfl) (q_nc (q_pd 70 79 rfl) (q_nc (q_pd 70 80 rfl) List.not_mem_nil)))).trans hn69
  replace hn70 := (hg306 _ (q_nc (q_pd 71 78 rfl) (q_nc (q_pd 71 79 rfl) (q_nc (q_pd 71 80 rfl) List.not_mem_nil)))).trans hn70
  replace hn71 := (hg306 _ (q_nc (q_pd 72 78 rfl) (q_nc (q_pd 72 79 rfl) (q_nc (q_pd 72 80 rfl) List.not_mem_nil)))).trans hn71
  replace hn72 := (hg306 _ (q_nc (q_pd 73 78 rfl) (q_nc (q_pd 73 79 rfl) (q_nc (q_pd 73 80 rfl) List.not_mem_nil)))).trans hn72
  replace hn73 := (hg306 _ (q_nc (q_pd 74 78 rfl) (q_nc (q_pd 74 79 rfl) (q_nc (q_pd 74 80 rfl) List.not_mem_nil)))).trans hn73
  replace hn74 := (hg306 _ (q_nc (q_pd 75 78 rfl) (q_nc (q_pd 75 79 rfl) (q_nc (q_pd 75 80 rfl) List.not_mem_nil)))).trans hn74
  replace hn75 := (hg306 _ (q_nc (q_pd 76 78 rfl) (q_nc (q_pd 76 79 rfl) (q_nc (q_pd 76 80 rfl) List.not_mem_nil)))).trans hn75
  replace hn76 := (hg306 _ (q_nc (q_pd 77 78 rfl) (q_nc (q_pd 77 79 rfl) (q_nc (q_pd 77 80 rfl) List.not_mem_nil)))).trans hn76
  replace hF := q_uc hF hg306 (q_sc (.tail _ (.tail _ (.tail _ (.tail _ (.tail _ (.tail _ (.tail _ (.tail _ (.tail _ (.tail _ (.tail _ (.tail _ (.tail _ (.tail _ (.tail _ (.tail _ (.tail _ (.tail _ (.tail _ (.tail _ (.tail _ (.tail _ (.tail _ (.tail _ (.tail _ (.tail _ (.tail _ (.tail _ (.tail _ (.tail _ (.tail _ (.tail _ (.tail _ (.tail _ (.tail _ (.tail _ (.tail _ (.tail _ (.tail _ (.tail _ (.tail _ (.tail _ (.tail _ (.tail _ (.tail _ (.tail _ (.tail _ (.tail _ (.tail _ (.tail _ (.tail _ (.tail _ (.tail _ (.tail _ (.tail _ (.tail _ (.tail _ (.tail _ (.tail _ (.tail _ (.tail _ (.tail _ (.tail _ (.tail _ (.tail _ (.tail _ (.tail _ (.tail _ (.tail _ (.tail _ (.tail _ (.tail _ (.tail _ (.tail _ (.tail _ (.tail _ (.tail _ (.tail _ (.head _))))))))))))))))))))))))))))))))))))))))))))))))))))))))))))))))))))))))))))))) (q_sc (.tail _ (.tail _ (.tail _ (.tail _ (.tail _ (.tail _ (.tail _ (.tail _ (.tail _ (.tail _ (.tail _ (.tail _ (.tail _ (.tail _ (.tail _ (.tail _ (.tail _ (.tail _ (.tail _ (.tail _ (.tail _ (.tail _ (.tail _ (.tail _ (.tail _ (.tail _ (.tail _ (.tail _ (.tail _ (.tail _ (.tail _ (.tail _ (.tail _ (.tail _ (.tail _ (.tail _ (.tail _ (.tail _ (.tail _ (.tail _ (.tail _ (.tail _ (.tail _ (.tail _ (.tail _ (.tail _ (.tail _ (.tail _ (.tail _ (.tail _ (.tail _ (.tail _ (.tail _ (.tail _ (.tail _ (.tail _ (.tail _ (.tail _ (.tail _ (.tail _ (.tail _ (.tail _ (.tail _ (.tail _ (.tail _ (.tail _ (.tail _ (.tail _ (.tail _ (.tail _ (.tail _ (.tail _ (.tail _ (.tail _ (.tail _ (.tail _ (.tail _ (.tail _ (.tail _ (.head _)))))))))))))))))))))))))))))))))))))))))))))))))))))))))))))))))))))))))))))))) (q_sc (.tail _ (.tail _ (.tail _ (.tail _ (.tail _ (.tail _ (.tail _ (.tail _ (.tail _ (.tail _ (.tail _ (.tail _ (.tail _ (.tail _ (.tail _ (.tail _ (.tail _ (.tail _ (.tail _ (.tail _ (.tail _ (.tail _ (.tail _ (.tail _ (.tail _ (.tail _ (.tail _ (.tail _ (.tail _ (.tail _ (.tail _ (.tail _ (.tail _ (.tail _ (.tail _ (.tail _ (.tail _ (.tail _ (.tail _ (.tail _ (.tail _ (.tail _ (.tail _ (.tail _ (.tail _ (.tail _ (.tail _ (.tail _ (.tail _ (.tail _ (.tail _ (.tail _ (.tail _ (.tail _ (.tail _ (.tail _ (.tail _ (.tail _ (.tail _ (.tail _ (.tail _ (.tail _ (.tail _ (.tail _ (.tail _ (.tail _ (.tail _ (.tail _ (.tail _ (.tail _ (.tail _ (.tail _ (.tail _ (.tail _ (.tail _ (.tail _ (.tail _ (.tail _ (.tail _ (.tail _ (.head _))))))))))))))))))))))))))))))))))))))))))))))))))))))))))))))))))))))))))))))))) (fun _ h => absurd h List.not_mem_nil))))
  have hn78 : u303[79]? = some (q304, .inr (2, [.ref q305, .int 0, .int 0])) := hq307
  have hn79 : u303[80]? = some (q305, .inl (g 0, 108, .inl (fun _ => 0))) := hq308
  replace hN : u303.length = 81 := hN
  have ho309 := hn5
  refine q_aast (t := 5) (ci := 3) (i9 := 2) C0 V hn5 rfl hn77 rfl (by decide) (by decide) d_1_1_247 (fun H locs w310 hu311 hn5 V => ?_)
  replace hn5 : w310[6]? = some (q32, .inl (g 5, 10, .inr (.inr (.inr (.inr (va_up (va_up (va_up (fun _ => none) 0 (some q244)) 1 (some q271)) 2 (some q298))))))) := hn5
  replace hN : w310.length = 81 := (q_len1 hu311 hn5 ho309).trans hN
  replace hO0 := (hu311 _ (q_pd 0 6 rfl)).trans hO0
  replace hn0 := (hu311 _ (q_pd 1 6 rfl)).trans hn0
  replace hn1 := (hu311 _ (q_pd 2 6 rfl)).trans hn1
  replace hn2 := (hu311 _ (q_pd 3 6 rfl)).trans hn2
  replace hn3 := (hu311 _ (q_pd 4 6 rfl)).trans hn3
  replace hn4 := (hu311 _ (q_pd 5 6 rfl)).trans hn4
  replace hn6 := (hu311 _ (q_pd 7 6 rfl)).trans hn6
  replace hn7 := (hu311 _ (q_pd 8 6 rfl)).trans hn7
  replace hn8 := (hu311 _ (q_pd 9 6 rfl)).trans hn8
  replace hn9 := (hu311 _ (q_pd 10 6 rfl)).trans hn9
  replace hn10 := (hu311 _ (q_pd 11 6 rfl)).trans hn10
  replace hn11 := (hu311 _ (q_pd 12 6 rfl)).trans hn11
  replace hn12 := (hu311 _ (q_pd 13 6 rfl)).trans hn12
  replace hn13 := (hu311 _ (q_pd 14 6 rfl)).trans hn13
  replace hn14 := (hu311 _ (q_pd 15 6 rfl)).trans hn14
  replace hn15 := (hu311 _ (q_pd 16 6 rfl)).trans hn15
  replace hn16 := (hu311 _ (q_pd 17 6 rfl)).trans hn16
  replace hn17 := (hu311 _ (q_pd 18 6 rfl)).trans hn17
  replace hn18 := (hu311 _ (q_pd 19 6 rfl)).trans hn18
  replace hn19 := (hu311 _ (q_pd 20 6 rfl)).trans hn19
  replace hn20 := (hu311 _ (q_pd 21 6 rfl)).trans hn20
  replace hn21 := (hu311 _ (q_pd 22 6 rfl)).trans hn21
  replace hn22 := (hu311 _ (q_pd 23 6 rfl)).trans hn22
  replace hn23 := (hu311 _ (q_pd 24 6 rfl)).trans hn23
  replace hn24 := (hu311 _ (q_pd 25 6 rfl)).trans hn24
  replace hn25 := (hu311 _ (q_pd 26 6 rfl)).trans hn25
  replace hn26 := (hu311 _ (q_pd 27 6 rfl)).trans hn26
  replace hn27 := (hu311 _ (q_pd 28 6 rfl)).trans hn27
  replace hn28 := (hu311 _ (q_pd 29 6 rfl)).trans hn28
  replace hn29 := (hu311 _ (q_pd 30 6 rfl)).trans hn29
  replace hn30 := (hu311 _ (q_pd 31 6 rfl)).trans hn30
  replace hn31 := (hu311 _ (q_pd 32 6 rfl)).trans hn31
  replace hn32 := (hu311 _ (q_pd 33 6 rfl)).trans hn32
  replace hn33 := (hu311 _ (q_pd 34 6 rfl)).trans hn33
  replace hn34 := (hu311 _ (q_pd 35 6 rfl)).trans hn34
  replace hn35 := (hu311 _ (q_pd 36 6 rfl)).trans hn35
  replace hn36 := (hu311 _ (q_pd 37 6 rfl)).trans hn36
  replace hn37 := (hu311 _ (q_pd 38 6 rfl)).trans hn37
  replace hn38 := (hu311 _ (q_pd 39 6 rfl)).trans hn38
  replace hn39 := (hu311 _ (q_pd 40 6 rfl)).trans hn39
  replace hn40 := (hu311 _ (q_pd 41 6 rfl)).trans hn40
  replace hn41 := (hu311 _ (q_pd 42 6 rfl)).trans hn41
  replace hn42 := (hu311 _ (q_pd 43 6 rfl)).trans hn42
  replace hn43 := (hu311 _ (q_pd 44 6 rfl)).trans hn43
  replace hn44 := (hu311 _ (q_pd 45 6 rfl)).trans hn44
  replace hn45 := (hu311 _ (q_pd 46 6 rfl)).trans hn45
  replace hn46 := (hu311 _ (q_pd 47 6 rfl)).trans hn46
  replace hn47 := (hu311 _ (q_pd 48 6 rfl)).trans hn47
  replace hn48 := (hu311 _ (q_pd 49 6 rfl)).trans hn48
  replace hn49 := (hu311 _ (q_pd 50 6 rfl)).trans hn49
  replace hn50 := (hu311 _ (q_pd 51 6 rfl)).trans hn50
  replace hn51 := (hu311 _ (q_pd 52 6 rfl)).trans hn51
  replace hn52 := (hu311 _ (q_pd 53 6 rfl)).trans hn52
  replace hn53 := (hu311 _ (q_pd 54 6 rfl)).trans hn53
  replace hn54 := (hu311 _ (q_pd 55 6 rfl)).trans hn54
  replace hn55 := (hu311 _ (q_pd 56 6 rfl)).trans hn55
  replace hn56 := (hu311 _ (q_pd 57 6 rfl)).trans hn56
  replace hn57 := (hu311 _ (q_pd 58 6 rfl)).trans hn57
  replace hn58 := (hu311 _ (q_pd 59 6 rfl)).trans hn58
  replace hn59 := (hu311 _ (q_pd 60 6 rfl)).trans hn59
  replace hn60 := (hu311 _ (q_pd 61 6 rfl)).trans hn60
  replace hn61 := (hu311 _ (q_pd 62 6 rfl)).trans hn61
  replace hn62 := (hu311 _ (q_pd 63 6 rfl)).trans hn62
  replace hn63 := (hu311 _ (q_pd 64 6 rfl)).trans hn63
  replace hn64 := (hu311 _ (q_pd 65 6 rfl)).trans hn64
  replace hn65 := (hu311 _ (q_pd 66 6 rfl)).trans hn65
  replace hn66 := (hu311 _ (q_pd 67 6 rfl)).trans hn66
  replace hn67 := (hu311 _ (q_pd 68 6 rfl)).trans hn67
  replace hn68 := (hu311 _ (q_pd 69 6 rfl)).trans hn68
  replace hn69 := (hu311 _ (q_pd 70 6 rfl)).trans hn69
  replace hn70 := (hu311 _ (q_pd 71 6 rfl)).trans hn70
  replace hn71 := (hu311 _ (q_pd 72 6 rfl)).trans hn71
  replace hn72 := (hu311 _ (q_pd 73 6 rfl)).trans hn72
  replace hn73 := (hu311 _ (q_pd 74 6 rfl)).trans hn73
  replace hn74 := (hu311 _ (q_pd 75 6 rfl)).trans hn74
  replace hn75 := (hu311 _ (q_pd 76 6 rfl)).trans hn75
  replace hn76 := (hu311 _ (q_pd 77 6 rfl)).trans hn76
  replace hn77 := (hu311 _ (q_pd 78 6 rfl)).trans hn77
  replace hn78 := (hu311 _ (q_pd 79 6 rfl)).trans hn78
  replace hn79 := (hu311 _ (q_pd 80 6 rfl)).trans hn79
  replace hF := q_us hF hu311 (.tail _ (.tail _ (.tail _ (.tail _ (.tail _ (.tail _ (.head _)))))))
  refine lv_iinc (v := 3) (lv' := [(1, .int 3), (0, .ref qO0)]) hx hb d_1_1_248 hl (k := 0) rfl (by decide) (by decide) rfl (fun ls hl => ?_)
  refine lv_goto (tgt := 212) hx hb d_1_1_251 (by decide) ?_
  refine lv_iload_n hx hb d_1_1_212 rfl (lv_at hl 0 rfl) ?_
  refine lv_bipush (v := 10) hx hb d_1_1_213 (by decide) ?_
  refine lv_icmp_ge (tgt := 254) hx hb d_1_1_215 (by decide) (fun c312 => absurd c312 (by decide)) (fun c312 => ?_)
  refine lv_aload_n hx hb d_1_1_218 rfl (lv_at hl 1 rfl) ?_
  refine q_get (ci := 0) (j := 2) (v := .ref q25) C0 V i_NH rfl rfl hO0 (by decide) w_426 rfl d_1_1_219 ?_
  refine lv_iload_n hx hb d_1_1_222 rfl (lv_at hl 0 rfl) ?_
  refine q_new (ci := 2) (fs := [.null, .int 0, .int 0]) C0 V hN i_Big o_Big rfl w_68 w_79 w_4 rfl (fun j hj => by rcases (show j = 0 ∨ j = 1 ∨ j = 2 by omega) with rfl | rfl | rfl <;> rfl) (Nat.le_of_ble_eq_true rfl) (Nat.le_of_ble_eq_true rfl) d_1_1_223 (fun q313 H w314 hu315 hn316 hN V => ?_)
  have hn80 : w314[81]? = some (q313, .inr (2, [.null, .int 0, .int 0])) := hn316
  replace hO0 := (hu315 _ (q_pd 0 81 rfl)).trans hO0
  replace hn0 := (hu315 _ (q_pd 1 81 rfl)).trans hn0
  replace hn1 := (hu315 _ (q_pd 2 81 rfl)).trans hn1
  replace hn2 := (hu315 _ (q_pd 3 81 rfl)).trans hn2
  replace hn3 := (hu315 _ (q_pd 4 81 rfl)).trans hn3
  replace hn4 := (hu315 _ (q_pd 5 81 rfl)).trans hn4
  replace hn5 := (hu315 _ (q_pd 6 81 rfl)).trans hn5
  replace hn6 := (hu315 _ (q_pd 7 81 rfl)).trans hn6
  replace hn7 := (hu315 _ (q_pd 8 81 rfl)).trans hn7
  replace hn8 := (hu315 _ (q_pd 9 81 rfl)).trans hn8
  replace hn9 := (hu315 _ (q_pd 10 81 rfl)).trans hn9
  replace hn10 := (hu315 _ (q_pd 11 81 rfl)).trans hn10
  replace hn11 := (hu315 _ (q_pd 12 81 rfl)).trans hn11
  replace hn12 := (hu315 _ (q_pd 13 81 rfl)).trans hn12
  replace hn13 := (hu315 _ (q_pd 14 81 rfl)).trans hn13
  replace hn14 := (hu315 _ (q_pd 15 81 rfl)).trans hn14
  replace hn15 := (hu315 _ (q_pd 16 81 rfl)).trans hn15
  replace hn16 := (hu315 _ (q_pd 17 81 rfl)).trans hn16
  replace hn17 := (hu315 _ (q_pd 18 81 rfl)).trans hn17
  replace hn18 := (hu315 _ (q_pd 19 81 rfl)).trans hn18
  replace hn19 := (hu315 _ (q_pd 20 81 rfl)).trans hn19
  replace hn20 := (hu315 _ (q_pd 21 81 rfl)).trans hn20
  replace hn21 := (hu315 _ (q_pd 22 81 rfl)).trans hn21
  replace hn22 := (hu315 _ (q_pd 23 81 rfl)).trans hn22
  replace hn23 := (hu315 _ (q_pd 24 81 rfl)).trans hn23
  replace hn24 := (hu315 _ (q_pd 25 81 rfl)).trans hn24
  replace hn25 := (hu315 _ (q_pd 26 81 rfl)).trans hn25
  replace hn26 := (hu315 _ (q_pd 27 81 rfl)).trans hn26
  replace hn27 := (hu315 _ (q_pd 28 81 rfl)).trans hn27
  replace hn28 := (hu315 _ (q_pd 29 81 rfl)).trans hn28
  replace hn29 := (hu315 _ (q_pd 30 81 rfl)).trans hn29
  replace hn30 := (hu315 _ (q_pd 31 81 rfl)).trans hn30
  replace hn31 := (hu315 _ (q_pd 32 81 rfl)).trans hn31
  replace hn32 := (hu315 _ (q_pd 33 81 rfl)).trans hn32
  replace hn33 := (hu315 _ (q_pd 34 81 rfl)).trans hn33
  replace hn34 := (hu315 _ (q_pd 35 81 rfl)).trans hn34
  replace hn35 := (hu315 _ (q_pd 36 81 rfl)).trans hn35
  replace hn36 := (hu315 _ (q_pd 37 81 rfl)).trans hn36
  replace hn37 := (hu315 _ (q_pd 38 81 rfl)).trans hn37
  replace hn38 := (hu315 _ (q_pd 39 81 rfl)).trans hn38
  replace hn39 := (hu315 _ (q_pd 40 81 rfl)).trans hn39
  replace hn40 := (hu315 _ (q_pd 41 81 rfl)).trans hn40
  replace hn41 := (hu315 _ (q_pd 42 81 rfl)).trans hn41
  replace hn42 := (hu315 _ (q_pd 43 81 rfl)).trans hn42
  replace hn43 := (hu315 _ (q_pd 44 81 rfl)).trans hn43
  replace hn44 := (hu315 _ (q_pd 45 81 rfl)).trans hn44
  replace hn45 := (hu315 _ (q_pd 46 81 rfl)).trans hn45
  replace hn46 := (hu315 _ (q_pd 47 81 rfl)).trans hn46
  replace hn47 := (hu315 _ (q_pd 48 81 rfl)).trans hn47
  replace hn48 := (hu315 _ (q_pd 49 81 rfl)).trans hn48
  replace hn49 := (hu315 _ (q_pd 50 81 rfl)).trans hn49
  replace hn50 := (hu315 _ (q_pd 51 81 rfl)).trans hn50
  replace hn51 := (hu315 _ (q_pd 52 81 rfl)).trans hn51
  replace hn52 := (hu315 _ (q_pd 53 81 rfl)).trans hn52
  replace hn53 := (hu315 _ (q_pd 54 81 rfl)).trans hn53
  replace hn54 := (hu315 _ (q_pd 55 81 rfl)).trans hn54
  replace hn55 := (hu315 _ (q_pd 56 81 rfl)).trans hn55
  replace hn56 := (hu315 _ (q_pd 57 81 rfl)).trans hn56
  replace hn57 := (hu315 _ (q_pd 58 81 rfl)).trans hn57
  replace hn58 := (hu315 _ (q_pd 59 81 rfl)).trans hn58
  replace hn59 := (hu315 _ (q_pd 60 81 rfl)).trans hn59
  replace hn60 := (hu315 _ (q_pd 61 81 rfl)).trans hn60
  replace hn61 := (hu315 _ (q_pd 62 81 rfl)).trans hn61
  replace hn62 := (hu315 _ (q_pd 63 81 rfl)).trans hn62
  replace hn63 := (hu315 _ (q_pd 64 81 rfl)).trans hn63
  replace hn64 := (hu315 _ (q_pd 65 81 rfl)).trans hn64
  replace hn65 := (hu315 _ (q_pd 66 81 rfl)).trans hn65
  replace hn66 := (hu315 _ (q_pd 67 81 rfl)).trans hn66
  replace hn67 := (hu315 _ (q_pd 68 81 rfl)).trans hn67
  replace hn68 := (hu315 _ (q_pd 69 81 rfl)).trans hn68
  replace hn69 := (hu315 _ (q_pd 70 81 rfl)).trans hn69
  replace hn70 := (hu315 _ (q_pd 71 81 rfl)).trans hn70
  replace hn71 := (hu315 _ (q_pd 72 81 rfl)).trans hn71
  replace hn72 := (hu315 _ (q_pd 73 81 rfl)).trans hn72
  replace hn73 := (hu315 _ (q_pd 74 81 rfl)).trans hn73
  replace hn74 := (hu315 _ (q_pd 75 81 rfl)).trans hn74
  replace hn75 := (hu315 _ (q_pd 76 81 rfl)).trans hn75
  replace hn76 := (hu315 _ (q_pd 77 81 rfl)).trans hn76
  replace hn77 := (hu315 _ (q_pd 78 81 rfl)).trans hn77
  replace hn78 := (hu315 _ (q_pd 79 81 rfl)).trans hn78
  replace hn79 := (hu315 _ (q_pd 80 81 rfl)).trans hn79
  replace hF := q_us hF hu315 (.tail _ (.tail _ (.tail _ (.tail _ (.tail _ (.tail _ (.tail _ (.tail _ (.tail _ (.tail _ (.tail _ (.tail _ (.tail _ (.tail _ (.tail _ (.tail _ (.tail _ (.tail _ (.tail _ (.tail _ (.tail _ (.tail _ (.tail _ (.tail _ (.tail _ (.tail _ (.tail _ (.tail _ (.tail _ (.tail _ (.tail _ (.tail _ (.tail _ (.tail _ (.tail _ (.tail _ (.tail _ (.tail _ (.tail _ (.tail _ (.tail _ (.tail _ (.tail _ (.tail _ (.tail _ (.tail _ (.tail _ (.tail _ (.tail _ (.tail _ (.tail _ (.tail _ (.tail _ (.tail _ (.tail _ (.tail _ (.tail _ (.tail _ (.tail _ (.tail _ (.tail _ (.tail _ (.tail _ (.tail _ (.tail _ (.tail _ (.tail _ (.tail _ (.tail _ (.tail _ (.tail _ (.tail _ (.tail _ (.tail _ (.tail _ (.tail _ (.tail _ (.tail _ (.tail _ (.tail _ (.tail _ (.head _))))))))))))))))))))))))))))))))))))))))))))))))))))))))))))))))))))))))))))))))))
  replace hN : w314.length = 82 := hN
  refine lv_dup hx hb d_1_1_226 rfl ?_
  refine lv_bipush (v := 68) hx hb d_1_1_227 (by decide) ?_
  refine q_gov V (q_runI (As := [.int 68]) (rest := [.ref q313, .int 3, .ref q25]) (d := 2) (mc := 1) (ms := 68) C0 V rfl LI_NH_102 (c_Big_init l D g w314 81 q313 82 hN hn80 _) rfl hl.1 rfl (Nat.le_of_ble_eq_true rfl) ⟨by decide, by decide⟩ ⟨Nat.le_of_ble_eq_true rfl, Nat.le_of_ble_eq_true rfl⟩ d_1_1_229) (fun u318 H locs hp317 V => ?_)
  obtain ⟨q319, hg320, hn80, hq321, hN⟩ := hp317
  replace hO0 := (hg320 _ (q_nc (q_pd 0 81 rfl) (q_nc (q_pd 0 82 rfl) List.not_mem_nil))).trans hO0
  replace hn0 := (hg320 _ (q_nc (q_pd 1 81 rfl) (q_nc (q_pd 1 82 rfl) List.not_mem_nil))).trans hn0
  replace hn1 := (hg320 _ (q_nc (q_pd 2 81 rfl) (q_nc (q_pd 2 82 rfl) List.not_mem_nil))).trans hn1
  replace hn2 := (hg320 _ (q_nc (q_pd 3 81 rfl) (q_nc (q_pd 3 82 rfl) List.not_mem_nil))).trans hn2
  replace hn3 := (hg320 _ (q_nc (q_pd 4 81 rfl) (q_nc (q_pd 4 82 rfl) List.not_mem_nil))).trans hn3
  replace hn4 := (hg320 _ (q_nc (q_pd 5 81 rfl) (q_nc (q_pd 5 82 rfl) List.not_mem_nil))).trans hn4
  replace hn5 := (hg320 _ (q_nc (q_pd 6 81 rfl) (q_nc (q_pd 6 82 rfl) List.not_mem_nil))).trans hn5
  replace hn6 := (hg320 _ (q_nc (q_pd 7 81 rfl) (q_nc (q_pd 7 82 rfl) List.not_mem_nil))).trans hn6
  replace hn7 := (hg320 _ (q_nc (q_pd 8 81 rfl) (q_nc (q_pd 8 82 rfl) List.not_mem_nil))).trans hn7
  replace hn8 := (hg320 _ (q_nc (q_pd 9 81 rfl) (q_nc (q_pd 9 82 rfl) List.not_mem_nil))).trans hn8
  replace hn9 := (hg320 _ (q_nc (q_pd 10 81 rfl) (q_nc (q_pd 10 82 rfl) List.not_mem_nil))).trans hn9
  replace hn10 := (hg320 _ (q_nc (q_pd 11 81 rfl) (q_nc (q_pd 11 82 rfl) List.not_mem_nil))).trans hn10
  replace hn11 := (hg320 _ (q_nc (q_pd 12 81 rfl) (q_nc (q_pd 12 82 rfl) List.not_mem_nil))).trans hn11
  replace hn12 := (hg320 _ (q_nc (q_pd 13 81 rfl) (q_nc (q_pd 13 82 rfl) List.not_mem_nil))).trans hn12
  replace hn13 := (hg320 _ (q_nc (q_pd 14 81 rfl) (q_nc (q_pd 14 82 rfl) List.not_mem_nil))).trans hn13
  replace hn14 := (hg320 _ (q_nc (q_pd 15 81 rfl) (q_nc (q_pd 15 82 rfl) List.not_mem_nil))).trans hn14
  replace hn15 := (hg320 _ (q_nc (q_pd 16 81 rfl) (q_nc (q_pd 16 82 rfl) List.not_mem_nil))).trans hn15
  replace hn16 := (hg320 _ (q_nc (q_pd 17 81 rfl) (q_nc (q_pd 17 82 rfl) List.not_mem_nil))).trans hn16
  replace hn17 := (hg320 _ (q_nc (q_pd 18 81 rfl) (q_nc (q_pd 18 82 rfl) List.not_mem_nil))).trans hn17
  replace hn18 := (hg320 _ (q_nc (q_pd 19 81 rfl) (q_nc (q_pd 19 82 rfl) List.not_mem_nil))).trans hn18
  replace hn19 := (hg320 _ (q_nc (q_pd 20 81 rfl) (q_nc (q_pd 20 82 rfl) List.not_mem_nil))).trans hn19
  replace hn20 := (hg320 _ (q_nc (q_pd 21 81 rfl) (q_nc (q_pd 21 82 rfl) List.not_mem_nil))).trans hn20
  replace hn21 := (hg320 _ (q_nc (q_pd 22 81 rfl) (q_nc (q_pd 22 82 rfl) List.not_mem_nil))).trans hn21
  replace hn22 := (hg320 _ (q_nc (q_pd 23 81 rfl) (q_nc (q_pd 23 82 rfl) List.not_mem_nil))).trans hn22
  replace hn23 := (hg320 _ (q_nc (q_pd 24 81 rfl) (q_nc (q_pd 24 82 rfl) List.not_mem_nil))).trans hn23
  replace hn24 := (hg320 _ (q_nc (q_pd 25 81 rfl) (q_nc (q_pd 25 82 rfl) List.not_mem_nil))).trans hn24
  replace hn25 := (hg320 _ (q_nc (q_pd 26 81 rfl) (q_nc (q_pd 26 82 rfl) List.not_mem_nil))).trans hn25
  replace hn26 := (hg320 _ (q_nc (q_pd 27 81 rfl) (q_nc (q_pd 27 82 rfl) List.not_mem_nil))).trans hn26
  replace hn27 := (hg320 _ (q_nc (q_pd 28 81 rfl) (q_nc (q_pd 28 82 rfl) List.not_mem_nil))).trans hn27
  replace hn28 := (hg320 _ (q_nc (q_pd 29 81 rfl) (q_nc (q_pd 29 82 rfl) List.not_mem_nil))).trans hn28
  replace hn29 := (hg320 _ (q_nc (q_pd 30 81 rfl) (q_nc (q_pd 30 82 rfl) List.not_mem_nil))).trans hn29
  replace hn30 := (hg320 _ (q_nc (q_pd 31 81 rfl) (q_nc (q_pd 31 82 rfl) List.not_mem_nil))).trans hn30
  replace hn31 := (hg320 _ (q_nc (q_pd 32 81 rfl) (q_nc (q_pd 32 82 rfl) List.not_mem_nil))).trans hn31
  replace hn32 := (hg320 _ (q_nc (q_pd 33 81 rfl) (q_nc (q_pd 33 82 rfl) List.not_mem_nil))).trans hn32
  replace hn33 := (hg320 _ (q_nc (q_pd 34 81 rfl) (q_nc (q_pd 34 82 rfl) List.not_mem_nil))).trans hn33
  replace hn34 := (hg320 _ (q_nc (q_pd 35 81 rfl) (q_nc (q_pd 35 82 rfl) List.not_mem_nil))).trans hn34
  replace hn35 := (hg320 _ (q_nc (q_pd 36 81 rfl) (q_nc (q_pd 36 82 rfl) List.not_mem_nil))).trans hn35
  replace hn36 := (hg320 _ (q_nc (q_pd 37 81 rfl) (q_nc (q_pd 37 82 rfl) List.not_mem_nil))).trans hn36
  replace hn37 := (hg320 _ (q_nc (q_pd 38 81 rfl) (q_nc (q_pd 38 82 rfl) List.not_mem_nil))).trans hn37
  replace hn38 := (hg320 _ (q_nc (q_pd 39 81 rfl) (q_nc (q_pd 39 82 rfl) List.not_mem_nil))).trans hn38
  replace hn39 := (hg320 _ (q_nc (q_pd 40 81 rfl) (q_nc (q_pd 40 82 rfl) List.not_mem_nil))).trans hn39
  replace hn40 := (hg320 _ (q_nc (q_pd 41 81 rfl) (q_nc (q_pd 41 82 rfl) List.not_mem_nil))).trans hn40
  replace hn41 := (hg320 _ (q_nc (q_pd 42 81 rfl) (q_nc (q_pd 42 82 rfl) List.not_mem_nil))).trans hn41
  replace hn42 := (hg320 _ (q_nc (q_pd 43 81 rfl) (q_nc (q_pd 43 82 rfl) List.not_mem_nil))).trans hn42
  replace hn43 := (hg320 _ (q_nc (q_pd 44 81 rfl) (q_nc (q_pd 44 82 rfl) List.not_mem_nil))).trans hn43
  replace hn44 := (hg320 _ (q_nc (q_pd 45 81 rfl) (q_nc (q_pd 45 82 rfl) List.not_mem_nil))).trans hn44
  replace hn45 := (hg320 _ (q_nc (q_pd 46 81 rfl) (q_nc (q_pd 46 82 rfl) List.not_mem_nil))).trans hn45
  replace hn46 := (hg320 _ (q_nc (q_pd 47 81 rfl) (q_nc (q_pd 47 82 rfl) List.not_mem_nil))).trans hn46
  replace hn47 := (hg320 _ (q_nc (q_pd 48 81 rfl) (q_nc (q_pd 48 82 rfl) List.not_mem_nil))).trans hn47
  replace hn48 := (hg320 _ (q_nc (q_pd 49 81 rfl) (q_nc (q_pd 49 82 rfl) List.not_mem_nil))).trans hn48
  replace hn49 := (hg320 _ (q_nc (q_pd 50 81 rfl) (q_nc (q_pd 50 82 rfl) List.not_mem_nil))).trans hn49
  replace hn50 := (hg320 _ (q_nc (q_pd 51 81 rfl) (q_nc (q_pd 51 82 rfl) List.not_mem_nil))).trans hn50
  replace hn51 := (hg320 _ (q_nc (q_pd 52 81 rfl) (q_nc (q_pd 52 82 rfl) List.not_mem_nil))).trans hn51
  replace hn52 := (hg320 _ (q_nc (q_pd 53 81 rfl) (q_nc (q_pd 53 82 rfl) List.not_mem_nil))).trans hn52
  replace hn53 := (hg320 _ (q_nc (q_pd 54 81 rfl) (q_nc (q_pd 54 82 rfl) List.not_mem_nil))).trans hn53
  replace hn54 := (hg320 _ (q_nc (q_pd 55 81 rfl) (q_nc (q_pd 55 82 rfl) List.not_mem_nil))).trans hn54
  replace hn55 := (hg320 _ (q_nc (q_pd 56 81 rfl) (q_nc (q_pd 56 82 rfl) List.not_mem_nil))).trans hn55
  replace hn56 := (hg320 _ (q_nc (q_pd 57 81 rfl) (q_nc (q_pd 57 82 rfl) List.not_mem_nil))).trans hn56
  replace hn57 := (hg320 _ (q_nc (q_pd 58 81 rfl) (q_nc (q_pd 58 82 rfl) List.not_mem_nil))).trans hn57
  replace hn58 := (hg320 _ (q_nc (q_pd 59 81 rfl) (q_nc (q_pd 59 82 rfl) List.not_mem_nil))).trans hn58
  replace hn59 := (hg320 _ (q_nc (q_pd 60 81 rfl) (q_nc (q_pd 60 82 rfl) List.not_mem_nil))).trans hn59
  replace hn60 := (hg320 _ (q_nc (q_pd 61 81 rfl) (q_nc (q_pd 61 82 rfl) List.not_mem_nil))).trans hn60
  replace hn61 := (hg320 _ (q_nc (q_pd 62 81 rfl) (q_nc (q_pd 62 82 rfl) List.not_mem_nil))).trans hn61
  replace hn62 := (hg320 _ (q_nc (q_pd 63 81 rfl) (q_nc (q_pd 63 82 rfl) List.not_mem_nil))).trans hn62
  replace hn63 := (hg320 _ (q_nc (q_pd 64 81 rfl) (q_nc (q_pd 64 82 rfl) List.not_mem_nil))).trans hn63
  replace hn64 := (hg320 _ (q_nc (q_pd 65 81 rfl) (q_nc (q_pd 65 82 rfl) List.not_mem_nil))).trans hn64
  replace hn65 := (hg320 _ (q_nc (q_pd 66 81 rfl) (q_nc (q_pd 66 82 rfl) List.not_mem_nil))).trans hn65
  replace hn66 := (hg320 _ (q_nc (q_pd 67 81 rfl) (q_nc (q_pd 67 82 rfl) List.not_mem_nil))).trans hn66
  replace hn67 := (hg320 _ (q_nc (q_pd 68 81 rfl) (q_nc (q_pd 68 82 rfl) List.not_mem_nil))).trans hn67
  replace hn68 := (hg320 _ (q_nc (q_pd 69 81 rfl) (q_nc (q_pd 69 82 rfl) List.not_mem_nil))).trans hn68
  replace hn69 := (hg320 _ (q_nc (q_pd 70 81 rfl) (q_nc (q_pd 70 82 rfl) List.not_mem_nil))).trans hn69
  replace hn70 := (hg320 _ (q_nc (q_pd 71 81 rfl) (q_nc (q_pd 71 82 rfl) List.not_mem_nil))).trans hn70
  replace hn71 := (hg320 _ (q_nc (q_pd 72 81 rfl) (q_nc (q_pd 72 82 rfl) List.not_mem_nil))).trans hn71
  replace hn72 := (hg320 _ (q_nc (q_pd 73 81 rfl) (q_nc (q_pd 73 82 rfl) List.not_mem_nil))).trans hn72
  replace hn73 := (hg320 _ (q_nc (q_pd 74 81 rfl) (q_nc (q_pd 74 82 rfl) List.not_mem_nil))).trans hn73
  replace hn74 := (hg320 _ (q_nc (q_pd 75 81 rfl) (q_nc (q_pd 75 82 rfl) List.not_mem_nil))).trans hn74
  replace hn75 := (hg320 _ (q_nc (q_pd 76 81 rfl) (q_nc (q_pd 76 82 rfl) List.not_mem_nil))).trans hn75
  replace hn76 := (hg320 _ (q_nc (q_pd 77 81 rfl) (q_nc (q_pd 77 82 rfl) List.not_mem_nil))).trans hn76
  replace hn77 := (hg320 _ (q_nc (q_pd 78 81 rfl) (q_nc (q_pd 78 82 rfl) List.not_mem_nil))).trans hn77
  replace hn78 := (hg320 _ (q_nc (q_pd 79 81 rfl) (q_nc (q_pd 79 82 rfl) List.not_mem_nil))).trans hn78
  replace hn79 := (hg320 _ (q_nc (q_pd 80 81 rfl) (q_nc (q_pd 80 82 rfl) List.not_mem_nil))).trans hn79
  replace hF := q_uc hF hg320 (q_sc (.tail _ (.tail _ (.tail _ (.tail _ (.tail _ (.tail _ (.tail _ (.tail _ (.tail _ (.tail _ (.tail _ (.tail _ (.tail _ (.tail _ (.tail _ (.tail _ (.tail _ (.tail _ (.tail _ (.tail _ (.tail _ (.tail _ (.tail _ (.tail _ (.tail _ (.tail _ (.tail _ (.tail _ (.tail _ (.tail _ (.tail _ (.tail _ (.tail _ (.tail _ (.tail _ (.tail _ (.tail _ (.tail _ (.tail _ (.tail _ (.tail _ (.tail _ (.tail _ (.tail _ (.tail _ (.tail _ (.tail _ (.tail _ (.tail _ (.tail _ (.tail _ (.tail _ (.tail _ (.tail _ (.tail _ (.tail _ (.tail _ (.tail _ (.tail _ (.tail _ (.tail _ (.tail _ (.tail _ (.tail _ (.tail _ (.tail _ (.tail _ (.tail _ (.tail _ (.tail _ (.tail _ (.tail _ (.tail _ (.tail _ (.tail _ (.tail _ (.tail _ (.tail _ (.tail _ (.tail _ (.tail _ (.head _)))))))))))))))))))))))))))))))))))))))))))))))))))))))))))))))))))))))))))))))))) (q_sc (.tail _ (.tail _ (.tail _ (.tail _ (.tail _ (.tail _ (.tail _ (.tail _ (.tail _ (.tail _ (.tail _ (.tail _ (.tail _ (.tail _ (.tail _ (.tail _ (.tail _ (.tail _ (.tail _ (.tail _ (.tail _ (.tail _ (.tail _ (.tail _ (.tail _ (.tail _ (.tail _ (.tail _ (.tail _ (.tail _ (.tail _ (.tail _ (.tail _ (.tail _ (.tail _ (.tail _ (.tail _ (.tail _ (.tail _ (.tail _ (.tail _ (.tail _ (.tail _ (.tail _ (.tail _ (.tail _ (.tail _ (.tail _ (.tail _ (.tail _ (.tail _ (.tail _ (.tail _ (.tail _ (.tail _ (.tail _ (.tail _ (.tail _ (.tail _ (.tail _ (.tail _ (.tail _ (.tail _ (.tail _ (.tail _ (.tail _ (.tail _ (.tail _ (.tail _ (.tail _ (.tail _ (.tail _ (.tail _ (.tail _ (.tail _ (.tail _ (.tail _ (.tail _ (.tail _ (.tail _ (.tail _ (.tail _ (.head _))))))))))))))))))))))))))))))))))))))))))))))))))))))))))))))))))))))))))))))))))) (fun _ h => absurd h List.not_mem_nil)))
  have hn81 : u318[82]? = some (q319, .inl (g 0, 68, .inl (fun _ => 0))) := hq321
  replace hN : u318.length = 83 := hN
  have ho322 := hn4
  refine q_aast (t := 4) (ci := 2) (i9 := 3) C0 V hn4 rfl hn80 rfl (by decide) (by decide) d_1_1_232 (fun H locs w323 hu324 hn4 V => ?_)
  replace hn4 : w323[5]? = some (q25, .inl (g 4, 10, .inr (.inr (.inr (.inr (va_up (va_up (va_up (va_up (fun _ => none) 0 (some q232)) 1 (some q259)) 2 (some q286)) 3 (some q313))))))) := hn4
  replace hN : w323.length = 83 := (q_len1 hu324 hn4 ho322).trans hN
  replace hO0 := (hu324 _ (q_pd 0 5 rfl)).trans hO0
  replace hn0 := (hu324 _ (q_pd 1 5 rfl)).trans hn0
  replace hn1 := (hu324 _ (q_pd 2 5 rfl)).trans hn1
  replace hn2 := (hu324 _ (q_pd 3 5 rfl)).trans hn2
  replace hn3 := (hu324 _ (q_pd 4 5 rfl)).trans hn3
  replace hn5 := (hu324 _ (q_pd 6 5 rfl)).trans hn5
  replace hn6 := (hu324 _ (q_pd 7 5 rfl)).trans hn6
  replace hn7 := (hu324 _ (q_pd 8 5 rfl)).trans hn7
  replace hn8 := (hu324 _ (q_pd 9 5 rfl)).trans hn8
  replace hn9 := (hu324 _ (q_pd 10 5 rfl)).trans hn9
  replace hn10 := (hu324 _ (q_pd 11 5 rfl)).trans hn10
  replace hn11 := (hu324 _ (q_pd 12 5 rfl)).trans hn11
  replace hn12 := (hu324 _ (q_pd 13 5 rfl)).trans hn12
  replace hn13 := (hu324 _ (q_pd 14 5 rfl)).trans hn13
  replace hn14 := (hu324 _ (q_pd 15 5 rfl)).trans hn14
  replace hn15 := (hu324 _ (q_pd 16 5 rfl)).trans hn15
  replace hn16 := (hu324 _ (q_pd 17 5 rfl)).trans hn16
  replace hn17 := (hu324 _ (q_pd 18 5 rfl)).trans hn17
  replace hn18 := (hu324 _ (q_pd 19 5 rfl)).trans hn18
  replace hn19 := (hu324 _ (q_pd 20 5 rfl)).trans hn19
  replace hn20 := (hu324 _ (q_pd 21 5 rfl)).trans hn20
  replace hn21 := (hu324 _ (q_pd 22 5 rfl)).trans hn21
  replace hn22 := (hu324 _ (q_pd 23 5 rfl)).trans hn22
  replace hn23 := (hu324 _ (q_pd 24 5 rfl)).trans hn23
  replace hn24 := (hu324 _ (q_pd 25 5 rfl)).trans hn24
  replace hn25 := (hu324 _ (q_pd 26 5 rfl)).trans hn25
  replace hn26 := (hu324 _ (q_pd 27 5 rfl)).trans hn26
  replace hn27 := (hu324 _ (q_pd 28 5 rfl)).trans hn27
  replace hn28 := (hu324 _ (q_pd 29 5 rfl)).trans hn28
  replace hn29 := (hu324 _ (q_pd 30 5 rfl)).trans hn29
  replace hn30 := (hu324 _ (q_pd 31 5 rfl)).trans hn30
  replace hn31 := (hu324 _ (q_pd 32 5 rfl)).trans hn31
  replace hn32 := (hu324 _ (q_pd 33 5 rfl)).trans hn32
  replace hn33 := (hu324 _ (q_pd 34 5 rfl)).trans hn33
  replace hn34 := (hu324 _ (q_pd 35 5 rfl)).trans hn34
  replace hn35 := (hu324 _ (q_pd 36 5 rfl)).trans hn35
  replace hn36 := (hu324 _ (q_pd 37 5 rfl)).trans hn36
  replace hn37 := (hu324 _ (q_pd 38 5 rfl)).trans hn37
  replace hn38 := (hu324 _ (q_pd 39 5 rfl)).trans hn38
  replace hn39 := (hu324 _ (q_pd 40 5 rfl)).trans hn39
  replace hn40 := (hu324 _ (q_pd 41 5 rfl)).trans hn40
  replace hn41 := (hu324 _ (q_pd 42 5 rfl)).trans hn41
  replace hn42 := (hu324 _ (q_pd 43 5 rfl)).trans hn42
  replace hn43 := (hu324 _ (q_pd 44 5 rfl)).trans hn43
  replace hn44 := (hu324 _ (q_pd 45 5 rfl)).trans hn44
  replace hn45 := (hu324 _ (q_pd 46 5 rfl)).trans hn45
  replace hn46 := (hu324 _ (q_pd 47 5 rfl)).trans hn46
  replace hn47 := (hu324 _ (q_pd 48 5 rfl)).trans hn47
  replace hn48 := (hu324 _ (q_pd 49 5 rfl)).trans hn48
  replace hn49 := (hu324 _ (q_pd 50 5 rfl)).trans hn49
  replace hn50 := (hu324 _ (q_pd 51 5 rfl)).trans hn50
  replace hn51 := (hu324 _ (q_pd 52 5 rfl)).trans hn51
  replace hn52 := (hu324 _ (q_pd 53 5 rfl)).trans hn52
  replace hn53 := (hu324 _ (q_pd 54 5 rfl)).trans hn53
  replace hn54 := (hu324 _ (q_pd 55 5 rfl)).trans hn54
  replace hn55 := (hu324 _ (q_pd 56 5 rfl)).trans hn55
  replace hn56 := (hu324 _ (q_pd 57 5 rfl)).trans hn56
  replace hn57 := (hu324 _ (q_pd 58 5 rfl)).trans hn57
  replace hn58 := (hu324 _ (q_pd 59 5 rfl)).trans hn58
  replace hn59 := (hu324 _ (q_pd 60 5 rfl)).trans hn59
  replace hn60 := (hu324 _ (q_pd 61 5 rfl)).trans hn60
  replace hn61 := (hu324 _ (q_pd 62 5 rfl)).trans hn61
  replace hn62 := (hu324 _ (q_pd 63 5 rfl)).trans hn62
  replace hn63 := (hu324 _ (q_pd 64 5 rfl)).trans hn63
  replace hn64 := (hu324 _ (q_pd 65 5 rfl)).trans hn64
  replace hn65 := (hu324 _ (q_pd 66 5 rfl)).trans hn65
  replace hn66 := (hu324 _ (q_pd 67 5 rfl)).trans hn66
  replace hn67 := (hu324 _ (q_pd 68 5 rfl)).trans hn67
  replace hn68 := (hu324 _ (q_pd 69 5 rfl)).trans hn68
  replace hn69 := (hu324 _ (q_pd 70 5 rfl)).trans hn69
  replace hn70 := (hu324 _ (q_pd 71 5 rfl)).trans hn70
  replace hn71 := (hu324 _ (q_pd 72 5 rfl)).trans hn71
  replace hn72 := (hu324 _ (q_pd 73 5 rfl)).trans hn72
  replace hn73 := (hu324 _ (q_pd 74 5 rfl)).trans hn73
  replace hn74 := (hu324 _ (q_pd 75 5 rfl)).trans hn74
  replace hn75 := (hu324 _ (q_pd 76 5 rfl)).trans hn75
  replace hn76 := (hu324 _ (q_pd 77 5 rfl)).trans hn76
  replace hn77 := (hu324 _ (q_pd 78 5 rfl)).trans hn77
  replace hn78 := (hu324 _ (q_pd 79 5 rfl)).trans hn78
  replace hn79 := (hu324 _ (q_pd 80 5 rfl)).trans hn79
  replace hn80 := (hu324 _ (q_pd 81 5 rfl)).trans hn80
  replace hn81 := (hu324 _ (q_pd 82 5 rfl)).trans hn81
  replace hF := q_us hF hu324 (.tail _ (.tail _ (.tail _ (.tail _ (.tail _ (.head _))))))
  refine lv_aload_n hx hb d_1_1_233 rfl (lv_at hl 1 rfl) ?_
  refine q_get (ci := 0) (j := 3) (v := .ref q32) C0 V i_NH rfl rfl hO0 (by decide) w_427 rfl d_1_1_234 ?_
  refine lv_iload_n hx hb d_1_1_237 rfl (lv_at hl 0 rfl) ?_
  refine q_new (ci := 3) (fs := [.null, .int 0, .int 0]) C0 V hN i_Dec o_Dec rfl w_70 w_163 w_6 rfl (fun j hj => by rcases (show j = 0 ∨ j = 1 ∨ j = 2 by omega) with rfl | rfl | rfl <;> rfl) (Nat.le_of_ble_eq_true rfl) (Nat.le_of_ble_eq_true rfl) d_1_1_238 (fun q325 H w326 hu327 hn328 hN V => ?_)
  have hn82 : w326[83]? = some (q325, .inr (3, [.null, .int 0, .int 0])) := hn328
  replace hO0 := (hu327 _ (q_pd 0 83 rfl)).trans hO0
  replace hn0 := (hu327 _ (q_pd 1 83 rfl)).trans hn0
  replace hn1 := (hu327 _ (q_pd 2 83 rfl)).trans hn1
  replace hn2 := (hu327 _ (q_pd 3 83 rfl)).trans hn2
  replace hn3 := (hu327 _ (q_pd 4 83 rfl)).trans hn3
  replace hn4 := (hu327 _ (q_pd 5 83 rfl)).trans hn4
  replace hn5 := (hu327 _ (q_pd 6 83 rfl)).trans hn5
  replace hn6 := (hu327 _ (q_pd 7 83 rfl)).trans hn6
  replace hn7 := (hu327 _ (q_pd 8 83 rfl)).trans hn7
  replace hn8 := (hu327 _ (q_pd 9 83 rfl)).trans hn8
  replace hn9 := (hu327 _ (q_pd 10 83 rfl)).trans hn9
  replace hn10 := (hu327 _ (q_pd 11 83 rfl)).trans hn10
  replace hn11 := (hu327 _ (q_pd 12 83 rfl)).trans hn11
  replace hn12 := (hu327 _ (q_pd 13 83 rfl)).trans hn12
  replace hn13 := (hu327 _ (q_pd 14 83 rfl)).trans hn13
  replace hn14 := (hu327 _ (q_pd 15 83 rfl)).trans hn14
  replace hn15 := (hu327 _ (q_pd 16 83 rfl)).trans hn15
  replace hn16 := (hu327 _ (q_pd 17 83 rfl)).trans hn16
  replace hn17 := (hu327 _ (q_pd 18 83 rfl)).trans hn17
  replace hn18 := (hu327 _ (q_pd 19 83 rfl)).trans hn18
  replace hn19 := (hu327 _ (q_pd 20 83 rfl)).trans hn19
  replace hn20 := (hu327 _ (q_pd 21 83 rfl)).trans hn20
  replace hn21 := (hu327 _ (q_pd 22 83 rfl)).trans hn21
  replace hn22 := (hu327 _ (q_pd 23 83 rfl)).trans hn22
  replace hn23 := (hu327 _ (q_pd 24 83 rfl)).trans hn23
  replace hn24 := (hu327 _ (q_pd 25 83 rfl)).trans hn24
  replace hn25 := (hu327 _ (q_pd 26 83 rfl)).trans hn25
  replace hn26 := (hu327 _ (q_pd 27 83 rfl)).trans hn26
  replace hn27 := (hu327 _ (q_pd 28 83 rfl)).trans hn27
  replace hn28 := (hu327 _ (q_pd 29 83 rfl)).trans hn28
  replace hn29 := (hu327 _ (q_pd 30 83 rfl)).trans hn29
  replace hn30 := (hu327 _ (q_pd 31 83 rfl)).trans hn30
  replace hn31 := (hu327 _ (q_pd 32 83 rfl)).trans hn31
  replace hn32 := (hu327 _ (q_pd 33 83 rfl)).trans hn32
  replace hn33 := (hu327 _ (q_pd 34 83 rfl)).trans hn33
  replace hn34 := (hu327 _ (q_pd 35 83 rfl)).trans hn34
  replace hn35 := (hu327 _ (q_pd 36 83 rfl)).trans hn35
  replace hn36 := (hu327 _ (q_pd 37 83 rfl)).trans hn36
  replace hn37 := (hu327 _ (q_pd 38 83 rfl)).trans hn37
  replace hn38 := (hu327 _ (q_pd 39 83 rfl)).trans hn38
  replace hn39 := (hu327 _ (q_pd 40 83 rfl)).trans hn39
  replace hn40 := (hu327 _ (q_pd 41 83 rfl)).trans hn40
  replace hn41 := (hu327 _ (q_pd 42 83 rfl)).trans hn41
  replace hn42 := (hu327 _ (q_pd 43 83 rfl)).trans hn42
  replace hn43 := (hu327 _ (q_pd 44 83 rfl)).trans hn43
  replace hn44 := (hu327 _ (q_pd 45 83 rfl)).trans hn44
  replace hn45 := (hu327 _ (q_pd 46 83 rfl)).trans hn45
  replace hn46 := (hu327 _ (q_pd 47 83 rfl)).trans hn46
  replace hn47 := (hu327 _ (q_pd 48 83 rfl)).trans hn47
  replace hn48 := (hu327 _ (q_pd 49 83 rfl)).trans hn48
  replace hn49 := (hu327 _ (q_pd 50 83 rfl)).trans hn49
  replace hn50 := (hu327 _ (q_pd 51 83 rfl)).trans hn50
  replace hn51 := (hu327 _ (q_pd 52 83 rfl)).trans hn51
  replace hn52 := (hu327 _ (q_pd 53 83 rfl)).trans hn52
  replace hn53 := (hu327 _ (q_pd 54 83 rfl)).trans hn53
  replace hn54 := (hu327 _ (q_pd 55 83 rfl)).trans hn54
  replace hn55 := (hu327 _ (q_pd 56 83 rfl)).trans hn55
  replace hn56 := (hu327 _ (q_pd 57 83 rfl)).trans hn56
  replace hn57 := (hu327 _ (q_pd 58 83 rfl)).trans hn57
  replace hn58 := (hu327 _ (q_pd 59 83 rfl)).trans hn58
  replace hn59 := (hu327 _ (q_pd 60 83 rfl)).trans hn59
  replace hn60 := (hu327 _ (q_pd 61 83 rfl)).trans hn60
  replace hn61 := (hu327 _ (q_pd 62 83 rfl)).trans hn61
  replace hn62 := (hu327 _ (q_pd 63 83 rfl)).trans hn62
  replace hn63 := (hu327 _ (q_pd 64 83 rfl)).trans hn63
  replace hn64 := (hu327 _ (q_pd 65 83 rfl)).trans hn64
  replace hn65 := (hu327 _ (q_pd 66 83 rfl)).trans hn65
  replace hn66 := (hu327 _ (q_pd 67 83 rfl)).trans hn66
  replace hn67 := (hu327 _ (q_pd 68 83 rfl)).trans hn67
  replace hn68 := (hu327 _ (q_pd 69 83 rfl)).trans hn68
  replace hn69 := (hu327 _ (q_pd 70 83 rfl)).trans hn69
  replace hn70 := (hu327 _ (q_pd 71 83 rfl)).trans hn70
  replace hn71 := (hu327 _ (q_pd 72 83 rfl)).trans hn71
  replace hn72 := (hu327 _ (q_pd 73 83 rfl)).trans hn72
  replace hn73 := (hu327 _ (q_pd 74 83 rfl)).trans hn73
  replace hn74 := (hu327 _ (q_pd 75 83 rfl)).trans hn74
  replace hn75 := (hu327 _ (q_pd 76 83 rfl)).trans hn75
  replace hn76 := (hu327 _ (q_pd 77 83 rfl)).trans hn76
  replace hn77 := (hu327 _ (q_pd 78 83 rfl)).trans hn77
  replace hn78 := (hu327 _ (q_pd 79 83 rfl)).trans hn78
  replace hn79 := (hu327 _ (q_pd 80 83 rfl)).trans hn79
  replace hn80 := (hu327 _ (q_pd 81 83 rfl)).trans hn80
  replace hn81 := (hu327 _ (q_pd 82 83 rfl)).trans hn81
  replace hF := q_us hF hu327 (.tail _ (.tail _ (.tail _ (.tail _ (.tail _ (.tail _ (.tail _ (.tail _ (.tail _ (.tail _ (.tail _ (.tail _ (.tail _ (.tail _ (.tail _ (.tail _ (.tail _ (.tail _ (.tail _ (.tail _ (.tail _ (.tail _ (.tail _ (.tail _ (.tail _ (.tail _ (.tail _ (.tail _ (.tail _ (.tail _ (.tail _ (.tail _ (.tail _ (.tail _ (.tail _ (.tail _ (.tail _ (.tail _ (.tail _ (.tail _ (.tail _ (.tail _ (.tail _ (.tail _ (.tail _ (.tail _ (.tail _ (.tail _ (.tail _ (.tail _ (.tail _ (.tail _ (.tail _ (.tail _ (.tail _ (.tail _ (.tail _ (.tail _ (.tail _ (.tail _ (.tail _ (.tail _ (.tail _ (.tail _ (.tail _ (.tail _ (.tail _ (.tail _ (.tail _ (.tail _ (.tail _ (.tail _ (.tail _ (.tail _ (.tail _ (.tail _ (.tail _ (.tail _ (.tail _ (.tail _ (.tail _ (.tail _ (.tail _ (.head _))))))))))))))))))))))))))))))))))))))))))))))))))))))))))))))))))))))))))))))))))))
  replace hN : w326.length = 84 := hN
  refine lv_dup hx hb d_1_1_241 rfl ?_
  refine lv_bipush (v := 108) hx hb d_1_1_242 (by decide) ?_
  refine q_gov V (q_runI (As := [.int 108]) (rest := [.ref q325, .int 3, .ref q32]) (d := 3) (mc := 2) (ms := 111) C0 V rfl LI_NH_103 (c_Dec_init l D g w326 83 q325 84 hN hn82 _) rfl hl.1 rfl (Nat.le_of_ble_eq_true rfl) ⟨by decide, by decide⟩ ⟨Nat.le_of_ble_eq_true rfl, Nat.le_of_ble_eq_true rfl⟩ d_1_1_244) (fun u330 H locs hp329 V => ?_)
  obtain ⟨q331, q332, hg333, hn82, hq334, hq335, hN⟩ := hp329
  replace hO0 := (hg333 _ (q_nc (q_pd 0 83 rfl) (q_nc (q_pd 0 84 rfl) (q_nc (q_pd 0 85 rfl) List.not_mem_nil)))).trans hO0
  replace hn0 := (hg333 _ (q_nc (q_pd 1 83 rfl) (q_nc (q_pd 1 84 rfl) (q_nc (q_pd 1 85 rfl) List.not_mem_nil)))).trans hn0
  replace hn1 := (hg333 _ (q_nc (q_pd 2 83 rfl) (q_nc (q_pd 2 84 rfl) (q_nc (q_pd 2 85 rfl) List.not_mem_nil)))).trans hn1
  replace hn2 := (hg333 _ (q_nc (q_pd 3 83 rfl) (q_nc (q_pd 3 84 rfl) (q_nc (q_pd 3 85 rfl) List.not_mem_nil)))).trans hn2
  replace hn3 := (hg333 _ (q_nc (q_pd 4 83 rfl) (q_nc (q_pd 4 84 rfl) (q_nc (q_pd 4 85 rfl) List.not_mem_nil)))).trans hn3
  replace hn4 := (hg333 _ (q_nc (q_pd 5 83 rfl) (q_nc (q_pd 5 84 rfl) (q_nc (q_pd 5 85 rfl) List.not_mem_nil)))).trans hn4
  replace hn5 := (hg333 _ (q_nc (q_pd 6 83 rfl) (q_nc (q_pd 6 84 rfl) (q_nc (q_pd 6 85 rfl) List.not_mem_nil)))).trans hn5
  replace hn6 := (hg333 _ (q_nc (q_pd 7 83 rfl) (q_nc (q_pd 7 84 rfl) (q_nc (q_pd 7 85 rfl) List.not_mem_nil)))).trans hn6
  replace hn7 := (hg333 _ (q_nc (q_pd 8 83 rfl) (q_nc (q_pd 8 84 rfl) (q_nc (q_pd 8 85 rfl) List.not_mem_nil)))).trans hn7
  replace hn8 := (hg333 _ (q_nc (q_pd 9 83 rfl) (q_nc (q_pd 9 84 rfl) (q_nc (q_pd 9 85 rfl) List.not_mem_nil)))).trans hn8
  replace hn9 := (hg333 _ (q_nc (q_pd 10 83 rfl) (q_nc (q_pd 10 84 rfl) (q_nc (q_pd 10 85 rfl) List.not_mem_nil)))).trans hn9
  replace hn10 := (hg333 _ (q_nc (q_pd 11 83 rfl) (q_nc (q_pd 11 84 rfl) (q_nc (q_pd 11 85 rfl) List.not_mem_nil)))).trans hn10
  replace hn11 := (hg333 _ (q_nc (q_pd 12 83 rfl) (q_nc (q_pd 12 84 rfl) (q_nc (q_pd 12 85 rfl) List.not_mem_nil)))).trans hn11
  replace hn12 := (hg333 _ (q_nc (q_pd 13 83 rfl) (q_nc (q_pd 13 84 rfl) (q_nc (q_pd 13 85 rfl) List.not_mem_nil)))).trans hn12
  replace hn13 := (hg333 _ (q_nc (q_pd 14 83 rfl) (q_nc (q_pd 14 84 rfl) (q_nc (q_pd 14 85 rfl) List.not_mem_nil)))).trans hn13
  replace hn14 := (hg333 _ (q_nc (q_pd 15 83 rfl) (q_nc (q_pd 15 84 rfl) (q_nc (q_pd 15 85 rfl) List.not_mem_nil)))).trans hn14
  replace hn15 := (hg333 _ (q_nc (q_pd 16 83 rfl) (q_nc (q_pd 16 84 rfl) (q_nc (q_pd 16 85 rfl) List.not_mem_nil)))).trans hn15
  replace hn16 := (hg333 _ (q_nc (q_pd 17 83 rfl) (q_nc (q_pd 17 84 rfl) (q_nc (q_pd 17 85 rfl) List.not_mem_nil)))).trans hn16
  replace hn17 := (hg333 _ (q_nc (q_pd 18 83 rfl) (q_nc (q_pd 18 84 rfl) (q_nc (q_pd 18 85 rfl) List.not_mem_nil)))).trans hn17
  replace hn18 := (hg333 _ (q_nc (q_pd 19 83 rfl) (q_nc (q_pd 19 84 rfl) (q_nc (q_pd 19 85 rfl) List.not_mem_nil)))).trans hn18
  replace hn19 := (hg333 _ (q_nc (q_pd 20 83 rfl) (q_nc (q_pd 20 84 rfl) (q_nc (q_pd 20 85 rfl) List.not_mem_nil)))).trans hn19
  replace hn20 := (hg333 _ (q_nc (q_pd 21 83 rfl) (q_nc (q_pd 21 84 rfl) (q_nc (q_pd 21 85 rfl) List.not_mem_nil)))).trans hn20
  replace hn21 := (hg333 _ (q_nc (q_pd 22 83 rfl) (q_nc (q_pd 22 84 rfl) (q_nc (q_pd 22 85 rfl) List.not_mem_nil)))).trans hn21
  replace hn22 := (hg333 _ (q_nc (q_pd 23 83 rfl) (q_nc (q_pd 23 84 rfl) (q_nc (q_pd 23 85 rfl) List.not_mem_nil)))).trans hn22
  replace hn23 := (hg333 _ (q_nc (q_pd 24 83 rfl) (q_nc (q_pd 24 84 rfl) (q_nc (q_pd 24 85 rfl) List.not_mem_nil)))).trans hn23
  replace hn24 := (hg333 _ (q_nc (q_pd 25 83 rfl) (q_nc (q_pd 25 84 rfl) (q_nc (q_pd 25 85 rfl) List.not_mem_nil)))).trans hn24
  replace hn25 := (hg333 _ (q_nc (q_pd 26 83 rfl) (q_nc (q_pd 26 84 rfl) (q_nc (q_pd 26 85 rfl) List.not_mem_nil)))).trans hn25
  replace hn26 := (hg333 _ (q_nc (q_pd 27 83 rfl) (q_nc (q_pd 27 84 rfl) (q_nc (q_pd 27 85 rfl) List.not_mem_nil)))).trans hn26
  replace hn27 := (hg333 _ (q_nc (q_pd 28 83 rfl) (q_nc (q_pd 28 84 rfl) (q_nc (q_pd 28 85 rfl) List.not_mem_nil)))).trans hn27
  replace hn28 := (hg333 _ (q_nc (q_pd 29 83 rfl) (q_nc (q_pd 29 84 rfl) (q_nc (q_pd 29 85 rfl) List.not_mem_nil)))).trans hn28
  replace hn29 := (hg333 _ (q_nc (q_pd 30 83 rfl) (q_nc (q_pd 30 84 rfl) (q_nc (q_pd 30 85 rfl) List.not_mem_nil)))).trans hn29
  replace hn30 := (hg333 _ (q_nc (q_pd 31 83 rfl) (q_nc (q_pd 31 84 rfl) (q_nc (q_pd 31 85 rfl) List.not_mem_nil)))).trans hn30
  replace hn31 := (hg333 _ (q_nc (q_pd 32 83 rfl) (q_nc (q_pd 32 84 rfl) (q_nc (q_pd 32 85 rfl) List.not_mem_nil)))).trans hn31
  replace hn32 := (hg333 _ (q_nc (q_pd 33 83 rfl) (q_nc (q_pd 33 84 rfl) (q_nc (q_pd 33 85 rfl) List.not_mem_nil)))).trans hn32
  replace hn33 := (hg333 _ (q_nc (q_pd 34 83 rfl) (q_nc (q_pd 34 84 rfl) (q_nc (q_pd 34 85 rfl) List.not_mem_nil)))).trans hn33
  replace hn34 := (hg333 _ (q_nc (q_pd 35 83 rfl) (q_nc (q_pd 35 84 rfl) (q_nc (q_pd 35 85 rfl) List.not_mem_nil)))).trans hn34
  replace hn35 := (hg333 _ (q_nc (q_pd 36 83 rfl) (q_nc (q_pd 36 84 rfl) (q_nc (q_pd 36 85 rfl) List.not_mem_nil)))).trans hn35
  replace hn36 := (hg333 _ (q_nc (q_pd 37 83 rfl) (q_nc (q_pd 37 84 rfl) (q_nc (q_pd 37 85 rfl) List.not_mem_nil)))).trans hn36
  replace hn37 := (hg333 _ (q_nc (q_pd 38 83 rfl) (q_nc (q_pd 38 84 rfl) (q_nc (q_pd 38 85 rfl) List.not_mem_nil)))).trans hn37
  replace hn38 := (hg333 _ (q_nc (q_pd 39 83 rfl) (q_nc (q_pd 39 84 rfl) (q_nc (q_pd 39 85 rfl) List.not_mem_nil)))).trans hn38
  replace hn39 := (hg333 _ (q_nc (q_pd 40 83 rfl) (q_nc (q_pd 40 84 rfl) (q_nc (q_pd 40 85 rfl) List.not_mem_nil)))).trans hn39
  replace hn40 := (hg333 _ (q_nc (q_pd 41 83 rfl) (q_nc (q_pd 41 84 rfl) (q_nc (q_pd 41 85 rfl) List.not_mem_nil)))).trans hn40
  replace hn41 := (hg333 _ (q_nc (q_pd 42 83 rfl) (q_nc (q_pd 42 84 rfl) (q_nc (q_pd 42 85 rfl) List.not_mem_nil)))).trans hn41
  replace hn42 := (hg333 _ (q_nc (q_pd 43 83 rfl) (q_nc (q_pd 43 84 rfl) (q_nc (q_pd 43 85 rfl) List.not_mem_nil)))).trans hn42
  replace hn43 := (hg333 _ (q_nc (q_pd 44 83 rfl) (q_nc (q_pd 44 84 rfl) (q_nc (q_pd 44 85 rfl) List.not_mem_nil)))).trans hn43
  replace hn44 := (hg333 _ (q_nc (q_pd 45 83 rfl) (q_nc (q_pd 45 84 rfl) (q_nc (q_pd 45 85 rfl) List.not_mem_nil)))).trans hn44
  replace hn45 := (hg333 _ (q_nc (q_pd 46 83 rfl) (q_nc (q_pd 46 84 rfl) (q_nc (q_pd 46 85 rfl) List.not_mem_nil)))).trans hn45
  replace hn46 := (hg333 _ (q_nc (q_pd 47 83 rfl) (q_nc (q_pd 47 84 rfl) (q_nc (q_pd 47 85 rfl) List.not_mem_nil)))).trans hn46
  replace hn47 := (hg333 _ (q_nc (q_pd 48 83 rfl) (q_nc (q_pd 48 84 rfl) (q_nc (q_pd 48 85 rfl) List.not_mem_nil)))).trans hn47
  replace hn48 := (hg333 _ (q_nc (q_pd 49 83 rfl) (q_nc (q_pd 49 84 rfl) (q_nc (q_pd 49 85 rfl) List.not_mem_nil)))).trans hn48
  replace hn49 := (hg333 _ (q_nc (q_pd 50 83 rfl) (q_nc (q_pd 50 84 rfl) (q_nc (q_pd 50 85 rfl) List.not_mem_nil)))).trans hn49
  replace hn50 := (hg333 _ (q_nc (q_pd 51 83 rfl) (q_nc (q_pd 51 84 rfl) (q_nc (q_pd 51 85 rfl) List.not_mem_nil)))).trans hn50
  replace hn51 := (hg333 _ (q_nc (q_pd 52 83 rfl) (q_nc (q_pd 52 84 rfl) (q_nc (q_pd 52 85 rfl) List.not_mem_nil)))).trans hn51
  replace hn52 := (hg333 _ (q_nc (q_pd 53 83 rfl) (q_nc (q_pd 53 84 rfl) (q_nc (q_pd 53 85 rfl) List.not_mem_nil)))).trans hn52
  replace hn53 := (hg333 _ (q_nc (q_pd 54 83 rfl) (q_nc (q_pd 54 84 rfl) (q_nc (q_pd 54 85 rfl) List.not_mem_nil)))).trans hn53
  replace hn54 := (hg333 _ (q_nc (q_pd 55 83 rfl) (q_nc (q_pd 55 84 rfl) (q_nc (q_pd 55 85 rfl) List.not_mem_nil)))).trans hn54
  replace hn55 := (hg333 _ (q_nc (q_pd 56 83 rfl) (q_nc (q_pd 56 84 rfl) (q_nc (q_pd 56 85 rfl) List.not_mem_nil)))).trans hn55
  replace hn56 := (hg333 _ (q_nc (q_pd 57 83 rfl) (q_nc (q_pd 57 84 rfl) (q_nc (q_pd 57 85 rfl) List.not_mem_nil)))).trans hn56
  replace hn57 := (hg333 _ (q_nc (q_pd 58 83 rfl) (q_nc (q_pd 58 84 rfl) (q_nc (q_pd 58 85 rfl) List.not_mem_nil)))).trans hn57
  replace hn58 := (hg333 _ (q_nc (q_pd 59 83 rfl) (q_nc (q_pd 59 84 rfl) (q_nc (q_pd 59 85 rfl) List.not_mem_nil)))).trans hn58
  replace hn59 := (hg333 _ (q_nc (q_pd 60 83 rfl) (q_nc (q_pd 60 84 rfl) (q_nc (q_pd 60 85 rfl) List.not_mem_nil)))).trans hn59
  replace hn60 := (hg333 _ (q_nc (q_pd 61 83 rfl) (q_nc (q_pd 61 84 rfl) (q_nc (q_pd 61 85 rfl) List.not_mem_nil)))).trans hn60
  replace hn61 := (hg333 _ (q_nc (q_pd 62 83 rfl) (q_nc (q_pd 62 84 rfl) (q_nc (q_pd 62 85 rfl) List.not_mem_nil)))).trans hn61
  replace hn62 := (hg333 _ (q_nc (q_pd 63 83 rfl) (q_nc (q_pd 63 84 rfl) (q_nc (q_pd 63 85 rfl) List.not_mem_nil)))).trans hn62
  replace hn63 := (hg333 _ (q_nc (q_pd 64 83 rfl) (q_nc (q_pd 64 84 rfl) (q_nc (q_pd 64 85 rfl) List.not_mem_nil)))).trans hn63
  replace hn64 := (hg333 _ (q_nc (q_pd 65 83 rfl) (q_nc (q_pd 65 84 rfl) (q_nc (q_pd 65 85 rfl) List.not_mem_nil)))).trans hn64
  replace hn65 := (hg333 _ (q_nc (q_pd 66 83 rfl) (q_nc (q_pd 66 84 rfl) (q_nc (q_pd 66 85 rfl) List.not_mem_nil)))).trans hn65
  replace hn66 := (hg333 _ (q_nc (q_pd 67 83 rfl) (q_nc (q_pd 67 84 rfl) (q_nc (q_pd 67 85 rfl) List.not_mem_nil)))).trans hn66
  replace hn67 := (hg333 _ (q_nc (q_pd 68 83 rfl) (q_nc (q_pd 68 84 rfl) (q_nc (q_pd 68 85 rfl) List.not_mem_nil)))).trans hn67
  replace hn68 := (hg333 _ (q_nc (q_pd 69 83 rfl) (q_nc (q_pd 69 84 rfl) (q_nc (q_pd 69 85 rfl) List.not_mem_nil)))).trans hn68
  replace hn69 := (hg333 _ (q_nc (q_pd 70 83 rfl) (q_nc (q_pd 70 84 rfl) (q_nc (q_pd 70 85 rfl) List.not_mem_nil)))).trans hn69
  replace hn70 := (hg333 _ (q_nc (q_pd 71 83 rfl) (q_nc (q_pd 71 84 rfl) (q_nc (q_pd 71 85 rfl) List.not_mem_nil)))).trans hn70
  replace hn71 := (hg333 _ (q_nc (q_pd 72 83 rfl) (q_nc (q_pd 72 84 rfl) (q_nc (q_pd 72 85 rfl) List.not_mem_nil)))).trans hn71
  replace hn72 := (hg333 _ (q_nc (q_pd 73 83 rfl) (q_nc (q_pd 73 84 rfl) (q_nc (q_pd 73 85 rfl) List.not_mem_nil)))).trans hn72
  replace hn73 := (hg333 _ (q_nc (q_pd 74 83 rfl) (q_nc (q_pd 74 84 rfl) (q_nc (q_pd 74 85 rfl) List.not_mem_nil)))).trans hn73
  replace hn74 := (hg333 _ (q_nc (q_pd 75 83 rfl) (q_nc (q_pd 75 84 rfl) (q_nc (q_pd 75 85 rfl) List.not_mem_nil)))).trans hn74
  replace hn75 := (hg333 _ (q_nc (q_pd 76 83 rfl) (q_nc (q_pd 76 84 rfl) (q_nc (q_pd 76 85 rfl) List.not_mem_nil)))).trans hn75
  replace hn76 := (hg333 _ (q_nc (q_pd 77 83 rfl) (q_nc (q_pd 77 84 rfl) (q_nc (q_pd 77 85 rfl) List.not_mem_nil)))).trans hn76
  replace hn77 := (hg333 _ (q_nc (q_pd 78 83 rfl) (q_nc (q_pd 78 84 rfl) (q_nc (q_pd 78 85 rfl) List.not_mem_nil)))).trans hn77
  replace hn78 := (hg333 _ (q_nc (q_pd 79 83 rfl) (q_nc (q_pd 79 84 rfl) (q_nc (q_pd 79 85 rfl) List.not_mem_nil)))).trans hn78
  replace hn79 := (hg333 _ (q_nc (q_pd 80 83 rfl) (q_nc (q_pd 80 84 rfl) (q_nc (q_pd 80 85 rfl) List.not_mem_nil)))).trans hn79
  replace hn80 := (hg333 _ (q_nc (q_pd 81 83 rfl) (q_nc (q_pd 81 84 rfl) (q_nc (q_pd 81 85 rfl) List.not_mem_nil)))).trans hn80
  replace hn81 := (hg333 _ (q_nc (q_pd 82 83 rfl) (q_nc (q_pd 82 84 rfl) (q_nc (q_pd 82 85 rfl) List.not_mem_nil)))).trans hn81
  replace hF := q_uc hF hg333 (q_sc (.tail _ (.tail _ (.tail _ (.tail _ (.tail _ (.tail _ (.tail _ (.tail _ (.tail _ (.tail _ (.tail _ (.tail _ (.tail _ (.tail _ (.tail _ (.tail _ (.tail _ (.tail _ (.tail _ (.tail _ (.tail _ (.tail _ (.tail _ (.tail _ (.tail _ (.tail _ (.tail _ (.tail _ (.tail _ (.tail _ (.tail _ (.tail _ (.tail _ (.tail _ (.tail _ (.tail _ (.tail _ (.tail _ (.tail _ (.tail _ (.tail _ (.tail _ (.tail _ (.tail _ (.tail _ (.tail _ (.tail _ (.tail _ (.tail _ (.tail _ (.tail _ (.tail _ (.tail _ (.tail _ (.tail _ (.tail _ (.tail _ (.tail _ (.tail _ (.tail _ (.tail _ (.tail _ (.tail _ (.tail _ (.tail _ (.tail _ (.tail _ (.tail _ (.tail _ (.tail _ (.tail _ (.tail _ (.tail _ (.tail _ (.tail _ (.tail _ (.tail _ (.tail _ (.tail _ (.tail _ (.tail _ (.tail _ (.tail _ (.head _)))))))))))))))))))))))))))))))))))))))))))))))))))))))))))))))))))))))))))))))))))) (q_sc (.tail _ (.tail _ (.tail _ (.tail _ (.tail _ (.tail _ (.tail _ (.tail _ (.tail _ (.tail _ (.tail _ (.tail _ (.tail _ (.tail _ (.tail _ (.tail _ (.tail _ (.tail _ (.tail _ (.tail _ (.tail _ (.tail _ (.tail _ (.tail _ (.tail _ (.tail _ (.tail _ (.tail _ (.tail _ (.tail _ (.tail _ (.tail _ (.tail _ (.tail _ (.tail _ (.tail _ (.tail _ (.tail _ (.tail _ (.tail _ (.tail _ (.tail _ (.tail _ (.tail _ (.tail _ (.tail _ (.tail _ (.tail _ (.tail _ (.tail _ (.tail _ (.tail _ (.tail _ (.tail _ (.tail _ (.tail _ (.tail _ (.tail _ (.tail _ (.tail _ (.tail _ (.tail _ (.tail _ (.tail _ (.tail _ (.tail _ (.tail _ (.tail _ (.tail _ (.tail _ (.tail _ (.tail _ (.tail _ (.tail _ (.tail _ (.tail _ (.tail _ (.tail _ (.tail _ (.tail _ (.tail _ (.tail _ (.tail _ (.tail _ (.head _))))))))))))))))))))))))))))))))))))))))))))))))))))))))))))))))))))))))))))))))))))) (q_sc (.tail _ (.tail _ (.tail _ (.tail _ (.tail _ (.tail _ (.tail _ (.tail _ (.tail _ (.tail _ (.tail _ (.tail _ (.tail _ (.tail _ (.tail _ (.tail _ (.tail _ (.tail _ (.tail _ (.tail _ (.tail _ (.tail _ (.tail _ (.tail _ (.tail _ (.tail _ (.tail _ (.tail _ (.tail _ (.tail _ (.tail _ (.tail _ (.tail _ (.tail _ (.tail _ (.tail _ (.tail _ (.tail _ (.tail _ (.tail _ (.tail _ (.tail _ (.tail _ (.tail _ (.tail _ (.tail _ (.tail _ (.tail _ (.tail _ (.tail _ (.tail _ (.tail _ (.tail _ (.tail _ (.tail _ (.tail _ (.tail _ (.tail _ (.tail _ (.tail _ (.tail _ (.tail _ (.tail _ (.tail _ (.tail _ (.tail _ (.tail _ (.tail _ (.tail _ (.tail _ (.tail _ (.tail _ (.tail _ (.tail _ (.tail _ (.tail _ (.tail _ (.tail _ (.tail _ (.tail _ (.tail _ (.tail _ (.tail _ (.tail _ (.tail _ (.head _)))))))))))))))))))))))))))))))))))))))))))))))))))))))))))))))))))))))))))))))))))))) (fun _ h => absurd h List.not_mem_nil))))
  have hn83 : u330[84]? = some (q331, .inr (2, [.ref q332, .int 0, .int 0])) := hq334
  have hn84 : u330[85]? = some (q332, .inl (g 0, 108, .inl (fun _ => 0))) := hq335
  replace hN : u330.length = 86 := hN
  have ho336 := hn5
  refine q_aast (t := 5) (ci := 3) (i9 := 3) C0 V hn5 rfl hn82 rfl (by decide) (by decide) d_1_1_247 (fun H locs w337 hu338 hn5 V => ?_)
  replace hn5 : w337[6]? = some (q32, .inl (g 5, 10, .inr (.inr (.inr (.inr (va_up (va_up (va_up (va_up (fun _ => none) 0 (some q244)) 1 (some q271)) 2 (some q298)) 3 (some q325))))))) := hn5
  replace hN : w337.length = 86 := (q_len1 hu338 hn5 ho336).trans hN
  replace hO0 := (hu338 _ (q_pd 0 6 rfl)).trans hO0
  replace hn0 := (hu338 _ (q_pd 1 6 rfl)).trans hn0
  replace hn1 := (hu338 _ (q_pd 2 6 rfl)).trans hn1
  replace hn2 := (hu338 _ (q_pd 3 6 rfl)).trans hn2
  replace hn3 := (hu338 _ (q_pd 4 6 rfl)).trans hn3
  replace hn4 := (hu338 _ (q_pd 5 6 rfl)).trans hn4
  replace hn6 := (hu338 _ (q_pd 7 6 rfl)).trans hn6
  replace hn7 := (hu338 _ (q_pd 8 6 rfl)).trans hn7
  replace hn8 := (hu338 _ (q_pd 9 6 rfl)).trans hn8
  replace hn9 := (hu338 _ (q_pd 10 6 rfl)).trans hn9
  replace hn10 := (hu338 _ (q_pd 11 6 rfl)).trans hn10
  replace hn11 := (hu338 _ (q_pd 12 6 rfl)).trans hn11
  replace hn12 := (hu338 _ (q_pd 13 6 rfl)).trans hn12
  replace hn13 := (hu338 _ (q_pd 14 6 rfl)).trans hn13
  replace hn14 := (hu338 _ (q_pd 15 6 rfl)).trans hn14
  replace hn15 := (hu338 _ (q_pd 16 6 rfl)).trans hn15
  replace hn16 := (hu338 _ (q_pd 17 6 rfl)).trans hn16
  replace hn17 := (hu338 _ (q_pd 18 6 rfl)).trans hn17
  replace hn18 := (hu338 _ (q_pd 19 6 rfl)).trans hn18
  replace hn19 := (hu338 _ (q_pd 20 6 rfl)).trans hn19
  replace hn20 := (hu338 _ (q_pd 21 6 rfl)).trans hn20
  replace hn21 := (hu338 _ (q_pd 22 6 rfl)).trans hn21
  replace hn22 := (hu338 _ (q_pd 23 6 rfl)).trans hn22
  replace hn23 := (hu338 _ (q_pd 24 6 rfl)).trans hn23
  replace hn24 := (hu338 _ (q_pd 25 6 rfl)).trans hn24
  replace hn25 := (hu338 _ (q_pd 26 6 rfl)).trans hn25
  replace hn26 := (hu338 _ (q_pd 27 6 rfl)).trans hn26
  replace hn27 := (hu338 _ (q_pd 28 6 rfl)).trans hn27
  replace hn28 := (hu338 _ (q_pd 29 6 rfl)).trans hn28
  replace hn29 := (hu338 _ (q_pd 30 6 rfl)).trans hn29
  replace hn30 := (hu338 _ (q_pd 31 6 rfl)).trans hn30
  replace hn31 := (hu338 _ (q_pd 32 6 rfl)).trans hn31
  replace hn32 := (hu338 _ (q_pd 33 6 rfl)).trans hn32
  replace hn33 := (hu338 _ (q_pd 34 6 rfl)).trans hn33
  replace hn34 := (hu338 _ (q_pd 35 6 rfl)).trans hn34
  replace hn35 := (hu338 _ (q_pd 36 6 rfl)).trans hn35
  replace hn36 := (hu338 _ (q_pd 37 6 rfl)).trans hn36
  replace hn37 := (hu338 _ (q_pd 38 6 rfl)).trans hn37
  replace hn38 := (hu338 _ (q_pd 39 6 rfl)).trans hn38
  replace hn39 := (hu338 _ (q_pd 40 6 rfl)).trans hn39
  replace hn40 := (hu338 _ (q_pd 41 6 rfl)).trans hn40
  replace hn41 := (hu338 _ (q_pd 42 6 rfl)).trans hn41
  replace hn42 := (hu338 _ (q_pd 43 6 rfl)).trans hn42
  replace hn43 := (hu338 _ (q_pd 44 6 rfl)).trans hn43
  replace hn44 := (hu338 _ (q_pd 45 6 rfl)).trans hn44
  replace hn45 := (hu338 _ (q_pd 46 6 rfl)).trans hn45
  replace hn46 := (hu338 _ (q_pd 47 6 rfl)).trans hn46
  replace hn47 := (hu338 _ (q_pd 48 6 rfl)).trans hn47
  replace hn48 := (hu338 _ (q_pd 49 6 rfl)).trans hn48
  replace hn49 := (hu338 _ (q_pd 50 6 rfl)).trans hn49
  replace hn50 := (hu338 _ (q_pd 51 6 rfl)).trans hn50
  replace hn51 := (hu338 _ (q_pd 52 6 rfl)).trans hn51
  replace hn52 := (hu338 _ (q_pd 53 6 rfl)).trans hn52
  replace hn53 := (hu338 _ (q_pd 54 6 rfl)).trans hn53
  replace hn54 := (hu338 _ (q_pd 55 6 rfl)).trans hn54
  replace hn55 := (hu338 _ (q_pd 56 6 rfl)).trans hn55
  replace hn56 := (hu338 _ (q_pd 57 6 rfl)).trans hn56
  replace hn57 := (hu338 _ (q_pd 58 6 rfl)).trans hn57
  replace hn58 := (hu338 _ (q_pd 59 6 rfl)).trans hn58
  replace hn59 := (hu338 _ (q_pd 60 6 rfl)).trans hn59
  replace hn60 := (hu338 _ (q_pd 61 6 rfl)).trans hn60
  replace hn61 := (hu338 _ (q_pd 62 6 rfl)).trans hn61
  replace hn62 := (hu338 _ (q_pd 63 6 rfl)).trans hn62
  replace hn63 := (hu338 _ (q_pd 64 6 rfl)).trans hn63
  replace hn64 := (hu338 _ (q_pd 65 6 rfl)).trans hn64
  replace hn65 := (hu338 _ (q_pd 66 6 rfl)).trans hn65
  replace hn66 := (hu338 _ (q_pd 67 6 rfl)).trans hn66
  replace hn67 := (hu338 _ (q_pd 68 6 rfl)).trans hn67
  replace hn68 := (hu338 _ (q_pd 69 6 rfl)).trans hn68
  replace hn69 := (hu338 _ (q_pd 70 6 rfl)).trans hn69
  replace hn70 := (hu338 _ (q_pd 71 6 rfl)).trans hn70
  replace hn71 := (hu338 _ (q_pd 72 6 rfl)).trans hn71
  replace hn72 := (hu338 _ (q_pd 73 6 rfl)).trans hn72
  replace hn73 := (hu338 _ (q_pd 74 6 rfl)).trans hn73
  replace hn74 := (hu338 _ (q_pd 75 6 rfl)).trans hn74
  replace hn75 := (hu338 _ (q_pd 76 6 rfl)).trans hn75
  replace hn76 := (hu338 _ (q_pd 77 6 rfl)).trans hn76
  replace hn77 := (hu338 _ (q_pd 78 6 rfl)).trans hn77
  replace hn78 := (hu338 _ (q_pd 79 6 rfl)).trans hn78
  replace hn79 := (hu338 _ (q_pd 80 6 rfl)).trans hn79
  replace hn80 := (hu338 _ (q_pd 81 6 rfl)).trans hn80
  replace hn81 := (hu338 _ (q_pd 82 6 rfl)).trans hn81
  replace hn82 := (hu338 _ (q_pd 83 6 rfl)).trans hn82
  replace hn83 := (hu338 _ (q_pd 84 6 rfl)).trans hn83
  replace hn84 := (hu338 _ (q_pd 85 6 rfl)).trans hn84
  replace hF := q_us hF hu338 (.tail _ (.tail _ (.tail _ (.tail _ (.tail _ (.tail _ (.head _)))))))
  refine lv_iinc (v := 4) (lv' := [(1, .int 4), (0, .ref qO0)]) hx hb d_1_1_248 hl (k := 0) rfl (by decide) (by decide) rfl (fun ls hl => ?_)
  refine lv_goto (tgt := 212) hx hb d_1_1_251 (by decide) ?_
  refine lv_iload_n hx hb d_1_1_212 rfl (lv_at hl 0 rfl) ?_
  refine lv_bipush (v := 10) hx hb d_1_1_213 (by decide) ?_
  refine lv_icmp_ge (tgt := 254) hx hb d_1_1_215 (by decide) (fun c339 => absurd c339 (by decide)) (fun c339 => ?_)
  refine lv_aload_n hx hb d_1_1_218 rfl (lv_at hl 1 rfl) ?_
  refine q_get (ci := 0) (j := 2) (v := .ref q25) C0 V i_NH rfl rfl hO0 (by decide) w_426 rfl d_1_1_219 ?_
  refine lv_iload_n hx hb d_1_1_222 rfl (lv_at hl 0 rfl) ?_
  refine q_new (ci := 2) (fs := [.null, .int 0, .int 0]) C0 V hN i_Big o_Big rfl w_68 w_79 w_4 rfl (fun j hj => by rcases (show j = 0 ∨ j = 1 ∨ j = 2 by omega) with rfl | rfl | rfl <;> rfl) (Nat.le_of_ble_eq_true rfl) (Nat.le_of_ble_eq_true rfl) d_1_1_223 (fun q340 H w341 hu342 hn343 hN V => ?_)
  have hn85 : w341[86]? = some (q340, .inr (2, [.null, .int 0, .int 0])) := hn343
  replace hO0 := (hu342 _ (q_pd 0 86 rfl)).trans hO0
  replace hn0 := (hu342 _ (q_pd 1 86 rfl)).trans hn0
  replace hn1 := (hu342 _ (q_pd 2 86 rfl)).trans hn1
  replace hn2 := (hu342 _ (q_pd 3 86 rfl)).trans hn2
  replace hn3 := (hu342 _ (q_pd 4 86 rfl)).trans hn3
  replace hn4 := (hu342 _ (q_pd 5 86 rfl)).trans hn4
  replace hn5 := (hu342 _ (q_pd 6 86 rfl)).trans hn5
  replace hn6 := (hu342 _ (q_pd 7 86 rfl)).trans hn6
  replace hn7 := (hu342 _ (q_pd 8 86 rfl)).trans hn7
  replace hn8 := (hu342 _ (q_pd 9 86 rfl)).trans hn8
  replace hn9 := (hu342 _ (q_pd 10 86 rfl)).trans hn9
  replace hn10 := (hu342 _ (q_pd 11 86 rfl)).trans hn10
  replace hn11 := (hu342 _ (q_pd 12 86 rfl)).trans hn11
  replace hn12 := (hu342 _ (q_pd 13 86 rfl)).trans hn12
  replace hn13 := (hu342 _ (q_pd 14 86 rfl)).trans hn13
  replace hn14 := (hu342 _ (q_pd 15 86 rfl)).trans hn14
  replace hn15 := (hu342 _ (q_pd 16 86 rfl)).trans hn15
  replace hn16 := (hu342 _ (q_pd 17 86 rfl)).trans hn16
  replace hn17 := (hu342 _ (q_pd 18 86 rfl)).trans hn17
  replace hn18 := (hu342 _ (q_pd 19 86 rfl)).trans hn18
  replace hn19 := (hu342 _ (q_pd 20 86 rfl)).trans hn19
  replace hn20 := (hu342 _ (q_pd 21 86 rfl)).trans hn20
  replace hn21 := (hu342 _ (q_pd 22 86 rfl)).trans hn21
  replace hn22 := (hu342 _ (q_pd 23 86 rfl)).trans hn22
  replace hn23 := (hu342 _ (q_pd 24 86 rfl)).trans hn23
  replace hn24 := (hu342 _ (q_pd 25 86 rfl)).trans hn24
  replace hn25 := (hu342 _ (q_pd 26 86 rfl)).trans hn25
  replace hn26 := (hu342 _ (q_pd 27 86 rfl)).trans hn26
  replace hn27 := (hu342 _ (q_pd 28 86 rfl)).trans hn27
  replace hn28 := (hu342 _ (q_pd 29 86 rfl)).trans hn28
  replace hn29 := (hu342 _ (q_pd 30 86 rfl)).trans hn29
  replace hn30 := (hu342 _ (q_pd 31 86 rfl)).trans hn30
  replace hn31 := (hu342 _ (q_pd 32 86 rfl)).trans hn31
  replace hn32 := (hu342 _ (q_pd 33 86 rfl)).trans hn32
  replace hn33 := (hu342 _ (q_pd 34 86 rfl)).trans hn33
  replace hn34 := (hu342 _ (q_pd 35 86 rfl)).trans hn34
  replace hn35 := (hu342 _ (q_pd 36 86 rfl)).trans hn35
  replace hn36 := (hu342 _ (q_pd 37 86 rfl)).trans hn36
  replace hn37 := (hu342 _ (q_pd 38 86 rfl)).trans hn37
  replace hn38 := (hu342 _ (q_pd 39 86 rfl)).trans hn38
  replace hn39 := (hu342 _ (q_pd 40 86 rfl)).trans hn39
  replace hn40 := (hu342 _ (q_pd 41 86 rfl)).trans hn40
  replace hn41 := (hu342 _ (q_pd 42 86 rfl)).trans hn41
  replace hn42 := (hu342 _ (q_pd 43 86 rfl)).trans hn42
  replace hn43 := (hu342 _ (q_pd 44 86 rfl)).trans hn43
  replace hn44 := (hu342 _ (q_pd 45 86 rfl)).trans hn44
  replace hn45 := (hu342 _ (q_pd 46 86 rfl)).trans hn45
  replace hn46 := (hu342 _ (q_pd 47 86 rfl)).trans hn46
  replace hn47 := (hu342 _ (q_pd 48 86 rfl)).trans hn47
  replace hn48 := (hu342 _ (q_pd 49 86 rfl)).trans hn48
  replace hn49 := (hu342 _ (q_pd 50 86 rfl)).trans hn49
  replace hn50 := (hu342 _ (q_pd 51 86 rfl)).trans hn50
  replace hn51 := (hu342 _ (q_pd 52 86 rfl)).trans hn51
  replace hn52 := (hu342 _ (q_pd 53 86 rfl)).trans hn52
  replace hn53 := (hu342 _ (q_pd 54 86 rfl)).trans hn53
  replace hn54 := (hu342 _ (q_pd 55 86 rfl)).trans hn54
  replace hn55 := (hu342 _ (q_pd 56 86 rfl)).trans hn55
  replace hn56 := (hu342 _ (q_pd 57 86 rfl)).trans hn56
  replace hn57 := (hu342 _ (q_pd 58 86 rfl)).trans hn57
  replace hn58 := (hu342 _ (q_pd 59 86 rfl)).trans hn58
  replace hn59 := (hu342 _ (q_pd 60 86 rfl)).trans hn59
  replace hn60 := (hu342 _ (q_pd 61 86 rfl)).trans hn60
  replace hn61 := (hu342 _ (q_pd 62 86 rfl)).trans hn61
  replace hn62 := (hu342 _ (q_pd 63 86 rfl)).trans hn62
  replace hn63 := (hu342 _ (q_pd 64 86 rfl)).trans hn63
  replace hn64 := (hu342 _ (q_pd 65 86 rfl)).trans hn64
  replace hn65 := (hu342 _ (q_pd 66 86 rfl)).trans hn65
  replace hn66 := (hu342 _ (q_pd 67 86 rfl)).trans hn66
  replace hn67 := (hu342 _ (q_pd 68 86 rfl)).trans hn67
  replace hn68 := (hu342 _ (q_pd 69 86 rfl)).trans hn68
  replace hn69 := (hu342 _ (q_pd 70 86 rfl)).trans hn69
  replace hn70 := (hu342 _ (q_pd 71 86 rfl)).trans hn70
  replace hn71 := (hu342 _ (q_pd 72 86 rfl)).trans hn71
  replace hn72 := (hu342 _ (q_pd 73 86 rfl)).trans hn72
  replace hn73 := (hu342 _ (q_pd 74 86 rfl)).trans hn73
  replace hn74 := (hu342 _ (q_pd 75 86 rfl)).trans hn74
  replace hn75 := (hu342 _ (q_pd 76 86 rfl)).trans hn75
  replace hn76 := (hu342 _ (q_pd 77 86 rfl)).trans hn76
  replace hn77 := (hu342 _ (q_pd 78 86 rfl)).trans hn77
  replace hn78 := (hu342 _ (q_pd 79 86 rfl)).trans hn78
  replace hn79 := (hu342 _ (q_pd 80 86 rfl)).trans hn79
  replace hn80 := (hu342 _ (q_pd 81 86 rfl)).trans hn80
  replace hn81 := (hu342 _ (q_pd 82 86 rfl)).trans hn81
  replace hn82 := (hu342 _ (q_pd 83 86 rfl)).trans hn82
  replace hn83 := (hu342 _ (q_pd 84 86 rfl)).trans hn83
  replace hn84 := (hu342 _ (q_pd 85 86 rfl)).trans hn84
  replace hF := q_us hF hu342 (.tail _ (.tail _ (.tail _ (.tail _ (.tail _ (.tail _ (.tail _ (.tail _ (.tail _ (.tail _ (.tail _ (.tail _ (.tail _ (.tail _ (.tail _ (.tail _ (.tail _ (.tail _ (.tail _ (.tail _ (.tail _ (.tail _ (.tail _ (.tail _ (.tail _ (.tail _ (.tail _ (.tail _ (.tail _ (.tail _ (.tail _ (.tail _ (.tail _ (.tail _ (.tail _ (.tail _ (.tail _ (.tail _ (.tail _ (.tail _ (.tail _ (.tail _ (.tail _ (.tail _ (.tail _ (.tail _ (.tail _ (.tail _ (.tail _ (.tail _ (.tail _ (.tail _ (.tail _ (.tail _ (.tail _ (.tail _ (.tail _ (.tail _ (.tail _ (.tail _ (.tail _ (.tail _ (.tail _ (.tail _ (.tail _ (.tail _ (.tail _ (.tail _ (.tail _ (.tail _ (.tail _ (.tail _ (.tail _ (.tail _ (.tail _ (.tail _ (.tail _ (.tail _ (.tail _ (.tail _ (.tail _ (.tail _ (.tail _ (.tail _ (.tail _ (.tail _ (.head _)))))))))))))))))))))))))))))))))))))))))))))))))))))))))))))))))))))))))))))))))))))))
  replace hN : w341.length = 87 := hN
  refine lv_dup hx hb d_1_1_226 rfl ?_
  refine lv_bipush (v := 68) hx hb d_1_1_227 (by decide) ?_
  refine q_gov V (q_runI (As := [.int 68]) (rest := [.ref q340, .int 4, .ref q25]) (d := 2) (mc := 1) (ms := 68) C0 V rfl LI_NH_102 (c_Big_init l D g w341 86 q340 87 hN hn85 _) rfl hl.1 rfl (Nat.le_of_ble_eq_true rfl) ⟨by decide, by decide⟩ ⟨Nat.le_of_ble_eq_true rfl, Nat.le_of_ble_eq_true rfl⟩ d_1_1_229) (fun u345 H locs hp344 V => ?_)
  obtain ⟨q346, hg347, hn85, hq348, hN⟩ := hp344
  replace hO0 := (hg347 _ (q_nc (q_pd 0 86 rfl) (q_nc (q_pd 0 87 rfl) List.not_mem_nil))).trans hO0
  replace hn0 := (hg347 _ (q_nc (q_pd 1 86 rfl) (q_nc (q_pd 1 87 rfl) List.not_mem_nil))).trans hn0
  replace hn1 := (hg347 _ (q_nc (q_pd 2 86 rfl) (q_nc (q_pd 2 87 rfl) List.not_mem_nil))).trans hn1
  replace hn2 := (hg347 _ (q_nc (q_pd 3 86 rfl) (q_nc (q_pd 3 87 rfl) List.not_mem_nil))).trans hn2
  replace hn3 := (hg347 _ (q_nc (q_pd 4 86 rfl) (q_nc (q_pd 4 87 rfl) List.not_mem_nil))).trans hn3
  replace hn4 := (hg347 _ (q_nc (q_pd 5 86 rfl) (q_nc (q_pd 5 87 rfl) List.not_mem_nil))).trans hn4
  replace hn5 := (hg347 _ (q_nc (q_pd 6 86 rfl) (q_nc (q_pd 6 87 rfl) List.not_mem_nil))).trans hn5
  replace hn6 := (hg347 _ (q_nc (q_pd 7 86 rfl) (q_nc (q_pd 7 87 rfl) List.not_mem_nil))).trans hn6
  replace hn7 := (hg347 _ (q_nc (q_pd 8 86 rfl) (q_nc (q_pd 8 87 rfl) List.not_mem_nil))).trans hn7
  replace hn8 := (hg347 _ (q_nc (q_pd 9 86 rfl) (q_nc (q_pd 9 87 rfl) List.not_mem_nil))).trans hn8
  replace hn9 := (hg347 _ (q_nc (q_pd 10 86 rfl) (q_nc (q_pd 10 87 rfl) List.not_mem_nil))).trans hn9
  replace hn10 := (hg347 _ (q_nc (q_pd 11 86 rfl) (q_nc (q_pd 11 87 rfl) List.not_mem_nil))).trans hn10
  replace hn11 := (hg347 _ (q_nc (q_pd 12 86 rfl) (q_nc (q_pd 12 87 rfl) List.not_mem_nil))).trans hn11
  replace hn12 := (hg347 _ (q_nc (q_pd 13 86 rfl) (q_nc (q_pd 13 87 rfl) List.not_mem_nil))).trans hn12
  replace hn13 := (hg347 _ (q_nc (q_pd 14 86 rfl) (q_nc (q_pd 14 87 rfl) List.not_mem_nil))).trans hn13
  replace hn14 := (hg347 _ (q_nc (q_pd 15 86 rfl) (q_nc (q_pd 15 87 rfl) List.not_mem_nil))).trans hn14
  replace hn15 := (hg347 _ (q_nc (q_pd 16 86 rfl) (q_nc (q_pd 16 87 rfl) List.not_mem_nil))).trans hn15
  replace hn16 := (hg347 _ (q_nc (q_pd 17 86 rfl) (q_nc (q_pd 17 87 rfl) List.not_mem_nil))).trans hn16
  replace hn17 := (hg347 _ (q_nc (q_pd 18 86 rfl) (q_nc (q_pd 18 87 rfl) List.not_mem_nil))).trans hn17
  replace hn18 := (hg347 _ (q_nc (q_pd 19 86 rfl) (q_nc (q_pd 19 87 rfl) List.not_mem_nil))).trans hn18
  replace hn19 := (hg347 _ (q_nc (q_pd 20 86 rfl) (q_nc (q_pd 20 87 rfl) List.not_mem_nil))).trans hn19
  replace hn20 := (hg347 _ (q_nc (q_pd 21 86 rfl) (q_nc (q_pd 21 87 rfl) List.not_mem_nil))).trans hn20
  replace hn21 := (hg347 _ (q_nc (q_pd 22 86 rfl) (q_nc (q_pd 22 87 rfl) List.not_mem_nil))).trans hn21
  replace hn22 := (hg347 _ (q_nc (q_pd 23 86 rfl) (q_nc (q_pd 23 87 rfl) List.not_mem_nil))).trans hn22
  replace hn23 := (hg347 _ (q_nc (q_pd 24 86 rfl) (q_nc (q_pd 24 87 rfl) List.not_mem_nil))).trans hn23
  replace hn24 := (hg347 _ (q_nc (q_pd 25 86 rfl) (q_nc (q_pd 25 87 rfl) List.not_mem_nil))).trans hn24
  replace hn25 := (hg347 _ (q_nc (q_pd 26 86 rfl) (q_nc (q_pd 26 87 rfl) List.not_mem_nil))).trans hn25
  replace hn26 := (hg347 _ (q_nc (q_pd 27 86 rfl) (q_nc (q_pd 27 87 rfl) List.not_mem_nil))).trans hn26
  replace hn27 := (hg347 _ (q_nc (q_pd 28 86 rfl) (q_nc (q_pd 28 87 rfl) List.not_mem_nil))).trans hn27
  replace hn28 := (hg347 _ (q_nc (q_pd 29 86 rfl) (q_nc (q_pd 29 87 rfl) List.not_mem_nil))).trans hn28
  replace hn29 := (hg347 _ (q_nc (q_pd 30 86 rfl) (q_nc (q_pd 30 87 rfl) List.not_mem_nil))).trans hn29
  replace hn30 := (hg347 _ (q_nc (q_pd 31 86 rfl) (q_nc (q_pd 31 87 rfl) List.not_mem_nil))).trans hn30
  replace hn31 := (hg347 _ (q_nc (q_pd 32 86 rfl) (q_nc (q_pd 32 87 rfl) List.not_mem_nil))).trans hn31
  replace hn32 := (hg347 _ (q_nc (q_pd 33 86 rfl) (q_nc (q_pd 33 87 rfl) List.not_mem_nil))).trans hn32
  replace hn33 := (hg347 _ (q_nc (q_pd 34 86 rfl) (q_nc (q_pd 34 87 rfl) List.not_mem_nil))).trans hn33
  replace hn34 := (hg347 _ (q_nc (q_pd 35 86 rfl) (q_nc (q_pd 35 87 rfl) List.not_mem_nil))).trans hn34
  replace hn35 := (hg347 _ (q_nc (q_pd 36 86 rfl) (q_nc (q_pd 36 87 rfl) List.not_mem_nil))).trans hn35
  replace hn36 := (hg347 _ (q_nc (q_pd 37 86 rfl) (q_nc (q_pd 37 87 rfl) List.not_mem_nil))).trans hn36
  replace hn37 := (hg347 _ (q_nc (q_pd 38 86 rfl) (q_nc (q_pd 38 87 rfl) List.not_mem_nil))).trans hn37
  replace hn38 := (hg347 _ (q_nc (q_pd 39 86 rfl) (q_nc (q_pd 39 87 rfl) List.not_mem_nil))).trans hn38
  replace hn39 := (hg347 _ (q_nc (q_pd 40 86 rfl) (q_nc (q_pd 40 87 rfl) List.not_mem_nil))).trans hn39
  replace hn40 := (hg347 _ (q_nc (q_pd 41 86 rfl) (q_nc (q_pd 41 87 rfl) List.not_mem_nil))).trans hn40
  replace hn41 := (hg347 _ (q_nc (q_pd 42 86 rfl) (q_nc (q_pd 42 87 rfl) List.not_mem_nil))).trans hn41
  replace hn42 := (hg347 _ (q_nc (q_pd 43 86 rfl) (q_nc (q_pd 43 87 rfl) List.not_mem_nil))).trans hn42
  replace hn43 := (hg347 _ (q_nc (q_pd 44 86 rfl) (q_nc (q_pd 44 87 rfl) List.not_mem_nil))).trans hn43
  replace hn44 := (hg347 _ (q_nc (q_pd 45 86 rfl) (q_nc (q_pd 45 87 rfl) List.not_mem_nil))).trans hn44
  replace hn45 := (hg347 _ (q_nc (q_pd 46 86 rfl) (q_nc (q_pd 46 87 rfl) List.not_mem_nil))).trans hn45
  replace hn46 := (hg347 _ (q_nc (q_pd 47 86 rfl) (q_nc (q_pd 47 87 rfl) List.not_mem_nil))).trans hn46
  replace hn47 := (hg347 _ (q_nc (q_pd 48 86 rfl) (q_nc (q_pd 48 87 rfl) List.not_mem_nil))).trans hn47
  replace hn48 := (hg347 _ (q_nc (q_pd 49 86 rfl) (q_nc (q_pd 49 87 rfl) List.not_mem_nil))).trans hn48
  replace hn49 := (hg347 _ (q_nc (q_pd 50 86 rfl) (q_nc (q_pd 50 87 rfl) List.not_mem_nil))).trans hn49
  replace hn50 := (hg347 _ (q_nc (q_pd 51 86 rfl) (q_nc (q_pd 51 87 rfl) List.not_mem_nil))).trans hn50
  replace hn51 := (hg347 _ (q_nc (q_pd 52 86 rfl) (q_nc (q_pd 52 87 rfl) List.not_mem_nil))).trans hn51
  replace hn52 := (hg347 _ (q_nc (q_pd 53 86 rfl) (q_nc (q_pd 53 87 rfl) List.not_mem_nil))).trans hn52
  replace hn53 := (hg347 _ (q_nc (q_pd 54 86 rfl) (q_nc (q_pd 54 87 rfl) List.not_mem_nil))).trans hn53
  replace hn54 := (hg347 _ (q_nc (q_pd 55 86 rfl) (q_nc (q_pd 55 87 rfl) List.not_mem_nil))).trans hn54
  replace hn55 := (hg347 _ (q_nc (q_pd 56 86 rfl) (q_nc (q_pd 56 87 rfl) List.not_mem_nil))).trans hn55
  replace hn56 := (hg347 _ (q_nc (q_pd 57 86 rfl) (q_nc (q_pd 57 87 rfl) List.not_mem_nil))).trans hn56
  replace hn57 := (hg347 _ (q_nc (q_pd 58 86 rfl) (q_nc (q_pd 58 87 rfl) List.not_mem_nil))).trans hn57
  replace hn58 := (hg347 _ (q_nc (q_pd 59 86 rfl) (q_nc (q_pd 59 87 rfl) List.not_mem_nil))).trans hn58
  replace hn59 := (hg347 _ (q_nc (q_pd 60 86 rfl) (q_nc (q_pd 60 87 rfl) List.not_mem_nil))).trans hn59
  replace hn60 := (hg347 _ (q_nc (q_pd 61 86 rfl) (q_nc (q_pd 61 87 rfl) List.not_mem_nil))).trans hn60
  replace hn61 := (hg347 _ (q_nc (q_pd 62 86 rfl) (q_nc (q_pd 62 87 rfl) List.not_mem_nil))).trans hn61
  replace hn62 := (hg347 _ (q_nc (q_pd 63 86 rfl) (q_nc (q_pd 63 87 rfl) List.not_mem_nil))).trans hn62
  replace hn63 := (hg347 _ (q_nc (q_pd 64 86 rfl) (q_nc (q_pd 64 87 rfl) List.not_mem_nil))).trans hn63
  replace hn64 := (hg347 _ (q_nc (q_pd 65 86 rfl) (q_nc (q_pd 65 87 rfl) List.not_mem_nil))).trans hn64
  replace hn65 := (hg347 _ (q_nc (q_pd 66 86 rfl) (q_nc (q_pd 66 87 rfl) List.not_mem_nil))).trans hn65
  replace hn66 := (hg347 _ (q_nc (q_pd 67 86 rfl) (q_nc (q_pd 67 87 rfl) List.not_mem_nil))).trans hn66
  replace hn67 := (hg347 _ (q_nc (q_pd 68 86 rfl) (q_nc (q_pd 68 87 rfl) List.not_mem_nil))).trans hn67
  replace hn68 := (hg347 _ (q_nc (q_pd 69 86 rfl) (q_nc (q_pd 69 87 rfl) List.not_mem_nil))).trans hn68
  replace hn69 := (hg347 _ (q_nc (q_pd 70 86 rfl) (q_nc (q_pd 70 87 rfl) List.not_mem_nil))).trans hn69
  replace hn70 := (hg347 _ (q_nc (q_pd 71 86 rfl) (q_nc (q_pd 71 87 rfl) List.not_mem_nil))).trans hn70
  replace hn71 := (hg347 _ (q_nc (q_pd 72 86 rfl) (q_nc (q_pd 72 87 rfl) List.not_mem_nil))).trans hn71
  replace hn72 := (hg347 _ (q_nc (q_pd 73 86 rfl) (q_nc (q_pd 73 87 rfl) List.not_mem_nil))).trans hn72
  replace hn73 := (hg347 _ (q_nc (q_pd 74 86 rfl) (q_nc (q_pd 74 87 rfl) List.not_mem_nil))).trans hn73
  replace hn74 := (hg347 _ (q_nc (q_pd 75 86 rfl) (q_nc (q_pd 75 87 rfl) List.not_mem_nil))).trans hn74
  replace hn75 := (hg347 _ (q_nc (q_pd 76 86 rfl) (q_nc (q_pd 76 87 rfl) List.not_mem_nil))).trans hn75
  replace hn76 := (hg347 _ (q_nc (q_pd 77 86 rfl) (q_nc (q_pd 77 87 rfl) List.not_mem_nil))).trans hn76
  replace hn77 := (hg347 _ (q_nc (q_pd 78 86 rfl) (q_nc (q_pd 78 87 rfl) List.not_mem_nil))).trans hn77
  replace hn78 := (hg347 _ (q_nc (q_pd 79 86 rfl) (q_nc (q_pd 79 87 rfl) List.not_mem_nil))).trans hn78
  replace hn79 := (hg347 _ (q_nc (q_pd 80 86 rfl) (q_nc (q_pd 80 87 rfl) List.not_mem_nil))).trans hn79
  replace hn80 := (hg347 _ (q_nc (q_pd 81 86 rfl) (q_nc (q_pd 81 87 rfl) List.not_mem_nil))).trans hn80
  replace hn81 := (hg347 _ (q_nc (q_pd 82 86 rfl) (q_nc (q_pd 82 87 rfl) List.not_mem_nil))).trans hn81
  replace hn82 := (hg347 _ (q_nc (q_pd 83 86 rfl) (q_nc (q_pd 83 87 rfl) List.not_mem_nil))).trans hn82
  replace hn83 := (hg347 _ (q_nc (q_pd 84 86 rfl) (q_nc (q_pd 84 87 rfl) List.not_mem_nil))).trans hn83
  replace hn84 := (hg347 _ (q_nc (q_pd 85 86 rfl) (q_nc (q_pd 85 87 rfl) List.not_mem_nil))).trans hn84
  replace hF := q_uc hF hg347 (q_sc (.tail _ (.tail _ (.tail _ (.tail _ (.tail _ (.tail _ (.tail _ (.tail _ (.tail _ (.tail _ (.tail _ (.tail _ (.tail _ (.tail _ (.tail _ (.tail _ (.tail _ (.tail _ (.tail _ (.tail _ (.tail _ (.tail _ (.tail _ (.tail _ (.tail _ (.tail _ (.tail _ (.tail _ (.tail _ (.tail _ (.tail _ (.tail _ (.tail _ (.tail _ (.tail _ (.tail _ (.tail _ (.tail _ (.tail _ (.tail _ (.tail _ (.tail _ (.tail _ (.tail _ (.tail _ (.tail _ (.tail _ (.tail _ (.tail _ (.tail _ (.tail _ (.tail _ (.tail _ (.tail _ (.tail _ (.tail _ (.tail _ (.tail _ (.tail _ (.tail _ (.tail _ (.tail _ (.tail _ (.tail _ (.tail _ (.tail _ (.tail _ (.tail _ (.tail _ (.tail _ (.tail _ (.tail _ (.tail _ (.tail _ (.tail _ (.tail _ (.tail _ (.tail _ (.tail _ (.tail _ (.tail _ (.tail _ (.tail _ (.tail _ (.tail _ (.tail _ (.head _))))))))))))))))))))))))))))))))))))))))))))))))))))))))))))))))))))))))))))))))))))))) (q_sc (.tail _ (.tail _ (.tail _ (.tail _ (.tail _ (.tail _ (.tail _ (.tail _ (.tail _ (.tail _ (.tail _ (.tail _ (.tail _ (.tail _ (.tail _ (.tail _ (.tail _ (.tail _ (.tail _ (.tail _ (.tail _ (.tail _ (.tail _ (.tail _ (.tail _ (.tail _ (.tail _ (.tail _ (.tail _ (.tail _ (.tail _ (.tail _ (.tail _ (.tail _ (.tail _ (.tail _ (.tail _ (.tail _ (.tail _ (.tail _ (.tail _ (.tail _ (.tail _ (.tail _ (.tail _ (.tail _ (.tail _ (.tail _ (.tail _ (.tail _ (.tail _ (.tail _ (.tail _ (.tail _ (.tail _ (.tail _ (.tail _ (.tail _ (.tail _ (.tail _ (.tail _ (.tail _ (.tail _ (.tail _ (.tail _ (.tail _ (.tail _ (.tail _ (.tail _ (.tail _ (.tail _ (.tail _ (.tail _ (.tail _ (.tail _ (.tail _ (.tail _ (.tail _ (.tail _ (.tail _ (.tail _ (.tail _ (.tail _ (.tail _ (.tail _ (.tail _ (.tail _ (.head _)))))))))))))))))))))))))))))))))))))))))))))))))))))))))))))))))))))))))))))))))))))))) (fun _ h => absurd h List.not_mem_nil)))
  have hn86 : u345[87]? = some (q346, .inl (g 0, 68, .inl (fun _ => 0))) := hq348
  replace hN : u345.length = 88 := hN
  have ho349 := hn4
  refine q_aast (t := 4) (ci := 2) (i9 := 4) C0 V hn4 rfl hn85 rfl (by decide) (by decide) d_1_1_232 (fun H locs w350 hu351 hn4 V => ?_)
  replace hn4 : w350[5]? = some (q25, .inl (g 4, 10, .inr (.inr (.inr (.inr (va_up (va_up (va_up (va_up (va_up (fun _ => none) 0 (some q232)) 1 (some q259)) 2 (some q286)) 3 (some q313)) 4 (some q340))))))) := hn4
  replace hN : w350.length = 88 := (q_len1 hu351 hn4 ho349).trans hN
  replace hO0 := (hu351 _ (q_pd 0 5 rfl)).trans hO0
  replace hn0 := (hu351 _ (q_pd 1 5 rfl)).trans hn0
  replace hn1 := (hu351 _ (q_pd 2 5 rfl)).trans hn1
  replace hn2 := (hu351 _ (q_pd 3 5 rfl)).trans hn2
  replace hn3 := (hu351 _ (q_pd 4 5 rfl)).trans hn3
  replace hn5 := (hu351 _ (q_pd 6 5 rfl)).trans hn5
  replace hn6 := (hu351 _ (q_pd 7 5 rfl)).trans hn6
  replace hn7 := (hu351 _ (q_pd 8 5 rfl)).trans hn7
  replace hn8 := (hu351 _ (q_pd 9 5 rfl)).trans hn8
  replace hn9 := (hu351 _ (q_pd 10 5 rfl)).trans hn9
  replace hn10 := (hu351 _ (q_pd 11 5 rfl)).trans hn10
  replace hn11 := (hu351 _ (q_pd 12 5 rfl)).trans hn11
  replace hn12 := (hu351 _ (q_pd 13 5 rfl)).trans hn12
  replace hn13 := (hu351 _ (q_pd 14 5 rfl)).trans hn13
  replace hn14 := (hu351 _ (q_pd 15 5 rfl)).trans hn14
  replace hn15 := (hu351 _ (q_pd 16 5 rfl)).trans hn15
  replace hn16 := (hu351 _ (q_pd 17 5 rfl)).trans hn16
  replace hn17 := (hu351 _ (q_pd 18 5 rfl)).trans hn17
  replace hn18 := (hu351 _ (q_pd 19 5 rfl)).trans hn18
  replace hn19 := (hu351 _ (q_pd 20 5 rfl)).trans hn19
  replace hn20 := (hu351 _ (q_pd 21 5 rfl)).trans hn20
  replace hn21 := (hu351 _ (q_pd 22 5 rfl)).trans hn21
  replace hn22 := (hu351 _ (q_pd 23 5 rfl)).trans hn22
  replace hn23 := (hu351 _ (q_pd 24 5 rfl)).trans hn23
  replace hn24 := (hu351 _ (q_pd 25 5 rfl)).trans hn24
  replace hn25 := (hu351 _ (q_pd 26 5 rfl)).trans hn25
  replace hn26 := (hu351 _ (q_pd 27 5 rfl)).trans hn26
  replace hn27 := (hu351 _ (q_pd 28 5 rfl)).trans hn27
  replace hn28 := (hu351 _ (q_pd 29 5 rfl)).trans hn28
  replace hn29 := (hu351 _ (q_pd 30 5 rfl)).trans hn29
  replace hn30 := (hu351 _ (q_pd 31 5 rfl)).trans hn30
  replace hn31 := (hu351 _ (q_pd 32 5 rfl)).trans hn31
  replace hn32 := (hu351 _ (q_pd 33 5 rfl)).trans hn32
  replace hn33 := (hu351 _ (q_pd 34 5 rfl)).trans hn33
  replace hn34 := (hu351 _ (q_pd 35 5 rfl)).trans hn34
  replace hn35 := (hu351 _ (q_pd 36 5 rfl)).trans hn35
  replace hn36 := (hu351 _ (q_pd 37 5 rfl)).trans hn36
  replace hn37 := (hu351 _ (q_pd 38 5 rfl)).trans hn37
  replace hn38 := (hu351 _ (q_pd 39 5 rfl)).trans hn38
  replace hn39 := (hu351 _ (q_pd 40 5 rfl)).trans hn39
  replace hn40 := (hu351 _ (q_pd 41 5 rfl)).trans hn40
  replace hn41 := (hu351 _ (q_pd 42 5 rfl)).trans hn41
  replace hn42 := (hu351 _ (q_pd 43 5 rfl)).trans hn42
  replace hn43 := (hu351 _ (q_pd 44 5 rfl)).trans hn43
  replace hn44 := (hu351 _ (q_pd 45 5 rfl)).trans hn44
  replace hn45 := (hu351 _ (q_pd 46 5 rfl)).trans hn45
  replace hn46 := (hu351 _ (q_pd 47 5 rfl)).trans hn46
  replace hn47 := (hu351 _ (q_pd 48 5 rfl)).trans hn47
  replace hn48 := (hu351 _ (q_pd 49 5 rfl)).trans hn48
  replace hn49 := (hu351 _ (q_pd 50 5 rfl)).trans hn49
  replace hn50 := (hu351 _ (q_pd 51 5 rfl)).trans hn50
  replace hn51 := (hu351 _ (q_pd 52 5 rfl)).trans hn51
  replace hn52 := (hu351 _ (q_pd 53 5 rfl)).trans hn52
  replace hn53 := (hu351 _ (q_pd 54 5 rfl)).trans hn53
  replace hn54 := (hu351 _ (q_pd 55 5 rfl)).trans hn54
  replace hn55 := (hu351 _ (q_pd 56 5 rfl)).trans hn55
  replace hn56 := (hu351 _ (q_pd 57 5 rfl)).trans hn56
  replace hn57 := (hu351 _ (q_pd 58 5 rfl)).trans hn57
  replace hn58 := (hu351 _ (q_pd 59 5 rfl)).trans hn58
  replace hn59 := (hu351 _ (q_pd 60 5 rfl)).trans hn59
  replace hn60 := (hu351 _ (q_pd 61 5 rfl)).trans hn60
  replace hn61 := (hu351 _ (q_pd 62 5 rfl)).trans hn61
  replace hn62 := (hu351 _ (q_pd 63 5 rfl)).trans hn62
  replace hn63 := (hu351 _ (q_pd 64 5 rfl)).trans hn63
  replace hn64 := (hu351 _ (q_pd 65 5 rfl)).trans hn64
  replace hn65 := (hu351 _ (q_pd 66 5 rfl)).trans hn65
  replace hn66 := (hu351 _ (q_pd 67 5 rfl)).trans hn66
  replace hn67 := (hu351 _ (q_pd 68 5 rfl)).trans hn67
  replace hn68 := (hu351 _ (q_pd 69 5 rfl)).trans hn68
  replace hn69 := (hu351 _ (q_pd 70 5 rfl)).trans hn69
  replace hn70 := (hu351 _ (q_pd 71 5 rfl)).trans hn70
  replace hn71 := (hu351 _ (q_pd 72 5 rfl)).trans hn71
  replace hn72 := (hu351 _ (q_pd 73 5 rfl)).trans hn72
  replace hn73 := (hu351 _ (q_pd 74 5 rfl)).trans hn73
  replace hn74 := (hu351 _ (q_pd 75 5 rfl)).trans hn74
  replace hn75 := (hu351 _ (q_pd 76 5 rfl)).trans hn75
  replace hn76 := (hu351 _ (q_pd 77 5 rfl)).trans hn76
  replace hn77 := (hu351 _ (q_pd 78 5 rfl)).trans hn77
  replace hn78 := (hu351 _ (q_pd 79 5 rfl)).trans hn78
  replace hn79 := (hu351 _ (q_pd 80 5 rfl)).trans hn79
  replace hn80 := (hu351 _ (q_pd 81 5 rfl)).trans hn80
  replace hn81 := (hu351 _ (q_pd 82 5 rfl)).trans hn81
  replace hn82 := (hu351 _ (q_pd 83 5 rfl)).trans hn82
  replace hn83 := (hu351 _ (q_pd 84 5 rfl)).trans hn83
  replace hn84 := (hu351 _ (q_pd 85 5 rfl)).trans hn84
  replace hn85 := (hu351 _ (q_pd 86 5 rfl)).trans hn85
  replace hn86 := (hu351 _ (q_pd 87 5 rfl)).trans hn86
  replace hF := q_us hF hu351 (.tail _ (.tail _ (.tail _ (.tail _ (.tail _ (.head _))))))
  refine lv_aload_n hx hb d_1_1_233 rfl (lv_at hl 1 rfl) ?_
  refine q_get (ci := 0) (j := 3) (v := .ref q32) C0 V i_NH rfl rfl hO0 (by decide) w_427 rfl d_1_1_234 ?_
  refine lv_iload_n hx hb d_1_1_237 rfl (lv_at hl 0 rfl) ?_
  refine q_new (ci := 3) (fs := [.null, .int 0, .int 0]) C0 V hN i_Dec o_Dec rfl w_70 w_163 w_6 rfl (fun j hj => by rcases (show j = 0 ∨ j = 1 ∨ j = 2 by omega) with rfl | rfl | rfl <;> rfl) (Nat.le_of_ble_eq_true rfl) (Nat.le_of_ble_eq_true rfl) d_1_1_238 (fun q352 H w353 hu354 hn355 hN V => ?_)
  have hn87 : w353[88]? = some (q352, .inr (3, [.null, .int 0, .int 0])) := hn355
  replace hO0 := (hu354 _ (q_pd 0 88 rfl)).trans hO0
  replace hn0 := (hu354 _ (q_pd 1 88 rfl)).trans hn0
  replace hn1 := (hu354 _ (q_pd 2 88 rfl)).trans hn1
  replace hn2 := (hu354 _ (q_pd 3 88 rfl)).trans hn2
  replace hn3 := (hu354 _ (q_pd 4 88 rfl)).trans hn3
  replace hn4 := (hu354 _ (q_pd 5 88 rfl)).trans hn4
  replace hn5 := (hu354 _ (q_pd 6 88 rfl)).trans hn5
  replace hn6 := (hu354 _ (q_pd 7 88 rfl)).trans hn6
  replace hn7 := (hu354 _ (q_pd 8 88 rfl)).trans hn7
  replace hn8 := (hu354 _ (q_pd 9 88 rfl)).trans hn8
  replace hn9 := (hu354 _ (q_pd 10 88 rfl)).trans hn9
  replace hn10 := (hu354 _ (q_pd 11 88 rfl)).trans hn10
  replace hn11 := (hu354 _ (q_pd 12 88 rfl)).trans hn11
  replace hn12 := (hu354 _ (q_pd 13 88 rfl)).trans hn12
  replace hn13 := (hu354 _ (q_pd 14 88 rfl)).trans hn13
  replace hn14 := (hu354 _ (q_pd 15 88 rfl)).trans hn14
  replace hn15 := (hu354 _ (q_pd 16 88 rfl)).trans hn15
  replace hn16 := (hu354 _ (q_pd 17 88 rfl)).trans hn16
  replace hn17 := (hu354 _ (q_pd 18 88 rfl)).trans hn17
  replace hn18 := (hu354 _ (q_pd 19 88 rfl)).trans hn18
  replace hn19 := (hu354 _ (q_pd 20 88 rfl)).trans hn19
  replace hn20 := (hu354 _ (q_pd 21 88 rfl)).trans hn20
  replace hn21 := (hu354 _ (q_pd 22 88 rfl)).trans hn21
  replace hn22 := (hu354 _ (q_pd 23 88 rfl)).trans hn22
  replace hn23 := (hu354 _ (q_pd 24 88 rfl)).trans hn23
  replace hn24 := (hu354 _ (q_pd 25 88 rfl)).trans hn24
  replace hn25 := (hu354 _ (q_pd 26 88 rfl)).trans hn25
  replace hn26 := (hu354 _ (q_pd 27 88 rfl)).trans hn26
  replace hn27 := (hu354 _ (q_pd 28 88 rfl)).trans hn27
  replace hn28 := (hu354 _ (q_pd 29 88 rfl)).trans hn28
  replace hn29 := (hu354 _ (q_pd 30 88 rfl)).trans hn29
  replace hn30 := (hu354 _ (q_pd 31 88 rfl)).trans hn30
  replace hn31 := (hu354 _ (q_pd 32 88 rfl)).trans hn31
  replace hn32 := (hu354 _ (q_pd 33 88 rfl)).trans hn32
  replace hn33 := (hu354 _ (q_pd 34 88 rfl)).trans hn33
  replace hn34 := (hu354 _ (q_pd 35 88 rfl)).trans hn34
  replace hn35 := (hu354 _ (q_pd 36 88 rfl)).trans hn35
  replace hn36 := (hu354 _ (q_pd 37 88 rfl)).trans hn36
  replace hn37 := (hu354 _ (q_pd 38 88 rfl)).trans hn37
  replace hn38 := (hu354 _ (q_pd 39 88 rfl)).trans hn38
  replace hn39 := (hu354 _ (q_pd 40 88 rfl)).trans hn39
  replace hn40 := (hu354 _ (q_pd 41 88 rfl)).trans hn40
  replace hn41 := (hu354 _ (q_pd 42 88 rfl)).trans hn41
  replace hn42 := (hu354 _ (q_pd 43 88 rfl)).trans hn42
  replace hn43 := (hu354 _ (q_pd 44 88 rfl)).trans hn43
  replace hn44 := (hu354 _ (q_pd 45 88 rfl)).trans hn44
  replace hn45 := (hu354 _ (q_pd 46 88 rfl)).trans hn45
  replace hn46 := (hu354 _ (q_pd 47 88 rfl)).trans hn46
  replace hn47 := (hu354 _ (q_pd 48 88 rfl)).trans hn47
  replace hn48 := (hu354 _ (q_pd 49 88 rfl)).trans hn48
  replace hn49 := (hu354 _ (q_pd 50 88 rfl)).trans hn49
  replace hn50 := (hu354 _ (q_pd 51 88 rfl)).trans hn50
  replace hn51 := (hu354 _ (q_pd 52 88 rfl)).trans hn51
  replace hn52 := (hu354 _ (q_pd 53 88 rfl)).trans hn52
  replace hn53 := (hu354 _ (q_pd 54 88 rfl)).trans hn53
  replace hn54 := (hu354 _ (q_pd 55 88 rfl)).trans hn54
  replace hn55 := (hu354 _ (q_pd 56 88 rfl)).trans hn55
  replace hn56 := (hu354 _ (q_pd 57 88 rfl)).trans hn56
  replace hn57 := (hu354 _ (q_pd 58 88 rfl)).trans hn57
  replace hn58 := (hu354 _ (q_pd 59 88 rfl)).trans hn58
  replace hn59 := (hu354 _ (q_pd 60 88 rfl)).trans hn59
  replace hn60 := (hu354 _ (q_pd 61 88 rfl)).trans hn60
  replace hn61 := (hu354 _ (q_pd 62 88 rfl)).trans hn61
  replace hn62 := (hu354 _ (q_pd 63 88 rfl)).trans hn62
  replace hn63 := (hu354 _ (q_pd 64 88 rfl)).trans hn63
  replace hn64 := (hu354 _ (q_pd 65 88 rfl)).trans hn64
  replace hn65 := (hu354 _ (q_pd 66 88 rfl)).trans hn65
  replace hn66 := (hu354 _ (q_pd 67 88 rfl)).trans hn66
  replace hn67 := (hu354 _ (q_pd 68 88 rfl)).trans hn67
  replace hn68 := (hu354 _ (q_pd 69 88 rfl)).trans hn68
  replace hn69 := (hu354 _ (q_pd 70 88 rfl)).trans hn69
  replace hn70 := (hu354 _ (q_pd 71 88 rfl)).trans hn70
  replace hn71 := (hu354 _ (q_pd 72 88 rfl)).trans hn71
  replace hn72 := (hu354 _ (q_pd 73 88 rfl)).trans hn72
  replace hn73 := (hu354 _ (q_pd 74 88 rfl)).trans hn73
  replace hn74 := (hu354 _ (q_pd 75 88 rfl)).trans hn74
  replace hn75 := (hu354 _ (q_pd 76 88 rfl)).trans hn75
  replace hn76 := (hu354 _ (q_pd 77 88 rfl)).trans hn76
  replace hn77 := (hu354 _ (q_pd 78 88 rfl)).trans hn77
  replace hn78 := (hu354 _ (q_pd 79 88 rfl)).trans hn78
  replace hn79 := (hu354 _ (q_pd 80 88 rfl)).trans hn79
  replace hn80 := (hu354 _ (q_pd 81 88 rfl)).trans hn80
  replace hn81 := (hu354 _ (q_pd 82 88 rfl)).trans hn81
  replace hn82 := (hu354 _ (q_pd 83 88 rfl)).trans hn82
  replace hn83 := (hu354 _ (q_pd 84 88 rfl)).trans hn83
  replace hn84 := (hu354 _ (q_pd 85 88 rfl)).trans hn84
  replace hn85 := (hu354 _ (q_pd 86 88 rfl)).trans hn85
  replace hn86 := (hu354 _ (q_pd 87 88 rfl)).trans hn86
  replace hF := q_us hF hu354 (.tail _ (.tail _ (.tail _ (.tail _ (.tail _ (.tail _ (.tail _ (.tail _ (.tail _ (.tail _ (.tail _ (.tail _ (.tail _ (.tail _ (.tail _ (.tail _ (.tail _ (.tail _ (.tail _ (.tail _ (.tail _ (.tail _ (.tail _ (.tail _ (.tail _ (.tail _ (.tail _ (.tail _ (.tail _ (.tail _ (.tail _ (.tail _ (.tail _ (.tail _ (.tail _ (.tail _ (.tail _ (.tail _ (.tail _ (.tail _ (.tail _ (.tail _ (.tail _ (.tail _ (.tail _ (.tail _ (.tail _ (.tail _ (.tail _ (.tail _ (.tail _ (.tail _ (.tail _ (.tail _ (.tail _ (.tail _ (.tail _ (.tail _ (.tail _ (.tail _ (.tail _ (.tail _ (.tail _ (.tail _ (.tail _ (.tail _ (.tail _ (.tail _ (.tail _ (.tail _ (.tail _ (.tail _ (.tail _ (.tail _ (.tail _ (.tail _ (.tail _ (.tail _ (.tail _ (.tail _ (.tail _ (.tail _ (.tail _ (.tail _ (.tail _ (.tail _ (.tail _ (.tail _ (.head _)))))))))))))))))))))))))))))))))))))))))))))))))))))))))))))))))))))))))))))))))))))))))
  replace hN : w353.length = 89 := hN
  refine lv_dup hx hb d_1_1_241 rfl ?_
  refine lv_bipush (v := 108) hx hb d_1_1_242 (by decide) ?_
  refine q_gov V (q_runI (As := [.int 108]) (rest := [.ref q352, .int 4, .ref q32]) (d := 3) (mc := 2) (ms := 111) C0 V rfl LI_NH_103 (c_Dec_init l D g w353 88 q352 89 hN hn87 _) rfl hl.1 rfl (Nat.le_of_ble_eq_true rfl) ⟨by decide, by decide⟩ ⟨Nat.le_of_ble_eq_true rfl, Nat.le_of_ble_eq_true rfl⟩ d_1_1_244) (fun u357 H locs hp356 V => ?_)
  obtain ⟨q358, q359, hg360, hn87, hq361, hq362, hN⟩ := hp356
  replace hO0 := (hg360 _ (q_nc (q_pd 0 88 rfl) (q_nc (q_pd 0 89 rfl) (q_nc (q_pd 0 90 rfl) List.not_mem_nil)))).trans hO0
  replace hn0 := (hg360 _ (q_nc (q_pd 1 88 rfl) (q_nc (q_pd 1 89 rfl) (q_nc (q_pd 1 90 rfl) List.not_mem_nil)))).trans hn0
  replace hn1 := (hg360 _ (q_nc (q_pd 2 88 rfl) (q_nc (q_pd 2 89 rfl) (q_nc (q_pd 2 90 rfl) List.not_mem_nil)))).trans hn1
  replace hn2 := (hg360 _ (q_nc (q_pd 3 88 rfl) (q_nc (q_pd 3 89 rfl) (q_nc (q_pd 3 90 rfl) List.not_mem_nil)))).trans hn2
  replace hn3 := (hg360 _ (q_nc (q_pd 4 88 rfl) (q_nc (q_pd 4 89 rfl) (q_nc (q_pd 4 90 rfl) List.not_mem_nil)))).trans hn3
  replace hn4 := (hg360 _ (q_nc (q_pd 5 88 rfl) (q_nc (q_pd 5 89 rfl) (q_nc (q_pd 5 90 rfl) List.not_mem_nil)))).trans hn4
  replace hn5 := (hg360 _ (q_nc (q_pd 6 88 rfl) (q_nc (q_pd 6 89 rfl) (q_nc (q_pd 6 90 rfl) List.not_mem_nil)))).trans hn5
  replace hn6 := (hg360 _ (q_nc (q_pd 7 88 rfl) (q_nc (q_pd 7 89 rfl) (q_nc (q_pd 7 90 rfl) List.not_mem_nil)))).trans hn6
  replace hn7 := (hg360 _ (q_nc (q_pd 8 88 rfl) (q_nc (q_pd 8 89 rfl) (q_nc (q_pd 8 90 rfl) List.not_mem_nil)))).trans hn7
  replace hn8 := (hg360 _ (q_nc (q_pd 9 88 rfl) (q_nc (q_pd 9 89 rfl) (q_nc (q_pd 9 90 rfl) List.not_mem_nil)))).trans hn8
  replace hn9 := (hg360 _ (q_nc (q_pd 10 88 rfl) (q_nc (q_pd 10 89 rfl) (q_nc (q_pd 10 90 rfl) List.not_mem_nil)))).trans hn9
  replace hn10 := (hg360 _ (q_nc (q_pd 11 88 rfl) (q_nc (q_pd 11 89 rfl) (q_nc (q_pd 11 90 rfl) List.not_mem_nil)))).trans hn10
  replace hn11 := (hg360 _ (q_nc (q_pd 12 88 rfl) (q_nc (q_pd 12 89 rfl) (q_nc (q_pd 12 90 rfl) List.not_mem_nil)))).trans hn11
  replace hn12 := (hg360 _ (q_nc (q_pd 13 88 rfl) (q_nc (q_pd 13 89 rfl) (q_nc (q_pd 13 90 rfl) List.not_mem_nil)))).trans hn12
  replace hn13 := (hg360 _ (q_nc (q_pd 14 88 rfl) (q_nc (q_pd 14 89 rfl) (q_nc (q_pd 14 90 rfl) List.not_mem_nil)))).trans hn13
  replace hn14 := (hg360 _ (q_nc (q_pd 15 88 rfl) (q_nc (q_pd 15 89 rfl) (q_nc (q_pd 15 90 rfl) List.not_mem_nil)))).trans hn14
  replace hn15 := (hg360 _ (q_nc (q_pd 16 88 rfl) (q_nc (q_pd 16 89 rfl) (q_nc (q_pd 16 90 rfl) List.not_mem_nil)))).trans hn15
  replace hn16 := (hg360 _ (q_nc (q_pd 17 88 rfl) (q_nc (q_pd 17 89 rfl) (q_nc (q_pd 17 90 rfl) List.not_mem_nil)))).trans hn16
  replace hn17 := (hg360 _ (q_nc (q_pd 18 88 rfl) (q_nc (q_pd 18 89 rfl) (q_nc (q_pd 18 90 rfl) List.not_mem_nil)))).trans hn17
  replace hn18 := (hg360 _ (q_nc (q_pd 19 88 rfl) (q_nc (q_pd 19 89 rfl) (q_nc (q_pd 19 90 rfl) List.not_mem_nil)))).trans hn18
  replace hn19 := (hg360 _ (q_nc (q_pd 20 88 rfl) (q_nc (q_pd 20 89 rfl) (q_nc (q_pd 20 90 rfl) List.not_mem_nil)))).trans hn19
  replace hn20 := (hg360 _ (q_nc (q_pd 21 88 rfl) (q_nc (q_pd 21 89 rfl) (q_nc (q_pd 21 90 rfl) List.not_mem_nil)))).trans hn20
  replace hn21 := (hg360 _ (q_nc (q_pd 22 88 rfl) (q_nc (q_pd 22 89 rfl) (q_nc (q_pd 22 90 rfl) List.not_mem_nil)))).trans hn21
  replace hn22 := (hg360 _ (q_nc (q_pd 23 88 rfl) (q_nc (q_pd 23 89 rfl) (q_nc (q_pd 23 90 rfl) List.not_mem_nil)))).trans hn22
  replace hn23 := (hg360 _ (q_nc (q_pd 24 88 rfl) (q_nc (q_pd 24 89 rfl) (q_nc (q_pd 24 90 rfl) List.not_mem_nil)))).trans hn23
  replace hn24 := (hg360 _ (q_nc (q_pd 25 88 rfl) (q_nc (q_pd 25 89 rfl) (q_nc (q_pd 25 90 rfl) List.not_mem_nil)))).trans hn24
  replace hn25 := (hg360 _ (q_nc (q_pd 26 88 rfl) (q_nc (q_pd 26 89 rfl) (q_nc (q_pd 26 90 rfl) List.not_mem_nil)))).trans hn25
  replace hn26 := (hg360 _ (q_nc (q_pd 27 88 rfl) (q_nc (q_pd 27 89 rfl) (q_nc (q_pd 27 90 rfl) List.not_mem_nil)))).trans hn26
  replace hn27 := (hg360 _ (q_nc (q_pd 28 88 rfl) (q_nc (q_pd 28 89 rfl) (q_nc (q_pd 28 90 rfl) List.not_mem_nil)))).trans hn27
  replace hn28 := (hg360 _ (q_nc (q_pd 29 88 rfl) (q_nc (q_pd 29 89 rfl) (q_nc (q_pd 29 90 rfl) List.not_mem_nil)))).trans hn28
  replace hn29 := (hg360 _ (q_nc (q_pd 30 88 rfl) (q_nc (q_pd 30 89 rfl) (q_nc (q_pd 30 90 rfl) List.not_mem_nil)))).trans hn29
  replace hn30 := (hg360 _ (q_nc (q_pd 31 88 rfl) (q_nc (q_pd 31 89 rfl) (q_nc (q_pd 31 90 rfl) List.not_mem_nil)))).trans hn30
  replace hn31 := (hg360 _ (q_nc (q_pd 32 88 rfl) (q_nc (q_pd 32 89 rfl) (q_nc (q_pd 32 90 rfl) List.not_mem_nil)))).trans hn31
  replace hn32 := (hg360 _ (q_nc (q_pd 33 88 rfl) (q_nc (q_pd 33 89 rfl) (q_nc (q_pd 33 90 rfl) List.not_mem_nil)))).trans hn32
  replace hn33 := (hg360 _ (q_nc (q_pd 34 88 rfl) (q_nc (q_pd 34 89 rfl) (q_nc (q_pd 34 90 rfl) List.not_mem_nil)))).trans hn33
  replace hn34 := (hg360 _ (q_nc (q_pd 35 88 rfl) (q_nc (q_pd 35 89 rfl) (q_nc (q_pd 35 90 rfl) List.not_mem_nil)))).trans hn34
  replace hn35 := (hg360 _ (q_nc (q_pd 36 88 rfl) (q_nc (q_pd 36 89 rfl) (q_nc (q_pd 36 90 rfl) List.not_mem_nil)))).trans hn35
  replace hn36 := (hg360 _ (q_nc (q_pd 37 88 rfl) (q_nc (q_pd 37 89 rfl) (q_nc (q_pd 37 90 rfl) List.not_mem_nil)))).trans hn36
  replace hn37 := (hg360 _ (q_nc (q_pd 38 88 rfl) (q_nc (q_pd 38 89 rfl) (q_nc (q_pd 38 90 rfl) List.not_mem_nil)))).trans hn37
  replace hn38 := (hg360 _ (q_nc (q_pd 39 88 rfl) (q_nc (q_pd 39 89 rfl) (q_nc (q_pd 39 90 rfl) List.not_mem_nil)))).trans hn38
  replace hn39 := (hg360 _ (q_nc (q_pd 40 88 rfl) (q_nc (q_pd 40 89 rfl) (q_nc (q_pd 40 90 rfl) List.not_mem_nil)))).trans hn39
  replace hn40 := (hg360 _ (q_nc (q_pd 41 88 rfl) (q_nc (q_pd 41 89 rfl) (q_nc (q_pd 41 90 rfl) List.not_mem_nil)))).trans hn40
  replace hn41 := (hg360 _ (q_nc (q_pd 42 88 rfl) (q_nc (q_pd 42 89 rfl) (q_nc (q_pd 42 90 rfl) List.not_mem_nil)))).trans hn41
  replace hn42 := (hg360 _ (q_nc (q_pd 43 88 rfl) (q_nc (q_pd 43 89 rfl) (q_nc (q_pd 43 90 rfl) List.not_mem_nil)))).trans hn42
  replace hn43 := (hg360 _ (q_nc (q_pd 44 88 rfl) (q_nc (q_pd 44 89 rfl) (q_nc (q_pd 44 90 rfl) List.not_mem_nil)))).trans hn43
  replace hn44 := (hg360 _ (q_nc (q_pd 45 88 rfl) (q_nc (q_pd 45 89 rfl) (q_nc (q_pd 45 90 rfl) List.not_mem_nil)))).trans hn44
  replace hn45 := (hg360 _ (q_nc (q_pd 46 88 rfl) (q_nc (q_pd 46 89 rfl) (q_nc (q_pd 46 90 rfl) List.not_mem_nil)))).trans hn45
  replace hn46 := (hg360 _ (q_nc (q_pd 47 88 rfl) (q_nc (q_pd 47 89 rfl) (q_nc (q_pd 47 90 rfl) List.not_mem_nil)))).trans hn46
  replace hn47 := (hg360 _ (q_nc (q_pd 48 88 rfl) (q_nc (q_pd 48 89 rfl) (q_nc (q_pd 48 90 rfl) List.not_mem_nil)))).trans hn47
  replace hn48 := (hg360 _ (q_nc (q_pd 49 88 rfl) (q_nc (q_pd 49 89 rfl) (q_nc (q_pd 49 90 rfl) List.not_mem_nil)))).trans hn48
  replace hn49 := (hg360 _ (q_nc (q_pd 50 88 rfl) (q_nc (q_pd 50 89 rfl) (q_nc (q_pd 50 90 rfl) List.not_mem_nil)))).trans hn49
  replace hn50 := (hg360 _ (q_nc (q_pd 51 88 rfl) (q_nc (q_pd 51 89 rfl) (q_nc (q_pd 51 90 rfl) List.not_mem_nil)))).trans hn50
  replace hn51 := (hg360 _ (q_nc (q_pd 52 88 rfl) (q_nc (q_pd 52 89 rfl) (q_nc (q_pd 52 90 rfl) List.not_mem_nil)))).trans hn51
  replace hn52 := (hg360 _ (q_nc (q_pd 53 88 rfl) (q_nc (q_pd 53 89 rfl) (q_nc (q_pd 53 90 rfl) List.not_mem_nil)))).trans hn52
  replace hn53 := (hg360 _ (q_nc (q_pd 54 88 rfl) (q_nc (q_pd 54 89 rfl) (q_nc (q_pd 54 90 rfl) List.not_mem_nil)))).trans hn53
  replace hn54 := (hg360 _ (q_nc (q_pd 55 88 rfl) (q_nc (q_pd 55 89 rfl) (q_nc (q_pd 55 90 rfl) List.not_mem_nil)))).trans hn54
  replace hn55 := (hg360 _ (q_nc (q_pd 56 88 rfl) (q_nc (q_pd 56 89 rfl) (q_nc (q_pd 56 90 rfl) List.not_mem_nil)))).trans hn55
  replace hn56 := (hg360 _ (q_nc (q_pd 57 88 rfl) (q_nc (q_pd 57 89 rfl) (q_nc (q_pd 57 90 rfl) List.not_mem_nil)))).trans hn56
  replace hn57 := (hg360 _ (q_nc (q_pd 58 88 rfl) (q_nc (q_pd 58 89 rfl) (q_nc (q_pd 58 90 rfl) List.not_mem_nil)))).trans hn57
  replace hn58 := (hg360 _ (q_nc (q_pd 59 88 rfl) (q_nc (q_pd 59 89 rfl) (q_nc (q_pd 59 90 rfl) List.not_mem_nil)))).trans hn58
  replace hn59 := (hg360 _ (q_nc (q_pd 60 88 rfl) (q_nc (q_pd 60 89 rfl) (q_nc (q_pd 60 90 rfl) List.not_mem_nil)))).trans hn59
  replace hn60 := (hg360 _ (q_nc (q_pd 61 88 rfl) (q_nc (q_pd 61 89 rfl) (q_nc (q_pd 61 90 rfl) List.not_mem_nil)))).trans hn60
  replace hn61 := (hg360 _ (q_nc (q_pd 62 88 rfl) (q_nc (q_pd 62 89 rfl) (q_nc (q_pd 62 90 rfl) List.not_mem_nil)))).trans hn61
  replace hn62 := (hg360 _ (q_nc (q_pd 63 88 rfl) (q_nc (q_pd 63 89 rfl) (q_nc (q_pd 63 90 rfl) List.not_mem_nil)))).trans hn62
  replace hn63 := (hg360 _ (q_nc (q_pd 64 88 rfl) (q_nc (q_pd 64 89 rfl) (q_nc (q_pd 64 90 rfl) List.not_mem_nil)))).trans hn63
  replace hn64 := (hg360 _ (q_nc (q_pd 65 88 rfl) (q_nc (q_pd 65 89 rfl) (q_nc (q_pd 65 90 rfl) List.not_mem_nil)))).trans hn64
  replace hn65 := (hg360 _ (q_nc (q_pd 66 88 rfl) (q_nc (q_pd 66 89 rfl) (q_nc (q_pd 66 90 rfl) List.not_mem_nil)))).trans hn65
  replace hn66 := (hg360 _ (q_nc (q_pd 67 88 rfl) (q_nc (q_pd 67 89 rfl) (q_nc (q_pd 67 90 rfl) List.not_mem_nil)))).trans hn66
  replace hn67 := (hg360 _ (q_nc (q_pd 68 88 rfl) (q_nc (q_pd 68 89 rfl) (q_nc (q_pd 68 90 rfl) List.not_mem_nil)))).trans hn67
  replace hn68 := (hg360 _ (q_nc (q_pd 69 88 rfl) (q_nc (q_pd 69 89 rfl) (q_nc (q_pd 69 90 rfl) List.not_mem_nil)))).trans hn68
  replace hn69 := (hg360 _ (q_nc (q_pd 70 88 rfl) (q_nc (q_pd 70 89 rfl) (q_nc (q_pd 70 90 rfl) List.not_mem_nil)))).trans hn69
  replace hn70 := (hg360 _ (q_nc (q_pd 71 88 rfl) (q_nc (q_pd 71 89 rfl) (q_nc (q_pd 71 90 rfl) List.not_mem_nil)))).trans hn70
  replace hn71 := (hg360 _ (q_nc (q_pd 72 88 rfl) (q_nc (q_pd 72 89 rfl) (q_nc (q_pd 72 90 rfl) List.not_mem_nil)))).trans hn71
  replace hn72 := (hg360 _ (q_nc (q_pd 73 88 rfl) (q_nc (q_pd 73 89 rfl) (q_nc (q_pd 73 90 rfl) List.not_mem_nil)))).trans hn72
  replace hn73 := (hg360 _ (q_nc (q_pd 74 88 rfl) (q_nc (q_pd 74 89 rfl) (q_nc (q_pd 74 90 rfl) List.not_mem_nil)))).trans hn73
  replace hn74 := (hg360 _ (q_nc (q_pd 75 88 rfl) (q_nc (q_pd 75 89 rfl) (q_nc (q_pd 75 90 rfl) List.not_mem_nil)))).trans hn74
  replace hn75 := (hg360 _ (q_nc (q_pd 76 88 rfl) (q_nc (q_pd 76 89 rfl) (q_nc (q_pd 76 90 rfl) List.not_mem_nil)))).trans hn75
  replace hn76 := (hg360 _ (q_nc (q_pd 77 88 rfl) (q_nc (q_pd 77 89 rfl) (q_nc (q_pd 77 90 rfl) List.not_mem_nil)))).trans hn76
  replace hn77 := (hg360 _ (q_nc (q_pd 78 88 rfl) (q_nc (q_pd 78 89 rfl) (q_nc (q_pd 78 90 rfl) List.not_mem_nil)))).trans hn77
  replace hn78 := (hg360 _ (q_nc (q_pd 79 88 rfl) (q_nc (q_pd 79 89 rfl) (q_nc (q_pd 79 90 rfl) List.not_mem_nil)))).trans hn78
  replace hn79 := (hg360 _ (q_nc (q_pd 80 88 rfl) (q_nc (q_pd 80 89 rfl) (q_nc (q_pd 80 90 rfl) List.not_mem_nil)))).trans hn79
  replace hn80 := (hg360 _ (q_nc (q_pd 81 88 rfl) (q_nc (q_pd 81 89 rfl) (q_nc (q_pd 81 90 rfl) List.not_mem_nil)))).trans hn80
  replace hn81 := (hg360 _ (q_nc (q_pd 82 88 rfl) (q_nc (q_pd 82 89 rfl) (q_nc (q_pd 82 90 rfl) List.not_mem_nil)))).trans hn81
  replace hn82 := (hg360 _ (q_nc (q_pd 83 88 rfl) (q_nc (q_pd 83 89 rfl) (q_nc (q_pd 83 90 rfl) List.not_mem_nil)))).trans hn82
  replace hn83 := (hg360 _ (q_nc (q_pd 84 88 rfl) (q_nc (q_pd 84 89 rfl) (q_nc (q_pd 84 90 rfl) List.not_mem_nil)))).trans hn83
  replace hn84 := (hg360 _ (q_nc (q_pd 85 88 rfl) (q_nc (q_pd 85 89 rfl) (q_nc (q_pd 85 90 rfl) List.not_mem_nil)))).trans hn84
  replace hn85 := (hg360 _ (q_nc (q_pd 86 88 rfl) (q_nc (q_pd 86 89 rfl) (q_nc (q_pd 86 90 rfl) List.not_mem_nil)))).trans hn85
  replace hn86 := (hg360 _ (q_nc (q_pd 87 88 rfl) (q_nc (q_pd 87 89 rfl) (q_nc (q_pd 87 90 rfl) List.not_mem_nil)))).trans hn86
  replace hF := q_uc hF hg360 (q_sc (.tail _ (.tail _ (.tail _ (.tail _ (.tail _ (.tail _ (.tail _ (.tail _ (.tail _ (.tail _ (.tail _ (.tail _ (.tail _ (.tail _ (.tail _ (.tail _ (.tail _ (.tail _ (.tail _ (.tail _ (.tail _ (.tail _ (.tail _ (.tail _ (.tail _ (.tail _ (.tail _ (.tail _ (.tail _ (.tail _ (.tail _ (.tail _ (.tail _ (.tail _ (.tail _ (.tail _ (.tail _ (.tail _ (.tail _ (.tail _ (.tail _ (.tail _ (.tail _ (.tail _ (.tail _ (.tail _ (.tail _ (.tail _ (.tail _ (.tail _ (.tail _ (.tail _ (.tail _ (.tail _ (.tail _ (.tail _ (.tail _ (.tail _ (.tail _ (.tail _ (.tail _ (.tail _ (.tail _ (.tail _ (.tail _ (.tail _ (.tail _ (.tail _ (.tail _ (.tail _ (.tail _ (.tail _ (.tail _ (.tail _ (.tail _ (.tail _ (.tail _ (.tail _ (.tail _ (.tail _ (.tail _ (.tail _ (.tail _ (.tail _ (.tail _ (.tail _ (.tail _ (.tail _ (.head _))))))))))))))))))))))))))))))))))))))))))))))))))))))))))))))))))))))))))))))))))))))))) (q_sc (.tail _ (.tail _ (.tail _ (.tail _ (.tail _ (.tail _ (.tail _ (.tail _ (.tail _ (.tail _ (.tail _ (.tail _ (.tail _ (.tail _ (.tail _ (.tail _ (.tail _ (.tail _ (.tail _ (.tail _ (.tail _ (.tail _ (.tail _ (.tail _ (.tail _ (.tail _ (.tail _ (.tail _ (.tail _ (.tail _ (.tail _ (.tail _ (.tail _ (.tail _ (.tail _ (.tail _ (.tail _ (.tail _ (.tail _ (.tail _ (.tail _ (.tail _ (.tail _ (.tail _ (.tail _ (.tail _ (.tail _ (.tail _ (.tail _ (.tail _ (.tail _ (.tail _ (.tail _ (.tail _ (.tail _ (.tail _ (.tail _ (.tail _ (.tail _ (.tail _ (.tail _ (.tail _ (.tail _ (.tail _ (.tail _ (.tail _ (.tail _ (.tail _ (.tail _ (.tail _ (.tail _ (.tail _ (.tail _ (.tail _ (.tail _ (.tail _ (.tail _ (.tail _ (.tail _ (.tail _ (.tail _ (.tail _ (.tail _ (.tail _ (.tail _ (.tail _ (.tail _ (.tail _ (.tail _ (.head _)))))))))))))))))))))))))))))))))))))))))))))))))))))))))))))))))))))))))))))))))))))))))) (q_sc (.tail _ (.tail _ (.tail _ (.tail _ (.tail _ (.tail _ (.tail _ (.tail _ (.tail _ (.tail _ (.tail _ (.tail _ (.tail _ (.tail _ (.tail _ (.tail _ (.tail _ (.tail _ (.tail _ (.tail _ (.tail _ (.tail _ (.tail _ (.tail _ (.tail _ (.tail _ (.tail _ (.tail _ (.tail _ (.tail _ (.tail _ (.tail _ (.tail _ (.tail _ (.tail _ (.tail _ (.tail _ (.tail _ (.tail _ (.tail _ (.tail _ (.tail _ (.tail _ (.tail _ (.tail _ (.tail _ (.tail _ (.tail _ (.tail _ (.tail _ (.tail _ (.tail _ (.tail _ (.tail _ (.tail _ (.tail _ (.tail _ (.tail _ (.tail _ (.tail _ (.tail _ (.tail _ (.tail _ (.tail _ (.tail _ (.tail _ (.tail _ (.tail _ (.tail _ (.tail _ (.tail _ (.tail _ (.tail _ (.tail _ (.tail _ (.tail _ (.tail _ (.tail _ (.tail _ (.tail _ (.tail _ (.tail _ (.tail _ (.tail _ (.tail _ (.tail _ (.tail _ (.tail _ (.tail _ (.tail _ (.head _))))))))))))))))))))))))))))))))))))))))))))))))))))))))))))))))))))))))))))))))))))))))))) (fun _ h => absurd h List.not_mem_nil))))
  have hn88 : u357[89]? = some (q358, .inr (2, [.ref q359, .int 0, .int 0])) := hq361
  have hn89 : u357[90]? = some (q359, .inl (g 0, 108, .inl (fun _ => 0))) := hq362
  replace hN : u357.length = 91 := hN
  have ho363 := hn5
  refine q_aast (t := 5) (ci := 3) (i9 := 4) C0 V hn5 rfl hn87 rfl (by decide) (by decide) d_1_1_247 (fun H locs w364 hu365 hn5 V => ?_)
  replace hn5 : w364[6]? = some (q32, .inl (g 5, 10, .inr (.inr (.inr (.inr (va_up (va_up (va_up (va_up (va_up (fun _ => none) 0 (some q244)) 1 (some q271)) 2 (some q298)) 3 (some q325)) 4 (some q352))))))) := hn5
  replace hN : w364.length = 91 := (q_len1 hu365 hn5 ho363).trans hN
  replace hO0 := (hu365 _ (q_pd 0 6 rfl)).trans hO0
  replace hn0 := (hu365 _ (q_pd 1 6 rfl)).trans hn0
  replace hn1 := (hu365 _ (q_pd 2 6 rfl)).trans hn1
  replace hn2 := (hu365 _ (q_pd 3 6 rfl)).trans hn2
  replace hn3 := (hu365 _ (q_pd 4 6 rfl)).trans hn3
  replace hn4 := (hu365 _ (q_pd 5 6 rfl)).trans hn4
  replace hn6 := (hu365 _ (q_pd 7 6 rfl)).trans hn6
  replace hn7 := (hu365 _ (q_pd 8 6 rfl)).trans hn7
  replace hn8 := (hu365 _ (q_pd 9 6 rfl)).trans hn8
  replace hn9 := (hu365 _ (q_pd 10 6 rfl)).trans hn9
  replace hn10 := (hu365 _ (q_pd 11 6 rfl)).trans hn10
  replace hn11 := (hu365 _ (q_pd 12 6 rfl)).trans hn11
  replace hn12 := (hu365 _ (q_pd 13 6 rfl)).trans hn12
  replace hn13 := (hu365 _ (q_pd 14 6 rfl)).trans hn13
  replace hn14 := (hu365 _ (q_pd 15 6 rfl)).trans hn14
  replace hn15 := (hu365 _ (q_pd 16 6 rfl)).trans hn15
  replace hn16 := (hu365 _ (q_pd 17 6 rfl)).trans hn16
  replace hn17 := (hu365 _ (q_pd 18 6 rfl)).trans hn17
  replace hn18 := (hu365 _ (q_pd 19 6 rfl)).trans hn18
  replace hn19 := (hu365 _ (q_pd 20 6 rfl)).trans hn19
  replace hn20 := (hu365 _ (q_pd 21 6 rfl)).trans hn20
  replace hn21 := (hu365 _ (q_pd 22 6 rfl)).trans hn21
  replace hn22 := (hu365 _ (q_pd 23 6 rfl)).trans hn22
  replace hn23 := (hu365 _ (q_pd 24 6 rfl)).trans hn23
  replace hn24 := (hu365 _ (q_pd 25 6 rfl)).trans hn24
  replace hn25 := (hu365 _ (q_pd 26 6 rfl)).trans hn25
  replace hn26 := (hu365 _ (q_pd 27 6 rfl)).trans hn26
  replace hn27 := (hu365 _ (q_pd 28 6 rfl)).trans hn27
  replace hn28 := (hu365 _ (q_pd 29 6 rfl)).trans hn28
  replace hn29 := (hu365 _ (q_pd 30 6 rfl)).trans hn29
  replace hn30 := (hu365 _ (q_pd 31 6 rfl)).trans hn30
  replace hn31 := (hu365 _ (q_pd 32 6 rfl)).trans hn31
  replace hn32 := (hu365 _ (q_pd 33 6 rfl)).trans hn32
  replace hn33 := (hu365 _ (q_pd 34 6 rfl)).trans hn33
  replace hn34 := (hu365 _ (q_pd 35 6 rfl)).trans hn34
  replace hn35 := (hu365 _ (q_pd 36 6 rfl)).trans hn35
  replace hn36 := (hu365 _ (q_pd 37 6 rfl)).trans hn36
  replace hn37 := (hu365 _ (q_pd 38 6 rfl)).trans hn37
  replace hn38 := (hu365 _ (q_pd 39 6 rfl)).trans hn38
  replace hn39 := (hu365 _ (q_pd 40 6 rfl)).trans hn39
  replace hn40 := (hu365 _ (q_pd 41 6 rfl)).trans hn40
  replace hn41 := (hu365 _ (q_pd 42 6 rfl)).trans hn41
  replace hn42 := (hu365 _ (q_pd 43 6 rfl)).trans hn42
  replace hn43 := (hu365 _ (q_pd 44 6 rfl)).trans hn43
  replace hn44 := (hu365 _ (q_pd 45 6 rfl)).trans hn44
  replace hn45 := (hu365 _ (q_pd 46 6 rfl)).trans hn45
  replace hn46 := (hu365 _ (q_pd 47 6 rfl)).trans hn46
  replace hn47 := (hu365 _ (q_pd 48 6 rfl)).trans hn47
  replace hn48 := (hu365 _ (q_pd 49 6 rfl)).trans hn48
  replace hn49 := (hu365 _ (q_pd 50 6 rfl)).trans hn49
  replace hn50 := (hu365 _ (q_pd 51 6 rfl)).trans hn50
  replace hn51 := (hu365 _ (q_pd 52 6 rfl)).trans hn51
  replace hn52 := (hu365 _ (q_pd 53 6 rfl)).trans hn52
  replace hn53 := (hu365 _ (q_pd 54 6 rfl)).trans hn53
  replace hn54 := (hu365 _ (q_pd 55 6 rfl)).trans hn54
  replace hn55 := (hu365 _ (q_pd 56 6 rfl)).trans hn55
  replace hn56 := (hu365 _ (q_pd 57 6 rfl)).trans hn56
  replace hn57 := (hu365 _ (q_pd 58 6 rfl)).trans hn57
  replace hn58 := (hu365 _ (q_pd 59 6 rfl)).trans hn58
  replace hn59 := (hu365 _ (q_pd 60 6 rfl)).trans hn59
  replace hn60 := (hu365 _ (q_pd 61 6 rfl)).trans hn60
  replace hn61 := (hu365 _ (q_pd 62 6 rfl)).trans hn61
  replace hn62 := (hu365 _ (q_pd 63 6 rfl)).trans hn62
  replace hn63 := (hu365 _ (q_pd 64 6 rfl)).trans hn63
  replace hn64 := (hu365 _ (q_pd 65 6 rfl)).trans hn64
  replace hn65 := (hu365 _ (q_pd 66 6 rfl)).trans hn65
  replace hn66 := (hu365 _ (q_pd 67 6 rfl)).trans hn66
  replace hn67 := (hu365 _ (q_pd 68 6 rfl)).trans hn67
  replace hn68 := (hu365 _ (q_pd 69 6 rfl)).trans hn68
  replace hn69 := (hu365 _ (q_pd 70 6 rfl)).trans hn69
  replace hn70 := (hu365 _ (q_pd 71 6 rfl)).trans hn70
  replace hn71 := (hu365 _ (q_pd 72 6 rfl)).trans hn71
  replace hn72 := (hu365 _ (q_pd 73 6 rfl)).trans hn72
  replace hn73 := (hu365 _ (q_pd 74 6 rfl)).trans hn73
  replace hn74 := (hu365 _ (q_pd 75 6 rfl)).trans hn74
  replace hn75 := (hu365 _ (q_pd 76 6 rfl)).trans hn75
  replace hn76 := (hu365 _ (q_pd 77 6 rfl)).trans hn76
  replace hn77 := (hu365 _ (q_pd 78 6 rfl)).trans hn77
  replace hn78 := (hu365 _ (q_pd 79 6 rfl)).trans hn78
  replace hn79 := (hu365 _ (q_pd 80 6 rfl)).trans hn79
  replace hn80 := (hu365 _ (q_pd 81 6 rfl)).trans hn80
  replace hn81 := (hu365 _ (q_pd 82 6 rfl)).trans hn81
  replace hn82 := (hu365 _ (q_pd 83 6 rfl)).trans hn82
  replace hn83 := (hu365 _ (q_pd 84 6 rfl)).trans hn83
  replace hn84 := (hu365 _ (q_pd 85 6 rfl)).trans hn84
  replace hn85 := (hu365 _ (q_pd 86 6 rfl)).trans hn85
  replace hn86 := (hu365 _ (q_pd 87 6 rfl)).trans hn86
  replace hn87 := (hu365 _ (q_pd 88 6 rfl)).trans hn87
  replace hn88 := (hu365 _ (q_pd 89 6 rfl)).trans hn88
  replace hn89 := (hu365 _ (q_pd 90 6 rfl)).trans hn89
  replace hF := q_us hF hu365 (.tail _ (.tail _ (.tail _ (.tail _ (.tail _ (.tail _ (.head _)))))))
  refine lv_iinc (v := 5) (lv' := [(1, .int 5), (0, .ref qO0)]) hx hb d_1_1_248 hl (k := 0) rfl (by decide) (by decide) rfl (fun ls hl => ?_)
  refine lv_goto (tgt := 212) hx hb d_1_1_251 (by decide) ?_
  refine lv_iload_n hx hb d_1_1_212 rfl (lv_at hl 0 rfl) ?_
  refine lv_bipush (v := 10) hx hb d_1_1_213 (by decide) ?_
  refine lv_icmp_ge (tgt := 254) hx hb d_1_1_215 (by decide) (fun c366 => absurd c366 (by decide)) (fun c366 => ?_)
  refine lv_aload_n hx hb d_1_1_218 rfl (lv_at hl 1 rfl) ?_
  refine q_get (ci := 0) (j := 2) (v := .ref q25) C0 V i_NH rfl rfl hO0 (by decide) w_426 rfl d_1_1_219 ?_
  refine lv_iload_n hx hb d_1_1_222 rfl (lv_at hl 0 rfl) ?_
  refine q_new (ci := 2) (fs := [.null, .int 0, .int 0]) C0 V hN i_Big o_Big rfl w_68 w_79 w_4 rfl (fun j hj => by rcases (show j = 0 ∨ j = 1 ∨ j = 2 by omega) with rfl | rfl | rfl <;> rfl) (Nat.le_of_ble_eq_true rfl) (Nat.le_of_ble_eq_true rfl) d_1_1_223 (fun q367 H w368 hu369 hn370 hN V => ?_)
  have hn90 : w368[91]? = some (q367, .inr (2, [.null, .int 0, .int 0])) := hn370
  replace hO0 := (hu369 _ (q_pd 0 91 rfl)).trans hO0
  replace hn0 := (hu369 _ (q_pd 1 91 rfl)).trans hn0
  replace hn1 := (hu369 _ (q_pd 2 91 rfl)).trans hn1
  replace hn2 := (hu369 _ (q_pd 3 91 rfl)).trans hn2
  replace hn3 := (hu369 _ (q_pd 4 91 rfl)).trans hn3
  replace hn4 := (hu369 _ (q_pd 5 91 rfl)).trans hn4
  replace hn5 := (hu369 _ (q_pd 6 91 rfl)).trans hn5
  replace hn6 := (hu369 _ (q_pd 7 91 rfl)).trans hn6
  replace hn7 := (hu369 _ (q_pd 8 91 rfl)).trans hn7
  replace hn8 := (hu369 _ (q_pd 9 91 rfl)).trans hn8
  replace hn9 := (hu369 _ (q_pd 10 91 rfl)).trans hn9
  replace hn10 := (hu369 _ (q_pd 11 91 rfl)).trans hn10
  replace hn11 := (hu369 _ (q_pd 12 91 rfl)).trans hn11
  replace hn12 := (hu369 _ (q_pd 13 91 rfl)).trans hn12
  replace hn13 := (hu369 _ (q_pd 14 91 rfl)).trans hn13
  replace hn14 := (hu369 _ (q_pd 15 91 rfl)).trans hn14
  replace hn15 := (hu369 _ (q_pd 16 91 rfl)).trans hn15
  replace hn16 := (hu369 _ (q_pd 17 91 rfl)).trans hn16
  replace hn17 := (hu369 _ (q_pd 18 91 rfl)).trans hn17
  replace hn18 := (hu369 _ (q_pd 19 91 rfl)).trans hn18
  replace hn19 := (hu369 _ (q_pd 20 91 rfl)).trans hn19
  replace hn20 := (hu369 _ (q_pd 21 91 rfl)).trans hn20
  replace hn21 := (hu369 _ (q_pd 22 91 rfl)).trans hn21
  replace hn22 := (hu369 _ (q_pd 23 91 rfl)).trans hn22
  replace hn23 := (hu369 _ (q_pd 24 91 rfl)).trans hn23
  replace hn24 := (hu369 _ (q_pd 25 91 rfl)).trans hn24
  replace hn25 := (hu369 _ (q_pd 26 91 rfl)).trans hn25
  replace hn26 := (hu369 _ (q_pd 27 91 rfl)).trans hn26
  replace hn27 := (hu369 _ (q_pd 28 91 rfl)).trans hn27
  replace hn28 := (hu369 _ (q_pd 29 91 rfl)).trans hn28
  replace hn29 := (hu369 _ (q_pd 30 91 rfl)).trans hn29
  replace hn30 := (hu369 _ (q_pd 31 91 rfl)).trans hn30
  replace hn31 := (hu369 _ (q_pd 32 91 rfl)).trans hn31
  replace hn32 := (hu369 _ (q_pd 33 91 rfl)).trans hn32
  replace hn33 := (hu369 _ (q_pd 34 91 rfl)).trans hn33
  replace hn34 := (hu369 _ (q_pd 35 91 rfl)).trans hn34
  replace hn35 := (hu369 _ (q_pd 36 91 rfl)).trans hn35
  replace hn36 := (hu369 _ (q_pd 37 91 rfl)).trans hn36
  replace hn37 := (hu369 _ (q_pd 38 91 rfl)).trans hn37
  replace hn38 := (hu369 _ (q_pd 39 91 rfl)).trans hn38
  replace hn39 := (hu369 _ (q_pd 40 91 rfl)).trans hn39
  replace hn40 := (hu369 _ (q_pd 41 91 rfl)).trans hn40
  replace hn41 := (hu369 _ (q_pd 42 91 rfl)).trans hn41
  replace hn42 := (hu369 _ (q_pd 43 91 rfl)).trans hn42
  replace hn43 := (hu369 _ (q_pd 44 91 rfl)).trans hn43
  replace hn44 := (hu369 _ (q_pd 45 91 rfl)).trans hn44
  replace hn45 := (hu369 _ (q_pd 46 91 rfl)).trans hn45
  replace hn46 := (hu369 _ (q_pd 47 91 rfl)).trans hn46
  replace hn47 := (hu369 _ (q_pd 48 91 rfl)).trans hn47
  replace hn48 := (hu369 _ (q_pd 49 91 rfl)).trans hn48
  replace hn49 := (hu369 _ (q_pd 50 91 rfl)).trans hn49
  replace hn50 := (hu369 _ (q_pd 51 91 rfl)).trans hn50
  replace hn51 := (hu369 _ (q_pd 52 91 rfl)).trans hn51
  replace hn52 := (hu369 _ (q_pd 53 91 rfl)).trans hn52
  replace hn53 := (hu369 _ (q_pd 54 91 rfl)).trans hn53
  replace hn54 := (hu369 _ (q_pd 55 91 rfl)).trans hn54
  replace hn55 := (hu369 _ (q_pd 56 91 rfl)).trans hn55
  replace hn56 := (hu369 _ (q_pd 57 91 rfl)).trans hn56
  replace hn57 := (hu369 _ (q_pd 58 91 rfl)).trans hn57
  replace hn58 := (hu369 _ (q_pd 59 91 rfl)).trans hn58
  replace hn59 := (hu369 _ (q_pd 60 91 rfl)).trans hn59
  replace hn60 := (hu369 _ (q_pd 61 91 rfl)).trans hn60
  replace hn61 := (hu369 _ (q_pd 62 91 rfl)).trans hn61
  replace hn62 := (hu369 _ (q_pd 63 91 rfl)).trans hn62
  replace hn63 := (hu369 _ (q_pd 64 91 rfl)).trans hn63
  replace hn64 := (hu369 _ (q_pd 65 91 rfl)).trans hn64
  replace hn65 := (hu369 _ (q_pd 66 91 rfl)).trans hn65
  replace hn66 := (hu369 _ (q_pd 67 91 rfl)).trans hn66
  replace hn67 := (hu369 _ (q_pd 68 91 rfl)).trans hn67
  replace hn68 := (hu369 _ (q_pd 69 91 rfl)).trans hn68
  replace hn69 := (hu369 _ (q_pd 70 91 rfl)).trans hn69
  replace hn70 := (hu369 _ (q_pd 71 91 rfl)).trans hn70
  replace hn71 := (hu369 _ (q_pd 72 91 rfl)).trans hn71
  replace hn72 := (hu369 _ (q_pd 73 91 rfl)).trans hn72
  replace hn73 := (hu369 _ (q_pd 74 91 rfl)).trans hn73
  replace hn74 := (hu369 _ (q_pd 75 91 rfl)).trans hn74
  replace hn75 := (hu369 _ (q_pd 76 91 rfl)).trans hn75
  replace hn76 := (hu369 _ (q_pd 77 91 rfl)).trans hn76
  replace hn77 := (hu369 _ (q_pd 78 91 rfl)).trans hn77
  replace hn78 := (hu369 _ (q_pd 79 91 rfl)).trans hn78
  replace hn79 := (hu369 _ (q_pd 80 91 rfl)).trans hn79
  replace hn80 := (hu369 _ (q_pd 81 91 rfl)).trans hn80
  replace hn81 := (hu369 _ (q_pd 82 91 rfl)).trans hn81
  replace hn82 := (hu369 _ (q_pd 83 91 rfl)).trans hn82
  replace hn83 := (hu369 _ (q_pd 84 91 rfl)).trans hn83
  replace hn84 := (hu369 _ (q_pd 85 91 rfl)).trans hn84
  replace hn85 := (hu369 _ (q_pd 86 91 rfl)).trans hn85
  replace hn86 := (hu369 _ (q_pd 87 91 rfl)).trans hn86
  replace hn87 := (hu369 _ (q_pd 88 91 rfl)).trans hn87
  replace hn88 := (hu369 _ (q_pd 89 91 rfl)).trans hn88
  replace hn89 := (hu369 _ (q_pd 90 91 rfl)).trans hn89
  replace hF := q_us hF hu369 (.tail _ (.tail _ (.tail _ (.tail _ (.tail _ (.tail _ (.tail _ (.tail _ (.tail _ (.tail _ (.tail _ (.tail _ (.tail _ (.tail _ (.tail _ (.tail _ (.tail _ (.tail _ (.tail _ (.tail _ (.tail _ (.tail _ (.tail _ (.tail _ (.tail _ (.tail _ (.tail _ (.tail _ (.tail _ (.tail _ (.tail _ (.tail _ (.tail _ (.tail _ (.tail _ (.tail _ (.tail _ (.tail _ (.tail _ (.tail _ (.tail _ (.tail _ (.tail _ (.tail _ (.tail _ (.tail _ (.tail _ (.tail _ (.tail _ (.tail _ (.tail _ (.tail _ (.tail _ (.tail _ (.tail _ (.tail _ (.tail _ (.tail _ (.tail _ (.tail _ (.tail _ (.tail _ (.tail _ (.tail _ (.tail _ (.tail _ (.tail _ (.tail _ (.tail _ (.tail _ (.tail _ (.tail _ (.tail _ (.tail _ (.tail _ (.tail _ (.tail _ (.tail _ (.tail _ (.tail _ (.tail _ (.tail _ (.tail _ (.tail _ (.tail _ (.tail _ (.tail _ (.tail _ (.tail _ (.tail _ (.tail _ (.head _))))))))))))))))))))))))))))))))))))))))))))))))))))))))))))))))))))))))))))))))))))))))))))
  replace hN : w368.length = 92 := hN
  refine lv_dup hx hb d_1_1_226 rfl ?_
  refine lv_bipush (v := 68) hx hb d_1_1_227 (by decide) ?_
  refine q_gov V (q_runI (As := [.int 68]) (rest := [.ref q367, .int 5, .ref q25]) (d := 2) (mc := 1) (ms := 68) C0 V rfl LI_NH_102 (c_Big_init l D g w368 91 q367 92 hN hn90 _) rfl hl.1 rfl (Nat.le_of_ble_eq_true rfl) ⟨by decide, by decide⟩ ⟨Nat.le_of_ble_eq_true rfl, Nat.le_of_ble_eq_true rfl⟩ d_1_1_229) (fun u372 H locs hp371 V => ?_)
  obtain ⟨q373, hg374, hn90, hq375, hN⟩ := hp371
  replace hO0 := (hg374 _ (q_nc (q_pd 0 91 rfl) (q_nc (q_pd 0 92 rfl) List.not_mem_nil))).trans hO0
  replace hn0 := (hg374 _ (q_nc (q_pd 1 91 rfl) (q_nc (q_pd 1 92 rfl) List.not_mem_nil))).trans hn0
  replace hn1 := (hg374 _ (q_nc (q_pd 2 91 rfl) (q_nc (q_pd 2 92 rfl) List.not_mem_nil))).trans hn1
  replace hn2 := (hg374 _ (q_nc (q_pd 3 91 rfl) (q_nc (q_pd 3 92 rfl) List.not_mem_nil))).trans hn2
  replace hn3 := (hg374 _ (q_nc (q_pd 4 91 rfl) (q_nc (q_pd 4 92 rfl) List.not_mem_nil))).trans hn3
  replace hn4 := (hg374 _ (q_nc (q_pd 5 91 rfl) (q_nc (q_pd 5 92 rfl) List.not_mem_nil))).trans hn4
  replace hn5 := (hg374 _ (q_nc (q_pd 6 91 rfl) (q_nc (q_pd 6 92 rfl) List.not_mem_nil))).trans hn5
  replace hn6 := (hg374 _ (q_nc (q_pd 7 91 rfl) (q_nc (q_pd 7 92 rfl) List.not_mem_nil))).trans hn6
  replace hn7 := (hg374 _ (q_nc (q_pd 8 91 rfl) (q_nc (q_pd 8 92 rfl) List.not_mem_nil))).trans hn7
  replace hn8 := (hg374 _ (q_nc (q_pd 9 91 rfl) (q_nc (q_pd 9 92 rfl) List.not_mem_nil))).trans hn8
  replace hn9 := (hg374 _ (q_nc (q_pd 10 91 rfl) (q_nc (q_pd 10 92 rfl) List.not_mem_nil))).trans hn9
  replace hn10 := (hg374 _ (q_nc (q_pd 11 91 rfl) (q_nc (q_pd 11 92 rfl) List.not_mem_nil))).trans hn10
  replace hn11 := (hg374 _ (q_nc (q_pd 12 91 rfl) (q_nc (q_pd 12 92 rfl) List.not_mem_nil))).trans hn11
  replace hn12 := (hg374 _ (q_nc (q_pd 13 91 rfl) (q_nc (q_pd 13 92 rfl) List.not_mem_nil))).trans hn12
  replace hn13 := (hg374 _ (q_nc (q_pd 14 91 rfl) (q_nc (q_pd 14 92 rfl) List.not_mem_nil))).trans hn13
  replace hn14 := (hg374 _ (q_nc (q_pd 15 91 rfl) (q_nc (q_pd 15 92 rfl) List.not_mem_nil))).trans hn14
  replace hn15 := (hg374 _ (q_nc (q_pd 16 91 rfl) (q_nc (q_pd 16 92 rfl) List.not_mem_nil))).trans hn15
  replace hn16 := (hg374 _ (q_nc (q_pd 17 91 rfl) (q_nc (q_pd 17 92 rfl) List.not_mem_nil))).trans hn16
  replace hn17 := (hg374 _ (q_nc (q_pd 18 91 rfl) (q_nc (q_pd 18 92 rfl) List.not_mem_nil))).trans hn17
  replace hn18 := (hg374 _ (q_nc (q_pd 19 91 rfl) (q_nc (q_pd 19 92 rfl) List.not_mem_nil))).trans hn18
  replace hn19 := (hg374 _ (q_nc (q_pd 20 91 rfl) (q_nc (q_pd 20 92 rfl) List.not_mem_nil))).trans hn19
  replace hn20 := (hg374 _ (q_nc (q_pd 21 91 rfl) (q_nc (q_pd 21 92 rfl) List.not_mem_nil))).trans hn20
  replace hn21 := (hg374 _ (q_nc (q_pd 22 91 rfl) (q_nc (q_pd 22 92 rfl) List.not_mem_nil))).trans hn21
  replace hn22 := (hg374 _ (q_nc (q_pd 23 91 rfl) (q_nc (q_pd 23 92 rfl) List.not_mem_nil))).trans hn22
  replace hn23 := (hg374 _ (q_nc (q_pd 24 91 rfl) (q_nc (q_pd 24 92 rfl) List.not_mem_nil))).trans hn23
  replace hn24 := (hg374 _ (q_nc (q_pd 25 91 rfl) (q_nc (q_pd 25 92 rfl) List.not_mem_nil))).trans hn24
  replace hn25 := (hg374 _ (q_nc (q_pd 26 91 rfl) (q_nc (q_pd 26 92 rfl) List.not_mem_nil))).trans hn25
  replace hn26 := (hg374 _ (q_nc (q_pd 27 91 rfl) (q_nc (q_pd 27 92 rfl) List.not_mem_nil))).trans hn26
  replace hn27 := (hg374 _ (q_nc (q_pd 28 91 rfl) (q_nc (q_pd 28 92 rfl) List.not_mem_nil))).trans hn27
  replace hn28 := (hg374 _ (q_nc (q_pd 29 91 rfl) (q_nc (q_pd 29 92 rfl) List.not_mem_nil))).trans hn28
  replace hn29 := (hg374 _ (q_nc (q_pd 30 91 rfl) (q_nc (q_pd 30 92 rfl) List.not_mem_nil))).trans hn29
  replace hn30 := (hg374 _ (q_nc (q_pd 31 91 rfl) (q_nc (q_pd 31 92 rfl) List.not_mem_nil))).trans hn30
  replace hn31 := (hg374 _ (q_nc (q_pd 32 91 rfl) (q_nc (q_pd 32 92 rfl) List.not_mem_nil))).trans hn31
  replace hn32 := (hg374 _ (q_nc (q_pd 33 91 rfl) (q_nc (q_pd 33 92 rfl) List.not_mem_nil))).trans hn32
  replace hn33 := (hg374 _ (q_nc (q_pd 34 91 rfl) (q_nc (q_pd 34 92 rfl) List.not_mem_nil))).trans hn33
  replace hn34 := (hg374 _ (q_nc (q_pd 35 91 rfl) (q_nc (q_pd 35 92 rfl) List.not_mem_nil))).trans hn34
  replace hn35 := (hg374 _ (q_nc (q_pd 36 91 rfl) (q_nc (q_pd 36 92 rfl) List.not_mem_nil))).trans hn35
  replace hn36 := (hg374 _ (q_nc (q_pd 37 91 rfl) (q_nc (q_pd 37 92 rfl) List.not_mem_nil))).trans hn36
  replace hn37 := (hg374 _ (q_nc (q_pd 38 91 rfl) (q_nc (q_pd 38 92 rfl) List.not_mem_nil))).trans hn37
  replace hn38 := (hg374 _ (q_nc (q_pd 39 91 rfl) (q_nc (q_pd 39 92 rfl) List.not_mem_nil))).trans hn38
  replace hn39 := (hg374 _ (q_nc (q_pd 40 91 rfl) (q_nc (q_pd 40 92 rfl) List.not_mem_nil))).trans hn39
  replace hn40 := (hg374 _ (q_nc (q_pd 41 91 rfl) (q_nc (q_pd 41 92 rfl) List.not_mem_nil))).trans hn40
  replace hn41 := (hg374 _ (q_nc (q_pd 42 91 rfl) (q_nc (q_pd 42 92 rfl) List.not_mem_nil))).trans hn41
  replace hn42 := (hg374 _ (q_nc (q_pd 43 91 rfl) (q_nc (q_pd 43 92 rfl) List.not_mem_nil))).trans hn42
  replace hn43 := (hg374 _ (q_nc (q_pd 44 91 rfl) (q_nc (q_pd 44 92 rfl) List.not_mem_nil))).trans hn43
  replace hn44 := (hg374 _ (q_nc (q_pd 45 91 rfl) (q_nc (q_pd 45 92 rfl) List.not_mem_nil))).trans hn44
  replace hn45 := (hg374 _ (q_nc (q_pd 46 91 rfl) (q_nc (q_pd 46 92 rfl) List.not_mem_nil))).trans hn45
  replace hn46 := (hg374 _ (q_nc (q_pd 47 91 rfl) (q_nc (q_pd 47 92 rfl) List.not_mem_nil))).trans hn46
  replace hn47 := (hg374 _ (q_nc (q_pd 48 91 rfl) (q_nc (q_pd 48 92 rfl) List.not_mem_nil))).trans hn47
  replace hn48 := (hg374 _ (q_nc (q_pd 49 91 rfl) (q_nc (q_pd 49 92 rfl) List.not_mem_nil))).trans hn48
  replace hn49 := (hg374 _ (q_nc (q_pd 50 91 rfl) (q_nc (q_pd 50 92 rfl) List.not_mem_nil))).trans hn49
  replace hn50 := (hg374 _ (q_nc (q_pd 51 91 rfl) (q_nc (q_pd 51 92 rfl) List.not_mem_nil))).trans hn50
  replace hn51 := (hg374 _ (q_nc (q_pd 52 91 rfl) (q_nc (q_pd 52 92 rfl) List.not_mem_nil))).trans hn51
  replace hn52 := (hg374 _ (q_nc (q_pd 53 91 rfl) (q_nc (q_pd 53 92 rfl) List.not_mem_nil))).trans hn52
  replace hn53 := (hg374 _ (q_nc (q_pd 54 91 rfl) (q_nc (q_pd 54 92 rfl) List.not_mem_nil))).trans hn53
  replace hn54 := (hg374 _ (q_nc (q_pd 55 91 rfl) (q_nc (q_pd 55 92 rfl) List.not_mem_nil))).trans hn54
  replace hn55 := (hg374 _ (q_nc (q_pd 56 91 rfl) (q_nc (q_pd 56 92 rfl) List.not_mem_nil))).trans hn55
  replace hn56 := (hg374 _ (q_nc (q_pd 57 91 rfl) (q_nc (q_pd 57 92 rfl) List.not_mem_nil))).trans hn56
  replace hn57 := (hg374 _ (q_nc (q_pd 58 91 rfl) (q_nc (q_pd 58 92 rfl) List.not_mem_nil))).trans hn57
  replace hn58 := (hg374 _ (q_nc (q_pd 59 91 rfl) (q_nc (q_pd 59 92 rfl) List.not_mem_nil))).trans hn58
  replace hn59 := (hg374 _ (q_nc (q_pd 60 91 rfl) (q_nc (q_pd 60 92 rfl) List.not_mem_nil))).trans hn59
  replace hn60 := (hg374 _ (q_nc (q_pd 61 91 rfl) (q_nc (q_pd 61 92 rfl) List.not_mem_nil))).trans hn60
  replace hn61 := (hg374 _ (q_nc (q_pd 62 91 rfl) (q_nc (q_pd 62 92 rfl) List.not_mem_nil))).trans hn61
  replace hn62 := (hg374 _ (q_nc (q_pd 63 91 rfl) (q_nc (q_pd 63 92 rfl) List.not_mem_nil))).trans hn62
  replace hn63 := (hg374 _ (q_nc (q_pd 64 91 rfl) (q_nc (q_pd 64 92 rfl) List.not_mem_nil))).trans hn63
  replace hn64 := (hg374 _ (q_nc (q_pd 65 91 rfl) (q_nc (q_pd 65 92 rfl) List.not_mem_nil))).trans hn64
  replace hn65 := (hg374 _ (q_nc (q_pd 66 91 rfl) (q_nc (q_pd 66 92 rfl) List.not_mem_nil))).trans hn65
  replace hn66 := (hg374 _ (q_nc (q_pd 67 91 rfl) (q_nc (q_pd 67 92 rfl) List.not_mem_nil))).trans hn66
  replace hn67 := (hg374 _ (q_nc (q_pd 68 91 rfl) (q_nc (q_pd 68 92 rfl) List.not_mem_nil))).trans hn67
  replace hn68 := (hg374 _ (q_nc (q_pd 69 91 rfl) (q_nc (q_pd 69 92 rfl) List.not_mem_nil))).trans hn68
  replace hn69 := (hg374 _ (q_nc (q_pd 70 91 rfl) (q_nc (q_pd 70 92 rfl) List.not_mem_nil))).trans hn69
  replace hn70 := (hg374 _ (q_nc (q_pd 71 91 rfl) (q_nc (q_pd 71 92 rfl) List.not_mem_nil))).trans hn70
  replace hn71 := (hg374 _ (q_nc (q_pd 72 91 rfl) (q_nc (q_pd 72 92 rfl) List.not_mem_nil))).trans hn71
  replace hn72 := (hg374 _ (q_nc (q_pd 73 91 rfl) (q_nc (q_pd 73 92 rfl) List.not_mem_nil))).trans hn72
  replace hn73 := (hg374 _ (q_nc (q_pd 74 91 rfl) (q_nc (q_pd 74 92 rfl) List.not_mem_nil))).trans hn73
  replace hn74 := (hg374 _ (q_nc (q_pd 75 91 rfl) (q_nc (q_pd 75 92 rfl) List.not_mem_nil))).trans hn74
  replace hn75 := (hg374 _ (q_nc (q_pd 76 91 rfl) (q_nc (q_pd 76 92 rfl) List.not_mem_nil))).trans hn75
  replace hn76 := (hg374 _ (q_nc (q_pd 77 91 rfl) (q_nc (q_pd 77 92 rfl) List.not_mem_nil))).trans hn76
  replace hn77 := (hg374 _ (q_nc (q_pd 78 91 rfl) (q_nc (q_pd 78 92 rfl) List.not_mem_nil))).trans hn77
  replace hn78 := (hg374 _ (q_nc (q_pd 79 91 rfl) (q_nc (q_pd 79 92 rfl) List.not_mem_nil))).trans hn78
  replace hn79 := (hg374 _ (q_nc (q_pd 80 91 rfl) (q_nc (q_pd 80 92 rfl) List.not_mem_nil))).trans hn79
  replace hn80 := (hg374 _ (q_nc (q_pd 81 91 rfl) (q_nc (q_pd 81 92 rfl) List.not_mem_nil))).trans hn80
  replace hn81 := (hg374 _ (q_nc (q_pd 82 91 rfl) (q_nc (q_pd 82 92 rfl) List.not_mem_nil))).trans hn81
  replace hn82 := (hg374 _ (q_nc (q_pd 83 91 rfl) (q_nc (q_pd 83 92 rfl) List.not_mem_nil))).trans hn82
  replace hn83 := (hg374 _ (q_nc (q_pd 84 91 rfl) (q_nc (q_pd 84 92 rfl) List.not_mem_nil))).trans hn83
  replace hn84 := (hg374 _ (q_nc (q_pd 85 91 rfl) (q_nc (q_pd 85 92 rfl) List.not_mem_nil))).trans hn84
  replace hn85 := (hg374 _ (q_nc (q_pd 86 91 rfl) (q_nc (q_pd 86 92 rfl) List.not_mem_nil))).trans hn85
  replace hn86 := (hg374 _ (q_nc (q_pd 87 91 rfl) (q_nc (q_pd 87 92 rfl) List.not_mem_nil))).trans hn86
  replace hn87 := (hg374 _ (q_nc (q_pd 88 91 rfl) (q_nc (q_pd 88 92 rfl) List.not_mem_nil))).trans hn87
  replace hn88 := (hg374 _ (q_nc (q_pd 89 91 rfl) (q_nc (q_pd 89 92 rfl) List.not_mem_nil))).trans hn88
  replace hn89 := (hg374 _ (q_nc (q_pd 90 91 rfl) (q_nc (q_pd 90 92 rfl) List.not_mem_nil))).trans hn89
  replace hF := q_uc hF hg374 (q_sc (.tail _ (.tail _ (.tail _ (.tail _ (.tail _ (.tail _ (.tail _ (.tail _ (.tail _ (.tail _ (.tail _ (.tail _ (.tail _ (.tail _ (.tail _ (.tail _ (.tail _ (.tail _ (.tail _ (.tail _ (.tail _ (.tail _ (.tail _ (.tail _ (.tail _ (.tail _ (.tail _ (.tail _ (.tail _ (.tail _ (.tail _ (.tail _ (.tail _ (.tail _ (.tail _ (.tail _ (.tail _ (.tail _ (.tail _ (.tail _ (.tail _ (.tail _ (.tail _ (.tail _ (.tail _ (.tail _ (.tail _ (.tail _ (.tail _ (.tail _ (.tail _ (.tail _ (.tail _ (.tail _ (.tail _ (.tail _ (.tail _ (.tail _ (.tail _ (.tail _ (.tail _ (.tail _ (.tail _ (.tail _ (.tail _ (.tail _ (.tail _ (.tail _ (.tail _ (.tail _ (.tail _ (.tail _ (.tail _ (.tail _ (.tail _ (.tail _ (.tail _ (.tail _ (.tail _ (.tail _ (.tail _ (.tail _ (.tail _ (.tail _ (.tail _ (.tail _ (.tail _ (.tail _ (.tail _ (.tail _ (.tail _ (.head _)))))))))))))))))))))))))))))))))))))))))))))))))))))))))))))))))))))))))))))))))))))))))))) (q_sc (.tail _ (.tail _ (.tail _ (.tail _ (.tail _ (.tail _ (.tail _ (.tail _ (.tail _ (.tail _ (.tail _ (.tail _ (.tail _ (.tail _ (.tail _ (.tail _ (.tail _ (.tail _ (.tail _ (.tail _ (.tail _ (.tail _ (.tail _ (.tail _ (.tail _ (.tail _ (.tail _ (.tail _ (.tail _ (.tail _ (.tail _ (.tail _ (.tail _ (.tail _ (.tail _ (.tail _ (.tail _ (.tail _ (.tail _ (.tail _ (.tail _ (.tail _ (.tail _ (.tail _ (.tail _ (.tail _ (.tail _ (.tail _ (.tail _ (.tail _ (.tail _ (.tail _ (.tail _ (.tail _ (.tail _ (.tail _ (.tail _ (.tail _ (.tail _ (.tail _ (.tail _ (.tail _ (.tail _ (.tail _ (.tail _ (.tail _ (.tail _ (.tail _ (.tail _ (.tail _ (.tail _ (.tail _ (.tail _ (.tail _ (.tail _ (.tail _ (.tail _ (.tail _ (.tail _ (.tail _ (.tail _ (.tail _ (.tail _ (.tail _ (.tail _ (.tail _ (.tail _ (.tail _ (.tail _ (.tail _ (.tail _ (.tail _ (.head _))))))))))))))))))))))))))))))))))))))))))))))))))))))))))))))))))))))))))))))))))))))))))))) (fun _ h => absurd h List.not_mem_nil)))
  have hn91 : u372[92]? = some (q373, .inl (g 0, 68, .inl (fun _ => 0))) := hq375
  replace hN : u372.length = 93 := hN
  have ho376 := hn4
  refine q_aast (t := 4) (ci := 2) (i9 := 5) C0 V hn4 rfl hn90 rfl (by decide) (by decide) d_1_1_232 (fun H locs w377 hu378 hn4 V => ?_)
  replace hn4 : w377[5]? = some (q25, .inl (g 4, 10, .inr (.inr (.inr (.inr (va_up (va_up (va_up (va_up (va_up (va_up (fun _ => none) 0 (some q232)) 1 (some q259)) 2 (some q286)) 3 (some q313)) 4 (some q340)) 5 (some q367))))))) := hn4
  replace hN : w377.length = 93 := (q_len1 hu378 hn4 ho376).trans hN
  replace hO0 := (hu378 _ (q_pd 0 5 rfl)).trans hO0
  replace hn0 := (hu378 _ (q_pd 1 5 rfl)).trans hn0
  replace hn1 := (hu378 _ (q_pd 2 5 rfl)).trans hn1
  replace hn2 := (hu378 _ (q_pd 3 5 rfl)).trans hn2
  replace hn3 := (hu378 _ (q_pd 4 5 rfl)).trans hn3
  replace hn5 := (hu378 _ (q_pd 6 5 rfl)).trans hn5
  replace hn6 := (hu378 _ (q_pd 7 5 rfl)).trans hn6
  replace hn7 := (hu378 _ (q_pd 8 5 rfl)).trans hn7
  replace hn8 := (hu378 _ (q_pd 9 5 rfl)).trans hn8
  replace hn9 := (hu378 _ (q_pd 10 5 rfl)).trans hn9
  replace hn10 := (hu378 _ (q_pd 11 5 rfl)).trans hn10
  replace hn11 := (hu378 _ (q_pd 12 5 rfl)).trans hn11
  replace hn12 := (hu378 _ (q_pd 13 5 rfl)).trans hn12
  replace hn13 := (hu378 _ (q_pd 14 5 rfl)).trans hn13
  replace hn14 := (hu378 _ (q_pd 15 5 rfl)).trans hn14
  replace hn15 := (hu378 _ (q_pd 16 5 rfl)).trans hn15
  replace hn16 := (hu378 _ (q_pd 17 5 rfl)).trans hn16
  replace hn17 := (hu378 _ (q_pd 18 5 rfl)).trans hn17
  replace hn18 := (hu378 _ (q_pd 19 5 rfl)).trans hn18
  replace hn19 := (hu378 _ (q_pd 20 5 rfl)).trans hn19
  replace hn20 := (hu378 _ (q_pd 21 5 rfl)).trans hn20
  replace hn21 := (hu378 _ (q_pd 22 5 rfl)).trans hn21
  replace hn22 := (hu378 _ (q_pd 23 5 rfl)).trans hn22
  replace hn23 := (hu378 _ (q_pd 24 5 rfl)).trans hn23
  replace hn24 := (hu378 _ (q_pd 25 5 rfl)).trans hn24
  replace hn25 := (hu378 _ (q_pd 26 5 rfl)).trans hn25
  replace hn26 := (hu378 _ (q_pd 27 5 rfl)).trans hn26
  replace hn27 := (hu378 _ (q_pd 28 5 rfl)).trans hn27
  replace hn28 := (hu378 _ (q_pd 29 5 rfl)).trans hn28
  replace hn29 := (hu378 _ (q_pd 30 5 rfl)).trans hn29
  replace hn30 := (hu378 _ (q_pd 31 5 rfl)).trans hn30
  replace hn31 := (hu378 _ (q_pd 32 5 rfl)).trans hn31
  replace hn32 := (hu378 _ (q_pd 33 5 rfl)).trans hn32
  replace hn33 := (hu378 _ (q_pd 34 5 rfl)).trans hn33
  replace hn34 := (hu378 _ (q_pd 35 5 rfl)).trans hn34
  replace hn35 := (hu378 _ (q_pd 36 5 rfl)).trans hn35
  replace hn36 := (hu378 _ (q_pd 37 5 rfl)).trans hn36
  replace hn37 := (hu378 _ (q_pd 38 5 rfl)).trans hn37
  replace hn38 := (hu378 _ (q_pd 39 5 rfl)).trans hn38
  replace hn39 := (hu378 _ (q_pd 40 5 rfl)).trans hn39
  replace hn40 := (hu378 _ (q_pd 41 5 rfl)).trans hn40
  replace hn41 := (hu378 _ (q_pd 42 5 rfl)).trans hn41
  replace hn42 := (hu378 _ (q_pd 43 5 rfl)).trans hn42
  replace hn43 := (hu378 _ (q_pd 44 5 rfl)).trans hn43
  replace hn44 := (hu378 _ (q_pd 45 5 rfl)).trans hn44
  replace hn45 := (hu378 _ (q_pd 46 5 rfl)).trans hn45
  replace hn46 := (hu378 _ (q_pd 47 5 rfl)).trans hn46
  replace hn47 := (hu378 _ (q_pd 48 5 rfl)).trans hn47
  replace hn48 := (hu378 _ (q_pd 49 5 rfl)).trans hn48
  replace hn49 := (hu378 _ (q_pd 50 5 rfl)).trans hn49
  replace hn50 := (hu378 _ (q_pd 51 5 rfl)).trans hn50
  replace hn51 := (hu378 _ (q_pd 52 5 rfl)).trans hn51
  replace hn52 := (hu378 _ (q_pd 53 5 rfl)).trans hn52
  replace hn53 := (hu378 _ (q_pd 54 5 rfl)).trans hn53
  replace hn54 := (hu378 _ (q_pd 55 5 rfl)).trans hn54
  replace hn55 := (hu378 _ (q_pd 56 5 rfl)).trans hn55
  replace hn56 := (hu378 _ (q_pd 57 5 rfl)).trans hn56
  replace hn57 := (hu378 _ (q_pd 58 5 rfl)).trans hn57
  replace hn58 := (hu378 _ (q_pd 59 5 rfl)).trans hn58
  replace hn59 := (hu378 _ (q_pd 60 5 rfl)).trans hn59
  replace hn60 := (hu378 _ (q_pd 61 5 rfl)).trans hn60
  replace hn61 := (hu378 _ (q_pd 62 5 rfl)).trans hn61
  replace hn62 := (hu378 _ (q_pd 63 5 rfl)).trans hn62
  replace hn63 := (hu378 _ (q_pd 64 5 rfl)).trans hn63
  replace hn64 := (hu378 _ (q_pd 65 5 rfl)).trans hn64
  replace hn65 := (hu378 _ (q_pd 66 5 rfl)).trans hn65
  replace hn66 := (hu378 _ (q_pd 67 5 rfl)).trans hn66
  replace hn67 := (hu378 _ (q_pd 68 5 rfl)).trans hn67
  replace hn68 := (hu378 _ (q_pd 69 5 rfl)).trans hn68
  replace hn69 := (hu378 _ (q_pd 70 5 rfl)).trans hn69
  replace hn70 := (hu378 _ (q_pd 71 5 rfl)).trans hn70
  replace hn71 := (hu378 _ (q_pd 72 5 rfl)).trans hn71
  replace hn72 := (hu378 _ (q_pd 73 5 rfl)).trans hn72
  replace hn73 := (hu378 _ (q_pd 74 5 rfl)).trans hn73
  replace hn74 := (hu378 _ (q_pd 75 5 rfl)).trans hn74
  replace hn75 := (hu378 _ (q_pd 76 5 rfl)).trans hn75
  replace hn76 := (hu378 _ (q_pd 77 5 rfl)).trans hn76
  replace hn77 := (hu378 _ (q_pd 78 5 rfl)).trans hn77
  replace hn78 := (hu378 _ (q_pd 79 5 rfl)).trans hn78
  replace hn79 := (hu378 _ (q_pd 80 5 rfl)).trans hn79
  replace hn80 := (hu378 _ (q_pd 81 5 rfl)).trans hn80
  replace hn81 := (hu378 _ (q_pd 82 5 rfl)).trans hn81
  replace hn82 := (hu378 _ (q_pd 83 5 rfl)).trans hn82
  replace hn83 := (hu378 _ (q_pd 84 5 rfl)).trans hn83
  replace hn84 := (hu378 _ (q_pd 85 5 rfl)).trans hn84
  replace hn85 := (hu378 _ (q_pd 86 5 rfl)).trans hn85
  replace hn86 := (hu378 _ (q_pd 87 5 rfl)).trans hn86
  replace hn87 := (hu378 _ (q_pd 88 5 rfl)).trans hn87
  replace hn88 := (hu378 _ (q_pd 89 5 rfl)).trans hn88
  replace hn89 := (hu378 _ (q_pd 90 5 rfl)).trans hn89
  replace hn90 := (hu378 _ (q_pd 91 5 rfl)).trans hn90
  replace hn91 := (hu378 _ (q_pd 92 5 rfl)).trans hn91
  replace hF := q_us hF hu378 (.tail _ (.tail _ (.tail _ (.tail _ (.tail _ (.head _))))))
  refine lv_aload_n hx hb d_1_1_233 rfl (lv_at hl 1 rfl) ?_
  refine q_get (ci := 0) (j := 3) (v := .ref q32) C0 V i_NH rfl rfl hO0 (by decide) w_427 rfl d_1_1_234 ?_
  refine lv_iload_n hx hb d_1_1_237 rfl (lv_at hl 0 rfl) ?_
  refine q_new (ci := 3) (fs := [.null, .int 0, .int 0]) C0 V hN i_Dec o_Dec rfl w_70 w_163 w_6 rfl (fun j hj => by rcases (show j = 0 ∨ j = 1 ∨ j = 2 by omega) with rfl | rfl | rfl <;> rfl) (Nat.le_of_ble_eq_true rfl) (Nat.le_of_ble_eq_true rfl) d_1_1_238 (fun q379 H w380 hu381 hn382 hN V => ?_)
  have hn92 : w380[93]? = some (q379, .inr (3, [.null, .int 0, .int 0])) := hn382
  replace hO0 := (hu381 _ (q_pd 0 93 rfl)).trans hO0
  replace hn0 := (hu381 _ (q_pd 1 93 rfl)).trans hn0
  replace hn1 := (hu381 _ (q_pd 2 93 rfl)).trans hn1
  replace hn2 := (hu381 _ (q_pd 3 93 rfl)).trans hn2
  replace hn3 := (hu381 _ (q_pd 4 93 rfl)).trans hn3
  replace hn4 := (hu381 _ (q_pd 5 93 rfl)).trans hn4
  replace hn5 := (hu381 _ (q_pd 6 93 rfl)).trans hn5
  replace hn6 := (hu381 _ (q_pd 7 93 rfl)).trans hn6
  replace hn7 := (hu381 _ (q_pd 8 93 rfl)).trans hn7
  replace hn8 := (hu381 _ (q_pd 9 93 rfl)).trans hn8
  replace hn9 := (hu381 _ (q_pd 10 93 rfl)).trans hn9
  replace hn10 := (hu381 _ (q_pd 11 93 rfl)).trans hn10
  replace hn11 := (hu381 _ (q_pd 12 93 rfl)).trans hn11
  replace hn12 := (hu381 _ (q_pd 13 93 rfl)).trans hn12
  replace hn13 := (hu381 _ (q_pd 14 93 rfl)).trans hn13
  replace hn14 := (hu381 _ (q_pd 15 93 rfl)).trans hn14
  replace hn15 := (hu381 _ (q_pd 16 93 rfl)).trans hn15
  replace hn16 := (hu381 _ (q_pd 17 93 rfl)).trans hn16
  replace hn17 := (hu381 _ (q_pd 18 93 rfl)).trans hn17
  replace hn18 := (hu381 _ (q_pd 19 93 rfl)).trans hn18
  replace hn19 := (hu381 _ (q_pd 20 93 rfl)).trans hn19
  replace hn20 := (hu381 _ (q_pd 21 93 rfl)).trans hn20
  replace hn21 := (hu381 _ (q_pd 22 93 rfl)).trans hn21
  replace hn22 := (hu381 _ (q_pd 23 93 rfl)).trans hn22
  replace hn23 := (hu381 _ (q_pd 24 93 rfl)).trans hn23
  replace hn24 := (hu381 _ (q_pd 25 93 rfl)).trans hn24
  replace hn25 := (hu381 _ (q_pd 26 93 rfl)).trans hn25
  replace hn26 := (hu381 _ (q_pd 27 93 rfl)).trans hn26
  replace hn27 := (hu381 _ (q_pd 28 93 rfl)).trans hn27
  replace hn28 := (hu381 _ (q_pd 29 93 rfl)).trans hn28
  replace hn29 := (hu381 _ (q_pd 30 93 rfl)).trans hn29
  replace hn30 := (hu381 _ (q_pd 31 93 rfl)).trans hn30
  replace hn31 := (hu381 _ (q_pd 32 93 rfl)).trans hn31
  replace hn32 := (hu381 _ (q_pd 33 93 rfl)).trans hn32
  replace hn33 := (hu381 _ (q_pd 34 93 rfl)).trans hn33
  replace hn34 := (hu381 _ (q_pd 35 93 rfl)).trans hn34
  replace hn35 := (hu381 _ (q_pd 36 93 rfl)).trans hn35
  replace hn36 := (hu381 _ (q_pd 37 93 rfl)).trans hn36
  replace hn37 := (hu381 _ (q_pd 38 93 rfl)).trans hn37
  replace hn38 := (hu381 _ (q_pd 39 93 rfl)).trans hn38
  replace hn39 := (hu381 _ (q_pd 40 93 rfl)).trans hn39
  replace hn40 := (hu381 _ (q_pd 41 93 rfl)).trans hn40
  replace hn41 := (hu381 _ (q_pd 42 93 rfl)).trans hn41
  replace hn42 := (hu381 _ (q_pd 43 93 rfl)).trans hn42
  replace hn43 := (hu381 _ (q_pd 44 93 rfl)).trans hn43
  replace hn44 := (hu381 _ (q_pd 45 93 rfl)).trans hn44
  replace hn45 := (hu381 _ (q_pd 46 93 rfl)).trans hn45
  replace hn46 := (hu381 _ (q_pd 47 93 rfl)).trans hn46
  replace hn47 := (hu381 _ (q_pd 48 93 rfl)).trans hn47
  replace hn48 := (hu381 _ (q_pd 49 93 rfl)).trans hn48
  replace hn49 := (hu381 _ (q_pd 50 93 rfl)).trans hn49
  replace hn50 := (hu381 _ (q_pd 51 93 rfl)).trans hn50
  replace hn51 := (hu381 _ (q_pd 52 93 rfl)).trans hn51
  replace hn52 := (hu381 _ (q_pd 53 93 rfl)).trans hn52
  replace hn53 := (hu381 _ (q_pd 54 93 rfl)).trans hn53
  replace hn54 := (hu381 _ (q_pd 55 93 rfl)).trans hn54
  replace hn55 := (hu381 _ (q_pd 56 93 rfl)).trans hn55
  replace hn56 := (hu381 _ (q_pd 57 93 rfl)).trans hn56
  replace hn57 := (hu381 _ (q_pd 58 93 rfl)).trans hn57
  replace hn58 := (hu381 _ (q_pd 59 93 rfl)).trans hn58
  replace hn59 := (hu381 _ (q_pd 60 93 rfl)).trans hn59
  replace hn60 := (hu381 _ (q_pd 61 93 rfl)).trans hn60
  replace hn61 := (hu381 _ (q_pd 62 93 rfl)).trans hn61
  replace hn62 := (hu381 _ (q_pd 63 93 rfl)).trans hn62
  replace hn63 := (hu381 _ (q_pd 64 93 rfl)).trans hn63
  replace hn64 := (hu381 _ (q_pd 65 93 rfl)).trans hn64
  replace hn65 := (hu381 _ (q_pd 66 93 rfl)).trans hn65
  replace hn66 := (hu381 _ (q_pd 67 93 rfl)).trans hn66
  replace hn67 := (hu381 _ (q_pd 68 93 rfl)).trans hn67
  replace hn68 := (hu381 _ (q_pd 69 93 rfl)).trans hn68
  replace hn69 := (hu381 _ (q_pd 70 93 rfl)).trans hn69
  replace hn70 := (hu381 _ (q_pd 71 93 rfl)).trans hn70
  replace hn71 := (hu381 _ (q_pd 72 93 rfl)).trans hn71
  replace hn72 := (hu381 _ (q_pd 73 93 rfl)).trans hn72
  replace hn73 := (hu381 _ (q_pd 74 93 rfl)).trans hn73
  replace hn74 := (hu381 _ (q_pd 75 93 rfl)).trans hn74
  replace hn75 := (hu381 _ (q_pd 76 93 rfl)).trans hn75
  replace hn76 := (hu381 _ (q_pd 77 93 rfl)).trans hn76
  replace hn77 := (hu381 _ (q_pd 78 93 rfl)).trans hn77
  replace hn78 := (hu381 _ (q_pd 79 93 rfl)).trans hn78
  replace hn79 := (hu381 _ (q_pd 80 93 rfl)).trans hn79
  replace hn80 := (hu381 _ (q_pd 81 93 rfl)).trans hn80
  replace hn81 := (hu381 _ (q_pd 82 93 rfl)).trans hn81
  replace hn82 := (hu381 _ (q_pd 83 93 rfl)).trans hn82
  replace hn83 := (hu381 _ (q_pd 84 93 rfl)).trans hn83
  replace hn84 := (hu381 _ (q_pd 85 93 rfl)).trans hn84
  replace hn85 := (hu381 _ (q_pd 86 93 rfl)).trans hn85
  replace hn86 := (hu381 _ (q_pd 87 93 rfl)).trans hn86
  replace hn87 := (hu381 _ (q_pd 88 93 rfl)).trans hn87
  replace hn88 := (hu381 _ (q_pd 89 93 rfl)).trans hn88
  replace hn89 := (hu381 _ (q_pd 90 93 rfl)).trans hn89
  replace hn90 := (hu381 _ (q_pd 91 93 rfl)).trans hn90
  replace hn91 := (hu381 _ (q_pd 92 93 rfl)).trans hn91
  replace hF := q_us hF hu381 (.tail _ (.tail _ (.tail _ (.tail _ (.tail _ (.tail _ (.tail _ (.tail _ (.tail _ (.tail _ (.tail _ (.tail _ (.tail _ (.tail _ (.tail _ (.tail _ (.tail _ (.tail _ (.tail _ (.tail _ (.tail _ (.tail _ (.tail _ (.tail _ (.tail _ (.tail _ (.tail _ (.tail _ (.tail _ (.tail _ (.tail _ (.tail _ (.tail _ (.tail _ (.tail _ (.tail _ (.tail _ (.tail _ (.tail _ (.tail _ (.tail _ (.tail _ (.tail _ (.tail _ (.tail _ (.tail _ (.tail _ (.tail _ (.tail _ (.tail _ (.tail _ (.tail _ (.tail _ (.tail _ (.tail _ (.tail _ (.tail _ (.tail _ (.tail _ (.tail _ (.tail _ (.tail _ (.tail _ (.tail _ (.tail _ (.tail _ (.tail _ (.tail _ (.tail _ (.tail _ (.tail _ (.tail _ (.tail _ (.tail _ (.tail _ (.tail _ (.tail _ (.tail _ (.tail _ (.tail _ (.tail _ (.tail _ (.tail _ (.tail _ (.tail _ (.tail _ (.tail _ (.tail _ (.tail _ (.tail _ (.tail _ (.tail _ (.tail _ (.head _))))))))))))))))))))))))))))))))))))))))))))))))))))))))))))))))))))))))))))))))))))))))))))))
  replace hN : w380.length = 94 := hN
  refine lv_dup hx hb d_1_1_241 rfl ?_
  refine lv_bipush (v := 108) hx hb d_1_1_242 (by decide) ?_
  refine q_gov V (q_runI (As := [.int 108]) (rest := [.ref q379, .int 5, .ref q32]) (d := 3) (mc := 2) (ms := 111) C0 V rfl LI_NH_103 (c_Dec_init l D g w380 93 q379 94 hN hn92 _) rfl hl.1 rfl (Nat.le_of_ble_eq_true rfl) ⟨by decide, by decide⟩ ⟨Nat.le_of_ble_eq_true rfl, Nat.le_of_ble_eq_true rfl⟩ d_1_1_244) (fun u384 H locs hp383 V => ?_)
  obtain ⟨q385, q386, hg387, hn92, hq388, hq389, hN⟩ := hp383
  replace hO0 := (hg387 _ (q_nc (q_pd 0 93 rfl) (q_nc (q_pd 0 94 rfl) (q_nc (q_pd 0 95 rfl) List.not_mem_nil)))).trans hO0
  replace hn0 := (hg387 _ (q_nc (q_pd 1 93 rfl) (q_nc (q_pd 1 94 rfl) (q_nc (q_pd 1 95 rfl) List.not_mem_nil)))).trans hn0
  replace hn1 := (hg387 _ (q_nc (q_pd 2 93 rfl) (q_nc (q_pd 2 94 rfl) (q_nc (q_pd 2 95 rfl) List.not_mem_nil)))).trans hn1
  replace hn2 := (hg387 _ (q_nc (q_pd 3 93 rfl) (q_nc (q_pd 3 94 rfl) (q_nc (q_pd 3 95 rfl) List.not_mem_nil)))).trans hn2
  replace hn3 := (hg387 _ (q_nc (q_pd 4 93 rfl) (q_nc (q_pd 4 94 rfl) (q_nc (q_pd 4 95 rfl) List.not_mem_nil)))).trans hn3
  replace hn4 := (hg387 _ (q_nc (q_pd 5 93 rfl) (q_nc (q_pd 5 94 rfl) (q_nc (q_pd 5 95 rfl) List.not_mem_nil)))).trans hn4
  replace hn5 := (hg387 _ (q_nc (q_pd 6 93 rfl) (q_nc (q_pd 6 94 rfl) (q_nc (q_pd 6 95 rfl) List.not_mem_nil)))).trans hn5
  replace hn6 := (hg387 _ (q_nc (q_pd 7 93 rfl) (q_nc (q_pd 7 94 rfl) (q_nc (q_pd 7 95 rfl) List.not_mem_nil)))).trans hn6
  replace hn7 := (hg387 _ (q_nc (q_pd 8 93 rfl) (q_nc (q_pd 8 94 rfl) (q_nc (q_pd 8 95 rfl) List.not_mem_nil)))).trans hn7
  replace hn8 := (hg387 _ (q_nc (q_pd 9 93 rfl) (q_nc (q_pd 9 94 rfl) (q_nc (q_pd 9 95 rfl) List.not_mem_nil)))).trans hn8
  replace hn9 := (hg387 _ (q_nc (q_pd 10 93 rfl) (q_nc (q_pd 10 94 rfl) (q_nc (q_pd 10 95 rfl) List.not_mem_nil)))).trans hn9
  replace hn10 := (hg387 _ (q_nc (q_pd 11 93 rfl) (q_nc (q_pd 11 94 rfl) (q_nc (q_pd 11 95 rfl) List.not_mem_nil)))).trans hn10
  replace hn11 := (hg387 _ (q_nc (q_pd 12 93 rfl) (q_nc (q_pd 12 94 rfl) (q_nc (q_pd 12 95 rfl) List.not_mem_nil)))).trans hn11
  replace hn12 := (hg387 _ (q_nc (q_pd 13 93 rfl) (q_nc (q_pd 13 94 rfl) (q_nc (q_pd 13 95 rfl) List.not_mem_nil)))).trans hn12
  replace hn13 := (hg387 _ (q_nc (q_pd 14 93 rfl) (q_nc (q_pd 14 94 rfl) (q_nc (q_pd 14 95 rfl) List.not_mem_nil)))).trans hn13
  replace hn14 := (hg387 _ (q_nc (q_pd 15 93 rfl) (q_nc (q_pd 15 94 rfl) (q_nc (q_pd 15 95 rfl) List.not_mem_nil)))).trans hn14
  replace hn15 := (hg387 _ (q_nc (q_pd 16 93 rfl) (q_nc (q_pd 16 94 rfl) (q_nc (q_pd 16 95 rfl) List.not_mem_nil)))).trans hn15
  replace hn16 := (hg387 _ (q_nc (q_pd 17 93 rfl) (q_nc (q_pd 17 94 rfl) (q_nc (q_pd 17 95 rfl) List.not_mem_nil)))).trans hn16
  replace hn17 := (hg387 _ (q_nc (q_pd 18 93 rfl) (q_nc (q_pd 18 94 rfl) (q_nc (q_pd 18 95 rfl) List.not_mem_nil)))).trans hn17
  replace hn18 := (hg387 _ (q_nc (q_pd 19 93 rfl) (q_nc (q_pd 19 94 rfl) (q_nc (q_pd 19 95 rfl) List.not_mem_nil)))).trans hn18
  replace hn19 := (hg387 _ (q_nc (q_pd 20 93 rfl) (q_nc (q_pd 20 94 rfl) (q_nc (q_pd 20 95 rfl) List.not_mem_nil)))).trans hn19
  replace hn20 := (hg387 _ (q_nc (q_pd 21 93 rfl) (q_nc (q_pd 21 94 rfl) (q_nc (q_pd 21 95 rfl) List.not_mem_nil)))).trans hn20
  replace hn21 := (hg387 _ (q_nc (q_pd 22 93 rfl) (q_nc (q_pd 22 94 rfl) (q_nc (q_pd 22 95 rfl) List.not_mem_nil)))).trans hn21
  replace hn22 := (hg387 _ (q_nc (q_pd 23 93 rfl) (q_nc (q_pd 23 94 rfl) (q_nc (q_pd 23 95 rfl) List.not_mem_nil)))).trans hn22
  replace hn23 := (hg387 _ (q_nc (q_pd 24 93 rfl) (q_nc (q_pd 24 94 rfl) (q_nc (q_pd 24 95 rfl) List.not_mem_nil)))).trans hn23
  replace hn24 := (hg387 _ (q_nc (q_pd 25 93 rfl) (q_nc (q_pd 25 94 rfl) (q_nc (q_pd 25 95 rfl) List.not_mem_nil)))).trans hn24
  replace hn25 := (hg387 _ (q_nc (q_pd 26 93 rfl) (q_nc (q_pd 26 94 rfl) (q_nc (q_pd 26 95 rfl) List.not_mem_nil)))).trans hn25
  replace hn26 := (hg387 _ (q_nc (q_pd 27 93 rfl) (q_nc (q_pd 27 94 rfl) (q_nc (q_pd 27 95 rfl) List.not_mem_nil)))).trans hn26
  replace hn27 := (hg387 _ (q_nc (q_pd 28 93 rfl) (q_nc (q_pd 28 94 rfl) (q_nc (q_pd 28 95 rfl) List.not_mem_nil)))).trans hn27
  replace hn28 := (hg387 _ (q_nc (q_pd 29 93 rfl) (q_nc (q_pd 29 94 rfl) (q_nc (q_pd 29 95 rfl) List.not_mem_nil)))).trans hn28
  replace hn29 := (hg387 _ (q_nc (q_pd 30 93 rfl) (q_nc (q_pd 30 94 rfl) (q_nc (q_pd 30 95 rfl) List.not_mem_nil)))).trans hn29
  replace hn30 := (hg387 _ (q_nc (q_pd 31 93 rfl) (q_nc (q_pd 31 94 rfl) (q_nc (q_pd 31 95 rfl) List.not_mem_nil)))).trans hn30
  replace hn31 := (hg387 _ (q_nc (q_pd 32 93 rfl) (q_nc (q_pd 32 94 rfl) (q_nc (q_pd 32 95 rfl) List.not_mem_nil)))).trans hn31
  replace hn32 := (hg387 _ (q_nc (q_pd 33 93 rfl) (q_nc (q_pd 33 94 rfl) (q_nc (q_pd 33 95 rfl) List.not_mem_nil)))).trans hn32
  replace hn33 := (hg387 _ (q_nc (q_pd 34 93 rfl) (q_nc (q_pd 34 94 rfl) (q_nc (q_pd 34 95 rfl) List.not_mem_nil)))).trans hn33
  replace hn34 := (hg387 _ (q_nc (q_pd 35 93 rfl) (q_nc (q_pd 35 94 rfl) (q_nc (q_pd 35 95 rfl) List.not_mem_nil)))).trans hn34
  replace hn35 := (hg387 _ (q_nc (q_pd 36 93 rfl) (q_nc (q_pd 36 94 rfl) (q_nc (q_pd 36 95 rfl) List.not_mem_nil)))).trans hn35
  replace hn36 := (hg387 _ (q_nc (q_pd 37 93 rfl) (q_nc (q_pd 37 94 rfl) (q_nc (q_pd 37 95 rfl) List.not_mem_nil)))).trans hn36
  replace hn37 := (hg387 _ (q_nc (q_pd 38 93 rfl) (q_nc (q_pd 38 94 rfl) (q_nc (q_pd 38 95 rfl) List.not_mem_nil)))).trans hn37
  replace hn38 := (hg387 _ (q_nc (q_pd 39 93 rfl) (q_nc (q_pd 39 94 rfl) (q_nc (q_pd 39 95 rfl) List.not_mem_nil)))).trans hn38
  replace hn39 := (hg387 _ (q_nc (q_pd 40 93 rfl) (q_nc (q_pd 40 94 rfl) (q_nc (q_pd 40 95 rfl) List.not_mem_nil)))).trans hn39
  replace hn40 := (hg387 _ (q_nc (q_pd 41 93 rfl) (q_nc (q_pd 41 94 rfl) (q_nc (q_pd 41 95 rfl) List.not_mem_nil)))).trans hn40
  replace hn41 := (hg387 _ (q_nc (q_pd 42 93 rfl) (q_nc (q_pd 42 94 rfl) (q_nc (q_pd 42 95 rfl) List.not_mem_nil)))).trans hn41
  replace hn42 := (hg387 _ (q_nc (q_pd 43 93 rfl) (q_nc (q_pd 43 94 rfl) (q_nc (q_pd 43 95 rfl) List.not_mem_nil)))).trans hn42
  replace hn43 := (hg387 _ (q_nc (q_pd 44 93 rfl) (q_nc (q_pd 44 94 rfl) (q_nc (q_pd 44 95 rfl) List.not_mem_nil)))).trans hn43
  replace hn44 := (hg387 _ (q_nc (q_pd 45 93 rfl) (q_nc (q_pd 45 94 rfl) (q_nc (q_pd 45 95 rfl) List.not_mem_nil)))).trans hn44
  replace hn45 := (hg387 _ (q_nc (q_pd 46 93 rfl) (q_nc (q_pd 46 94 rfl) (q_nc (q_pd 46 95 rfl) List.not_mem_nil)))).trans hn45
  replace hn46 := (hg387 _ (q_nc (q_pd 47 93 rfl) (q_nc (q_pd 47 94 rfl) (q_nc (q_pd 47 95 rfl) List.not_mem_nil)))).trans hn46
  replace hn47 := (hg387 _ (q_nc (q_pd 48 93 rfl) (q_nc (q_pd 48 94 rfl) (q_nc (q_pd 48 95 rfl) List.not_mem_nil)))).trans hn47
  replace hn48 := (hg387 _ (q_nc (q_pd 49 93 rfl) (q_nc (q_pd 49 94 rfl) (q_nc (q_pd 49 95 rfl) List.not_mem_nil)))).trans hn48
  replace hn49 := (hg387 _ (q_nc (q_pd 50 93 rfl) (q_nc (q_pd 50 94 rfl) (q_nc (q_pd 50 95 rfl) List.not_mem_nil)))).trans hn49
  replace hn50 := (hg387 _ (q_nc (q_pd 51 93 rfl) (q_nc (q_pd 51 94 rfl) (q_nc (q_pd 51 95 rfl) List.not_mem_nil)))).trans hn50
  replace hn51 := (hg387 _ (q_nc (q_pd 52 93 rfl) (q_nc (q_pd 52 94 rfl) (q_nc (q_pd 52 95 rfl) List.not_mem_nil)))).trans hn51
  replace hn52 := (hg387 _ (q_nc (q_pd 53 93 rfl) (q_nc (q_pd 53 94 rfl) (q_nc (q_pd 53 95 rfl) List.not_mem_nil)))).trans hn52
  replace hn53 := (hg387 _ (q_nc (q_pd 54 93 rfl) (q_nc (q_pd 54 94 rfl) (q_nc (q_pd 54 95 rfl) List.not_mem_nil)))).trans hn53
  replace hn54 := (hg387 _ (q_nc (q_pd 55 93 rfl) (q_nc (q_pd 55 94 rfl) (q_nc (q_pd 55 95 rfl) List.not_mem_nil)))).trans hn54
  replace hn55 := (hg387 _ (q_nc (q_pd 56 93 rfl) (q_nc (q_pd 56 94 rfl) (q_nc (q_pd 56 95 rfl) List.not_mem_nil)))).trans hn55
  replace hn56 := (hg387 _ (q_nc (q_pd 57 93 rfl) (q_nc (q_pd 57 94 rfl) (q_nc (q_pd 57 95 rfl) List.not_mem_nil)))).trans hn56
  replace hn57 := (hg387 _ (q_nc (q_pd 58 93 rfl) (q_nc (q_pd 58 94 rfl) (q_nc (q_pd 58 95 rfl) List.not_mem_nil)))).trans hn57
  replace hn58 := (hg387 _ (q_nc (q_pd 59 93 rfl) (q_nc (q_pd 59 94 rfl) (q_nc (q_pd 59 95 rfl) List.not_mem_nil)))).trans hn58
  replace hn59 := (hg387 _ (q_nc (q_pd 60 93 rfl) (q_nc (q_pd 60 94 rfl) (q_nc (q_pd 60 95 rfl) List.not_mem_nil)))).trans hn59
  replace hn60 := (hg387 _ (q_nc (q_pd 61 93 rfl) (q_nc (q_pd 61 94 rfl) (q_nc (q_pd 61 95 rfl) List.not_mem_nil)))).trans hn60
  replace hn61 := (hg387 _ (q_nc (q_pd 62 93 rfl) (q_nc (q_pd 62 94 rfl) (q_nc (q_pd 62 95 rfl) List.not_mem_nil)))).trans hn61
  replace hn62 := (hg387 _ (q_nc (q_pd 63 93 rfl) (q_nc (q_pd 63 94 rfl) (q_nc (q_pd 63 95 rfl) List.not_mem_nil)))).trans hn62
  replace hn63 := (hg387 _ (q_nc (q_pd 64 93 rfl) (q_nc (q_pd 64 94 rfl) (q_nc (q_pd 64 95 rfl) List.not_mem_nil)))).trans hn63
  replace hn64 := (hg387 _ (q_nc (q_pd 65 93 rfl) (q_nc (q_pd 65 94 rfl) (q_nc (q_pd 65 95 rfl) List.not_mem_nil)))).trans hn64
  replace hn65 := (hg387 _ (q_nc (q_pd 66 93 rfl) (q_nc (q_pd 66 94 rfl) (q_nc (q_pd 66 95 rfl) List.not_mem_nil)))).trans hn65
  replace hn66 := (hg387 _ (q_nc (q_pd 67 93 rfl) (q_nc (q_pd 67 94 rfl) (q_nc (q_pd 67 95 rfl) List.not_mem_nil)))).trans hn66
  replace hn67 := (hg387 _ (q_nc (q_pd 68 93 rfl) (q_nc (q_pd 68 94 rfl) (q_nc (q_pd 68 95 rfl) List.not_mem_nil)))).trans hn67
  replace hn68 := (hg387 _ (q_nc (q_pd 69 93 rfl) (q_nc (q_pd 69 94 rfl) (q_nc (q_pd 69 95 rfl) List.not_mem_nil)))).trans hn68
  replace hn69 := (hg387 _ (q_nc (q_pd 70 93 rfl) (q_nc (q_pd 70 94 rfl) (q_nc (q_pd 70 95 rfl) List.not_mem_nil)))).trans hn69
  replace hn70 := (hg387 _ (q_nc (q_pd 71 93 rfl) (q_nc (q_pd 71 94 rfl) (q_nc (q_pd 71 95 rfl) List.not_mem_nil)))).trans hn70
  replace hn71 := (hg387 _ (q_nc (q_pd 72 93 rfl) (q_nc (q_pd 72 94 rfl) (q_nc (q_pd 72 95 rfl) List.not_mem_nil)))).trans hn71
  replace hn72 := (hg387 _ (q_nc (q_pd 73 93 rfl) (q_nc (q_pd 73 94 rfl) (q_nc (q_pd 73 95 rfl) List.not_mem_nil)))).trans hn72
  replace hn73 := (hg387 _ (q_nc (q_pd 74 93 rfl) (q_nc (q_pd 74 94 rfl) (q_nc (q_pd 74 95 rfl) List.not_mem_nil)))).trans hn73
  replace hn74 := (hg387 _ (q_nc (q_pd 75 93 rfl) (q_nc (q_pd 75 94 rfl) (q_nc (q_pd 75 95 rfl) List.not_mem_nil)))).trans hn74
  replace hn75 := (hg387 _ (q_nc (q_pd 76 93 rfl) (q_nc (q_pd 76 94 rfl) (q_nc (q_pd 76 95 rfl) List.not_mem_nil)))).trans hn75
  replace hn76 := (hg387 _ (q_nc (q_pd 77 93 rfl) (q_nc (q_pd 77 94 rfl) (q_nc (q_pd 77 95 rfl) List.not_mem_nil)))).trans hn76
  replace hn77 := (hg387 _ (q_nc (q_pd 78 93 rfl) (q_nc (q_pd 78 94 rfl) (q_nc (q_pd 78 95 rfl) List.not_mem_nil)))).trans hn77
  replace hn78 := (hg387 _ (q_nc (q_pd 79 93 rfl) (q_nc (q_pd 79 94 rfl) (q_nc (q_pd 79 95 rfl) List.not_mem_nil)))).trans hn78
  replace hn79 := (hg387 _ (q_nc (q_pd 80 93 rfl) (q_nc (q_pd 80 94 rfl) (q_nc (q_pd 80 95 rfl) List.not_mem_nil)))).trans hn79
  replace hn80 := (hg387 _ (q_nc (q_pd 81 93 rfl) (q_nc (q_pd 81 94 rfl) (q_nc (q_pd 81 95 rfl) List.not_mem_nil)))).trans hn80
  replace hn81 := (hg387 _ (q_nc (q_pd 82 93 rfl) (q_nc (q_pd 82 94 rfl) (q_nc (q_pd 82 95 rfl) List.not_mem_nil)))).trans hn81
  replace hn82 := (hg387 _ (q_nc (q_pd 83 93 rfl) (q_nc (q_pd 83 94 rfl) (q_nc (q_pd 83 95 rfl) List.not_mem_nil)))).trans hn82
  replace hn83 := (hg387 _ (q_nc (q_pd 84 93 rfl) (q_nc (q_pd 84 94 rfl) (q_nc (q_pd 84 95 rfl) List.not_mem_nil)))).trans hn83
  replace hn84 := (hg387 _ (q_nc (q_pd 85 93 rfl) (q_nc (q_pd 85 94 rfl) (q_nc (q_pd 85 95 rfl) List.not_mem_nil)))).trans hn84
  replace hn85 := (hg387 _ (q_nc (q_pd 86 93 rfl) (q_nc (q_pd 86 94 rfl) (q_nc (q_pd 86 95 rfl) List.not_mem_nil)))).trans hn85
  replace hn86 := (hg387 _ (q_nc (q_pd 87 93 rfl) (q_nc (q_pd 87 94 rfl) (q_nc (q_pd 87 95 rfl) List.not_mem_nil)))).trans hn86
  replace hn87 := (hg387 _ (q_nc (q_pd 88 93 rfl) (q_nc (q_pd 88 94 rfl) (q_nc (q_pd 88 95 rfl) List.not_mem_nil)))).trans hn87
  replace hn88 := (hg387 _ (q_nc (q_pd 89 93 rfl) (q_nc (q_pd 89 94 rfl) (q_nc (q_pd 89 95 rfl) List.not_mem_nil)))).trans hn88
  replace hn89 := (hg387 _ (q_nc (q_pd 90 93 rfl) (q_nc (q_pd 90 94 rfl) (q_nc (q_pd 90 95 rfl) List.not_mem_nil)))).trans hn89
  replace hn90 := (hg387 _ (q_nc (q_pd 91 93 rfl) (q_nc (q_pd 91 94 rfl) (q_nc (q_pd 91 95 rfl) List.not_mem_nil)))).trans hn90
  replace hn91 := (hg387 _ (q_nc (q_pd 92 93 rfl) (q_nc (q_pd 92 94 rfl) (q_nc (q_pd 92 95 rfl) List.not_mem_nil)))).trans hn91
  replace hF := q_uc hF hg387 (q_sc (.tail _ (.tail _ (.tail _ (.tail _ (.tail _ (.tail _ (.tail _ (.tail _ (.tail _ (.tail _ (.tail _ (.tail _ (.tail _ (.tail _ (.tail _ (.tail _ (.tail _ (.tail _ (.tail _ (.tail _ (.tail _ (.tail _ (.tail _ (.tail _ (.tail _ (.tail _ (.tail _ (.tail _ (.tail _ (.tail _ (.tail _ (.tail _ (.tail _ (.tail _ (.tail _ (.tail _ (.tail _ (.tail _ (.tail _ (.tail _ (.tail _ (.tail _ (.tail _ (.tail _ (.tail _ (.tail _ (.tail _ (.tail _ (.tail _ (.tail _ (.tail _ (.tail _ (.tail _ (.tail _ (.tail _ (.tail _ (.tail _ (.tail _ (.tail _ (.tail _ (.tail _ (.tail _ (.tail _ (.tail _ (.tail _ (.tail _ (.tail _ (.tail _ (.tail _ (.tail _ (.tail _ (.tail _ (.tail _ (.tail _ (.tail _ (.tail _ (.tail _ (.tail _ (.tail _ (.tail _ (.tail _ (.tail _ (.tail _ (.tail _ (.tail _ (.tail _ (.tail _ (.tail _ (.tail _ (.tail _ (.tail _ (.tail _ (.tail _ (.head _)))))))))))))))))))))))))))))))))))))))))))))))))))))))))))))))))))))))))))))))))))))))))))))) (q_sc (.tail _ (.tail _ (.tail _ (.tail _ (.tail _ (.tail _ (.tail _ (.tail _ (.tail _ (.tail _ (.tail _ (.tail _ (.tail _ (.tail _ (.tail _ (.tail _ (.tail _ (.tail _ (.tail _ (.tail _ (.tail _ (.tail _ (.tail _ (.tail _ (.tail _ (.tail _ (.tail _ (.tail _ (.tail _ (.tail _ (.tail _ (.tail _ (.tail _ (.tail _ (.tail _ (.tail _ (.tail _ (.tail _ (.tail _ (.tail _ (.tail _ (.tail _ (.tail _ (.tail _ (.tail _ (.tail _ (.tail _ (.tail _ (.tail _ (.tail _ (.tail _ (.tail _ (.tail _ (.tail _ (.tail _ (.tail _ (.tail _ (.tail _ (.tail _ (.tail _ (.tail _ (.tail _ (.tail _ (.tail _ (.tail _ (.tail _ (.tail _ (.tail _ (.tail _ (.tail _ (.tail _ (.tail _ (.tail _ (.tail _ (.tail _ (.tail _ (.tail _ (.tail _ (.tail _ (.tail _ (.tail _ (.tail _ (.tail _ (.tail _ (.tail _ (.tail _ (.tail _ (.tail _ (.tail _ (.tail _ (.tail _ (.tail _ (.tail _ (.tail _ (.head _))))))))))))))))))))))))))))))))))))))))))))))))))))))))))))))))))))))))))))))))))))))))))))))) (q_sc (.tail _ (.tail _ (.tail _ (.tail _ (.tail _ (.tail _ (.tail _ (.tail _ (.tail _ (.tail _ (.tail _ (.tail _ (.tail _ (.tail _ (.tail _ (.tail _ (.tail _ (.tail _ (.tail _ (.tail _ (.tail _ (.tail _ (.tail _ (.tail _ (.tail _ (.tail _ (.tail _ (.tail _ (.tail _ (.tail _ (.tail _ (.tail _ (.tail _ (.tail _ (.tail _ (.tail _ (.tail _ (.tail _ (.tail _ (.tail _ (.tail _ (.tail _ (.tail _ (.tail _ (.tail _ (.tail _ (.tail _ (.tail _ (.tail _ (.tail _ (.tail _ (.tail _ (.tail _ (.tail _ (.tail _ (.tail _ (.tail _ (.tail _ (.tail _ (.tail _ (.tail _ (.tail _ (.tail _ (.tail _ (.tail _ (.tail _ (.tail _ (.tail _ (.tail _ (.tail _ (.tail _ (.tail _ (.tail _ (.tail _ (.tail _ (.tail _ (.tail _ (.tail _ (.tail _ (.tail _ (.tail _ (.tail _ (.tail _ (.tail _ (.tail _ (.tail _ (.tail _ (.tail _ (.tail _ (.tail _ (.tail _ (.tail _ (.tail _ (.tail _ (.tail _ (.head _)))))))))))))))))))))))))))))))))))))))))))))))))))))))))))))))))))))))))))))))))))))))))))))))) (fun _ h => absurd h List.not_mem_nil))))
  have hn93 : u384[94]? = some (q385, .inr (2, [.ref q386, .int 0, .int 0])) := hq388
  have hn94 : u384[95]? = some (q386, .inl (g 0, 108, .inl (fun _ => 0))) := hq389
  replace hN : u384.length = 96 := hN
  have ho390 := hn5
  refine q_aast (t := 5) (ci := 3) (i9 := 5) C0 V hn5 rfl hn92 rfl (by decide) (by decide) d_1_1_247 (fun H locs w391 hu392 hn5 V => ?_)
  replace hn5 : w391[6]? = some (q32, .inl (g 5, 10, .inr (.inr (.inr (.inr (va_up (va_up (va_up (va_up (va_up (va_up (fun _ => none) 0 (some q244)) 1 (some q271)) 2 (some q298)) 3 (some q325)) 4 (some q352)) 5 (some q379))))))) := hn5
  replace hN : w391.length = 96 := (q_len1 hu392 hn5 ho390).trans hN
  replace hO0 := (hu392 _ (q_pd 0 6 rfl)).trans hO0
  replace hn0 := (hu392 _ (q_pd 1 6 rfl)).trans hn0
  replace hn1 := (hu392 _ (q_pd 2 6 rfl)).trans hn1
  replace hn2 := (hu392 _ (q_pd 3 6 rfl)).trans hn2
  replace hn3 := (hu392 _ (q_pd 4 6 rfl)).trans hn3
  replace hn4 := (hu392 _ (q_pd 5 6 rfl)).trans hn4
  replace hn6 := (hu392 _ (q_pd 7 6 rfl)).trans hn6
  replace hn7 := (hu392 _ (q_pd 8 6 rfl)).trans hn7
  replace hn8 := (hu392 _ (q_pd 9 6 rfl)).trans hn8
  replace hn9 := (hu392 _ (q_pd 10 6 rfl)).trans hn9
  replace hn10 := (hu392 _ (q_pd 11 6 rfl)).trans hn10
  replace hn11 := (hu392 _ (q_pd 12 6 rfl)).trans hn11
  replace hn12 := (hu392 _ (q_pd 13 6 rfl)).trans hn12
  replace hn13 := (hu392 _ (q_pd 14 6 rfl)).trans hn13
  replace hn14 := (hu392 _ (q_pd 15 6 rfl)).trans hn14
  replace hn15 := (hu392 _ (q_pd 16 6 rfl)).trans hn15
  replace hn16 := (hu392 _ (q_pd 17 6 rfl)).trans hn16
  replace hn17 := (hu392 _ (q_pd 18 6 rfl)).trans hn17
  replace hn18 := (hu392 _ (q_pd 19 6 rfl)).trans hn18
  replace hn19 := (hu392 _ (q_pd 20 6 rfl)).trans hn19
  replace hn20 := (hu392 _ (q_pd 21 6 rfl)).trans hn20
  replace hn21 := (hu392 _ (q_pd 22 6 rfl)).trans hn21
  replace hn22 := (hu392 _ (q_pd 23 6 rfl)).trans hn22
  replace hn23 := (hu392 _ (q_pd 24 6 rfl)).trans hn23
  replace hn24 := (hu392 _ (q_pd 25 6 rfl)).trans hn24
  replace hn25 := (hu392 _ (q_pd 26 6 rfl)).trans hn25
  replace hn26 := (hu392 _ (q_pd 27 6 rfl)).trans hn26
  replace hn27 := (hu392 _ (q_pd 28 6 rfl)).trans hn27
  replace hn28 := (hu392 _ (q_pd 29 6 rfl)).trans hn28
  replace hn29 := (hu392 _ (q_pd 30 6 rfl)).trans hn29
  replace hn30 := (hu392 _ (q_pd 31 6 rfl)).trans hn30
  replace hn31 := (hu392 _ (q_pd 32 6 rfl)).trans hn31
  replace hn32 := (hu392 _ (q_pd 33 6 rfl)).trans hn32
  replace hn33 := (hu392 _ (q_pd 34 6 rfl)).trans hn33
  replace hn34 := (hu392 _ (q_pd 35 6 rfl)).trans hn34
  replace hn35 := (hu392 _ (q_pd 36 6 rfl)).trans hn35
  replace hn36 := (hu392 _ (q_pd 37 6 rfl)).trans hn36
  replace hn37 := (hu392 _ (q_pd 38 6 rfl)).trans hn37
  replace hn38 := (hu392 _ (q_pd 39 6 rfl)).trans hn38
  replace hn39 := (hu392 _ (q_pd 40 6 rfl)).trans hn39
  replace hn40 := (hu392 _ (q_pd 41 6 rfl)).trans hn40
  replace hn41 := (hu392 _ (q_pd 42 6 rfl)).trans hn41
  replace hn42 := (hu392 _ (q_pd 43 6 rfl)).trans hn42
  replace hn43 := (hu392 _ (q_pd 44 6 rfl)).trans hn43
  replace hn44 := (hu392 _ (q_pd 45 6 rfl)).trans hn44
  replace hn45 := (hu392 _ (q_pd 46 6 rfl)).trans hn45
  replace hn46 := (hu392 _ (q_pd 47 6 rfl)).trans hn46
  replace hn47 := (hu392 _ (q_pd 48 6 rfl)).trans hn47
  replace hn48 := (hu392 _ (q_pd 49 6 rfl)).trans hn48
  replace hn49 := (hu392 _ (q_pd 50 6 rfl)).trans hn49
  replace hn50 := (hu392 _ (q_pd 51 6 rfl)).trans hn50
  replace hn51 := (hu392 _ (q_pd 52 6 rfl)).trans hn51
  replace hn52 := (hu392 _ (q_pd 53 6 rfl)).trans hn52
  replace hn53 := (hu392 _ (q_pd 54 6 rfl)).trans hn53
  replace hn54 := (hu392 _ (q_pd 55 6 rfl)).trans hn54
  replace hn55 := (hu392 _ (q_pd 56 6 rfl)).trans hn55
  replace hn56 := (hu392 _ (q_pd 57 6 rfl)).trans hn56
  replace hn57 := (hu392 _ (q_pd 58 6 rfl)).trans hn57
  replace hn58 := (hu392 _ (q_pd 59 6 rfl)).trans hn58
  replace hn59 := (hu392 _ (q_pd 60 6 rfl)).trans hn59
  replace hn60 := (hu392 _ (q_pd 61 6 rfl)).trans hn60
  replace hn61 := (hu392 _ (q_pd 62 6 rfl)).trans hn61
  replace hn62 := (hu392 _ (q_pd 63 6 rfl)).trans hn62
  replace hn63 := (hu392 _ (q_pd 64 6 rfl)).trans hn63
  replace hn64 := (hu392 _ (q_pd 65 6 rfl)).trans hn64
  replace hn65 := (hu392 _ (q_pd 66 6 rfl)).trans hn65
  replace hn66 := (hu392 _ (q_pd 67 6 rfl)).trans hn66
  replace hn67 := (hu392 _ (q_pd 68 6 rfl)).trans hn67
  replace hn68 := (hu392 _ (q_pd 69 6 rfl)).trans hn68
  replace hn69 := (hu392 _ (q_pd 70 6 rfl)).trans hn69
  replace hn70 := (hu392 _ (q_pd 71 6 rfl)).trans hn70
  replace hn71 := (hu392 _ (q_pd 72 6 rfl)).trans hn71
  replace hn72 := (hu392 _ (q_pd 73 6 rfl)).trans hn72
  replace hn73 := (hu392 _ (q_pd 74 6 rfl)).trans hn73
  replace hn74 := (hu392 _ (q_pd 75 6 rfl)).trans hn74
  replace hn75 := (hu392 _ (q_pd 76 6 rfl)).trans hn75
  replace hn76 := (hu392 _ (q_pd 77 6 rfl)).trans hn76
  replace hn77 := (hu392 _ (q_pd 78 6 rfl)).trans hn77
  replace hn78 := (hu392 _ (q_pd 79 6 rfl)).trans hn78
  replace hn79 := (hu392 _ (q_pd 80 6 rfl)).trans hn79
  replace hn80 := (hu392 _ (q_pd 81 6 rfl)).trans hn80
  replace hn81 := (hu392 _ (q_pd 82 6 rfl)).trans hn81
  replace hn82 := (hu392 _ (q_pd 83 6 rfl)).trans hn82
  replace hn83 := (hu392 _ (q_pd 84 6 rfl)).trans hn83
  replace hn84 := (hu392 _ (q_pd 85 6 rfl)).trans hn84
  replace hn85 := (hu392 _ (q_pd 86 6 rfl)).trans hn85
  replace hn86 := (hu392 _ (q_pd 87 6 rfl)).trans hn86
  replace hn87 := (hu392 _ (q_pd 88 6 rfl)).trans hn87
  replace hn88 := (hu392 _ (q_pd 89 6 rfl)).trans hn88
  replace hn89 := (hu392 _ (q_pd 90 6 rfl)).trans hn89
  replace hn90 := (hu392 _ (q_pd 91 6 rfl)).trans hn90
  replace hn91 := (hu392 _ (q_pd 92 6 rfl)).trans hn91
  replace hn92 := (hu392 _ (q_pd 93 6 rfl)).trans hn92
  replace hn93 := (hu392 _ (q_pd 94 6 rfl)).trans hn93
  replace hn94 := (hu392 _ (q_pd 95 6 rfl)).trans hn94
  replace hF := q_us hF hu392 (.tail _ (.tail _ (.tail _ (.tail _ (.tail _ (.tail _ (.head _)))))))
  refine lv_iinc (v := 6) (lv' := [(1, .int 6), (0, .ref qO0)]) hx hb d_1_1_248 hl (k := 0) rfl (by decide) (by decide) rfl (fun ls hl => ?_)
  refine lv_goto (tgt := 212) hx hb d_1_1_251 (by decide) ?_
  refine lv_iload_n hx hb d_1_1_212 rfl (lv_at hl 0 rfl) ?_
  refine lv_bipush (v := 10) hx hb d_1_1_213 (by decide) ?_
  refine lv_icmp_ge (tgt := 254) hx hb d_1_1_215 (by decide) (fun c393 => absurd c393 (by decide)) (fun c393 => ?_)
  refine lv_aload_n hx hb d_1_1_218 rfl (lv_at hl 1 rfl) ?_
  refine q_get (ci := 0) (j := 2) (v := .ref q25) C0 V i_NH rfl rfl hO0 (by decide) w_426 rfl d_1_1_219 ?_
  refine lv_iload_n hx hb d_1_1_222 rfl (lv_at hl 0 rfl) ?_
  refine q_new (ci := 2) (fs := [.null, .int 0, .int 0]) C0 V hN i_Big o_Big rfl w_68 w_79 w_4 rfl (fun j hj => by rcases (show j = 0 ∨ j = 1 ∨ j = 2 by omega) with rfl | rfl | rfl <;> rfl) (Nat.le_of_ble_eq_true rfl) (Nat.le_of_ble_eq_true rfl) d_1_1_223 (fun q394 H w395 hu396 hn397 hN V => ?_)
  have hn95 : w395[96]? = some (q394, .inr (2, [.null, .int 0, .int 0])) := hn397
  replace hO0 := (hu396 _ (q_pd 0 96 rfl)).trans hO0
  replace hn0 := (hu396 _ (q_pd 1 96 rfl)).trans hn0
  replace hn1 := (hu396 _ (q_pd 2 96 rfl)).trans hn1
  replace hn2 := (hu396 _ (q_pd 3 96 rfl)).trans hn2
  replace hn3 := (hu396 _ (q_pd 4 96 rfl)).trans hn3
  replace hn4 := (hu396 _ (q_pd 5 96 rfl)).trans hn4
  replace hn5 := (hu396 _ (q_pd 6 96 rfl)).trans hn5
  replace hn6 := (hu396 _ (q_pd 7 96 rfl)).trans hn6
  replace hn7 := (hu396 _ (q_pd 8 96 rfl)).trans hn7
  replace hn8 := (hu396 _ (q_pd 9 96 rfl)).trans hn8
  replace hn9 := (hu396 _ (q_pd 10 96 rfl)).trans hn9
  replace hn10 := (hu396 _ (q_pd 11 96 rfl)).trans hn10
  replace hn11 := (hu396 _ (q_pd 12 96 rfl)).trans hn11
  replace hn12 := (hu396 _ (q_pd 13 96 rfl)).trans hn12
  replace hn13 := (hu396 _ (q_pd 14 96 rfl)).trans hn13
  replace hn14 := (hu396 _ (q_pd 15 96 rfl)).trans hn14
  replace hn15 := (hu396 _ (q_pd 16 96 rfl)).trans hn15
  replace hn16 := (hu396 _ (q_pd 17 96 rfl)).trans hn16
  replace hn17 := (hu396 _ (q_pd 18 96 rfl)).trans hn17
  replace hn18 := (hu396 _ (q_pd 19 96 rfl)).trans hn18
  replace hn19 := (hu396 _ (q_pd 20 96 rfl)).trans hn19
  replace hn20 := (hu396 _ (q_pd 21 96 rfl)).trans hn20
  replace hn21 := (hu396 _ (q_pd 22 96 rfl)).trans hn21
  replace hn22 := (hu396 _ (q_pd 23 96 rfl)).trans hn22
  replace hn23 := (hu396 _ (q_pd 24 96 rfl)).trans hn23
  replace hn24 := (hu396 _ (q_pd 25 96 rfl)).trans hn24
  replace hn25 := (hu396 _ (q_pd 26 96 rfl)).trans hn25
  replace hn26 := (hu396 _ (q_pd 27 96 rfl)).trans hn26
  replace hn27 := (hu396 _ (q_pd 28 96 rfl)).trans hn27
  replace hn28 := (hu396 _ (q_pd 29 96 rfl)).trans hn28
  replace hn29 := (hu396 _ (q_pd 30 96 rfl)).trans hn29
  replace hn30 := (hu396 _ (q_pd 31 96 rfl)).trans hn30
  replace hn31 := (hu396 _ (q_pd 32 96 rfl)).trans hn31
  replace hn32 := (hu396 _ (q_pd 33 96 rfl)).trans hn32
  replace hn33 := (hu396 _ (q_pd 34 96 rfl)).trans hn33
  replace hn34 := (hu396 _ (q_pd 35 96 rfl)).trans hn34
  replace hn35 := (hu396 _ (q_pd 36 96 rfl)).trans hn35
  replace hn36 := (hu396 _ (q_pd 37 96 rfl)).trans hn36
  replace hn37 := (hu396 _ (q_pd 38 96 rfl)).trans hn37
  replace hn38 := (hu396 _ (q_pd 39 96 rfl)).trans hn38
  replace hn39 := (hu396 _ (q_pd 40 96 rfl)).trans hn39
  replace hn40 := (hu396 _ (q_pd 41 96 rfl)).trans hn40
  replace hn41 := (hu396 _ (q_pd 42 96 rfl)).trans hn41
  replace hn42 := (hu396 _ (q_pd 43 96 rfl)).trans hn42
  replace hn43 := (hu396 _ (q_pd 44 96 rfl)).trans hn43
  replace hn44 := (hu396 _ (q_pd 45 96 rfl)).trans hn44
  replace hn45 := (hu396 _ (q_pd 46 96 rfl)).trans hn45
  replace hn46 := (hu396 _ (q_pd 47 96 rfl)).trans hn46
  replace hn47 := (hu396 _ (q_pd 48 96 rfl)).trans hn47
  replace hn48 := (hu396 _ (q_pd 49 96 rfl)).trans hn48
  replace hn49 := (hu396 _ (q_pd 50 96 rfl)).trans hn49
  replace hn50 := (hu396 _ (q_pd 51 96 rfl)).trans hn50
  replace hn51 := (hu396 _ (q_pd 52 96 rfl)).trans hn51
  replace hn52 := (hu396 _ (q_pd 53 96 rfl)).trans hn52
  replace hn53 := (hu396 _ (q_pd 54 96 rfl)).trans hn53
  replace hn54 := (hu396 _ (q_pd 55 96 rfl)).trans hn54
  replace hn55 := (hu396 _ (q_pd 56 96 rfl)).trans hn55
  replace hn56 := (hu396 _ (q_pd 57 96 rfl)).trans hn56
  replace hn57 := (hu396 _ (q_pd 58 96 rfl)).trans hn57
  replace hn58 := (hu396 _ (q_pd 59 96 rfl)).trans hn58
  replace hn59 := (hu396 _ (q_pd 60 96 rfl)).trans hn59
  replace hn60 := (hu396 _ (q_pd 61 96 rfl)).trans hn60
  replace hn61 := (hu396 _ (q_pd 62 96 rfl)).trans hn61
  replace hn62 := (hu396 _ (q_pd 63 96 rfl)).trans hn62
  replace hn63 := (hu396 _ (q_pd 64 96 rfl)).trans hn63
  replace hn64 := (hu396 _ (q_pd 65 96 rfl)).trans hn64
  replace hn65 := (hu396 _ (q_pd 66 96 rfl)).trans hn65
  replace hn66 := (hu396 _ (q_pd 67 96 rfl)).trans hn66
  replace hn67 := (hu396 _ (q_pd 68 96 rfl)).trans hn67
  replace hn68 := (hu396 _ (q_pd 69 96 rfl)).trans hn68
  replace hn69 := (hu396 _ (q_pd 70 96 rfl)).trans hn69
  replace hn70 := (hu396 _ (q_pd 71 96 rfl)).trans hn70
  replace hn71 := (hu396 _ (q_pd 72 96 rfl)).trans hn71
  replace hn72 := (hu396 _ (q_pd 73 96 rfl)).trans hn72
  replace hn73 := (hu396 _ (q_pd 74 96 rfl)).trans hn73
  replace hn74 := (hu396 _ (q_pd 75 96 rfl)).trans hn74
  replace hn75 := (hu396 _ (q_pd 76 96 rfl)).trans hn75
  replace hn76 := (hu396 _ (q_pd 77 96 rfl)).trans hn76
  replace hn77 := (hu396 _ (q_pd 78 96 rfl)).trans hn77
  replace hn78 := (hu396 _ (q_pd 79 96 rfl)).trans hn78
  replace hn79 := (hu396 _ (q_pd 80 96 rfl)).trans hn79
  replace hn80 := (hu396 _ (q_pd 81 96 rfl)).trans hn80
  replace hn81 := (hu396 _ (q_pd 82 96 rfl)).trans hn81
  replace hn82 := (hu396 _ (q_pd 83 96 rfl)).trans hn82
  replace hn83 := (hu396 _ (q_pd 84 96 rfl)).trans hn83
  replace hn84 := (hu396 _ (q_pd 85 96 rfl)).trans hn84
  replace hn85 := (hu396 _ (q_pd 86 96 rfl)).trans hn85
  replace hn86 := (hu396 _ (q_pd 87 96 rfl)).trans hn86
  replace hn87 := (hu396 _ (q_pd 88 96 rfl)).trans hn87
  replace hn88 := (hu396 _ (q_pd 89 96 rfl)).trans hn88
  replace hn89 := (hu396 _ (q_pd 90 96 rfl)).trans hn89
  replace hn90 := (hu396 _ (q_pd 91 96 rfl)).trans hn90
  replace hn91 := (hu396 _ (q_pd 92 96 rfl)).trans hn91
  replace hn92 := (hu396 _ (q_pd 93 96 rfl)).trans hn92
  replace hn93 := (hu396 _ (q_pd 94 96 rfl)).trans hn93
  replace hn94 := (hu396 _ (q_pd 95 96 rfl)).trans hn94
  replace hF := q_us hF hu396 (.tail _ (.tail _ (.tail _ (.tail _ (.tail _ (.tail _ (.tail _ (.tail _ (.tail _ (.tail _ (.tail _ (.tail _ (.tail _ (.tail _ (.tail _ (.tail _ (.tail _ (.tail _ (.tail _ (.tail _ (.tail _ (.tail _ (.tail _ (.tail _ (.tail _ (.tail _ (.tail _ (.tail _ (.tail _ (.tail _ (.tail _ (.tail _ (.tail _ (.tail _ (.tail _ (.tail _ (.tail _ (.tail _ (.tail _ (.tail _ (.tail _ (.tail _ (.tail _ (.tail _ (.tail _ (.tail _ (.tail _ (.tail _ (.tail _ (.tail _ (.tail _ (.tail _ (.tail _ (.tail _ (.tail _ (.tail _ (.tail _ (.tail _ (.tail _ (.tail _ (.tail _ (.tail _ (.tail _ (.tail _ (.tail _ (.tail _ (.tail _ (.tail _ (.tail _ (.tail _ (.tail _ (.tail _ (.tail _ (.tail _ (.tail _ (.tail _ (.tail _ (.tail _ (.tail _ (.tail _ (.tail _ (.tail _ (.tail _ (.tail _ (.tail _ (.tail _ (.tail _ (.tail _ (.tail _ (.tail _ (.tail _ (.tail _ (.tail _ (.tail _ (.tail _ (.tail _ (.head _)))))))))))))))))))))))))))))))))))))))))))))))))))))))))))))))))))))))))))))))))))))))))))))))))
  replace hN : w395.length = 97 := hN
  refine lv_dup hx hb d_1_1_226 rfl ?_
  refine lv_bipush (v := 68) hx hb d_1_1_227 (by decide) ?_
  refine q_gov V (q_runI (As := [.int 68]) (rest := [.ref q394, .int 6, .ref q25]) (d := 2) (mc := 1) (ms := 68) C0 V rfl LI_NH_102 (c_Big_init l D g w395 96 q394 97 hN hn95 _) rfl hl.1 rfl (Nat.le_of_ble_eq_true rfl) ⟨by decide, by decide⟩ ⟨Nat.le_of_ble_eq_true rfl, Nat.le_of_ble_eq_true rfl⟩ d_1_1_229) (fun u399 H locs hp398 V => ?_)
  obtain ⟨q400, hg401, hn95, hq402, hN⟩ := hp398
  replace hO0 := (hg401 _ (q_nc (q_pd 0 96 rfl) (q_nc (q_pd 0 97 rfl) List.not_mem_nil))).trans hO0
  replace hn0 := (hg401 _ (q_nc (q_pd 1 96 rfl) (q_nc (q_pd 1 97 rfl) List.not_mem_nil))).trans hn0
  replace hn1 := (hg401 _ (q_nc (q_pd 2 96 rfl) (q_nc (q_pd 2 97 rfl) List.not_mem_nil))).trans hn1
  replace hn2 := (hg401 _ (q_nc (q_pd 3 96 rfl) (q_nc (q_pd 3 97 rfl) List.not_mem_nil))).trans hn2
  replace hn3 := (hg401 _ (q_nc (q_pd 4 96 rfl) (q_nc (q_pd 4 97 rfl) List.not_mem_nil))).trans hn3
  replace hn4 := (hg401 _ (q_nc (q_pd 5 96 rfl) (q_nc (q_pd 5 97 rfl) List.not_mem_nil))).trans hn4
  replace hn5 := (hg401 _ (q_nc (q_pd 6 96 rfl) (q_nc (q_pd 6 97 rfl) List.not_mem_nil))).trans hn5
  replace hn6 := (hg401 _ (q_nc (q_pd 7 96 rfl) (q_nc (q_pd 7 97 rfl) List.not_mem_nil))).trans hn6
  replace hn7 := (hg401 _ (q_nc (q_pd 8 96 rfl) (q_nc (q_pd 8 97 rfl) List.not_mem_nil))).trans hn7
  replace hn8 := (hg401 _ (q_nc (q_pd 9 96 rfl) (q_nc (q_pd 9 97 rfl) List.not_mem_nil))).trans hn8
  replace hn9 := (hg401 _ (q_nc (q_pd 10 96 rfl) (q_nc (q_pd 10 97 rfl) List.not_mem_nil))).trans hn9
  replace hn10 := (hg401 _ (q_nc (q_pd 11 96 rfl) (q_nc (q_pd 11 97 rfl) List.not_mem_nil))).trans hn10
  replace hn11 := (hg401 _ (q_nc (q_pd 12 96 rfl) (q_nc (q_pd 12 97 rfl) List.not_mem_nil))).trans hn11
  replace hn12 := (hg401 _ (q_nc (q_pd 13 96 rfl) (q_nc (q_pd 13 97 rfl) List.not_mem_nil))).trans hn12
  replace hn13 := (hg401 _ (q_nc (q_pd 14 96 rfl) (q_nc (q_pd 14 97 rfl) List.not_mem_nil))).trans hn13
  replace hn14 := (hg401 _ (q_nc (q_pd 15 96 rfl) (q_nc (q_pd 15 97 rfl) List.not_mem_nil))).trans hn14
  replace hn15 := (hg401 _ (q_nc (q_pd 16 96 rfl) (q_nc (q_pd 16 97 rfl) List.not_mem_nil))).trans hn15
  replace hn16 := (hg401 _ (q_nc (q_pd 17 96 rfl) (q_nc (q_pd 17 97 rfl) List.not_mem_nil))).trans hn16
  replace hn17 := (hg401 _ (q_nc (q_pd 18 96 rfl) (q_nc (q_pd 18 97 rfl) List.not_mem_nil))).trans hn17
  replace hn18 := (hg401 _ (q_nc (q_pd 19 96 rfl) (q_nc (q_pd 19 97 rfl) List.not_mem_nil))).trans hn18
  replace hn19 := (hg401 _ (q_nc (q_pd 20 96 rfl) (q_nc (q_pd 20 97 rfl) List.not_mem_nil))).trans hn19
  replace hn20 := (hg401 _ (q_nc (q_pd 21 96 rfl) (q_nc (q_pd 21 97 rfl) List.not_mem_nil))).trans hn20
  replace hn21 := (hg401 _ (q_nc (q_pd 22 96 rfl) (q_nc (q_pd 22 97 rfl) List.not_mem_nil))).trans hn21
  replace hn22 := (hg401 _ (q_nc (q_pd 23 96 rfl) (q_nc (q_pd 23 97 rfl) List.not_mem_nil))).trans hn22
  replace hn23 := (hg401 _ (q_nc (q_pd 24 96 rfl) (q_nc (q_pd 24 97 rfl) List.not_mem_nil))).trans hn23
  replace hn24 := (hg401 _ (q_nc (q_pd 25 96 rfl) (q_nc (q_pd 25 97 rfl) List.not_mem_nil))).trans hn24
  replace hn25 := (hg401 _ (q_nc (q_pd 26 96 rfl) (q_nc (q_pd 26 97 rfl) List.not_mem_nil))).trans hn25
  replace hn26 := (hg401 _ (q_nc (q_pd 27 96 rfl) (q_nc (q_pd 27 97 rfl) List.not_mem_nil))).trans hn26
  replace hn27 := (hg401 _ (q_nc (q_pd 28 96 rfl) (q_nc (q_pd 28 97 rfl) List.not_mem_nil))).trans hn27
  replace hn28 := (hg401 _ (q_nc (q_pd 29 96 rfl) (q_nc (q_pd 29 97 rfl) List.not_mem_nil))).trans hn28
  replace hn29 := (hg401 _ (q_nc (q_pd 30 96 rfl) (q_nc (q_pd 30 97 rfl) List.not_mem_nil))).trans hn29
  replace hn30 := (hg401 _ (q_nc (q_pd 31 96 rfl) (q_nc (q_pd 31 97 rfl) List.not_mem_nil))).trans hn30
  replace hn31 := (hg401 _ (q_nc (q_pd 32 96 rfl) (q_nc (q_pd 32 97 rfl) List.not_mem_nil))).trans hn31
  replace hn32 := (hg401 _ (q_nc (q_pd 33 96 rfl) (q_nc (q_pd 33 97 rfl) List.not_mem_nil))).trans hn32
  replace hn33 := (hg401 _ (q_nc (q_pd 34 96 rfl) (q_nc (q_pd 34 97 rfl) List.not_mem_nil))).trans hn33
  replace hn34 := (hg401 _ (q_nc (q_pd 35 96 rfl) (q_nc (q_pd 35 97 rfl) List.not_mem_nil))).trans hn34
  replace hn35 := (hg401 _ (q_nc (q_pd 36 96 rfl) (q_nc (q_pd 36 97 rfl) List.not_mem_nil))).trans hn35
  replace hn36 := (hg401 _ (q_nc (q_pd 37 96 rfl) (q_nc (q_pd 37 97 rfl) List.not_mem_nil))).trans hn36
  replace hn37 := (hg401 _ (q_nc (q_pd 38 96 rfl) (q_nc (q_pd 38 97 rfl) List.not_mem_nil))).trans hn37
  replace hn38 := (hg401 _ (q_nc (q_pd 39 96 rfl) (q_nc (q_pd 39 97 rfl) List.not_mem_nil))).trans hn38
  replace hn39 := (hg401 _ (q_nc (q_pd 40 96 rfl) (q_nc (q_pd 40 97 rfl) List.not_mem_nil))).trans hn39
  replace hn40 := (hg401 _ (q_nc (q_pd 41 96 rfl) (q_nc (q_pd 41 97 rfl) List.not_mem_nil))).trans hn40
  replace hn41 := (hg401 _ (q_nc (q_pd 42 96 rfl) (q_nc (q_pd 42 97 rfl) List.not_mem_nil))).trans hn41
  replace hn42 := (hg401 _ (q_nc (q_pd 43 96 rfl) (q_nc (q_pd 43 97 rfl) List.not_mem_nil))).trans hn42
  replace hn43 := (hg401 _ (q_nc (q_pd 44 96 rfl) (q_nc (q_pd 44 97 rfl) List.not_mem_nil))).trans hn43
  replace hn44 := (hg401 _ (q_nc (q_pd 45 96 rfl) (q_nc (q_pd 45 97 rfl) List.not_mem_nil))).trans hn44
  replace hn45 := (hg401 _ (q_nc (q_pd 46 96 rfl) (q_nc (q_pd 46 97 rfl) List.not_mem_nil))).trans hn45
  replace hn46 := (hg401 _ (q_nc (q_pd 47 96 rfl) (q_nc (q_pd 47 97 rfl) List.not_mem_nil))).trans hn46
  replace hn47 := (hg401 _ (q_nc (q_pd 48 96 rfl) (q_nc (q_pd 48 97 rfl) List.not_mem_nil))).trans hn47
  replace hn48 := (hg401 _ (q_nc (q_pd 49 96 rfl) (q_nc (q_pd 49 97 rfl) List.not_mem_nil))).trans hn48
  replace hn49 := (hg401 _ (q_nc (q_pd 50 96 rfl) (q_nc (q_pd 50 97 rfl) List.not_mem_nil))).trans hn49
  replace hn50 := (hg401 _ (q_nc (q_pd 51 96 rfl) (q_nc (q_pd 51 97 rfl) List.not_mem_nil))).trans hn50
  replace hn51 := (hg401 _ (q_nc (q_pd 52 96 rfl) (q_nc (q_pd 52 97 rfl) List.not_mem_nil))).trans hn51
  replace hn52 := (hg401 _ (q_nc (q_pd 53 96 rfl) (q_nc (q_pd 53 97 rfl) List.not_mem_nil))).trans hn52
  replace hn53 := (hg401 _ (q_nc (q_pd 54 96 rfl) (q_nc (q_pd 54 97 rfl) List.not_mem_nil))).trans hn53
  replace hn54 := (hg401 _ (q_nc (q_pd 55 96 rfl) (q_nc (q_pd 55 97 rfl) List.not_mem_nil))).trans hn54
  replace hn55 := (hg401 _ (q_nc (q_pd 56 96 rfl) (q_nc (q_pd 56 97 rfl) List.not_mem_nil))).trans hn55
  replace hn56 := (hg401 _ (q_nc (q_pd 57 96 rfl) (q_nc (q_pd 57 97 rfl) List.not_mem_nil))).trans hn56
  replace hn57 := (hg401 _ (q_nc (q_pd 58 96 rfl) (q_nc (q_pd 58 97 rfl) List.not_mem_nil))).trans hn57
  replace hn58 := (hg401 _ (q_nc (q_pd 59 96 rfl) (q_nc (q_pd 59 97 rfl) List.not_mem_nil))).trans hn58
  replace hn59 := (hg401 _ (q_nc (q_pd 60 96 rfl) (q_nc (q_pd 60 97 rfl) List.not_mem_nil))).trans hn59
  replace hn60 := (hg401 _ (q_nc (q_pd 61 96 rfl) (q_nc (q_pd 61 97 rfl) List.not_mem_nil))).trans hn60
  replace hn61 := (hg401 _ (q_nc (q_pd 62 96 rfl) (q_nc (q_pd 62 97 rfl) List.not_mem_nil))).trans hn61
  replace hn62 := (hg401 _ (q_nc (q_pd 63 96 rfl) (q_nc (q_pd 63 97 rfl) List.not_mem_nil))).trans hn62
  replace hn63 := (hg401 _ (q_nc (q_pd 64 96 rfl) (q_nc (q_pd 64 97 rfl) List.not_mem_nil))).trans hn63
  replace hn64 := (hg401 _ (q_nc (q_pd 65 96 rfl) (q_nc (q_pd 65 97 rfl) List.not_mem_nil))).trans hn64
  replace hn65 := (hg401 _ (q_nc (q_pd 66 96 rfl) (q_nc (q_pd 66 97 rfl) List.not_mem_nil))).trans hn65
  replace hn66 := (hg401 _ (q_nc (q_pd 67 96 rfl) (q_nc (q_pd 67 97 rfl) List.not_mem_nil))).trans hn66
  replace hn67 := (hg401 _ (q_nc (q_pd 68 96 rfl) (q_nc (q_pd 68 97 rfl) List.not_mem_nil))).trans hn67
  replace hn68 := (hg401 _ (q_nc (q_pd 69 96 rfl) (q_nc (q_pd 69 97 rfl) List.not_mem_nil))).trans hn68
  replace hn69 := (hg401 _ (q_nc (q_pd 70 96 rfl) (q_nc (q_pd 70 97 rfl) List.not_mem_nil))).trans hn69
  replace hn70 := (hg401 _ (q_nc (q_pd 71 96 rfl) (q_nc (q_pd 71 97 rfl) List.not_mem_nil))).trans hn70
  replace hn71 := (hg401 _ (q_nc (q_pd 72 96 rfl) (q_nc (q_pd 72 97 rfl) List.not_mem_nil))).trans hn71
  replace hn72 := (hg401 _ (q_nc (q_pd 73 96 rfl) (q_nc (q_pd 73 97 rfl) List.not_mem_nil))).trans hn72
  replace hn73 := (hg401 _ (q_nc (q_pd 74 96 rfl) (q_nc (q_pd 74 97 rfl) List.not_mem_nil))).trans hn73
  replace hn74 := (hg401 _ (q_nc (q_pd 75 96 rfl) (q_nc (q_pd 75 97 rfl) List.not_mem_nil))).trans hn74
  replace hn75 := (hg401 _ (q_nc (q_pd 76 96 rfl) (q_nc (q_pd 76 97 rfl) List.not_mem_nil))).trans hn75
  replace hn76 := (hg401 _ (q_nc (q_pd 77 96 rfl) (q_nc (q_pd 77 97 rfl) List.not_mem_nil))).trans hn76
  replace hn77 := (hg401 _ (q_nc (q_pd 78 96 rfl) (q_nc (q_pd 78 97 rfl) List.not_mem_nil))).trans hn77
  replace hn78 := (hg401 _ (q_nc (q_pd 79 96 rfl) (q_nc (q_pd 79 97 rfl) List.not_mem_nil))).trans hn78
  replace hn79 := (hg401 _ (q_nc (q_pd 80 96 rfl) (q_nc (q_pd 80 97 rfl) List.not_mem_nil))).trans hn79
  replace hn80 := (hg401 _ (q_nc (q_pd 81 96 rfl) (q_nc (q_pd 81 97 rfl) List.not_mem_nil))).trans hn80
  replace hn81 := (hg401 _ (q_nc (q_pd 82 96 rfl) (q_nc (q_pd 82 97 rfl) List.not_mem_nil))).trans hn81
  replace hn82 := (hg401 _ (q_nc (q_pd 83 96 rfl) (q_nc (q_pd 83 97 rfl) List.not_mem_nil))).trans hn82
  replace hn83 := (hg401 _ (q_nc (q_pd 84 96 rfl) (q_nc (q_pd 84 97 rfl) List.not_mem_nil))).trans hn83
  replace hn84 := (hg401 _ (q_nc (q_pd 85 96 rfl) (q_nc (q_pd 85 97 rfl) List.not_mem_nil))).trans hn84
  replace hn85 := (hg401 _ (q_nc (q_pd 86 96 rfl) (q_nc (q_pd 86 97 rfl) List.not_mem_nil))).trans hn85
  replace hn86 := (hg401 _ (q_nc (q_pd 87 96 rfl) (q_nc (q_pd 87 97 rfl) List.not_mem_nil))).trans hn86
  replace hn87 := (hg401 _ (q_nc (q_pd 88 96 rfl) (q_nc (q_pd 88 97 rfl) List.not_mem_nil))).trans hn87
  replace hn88 := (hg401 _ (q_nc (q_pd 89 96 rfl) (q_nc (q_pd 89 97 rfl) List.not_mem_nil))).trans hn88
  replace hn89 := (hg401 _ (q_nc (q_pd 90 96 rfl) (q_nc (q_pd 90 97 rfl) List.not_mem_nil))).trans hn89
  replace hn90 := (hg401 _ (q_nc (q_pd 91 96 rfl) (q_nc (q_pd 91 97 rfl) List.not_mem_nil))).trans hn90
  replace hn91 := (hg401 _ (q_nc (q_pd 92 96 rfl) (q_nc (q_pd 92 97 rfl) List.not_mem_nil))).trans hn91
  replace hn92 := (hg401 _ (q_nc (q_pd 93 96 rfl) (q_nc (q_pd 93 97 rfl) List.not_mem_nil))).trans hn92
  replace hn93 := (hg401 _ (q_nc (q_pd 94 96 rfl) (q_nc (q_pd 94 97 rfl) List.not_mem_nil))).trans hn93
  replace hn94 := (hg401 _ (q_nc (q_pd 95 96 rfl) (q_nc (q_pd 95 97 rfl) List.not_mem_nil))).trans hn94
  replace hF := q_uc hF hg401 (q_sc (.tail _ (.tail _ (.tail _ (.tail _ (.tail _ (.tail _ (.tail _ (.tail _ (.tail _ (.tail _ (.tail _ (.tail _ (.tail _ (.tail _ (.tail _ (.tail _ (.tail _ (.tail _ (.tail _ (.tail _ (.tail _ (.tail _ (.tail _ (.tail _ (.tail _ (.tail _ (.tail _ (.tail _ (.tail _ (.tail _ (.tail _ (.tail _ (.tail _ (.tail _ (.tail _ (.tail _ (.tail _ (.tail _ (.tail _ (.tail _ (.tail _ (.tail _ (.tail _ (.tail _ (.tail _ (.tail _ (.tail _ (.tail _ (.tail _ (.tail _ (.tail _ (.tail _ (.tail _ (.tail _ (.tail _ (.tail _ (.tail _ (.tail _ (.tail _ (.tail _ (.tail _ (.tail _ (.tail _ (.tail _ (.tail _ (.tail _ (.tail _ (.tail _ (.tail _ (.tail _ (.tail _ (.tail _ (.tail _ (.tail _ (.tail _ (.tail _ (.tail _ (.tail _ (.tail _ (.tail _ (.tail _ (.tail _ (.tail _ (.tail _ (.tail _ (.tail _ (.tail _ (.tail _ (.tail _ (.tail _ (.tail _ (.tail _ (.tail _ (.tail _ (.tail _ (.tail _ (.head _))))))))))))))))))))))))))))))))))))))))))))))))))))))))))))))))))))))))))))))))))))))))))))))))) (q_sc (.tail _ (.tail _ (.tail _ (.tail _ (.tail _ (.tail _ (.tail _ (.tail _ (.tail _ (.tail _ (.tail _ (.tail _ (.tail _ (.tail _ (.tail _ (.tail _ (.tail _ (.tail _ (.tail _ (.tail _ (.tail _ (.tail _ (.tail _ (.tail _ (.tail _ (.tail _ (.tail _ (.tail _ (.tail _ (.tail _ (.tail _ (.tail _ (.tail _ (.tail _ (.tail _ (.tail _ (.tail _ (.tail _ (.tail _ (.tail _ (.tail _ (.tail _ (.tail _ (.tail _ (.tail _ (.tail _ (.tail _ (.tail _ (.tail _ (.tail _ (.tail _ (.tail _ (.tail _ (.tail _ (.tail _ (.tail _ (.tail _ (.tail _ (.tail _ (.tail _ (.tail _ (.tail _ (.tail _ (.tail _ (.tail _ (.tail _ (.tail _ (.tail _ (.tail _ (.tail _ (.tail _ (.tail _ (.tail _ (.tail _ (.tail _ (.tail _ (.tail _ (.tail _ (.tail _ (.tail _ (.tail _ (.tail _ (.tail _ (.tail _ (.tail _ (.tail _ (.tail _ (.tail _ (.tail _ (.tail _ (.tail _ (.tail _ (.tail _ (.tail _ (.tail _ (.tail _ (.tail _ (.head _)))))))))))))))))))))))))))))))))))))))))))))))))))))))))))))))))))))))))))))))))))))))))))))))))) (fun _ h => absurd h List.not_mem_nil)))
  have hn96 : u399[97]? = some (q400, .inl (g 0, 68, .inl (fun _ => 0))) := hq402
  replace hN : u399.length = 98 := hN
  have ho403 := hn4
  refine q_aast (t := 4) (ci := 2) (i9 := 6) C0 V hn4 rfl hn95 rfl (by decide) (by decide) d_1_1_232 (fun H locs w404 hu405 hn4 V => ?_)
  replace hn4 : w404[5]? = some (q25, .inl (g 4, 10, .inr (.inr (.inr (.inr (va_up (va_up (va_up (va_up (va_up (va_up (va_up (fun _ => none) 0 (some q232)) 1 (some q259)) 2 (some q286)) 3 (some q313)) 4 (some q340)) 5 (some q367)) 6 (some q394))))))) := hn4
  replace hN : w404.length = 98 := (q_len1 hu405 hn4 ho403).trans hN
  replace hO0 := (hu405 _ (q_pd 0 5 rfl)).trans hO0
  replace hn0 := (hu405 _ (q_pd 1 5 rfl)).trans hn0
  replace hn1 := (hu405 _ (q_pd 2 5 rfl)).trans hn1
  replace hn2 := (hu405 _ (q_pd 3 5 rfl)).trans hn2
  replace hn3 := (hu405 _ (q_pd 4 5 rfl)).trans hn3
  replace hn5 := (hu405 _ (q_pd 6 5 rfl)).trans hn5
  replace hn6 := (hu405 _ (q_pd 7 5 rfl)).trans hn6
  replace hn7 := (hu405 _ (q_pd 8 5 rfl)).trans hn7
  replace hn8 := (hu405 _ (q_pd 9 5 rfl)).trans hn8
  replace hn9 := (hu405 _ (q_pd 10 5 rfl)).trans hn9
  replace hn10 := (hu405 _ (q_pd 11 5 rfl)).trans hn10
  replace hn11 := (hu405 _ (q_pd 12 5 rfl)).trans hn11
  replace hn12 := (hu405 _ (q_pd 13 5 rfl)).trans hn12
  replace hn13 := (hu405 _ (q_pd 14 5 rfl)).trans hn13
  replace hn14 := (hu405 _ (q_pd 15 5 rfl)).trans hn14
  replace hn15 := (hu405 _ (q_pd 16 5 rfl)).trans hn15
  replace hn16 := (hu405 _ (q_pd 17 5 rfl)).trans hn16
  replace hn17 := (hu405 _ (q_pd 18 5 rfl)).trans hn17
  replace hn18 := (hu405 _ (q_pd 19 5 rfl)).trans hn18
  replace hn19 := (hu405 _ (q_pd 20 5 rfl)).trans hn19
  replace hn20 := (hu405 _ (q_pd 21 5 rfl)).trans hn20
  replace hn21 := (hu405 _ (q_pd 22 5 rfl)).trans hn21
  replace hn22 := (hu405 _ (q_pd 23 5 rfl)).trans hn22
  replace hn23 := (hu405 _ (q_pd 24 5 rfl)).trans hn23
  replace hn24 := (hu405 _ (q_pd 25 5 rfl)).trans hn24
  replace hn25 := (hu405 _ (q_pd 26 5 rfl)).trans hn25
  replace hn26 := (hu405 _ (q_pd 27 5 rfl)).trans hn26
  replace hn27 := (hu405 _ (q_pd 28 5 rfl)).trans hn27
  replace hn28 := (hu405 _ (q_pd 29 5 rfl)).trans hn28
  replace hn29 := (hu405 _ (q_pd 30 5 rfl)).trans hn29
  replace hn30 := (hu405 _ (q_pd 31 5 rfl)).trans hn30
  replace hn31 := (hu405 _ (q_pd 32 5 rfl)).trans hn31
  replace hn32 := (hu405 _ (q_pd 33 5 rfl)).trans hn32
  replace hn33 := (hu405 _ (q_pd 34 5 rfl)).trans hn33
  replace hn34 := (hu405 _ (q_pd 35 5 rfl)).trans hn34
  replace hn35 := (hu405 _ (q_pd 36 5 rfl)).trans hn35
  replace hn36 := (hu405 _ (q_pd 37 5 rfl)).trans hn36
  replace hn37 := (hu405 _ (q_pd 38 5 rfl)).trans hn37
  replace hn38 := (hu405 _ (q_pd 39 5 rfl)).trans hn38
  replace hn39 := (hu405 _ (q_pd 40 5 rfl)).trans hn39
  replace hn40 := (hu405 _ (q_pd 41 5 rfl)).trans hn40
  replace hn41 := (hu405 _ (q_pd 42 5 rfl)).trans hn41
  replace hn42 := (hu405 _ (q_pd 43 5 rfl)).trans hn42
  replace hn43 := (hu405 _ (q_pd 44 5 rfl)).trans hn43
  replace hn44 := (hu405 _ (q_pd 45 5 rfl)).trans hn44
  replace hn45 := (hu405 _ (q_pd 46 5 rfl)).trans hn45
  replace hn46 := (hu405 _ (q_pd 47 5 rfl)).trans hn46
  replace hn47 := (hu405 _ (q_pd 48 5 rfl)).trans hn47
  replace hn48 := (hu405 _ (q_pd 49 5 rfl)).trans hn48
  replace hn49 := (hu405 _ (q_pd 50 5 rfl)).trans hn49
  replace hn50 := (hu405 _ (q_pd 51 5 rfl)).trans hn50
  replace hn51 := (hu405 _ (q_pd 52 5 rfl)).trans hn51
  replace hn52 := (hu405 _ (q_pd 53 5 rfl)).trans hn52
  replace hn53 := (hu405 _ (q_pd 54 5 rfl)).trans hn53
  replace hn54 := (hu405 _ (q_pd 55 5 rfl)).trans hn54
  replace hn55 := (hu405 _ (q_pd 56 5 rfl)).trans hn55
  replace hn56 := (hu405 _ (q_pd 57 5 rfl)).trans hn56
  replace hn57 := (hu405 _ (q_pd 58 5 rfl)).trans hn57
  replace hn58 := (hu405 _ (q_pd 59 5 rfl)).trans hn58
  replace hn59 := (hu405 _ (q_pd 60 5 rfl)).trans hn59
  replace hn60 := (hu405 _ (q_pd 61 5 rfl)).trans hn60
  replace hn61 := (hu405 _ (q_pd 62 5 rfl)).trans hn61
  replace hn62 := (hu405 _ (q_pd 63 5 rfl)).trans hn62
  replace hn63 := (hu405 _ (q_pd 64 5 rfl)).trans hn63
  replace hn64 := (hu405 _ (q_pd 65 5 rfl)).trans hn64
  replace hn65 := (hu405 _ (q_pd 66 5 rfl)).trans hn65
  replace hn66 := (hu405 _ (q_pd 67 5 rfl)).trans hn66
  replace hn67 := (hu405 _ (q_pd 68 5 rfl)).trans hn67
  replace hn68 := (hu405 _ (q_pd 69 5 rfl)).trans hn68
  replace hn69 := (hu405 _ (q_pd 70 5 rfl)).trans hn69
  replace hn70 := (hu405 _ (q_pd 71 5 rfl)).trans hn70
  replace hn71 := (hu405 _ (q_pd 72 5 rfl)).trans hn71
  replace hn72 := (hu405 _ (q_pd 73 5 rfl)).trans hn72
  replace hn73 := (hu405 _ (q_pd 74 5 rfl)).trans hn73
  replace hn74 := (hu405 _ (q_pd 75 5 rfl)).trans hn74
  replace hn75 := (hu405 _ (q_pd 76 5 rfl)).trans hn75
  replace hn76 := (hu405 _ (q_pd 77 5 rfl)).trans hn76
  replace hn77 := (hu405 _ (q_pd 78 5 rfl)).trans hn77
  replace hn78 := (hu405 _ (q_pd 79 5 rfl)).trans hn78
  replace hn79 := (hu405 _ (q_pd 80 5 rfl)).trans hn79
  replace hn80 := (hu405 _ (q_pd 81 5 rfl)).trans hn80
  replace hn81 := (hu405 _ (q_pd 82 5 rfl)).trans hn81
  replace hn82 := (hu405 _ (q_pd 83 5 rfl)).trans hn82
  replace hn83 := (hu405 _ (q_pd 84 5 rfl)).trans hn83
  replace hn84 := (hu405 _ (q_pd 85 5 rfl)).trans hn84
  replace hn85 := (hu405 _ (q_pd 86 5 rfl)).trans hn85
  replace hn86 := (hu405 _ (q_pd 87 5 rfl)).trans hn86
  replace hn87 := (hu405 _ (q_pd 88 5 rfl)).trans hn87
  replace hn88 := (hu405 _ (q_pd 89 5 rfl)).trans hn88
  replace hn89 := (hu405 _ (q_pd 90 5 rfl)).trans hn89
  replace hn90 := (hu405 _ (q_pd 91 5 rfl)).trans hn90
  replace hn91 := (hu405 _ (q_pd 92 5 rfl)).trans hn91
  replace hn92 := (hu405 _ (q_pd 93 5 rfl)).trans hn92
  replace hn93 := (hu405 _ (q_pd 94 5 rfl)).trans hn93
  replace hn94 := (hu405 _ (q_pd 95 5 rfl)).trans hn94
  replace hn95 := (hu405 _ (q_pd 96 5 rfl)).trans hn95
  replace hn96 := (hu405 _ (q_pd 97 5 rfl)).trans hn96
  replace hF := q_us hF hu405 (.tail _ (.tail _ (.tail _ (.tail _ (.tail _ (.head _))))))
  refine lv_aload_n hx hb d_1_1_233 rfl (lv_at hl 1 rfl) ?_
  refine q_get (ci := 0) (j := 3) (v := .ref q32) C0 V i_NH rfl rfl hO0 (by decide) w_427 rfl d_1_1_234 ?_
  refine lv_iload_n hx hb d_1_1_237 rfl (lv_at hl 0 rfl) ?_
  refine q_new (ci := 3) (fs := [.null, .int 0, .int 0]) C0 V hN i_Dec o_Dec rfl w_70 w_163 w_6 rfl (fun j hj => by rcases (show j = 0 ∨ j = 1 ∨ j = 2 by omega) with rfl | rfl | rfl <;> rfl) (Nat.le_of_ble_eq_true rfl) (Nat.le_of_ble_eq_true rfl) d_1_1_238 (fun q406 H w407 hu408 hn409 hN V => ?_)
  have hn97 : w407[98]? = some (q406, .inr (3, [.null, .int 0, .int 0])) := hn409
  replace hO0 := (hu408 _ (q_pd 0 98 rfl)).trans hO0
  replace hn0 := (hu408 _ (q_pd 1 98 rfl)).trans hn0
  replace hn1 := (hu408 _ (q_pd 2 98 rfl)).trans hn1
  replace hn2 := (hu408 _ (q_pd 3 98 rfl)).trans hn2
  replace hn3 := (hu408 _ (q_pd 4 98 rfl)).trans hn3
  replace hn4 := (hu408 _ (q_pd 5 98 rfl)).trans hn4
  replace hn5 := (hu408 _ (q_pd 6 98 rfl)).trans hn5
  replace hn6 := (hu408 _ (q_pd 7 98 rfl)).trans hn6
  replace hn7 := (hu408 _ (q_pd 8 98 rfl)).trans hn7
  replace hn8 := (hu408 _ (q_pd 9 98 rfl)).trans hn8
  replace hn9 := (hu408 _ (q_pd 10 98 rfl)).trans hn9
  replace hn10 := (hu408 _ (q_pd 11 98 rfl)).trans hn10
  replace hn11 := (hu408 _ (q_pd 12 98 rfl)).trans hn11
  replace hn12 := (hu408 _ (q_pd 13 98 rfl)).trans hn12
  replace hn13 := (hu408 _ (q_pd 14 98 rfl)).trans hn13
  replace hn14 := (hu408 _ (q_pd 15 98 rfl)).trans hn14
  replace hn15 := (hu408 _ (q_pd 16 98 rfl)).trans hn15
  replace hn16 := (hu408 _ (q_pd 17 98 rfl)).trans hn16
  replace hn17 := (hu408 _ (q_pd 18 98 rfl)).trans hn17
  replace hn18 := (hu408 _ (q_pd 19 98 rfl)).trans hn18
  replace hn19 := (hu408 _ (q_pd 20 98 rfl)).trans hn19
  replace hn20 := (hu408 _ (q_pd 21 98 rfl)).trans hn20
  replace hn21 := (hu408 _ (q_pd 22 98 rfl)).trans hn21
  replace hn22 := (hu408 _ (q_pd 23 98 rfl)).trans hn22
  replace hn23 := (hu408 _ (q_pd 24 98 rfl)).trans hn23
  replace hn24 := (hu408 _ (q_pd 25 98 rfl)).trans hn24
  replace hn25 := (hu408 _ (q_pd 26 98 rfl)).trans hn25
  replace hn26 := (hu408 _ (q_pd 27 98 rfl)).trans hn26
  replace hn27 := (hu408 _ (q_pd 28 98 rfl)).trans hn27
  replace hn28 := (hu408 _ (q_pd 29 98 rfl)).trans hn28
  replace hn29 := (hu408 _ (q_pd 30 98 rfl)).trans hn29
  replace hn30 := (hu408 _ (q_pd 31 98 rfl)).trans hn30
  replace hn31 := (hu408 _ (q_pd 32 98 rfl)).trans hn31
  replace hn32 := (hu408 _ (q_pd 33 98 rfl)).trans hn32
  replace hn33 := (hu408 _ (q_pd 34 98 rfl)).trans hn33
  replace hn34 := (hu408 _ (q_pd 35 98 rfl)).trans hn34
  replace hn35 := (hu408 _ (q_pd 36 98 rfl)).trans hn35
  replace hn36 := (hu408 _ (q_pd 37 98 rfl)).trans hn36
  replace hn37 := (hu408 _ (q_pd 38 98 rfl)).trans hn37
  replace hn38 := (hu408 _ (q_pd 39 98 rfl)).trans hn38
  replace hn39 := (hu408 _ (q_pd 40 98 rfl)).trans hn39
  replace hn40 := (hu408 _ (q_pd 41 98 rfl)).trans hn40
  replace hn41 := (hu408 _ (q_pd 42 98 rfl)).trans hn41
  replace hn42 := (hu408 _ (q_pd 43 98 rfl)).trans hn42
  replace hn43 := (hu408 _ (q_pd 44 98 rfl)).trans hn43
  replace hn44 := (hu408 _ (q_pd 45 98 rfl)).trans hn44
  replace hn45 := (hu408 _ (q_pd 46 98 rfl)).trans hn45
  replace hn46 := (hu408 _ (q_pd 47 98 rfl)).trans hn46
  replace hn47 := (hu408 _ (q_pd 48 98 rfl)).trans hn47
  replace hn48 := (hu408 _ (q_pd 49 98 rfl)).trans hn48
  replace hn49 := (hu408 _ (q_pd 50 98 rfl)).trans hn49
  replace hn50 := (hu408 _ (q_pd 51 98 rfl)).trans hn50
  replace hn51 := (hu408 _ (q_pd 52 98 rfl)).trans hn51
  replace hn52 := (hu408 _ (q_pd 53 98 rfl)).trans hn52
  replace hn53 := (hu408 _ (q_pd 54 98 rfl)).trans hn53
  replace hn54 := (hu408 _ (q_pd 55 98 rfl)).trans hn54
  replace hn55 := (hu408 _ (q_pd 56 98 rfl)).trans hn55
  replace hn56 := (hu408 _ (q_pd 57 98 rfl)).trans hn56
  replace hn57 := (hu408 _ (q_pd 58 98 rfl)).trans hn57
  replace hn58 := (hu408 _ (q_pd 59 98 rfl)).trans hn58
  replace hn59 := (hu408 _ (q_pd 60 98 rfl)).trans hn59
  replace hn60 := (hu408 _ (q_pd 61 98 rfl)).trans hn60
  replace hn61 := (hu408 _ (q_pd 62 98 rfl)).trans hn61
  replace hn62 := (hu408 _ (q_pd 63 98 rfl)).trans hn62
  replace hn63 := (hu408 _ (q_pd 64 98 rfl)).trans hn63
  replace hn64 := (hu408 _ (q_pd 65 98 rfl)).trans hn64
  replace hn65 := (hu408 _ (q_pd 66 98 rfl)).trans hn65
  replace hn66 := (hu408 _ (q_pd 67 98 rfl)).trans hn66
  replace hn67 := (hu408 _ (q_pd 68 98 rfl)).trans hn67
  replace hn68 := (hu408 _ (q_pd 69 98 rfl)).trans hn68
  replace hn69 := (hu408 _ (q_pd 70 98 rfl)).trans hn69
  replace hn70 := (hu408 _ (q_pd 71 98 rfl)).trans hn70
  replace hn71 := (hu408 _ (q_pd 72 98 rfl)).trans hn71
  replace hn72 := (hu408 _ (q_pd 73 98 rfl)).trans hn72
  replace hn73 := (hu408 _ (q_pd 74 98 rfl)).trans hn73
  replace hn74 := (hu408 _ (q_pd 75 98 rfl)).trans hn74
  replace hn75 := (hu408 _ (q_pd 76 98 rfl)).trans hn75
  replace hn76 := (hu408 _ (q_pd 77 98 rfl)).trans hn76
  replace hn77 := (hu408 _ (q_pd 78 98 rfl)).trans hn77
  replace hn78 := (hu408 _ (q_pd 79 98 rfl)).trans hn78
  replace hn79 := (hu408 _ (q_pd 80 98 rfl)).trans hn79
  replace hn80 := (hu408 _ (q_pd 81 98 rfl)).trans hn80
  replace hn81 := (hu408 _ (q_pd 82 98 rfl)).trans hn81
  replace hn82 := (hu408 _ (q_pd 83 98 rfl)).trans hn82
  replace hn83 := (hu408 _ (q_pd 84 98 rfl)).trans hn83
  replace hn84 := (hu408 _ (q_pd 85 98 rfl)).trans hn84
  replace hn85 := (hu408 _ (q_pd 86 98 rfl)).trans hn85
  replace hn86 := (hu408 _ (q_pd 87 98 rfl)).trans hn86
  replace hn87 := (hu408 _ (q_pd 88 98 rfl)).trans hn87
  replace hn88 := (hu408 _ (q_pd 89 98 rfl)).trans hn88
  replace hn89 := (hu408 _ (q_pd 90 98 rfl)).trans hn89
  replace hn90 := (hu408 _ (q_pd 91 98 rfl)).trans hn90
  replace hn91 := (hu408 _ (q_pd 92 98 rfl)).trans hn91
  replace hn92 := (hu408 _ (q_pd 93 98 rfl)).trans hn92
  replace hn93 := (hu408 _ (q_pd 94 98 rfl)).trans hn93
  replace hn94 := (hu408 _ (q_pd 95 98 rfl)).trans hn94
  replace hn95 := (hu408 _ (q_pd 96 98 rfl)).trans hn95
  replace hn96 := (hu408 _ (q_pd 97 98 rfl)).trans hn96
  replace hF := q_us hF hu408 (.tail _ (.tail _ (.tail _ (.tail _ (.tail _ (.tail _ (.tail _ (.tail _ (.tail _ (.tail _ (.tail _ (.tail _ (.tail _ (.tail _ (.tail _ (.tail _ (.tail _ (.tail _ (.tail _ (.tail _ (.tail _ (.tail _ (.tail _ (.tail _ (.tail _ (.tail _ (.tail _ (.tail _ (.tail _ (.tail _ (.tail _ (.tail _ (.tail _ (.tail _ (.tail _ (.tail _ (.tail _ (.tail _ (.tail _ (.tail _ (.tail _ (.tail _ (.tail _ (.tail _ (.tail _ (.tail _ (.tail _ (.tail _ (.tail _ (.tail _ (.tail _ (.tail _ (.tail _ (.tail _ (.tail _ (.tail _ (.tail _ (.tail _ (.tail _ (.tail _ (.tail _ (.tail _ (.tail _ (.tail _ (.tail _ (.tail _ (.tail _ (.tail _ (.tail _ (.tail _ (.tail _ (.tail _ (.tail _ (.tail _ (.tail _ (.tail _ (.tail _ (.tail _ (.tail _ (.tail _ (.tail _ (.tail _ (.tail _ (.tail _ (.tail _ (.tail _ (.tail _ (.tail _ (.tail _ (.tail _ (.tail _ (.tail _ (.tail _ (.tail _ (.tail _ (.tail _ (.tail _ (.tail _ (.head _)))))))))))))))))))))))))))))))))))))))))))))))))))))))))))))))))))))))))))))))))))))))))))))))))))
  replace hN : w407.length = 99 := hN
  refine lv_dup hx hb d_1_1_241 rfl ?_
  refine lv_bipush (v := 108) hx hb d_1_1_242 (by decide) ?_
  refine q_gov V (q_runI (As := [.int 108]) (rest := [.ref q406, .int 6, .ref q32]) (d := 3) (mc := 2) (ms := 111) C0 V rfl LI_NH_103 (c_Dec_init l D g w407 98 q406 99 hN hn97 _) rfl hl.1 rfl (Nat.le_of_ble_eq_true rfl) ⟨by decide, by decide⟩ ⟨Nat.le_of_ble_eq_true rfl, Nat.le_of_ble_eq_true rfl⟩ d_1_1_244) (fun u411 H locs hp410 V => ?_)
  obtain ⟨q412, q413, hg414, hn97, hq415, hq416, hN⟩ := hp410
  replace hO0 := (hg414 _ (q_nc (q_pd 0 98 rfl) (q_nc (q_pd 0 99 rfl) (q_nc (q_pd 0 100 rfl) List.not_mem_nil)))).trans hO0
  replace hn0 := (hg414 _ (q_nc (q_pd 1 98 rfl) (q_nc (q_pd 1 99 rfl) (q_nc (q_pd 1 100 rfl) List.not_mem_nil)))).trans hn0
  replace hn1 := (hg414 _ (q_nc (q_pd 2 98 rfl) (q_nc (q_pd 2 99 rfl) (q_nc (q_pd 2 100 rfl) List.not_mem_nil)))).trans hn1
  replace hn2 := (hg414 _ (q_nc (q_pd 3 98 rfl) (q_nc (q_pd 3 99 rfl) (q_nc (q_pd 3 100 rfl) List.not_mem_nil)))).trans hn2
  replace hn3 := (hg414 _ (q_nc (q_pd 4 98 rfl) (q_nc (q_pd 4 99 rfl) (q_nc (q_pd 4 100 rfl) List.not_mem_nil)))).trans hn3
  replace hn4 := (hg414 _ (q_nc (q_pd 5 98 rfl) (q_nc (q_pd 5 99 rfl) (q_nc (q_pd 5 100 rfl) List.not_mem_nil)))).trans hn4
  replace hn5 := (hg414 _ (q_nc (q_pd 6 98 rfl) (q_nc (q_pd 6 99 rfl) (q_nc (q_pd 6 100 rfl) List.not_mem_nil)))).trans hn5
  replace hn6 := (hg414 _ (q_nc (q_pd 7 98 rfl) (q_nc (q_pd 7 99 rfl) (q_nc (q_pd 7 100 rfl) List.not_mem_nil)))).trans hn6
  replace hn7 := (hg414 _ (q_nc (q_pd 8 98 rfl) (q_nc (q_pd 8 99 rfl) (q_nc (q_pd 8 100 rfl) List.not_mem_nil)))).trans hn7
  replace hn8 := (hg414 _ (q_nc (q_pd 9 98 rfl) (q_nc (q_pd 9 99 rfl) (q_nc (q_pd 9 100 rfl) List.not_mem_nil)))).trans hn8
  replace hn9 := (hg414 _ (q_nc (q_pd 10 98 rfl) (q_nc (q_pd 10 99 rfl) (q_nc (q_pd 10 100 rfl) List.not_mem_nil)))).trans hn9
  replace hn10 := (hg414 _ (q_nc (q_pd 11 98 rfl) (q_nc (q_pd 11 99 rfl) (q_nc (q_pd 11 100 rfl) List.not_mem_nil)))).trans hn10
  replace hn11 := (hg414 _ (q_nc (q_pd 12 98 rfl) (q_nc (q_pd 12 99 rfl) (q_nc (q_pd 12 100 rfl) List.not_mem_nil)))).trans hn11
  replace hn12 := (hg414 _ (q_nc (q_pd 13 98 rfl) (q_nc (q_pd 13 99 rfl) (q_nc (q_pd 13 100 rfl) List.not_mem_nil)))).trans hn12
  replace hn13 := (hg414 _ (q_nc (q_pd 14 98 rfl) (q_nc (q_pd 14 99 rfl) (q_nc (q_pd 14 100 rfl) List.not_mem_nil)))).trans hn13
  replace hn14 := (hg414 _ (q_nc (q_pd 15 98 rfl) (q_nc (q_pd 15 99 rfl) (q_nc (q_pd 15 100 rfl) List.not_mem_nil)))).trans hn14
  replace hn15 := (hg414 _ (q_nc (q_pd 16 98 rfl) (q_nc (q_pd 16 99 rfl) (q_nc (q_pd 16 100 rfl) List.not_mem_nil)))).trans hn15
  replace hn16 := (hg414 _ (q_nc (q_pd 17 98 rfl) (q_nc (q_pd 17 99 rfl) (q_nc (q_pd 17 100 rfl) List.not_mem_nil)))).trans hn16
  replace hn17 := (hg414 _ (q_nc (q_pd 18 98 rfl) (q_nc (q_pd 18 99 rfl) (q_nc (q_pd 18 100 rfl) List.not_mem_nil)))).trans hn17
  replace hn18 := (hg414 _ (q_nc (q_pd 19 98 rfl) (q_nc (q_pd 19 99 rfl) (q_nc (q_pd 19 100 rfl) List.not_mem_nil)))).trans hn18
  replace hn19 := (hg414 _ (q_nc (q_pd 20 98 rfl) (q_nc (q_pd 20 99 rfl) (q_nc (q_pd 20 100 rfl) List.not_mem_nil)))).trans hn19
  replace hn20 := (hg414 _ (q_nc (q_pd 21 98 rfl) (q_nc (q_pd 21 99 rfl) (q_nc (q_pd 21 100 rfl) List.not_mem_nil)))).trans hn20
  replace hn21 := (hg414 _ (q_nc (q_pd 22 98 rfl) (q_nc (q_pd 22 99 rfl) (q_nc (q_pd 22 100 rfl) List.not_mem_nil)))).trans hn21
  replace hn22 := (hg414 _ (q_nc (q_pd 23 98 rfl) (q_nc (q_pd 23 99 rfl) (q_nc (q_pd 23 100 rfl) List.not_mem_nil)))).trans hn22
  replace hn23 := (hg414 _ (q_nc (q_pd 24 98 rfl) (q_nc (q_pd 24 99 rfl) (q_nc (q_pd 24 100 rfl) List.not_mem_nil)))).trans hn23
  replace hn24 := (hg414 _ (q_nc (q_pd 25 98 rfl) (q_nc (q_pd 25 99 rfl) (q_nc (q_pd 25 100 rfl) List.not_mem_nil)))).trans hn24
  replace hn25 := (hg414 _ (q_nc (q_pd 26 98 rfl) (q_nc (q_pd 26 99 rfl) (q_nc (q_pd 26 100 rfl) List.not_mem_nil)))).trans hn25
  replace hn26 := (hg414 _ (q_nc (q_pd 27 98 rfl) (q_nc (q_pd 27 99 rfl) (q_nc (q_pd 27 100 rfl) List.not_mem_nil)))).trans hn26
  replace hn27 := (hg414 _ (q_nc (q_pd 28 98 rfl) (q_nc (q_pd 28 99 rfl) (q_nc (q_pd 28 100 rfl) List.not_mem_nil)))).trans hn27
  replace hn28 := (hg414 _ (q_nc (q_pd 29 98 rfl) (q_nc (q_pd 29 99 rfl) (q_nc (q_pd 29 100 rfl) List.not_mem_nil)))).trans hn28
  replace hn29 := (hg414 _ (q_nc (q_pd 30 98 rfl) (q_nc (q_pd 30 99 rfl) (q_nc (q_pd 30 100 rfl) List.not_mem_nil)))).trans hn29
  replace hn30 := (hg414 _ (q_nc (q_pd 31 98 rfl) (q_nc (q_pd 31 99 rfl) (q_nc (q_pd 31 100 rfl) List.not_mem_nil)))).trans hn30
  replace hn31 := (hg414 _ (q_nc (q_pd 32 98 rfl) (q_nc (q_pd 32 99 rfl) (q_nc (q_pd 32 100 rfl) List.not_mem_nil)))).trans hn31
  replace hn32 := (hg414 _ (q_nc (q_pd 33 98 rfl) (q_nc (q_pd 33 99 rfl) (q_nc (q_pd 33 100 rfl) List.not_mem_nil)))).trans hn32
  replace hn33 := (hg414 _ (q_nc (q_pd 34 98 rfl) (q_nc (q_pd 34 99 rfl) (q_nc (q_pd 34 100 rfl) List.not_mem_nil)))).trans hn33
  replace hn34 := (hg414 _ (q_nc (q_pd 35 98 rfl) (q_nc (q_pd 35 99 rfl) (q_nc (q_pd 35 100 rfl) List.not_mem_nil)))).trans hn34
  replace hn35 := (hg414 _ (q_nc (q_pd 36 98 rfl) (q_nc (q_pd 36 99 rfl) (q_nc (q_pd 36 100 rfl) List.not_mem_nil)))).trans hn35
  replace hn36 := (hg414 _ (q_nc (q_pd 37 98 rfl) (q_nc (q_pd 37 99 rfl) (q_nc (q_pd 37 100 rfl) List.not_mem_nil)))).trans hn36
  replace hn37 := (hg414 _ (q_nc (q_pd 38 98 rfl) (q_nc (q_pd 38 99 rfl) (q_nc (q_pd 38 100 rfl) List.not_mem_nil)))).trans hn37
  replace hn38 := (hg414 _ (q_nc (q_pd 39 98 rfl) (q_nc (q_pd 39 99 rfl) (q_nc (q_pd 39 100 rfl) List.not_mem_nil)))).trans hn38
  replace hn39 := (hg414 _ (q_nc (q_pd 40 98 rfl) (q_nc (q_pd 40 99 rfl) (q_nc (q_pd 40 100 rfl) List.not_mem_nil)))).trans hn39
  replace hn40 := (hg414 _ (q_nc (q_pd 41 98 rfl) (q_nc (q_pd 41 99 rfl) (q_nc (q_pd 41 100 rfl) List.not_mem_nil)))).trans hn40
  replace hn41 := (hg414 _ (q_nc (q_pd 42 98 rfl) (q_nc (q_pd 42 99 rfl) (q_nc (q_pd 42 100 rfl) List.not_mem_nil)))).trans hn41
  replace hn42 := (hg414 _ (q_nc (q_pd 43 98 rfl) (q_nc (q_pd 43 99 rfl) (q_nc (q_pd 43 100 rfl) List.not_mem_nil)))).trans hn42
  replace hn43 := (hg414 _ (q_nc (q_pd 44 98 rfl) (q_nc (q_pd 44 99 rfl) (q_nc (q_pd 44 100 rfl) List.not_mem_nil)))).trans hn43
  replace hn44 := (hg414 _ (q_nc (q_pd 45 98 rfl) (q_nc (q_pd 45 99 rfl) (q_nc (q_pd 45 100 rfl) List.not_mem_nil)))).trans hn44
  replace hn45 := (hg414 _ (q_nc (q_pd 46 98 rfl) (q_nc (q_pd 46 99 rfl) (q_nc (q_pd 46 100 rfl) List.not_mem_nil)))).trans hn45
  replace hn46 := (hg414 _ (q_nc (q_pd 47 98 rfl) (q_nc (q_pd 47 99 rfl) (q_nc (q_pd 47 100 rfl) List.not_mem_nil)))).trans hn46
  replace hn47 := (hg414 _ (q_nc (q_pd 48 98 rfl) (q_nc (q_pd 48 99 rfl) (q_nc (q_pd 48 100 rfl) List.not_mem_nil)))).trans hn47
  replace hn48 := (hg414 _ (q_nc (q_pd 49 98 rfl) (q_nc (q_pd 49 99 rfl) (q_nc (q_pd 49 100 rfl) List.not_mem_nil)))).trans hn48
  replace hn49 := (hg414 _ (q_nc (q_pd 50 98 rfl) (q_nc (q_pd 50 99 rfl) (q_nc (q_pd 50 100 rfl) List.not_mem_nil)))).trans hn49
  replace hn50 := (hg414 _ (q_nc (q_pd 51 98 rfl) (q_nc (q_pd 51 99 rfl) (q_nc (q_pd 51 100 rfl) List.not_mem_nil)))).trans hn50
  replace hn51 := (hg414 _ (q_nc (q_pd 52 98 rfl) (q_nc (q_pd 52 99 rfl) (q_nc (q_pd 52 100 rfl) List.not_mem_nil)))).trans hn51
  replace hn52 := (hg414 _ (q_nc (q_pd 53 98 rfl) (q_nc (q_pd 53 99 rfl) (q_nc (q_pd 53 100 rfl) List.not_mem_nil)))).trans hn52
  replace hn53 := (hg414 _ (q_nc (q_pd 54 98 rfl) (q_nc (q_pd 54 99 rfl) (q_nc (q_pd 54 100 rfl) List.not_mem_nil)))).trans hn53
  replace hn54 := (hg414 _ (q_nc (q_pd 55 98 rfl) (q_nc (q_pd 55 99 rfl) (q_nc (q_pd 55 100 rfl) List.not_mem_nil)))).trans hn54
  replace hn55 := (hg414 _ (q_nc (q_pd 56 98 rfl) (q_nc (q_pd 56 99 rfl) (q_nc (q_pd 56 100 rfl) List.not_mem_nil)))).trans hn55
  replace hn56 := (hg414 _ (q_nc (q_pd 57 98 rfl) (q_nc (q_pd 57 99 rfl) (q_nc (q_pd 57 100 rfl) List.not_mem_nil)))).trans hn56
  replace hn57 := (hg414 _ (q_nc (q_pd 58 98 rfl) (q_nc (q_pd 58 99 rfl) (q_nc (q_pd 58 100 rfl) List.not_mem_nil)))).trans hn57
  replace hn58 := (hg414 _ (q_nc (q_pd 59 98 rfl) (q_nc (q_pd 59 99 rfl) (q_nc (q_pd 59 100 rfl) List.not_mem_nil)))).trans hn58
  replace hn59 := (hg414 _ (q_nc (q_pd 60 98 rfl) (q_nc (q_pd 60 99 rfl) (q_nc (q_pd 60 100 rfl) List.not_mem_nil)))).trans hn59
  replace hn60 := (hg414 _ (q_nc (q_pd 61 98 rfl) (q_nc (q_pd 61 99 rfl) (q_nc (q_pd 61 100 rfl) List.not_mem_nil)))).trans hn60
  replace hn61 := (hg414 _ (q_nc (q_pd 62 98 rfl) (q_nc (q_pd 62 99 rfl) (q_nc (q_pd 62 100 rfl) List.not_mem_nil)))).trans hn61
  replace hn62 := (hg414 _ (q_nc (q_pd 63 98 rfl) (q_nc (q_pd 63 99 rfl) (q_nc (q_pd 63 100 rfl) List.not_mem_nil)))).trans hn62
  replace hn63 := (hg414 _ (q_nc (q_pd 64 98 rfl) (q_nc (q_pd 64 99 rfl) (q_nc (q_pd 64 100 rfl) List.not_mem_nil)))).trans hn63
  replace hn64 := (hg414 _ (q_nc (q_pd 65 98 rfl) (q_nc (q_pd 65 99 rfl) (q_nc (q_pd 65 100 rfl) List.not_mem_nil)))).trans hn64
  replace hn65 := (hg414 _ (q_nc (q_pd 66 98 rfl) (q_nc (q_pd 66 99 rfl) (q_nc (q_pd 66 100 rfl) List.not_mem_nil)))).trans hn65
  replace hn66 := (hg414 _ (q_nc (q_pd 67 98 rfl) (q_nc (q_pd 67 99 rfl) (q_nc (q_pd 67 100 rfl) List.not_mem_nil)))).trans hn66
  replace hn67 := (hg414 _ (q_nc (q_pd 68 98 rfl) (q_nc (q_pd 68 99 rfl) (q_nc (q_pd 68 100 rfl) List.not_mem_nil)))).trans hn67
  replace hn68 := (hg414 _ (q_nc (q_pd 69 98 rfl) (q_nc (q_pd 69 99 rfl) (q_nc (q_pd 69 100 rfl) List.not_mem_nil)))).trans hn68
  replace hn69 := (hg414 _ (q_nc (q_pd 70 98 rfl) (q_nc (q_pd 70 99 rfl) (q_nc (q_pd 70 100 rfl) List.not_mem_nil)))).trans hn69
  replace hn70 := (hg414 _ (q_nc (q_pd 71 98 rfl) (q_nc (q_pd 71 99 rfl) (q_nc (q_pd 71 100 rfl) List.not_mem_nil)))).trans hn70
  replace hn71 := (hg414 _ (q_nc (q_pd 72 98 rfl) (q_nc (q_pd 72 99 rfl) (q_nc (q_pd 72 100 rfl) List.not_mem_nil)))).trans hn71
  replace hn72 := (hg414 _ (q_nc (q_pd 73 98 rfl) (q_nc (q_pd 73 99 rfl) (q_nc (q_pd 73 100 rfl) List.not_mem_nil)))).trans hn72
  replace hn73 := (hg414 _ (q_nc (q_pd 74 98 rfl) (q_nc (q_pd 74 99 rfl) (q_nc (q_pd 74 100 rfl) List.not_mem_nil)))).trans hn73
  replace hn74 := (hg414 _ (q_nc (q_pd 75 98 rfl) (q_nc (q_pd 75 99 rfl) (q_nc (q_pd 75 100 rfl) List.not_mem_nil)))).trans hn74
  replace hn75 := (hg414 _ (q_nc (q_pd 76 98 rfl) (q_nc (q_pd 76 99 rfl) (q_nc (q_pd 76 100 rfl) List.not_mem_nil)))).trans hn75
  replace hn76 := (hg414 _ (q_nc (q_pd 77 98 rfl) (q_nc (q_pd 77 99 rfl) (q_nc (q_pd 77 100 rfl) List.not_mem_nil)))).trans hn76
  replace hn77 := (hg414 _ (q_nc (q_pd 78 98 rfl) (q_nc (q_pd 78 99 rfl) (q_nc (q_pd 78 100 rfl) List.not_mem_nil)))).trans hn77
  replace hn78 := (hg414 _ (q_nc (q_pd 79 98 rfl) (q_nc (q_pd 79 99 rfl) (q_nc (q_pd 79 100 rfl) List.not_mem_nil)))).trans hn78
  replace hn79 := (hg414 _ (q_nc (q_pd 80 98 rfl) (q_nc (q_pd 80 99 rfl) (q_nc (q_pd 80 100 rfl) List.not_mem_nil)))).trans hn79
  replace hn80 := (hg414 _ (q_nc (q_pd 81 98 rfl) (q_nc (q_pd 81 99 rfl) (q_nc (q_pd 81 100 rfl) List.not_mem_nil)))).trans hn80
  replace hn81 := (hg414 _ (q_nc (q_pd 82 98 rfl) (q_nc (q_pd 82 99 rfl) (q_nc (q_pd 82 100 rfl) List.not_mem_nil)))).trans hn81
  replace hn82 := (hg414 _ (q_nc (q_pd 83 98 rfl) (q_nc (q_pd 83 99 rfl) (q_nc (q_pd 83 100 rfl) List.not_mem_nil)))).trans hn82
  replace hn83 := (hg414 _ (q_nc (q_pd 84 98 rfl) (q_nc (q_pd 84 99 rfl) (q_nc (q_pd 84 100 rfl) List.not_mem_nil)))).trans hn83
  replace hn84 := (hg414 _ (q_nc (q_pd 85 98 rfl) (q_nc (q_pd 85 99 rfl) (q_nc (q_pd 85 100 rfl) List.not_mem_nil)))).trans hn84
  replace hn85 := (hg414 _ (q_nc (q_pd 86 98 rfl) (q_nc (q_pd 86 99 rfl) (q_nc (q_pd 86 100 rfl) List.not_mem_nil)))).trans hn85
  replace hn86 := (hg414 _ (q_nc (q_pd 87 98 rfl) (q_nc (q_pd 87 99 rfl) (q_nc (q_pd 87 100 rfl) List.not_mem_nil)))).trans hn86
  replace hn87 := (hg414 _ (q_nc (q_pd 88 98 rfl) (q_nc (q_pd 88 99 rfl) (q_nc (q_pd 88 100 rfl) List.not_mem_nil)))).trans hn87
  replace hn88 := (hg414 _ (q_nc (q_pd 89 98 rfl) (q_nc (q_pd 89 99 rfl) (q_nc (q_pd 89 100 rfl) List.not_mem_nil)))).trans hn88
  replace hn89 := (hg414 _ (q_nc (q_pd 90 98 rfl) (q_nc (q_pd 90 99 rfl) (q_nc (q_pd 90 100 rfl) List.not_mem_nil)))).trans hn89
  replace hn90 := (hg414 _ (q_nc (q_pd 91 98 rfl) (q_nc (q_pd 91 99 rfl) (q_nc (q_pd 91 100 rfl) List.not_mem_nil)))).trans hn90
  replace hn91 := (hg414 _ (q_nc (q_pd 92 98 rfl) (q_nc (q_pd 92 99 rfl) (q_nc (q_pd 92 100 rfl) List.not_mem_nil)))).trans hn91
  replace hn92 := (hg414 _ (q_nc (q_pd 93 98 rfl) (q_nc (q_pd 93 99 rfl) (q_nc (q_pd 93 100 rfl) List.not_mem_nil)))).trans hn92
  replace hn93 := (hg414 _ (q_nc (q_pd 94 98 rfl) (q_nc (q_pd 94 99 rfl) (q_nc (q_pd 94 100 rfl) List.not_mem_nil)))).trans hn93
  replace hn94 := (hg414 _ (q_nc (q_pd 95 98 rfl) (q_nc (q_pd 95 99 rfl) (q_nc (q_pd 95 100 rfl) List.not_mem_nil)))).trans hn94
  replace hn95 := (hg414 _ (q_nc (q_pd 96 98 rfl) (q_nc (q_pd 96 99 rfl) (q_nc (q_pd 96 100 rfl) List.not_mem_nil)))).trans hn95
  replace hn96 := (hg414 _ (q_nc (q_pd 97 98 rfl) (q_nc (q_pd 97 99 rfl) (q_nc (q_pd 97 100 rfl) List.not_mem_nil)))).trans hn96
  replace hF := q_uc hF hg414 (q_sc (.tail _ (.tail _ (.tail _ (.tail _ (.tail _ (.tail _ (.tail _ (.tail _ (.tail _ (.tail _ (.tail _ (.tail _ (.tail _ (.tail _ (.tail _ (.tail _ (.tail _ (.tail _ (.tail _ (.tail _ (.tail _ (.tail _ (.tail _ (.tail _ (.tail _ (.tail _ (.tail _ (.tail _ (.tail _ (.tail _ (.tail _ (.tail _ (.tail _ (.tail _ (.tail _ (.tail _ (.tail _ (.tail _ (.tail _ (.tail _ (.tail _ (.tail _ (.tail _ (.tail _ (.tail _ (.tail _ (.tail _ (.tail _ (.tail _ (.tail _ (.tail _ (.tail _ (.tail _ (.tail _ (.tail _ (.tail _ (.tail _ (.tail _ (.tail _ (.tail _ (.tail _ (.tail _ (.tail _ (.tail _ (.tail _ (.tail _ (.tail _ (.tail _ (.tail _ (.tail _ (.tail _ (.tail _ (.tail _ (.tail _ (.tail _ (.tail _ (.tail _ (.tail _ (.tail _ (.tail _ (.tail _ (.tail _ (.tail _ (.tail _ (.tail _ (.tail _ (.tail _ (.tail _ (.tail _ (.tail _ (.tail _ (.tail _ (.tail _ (.tail _ (.tail _ (.tail _ (.tail _ (.tail _ (.head _))))))))))))))))))))))))))))))))))))))))))))))))))))))))))))))))))))))))))))))))))))))))))))))))))) (q_sc (.tail _ (.tail _ (.tail _ (.tail _ (.tail _ (.tail _ (.tail _ (.tail _ (.tail _ (.tail _ (.tail _ (.tail _ (.tail _ (.tail _ (.tail _ (.tail _ (.tail _ (.tail _ (.tail _ (.tail _ (.tail _ (.tail _ (.tail _ (.tail _ (.tail _ (.tail _ (.tail _ (.tail _ (.tail _ (.tail _ (.tail _ (.tail _ (.tail _ (.tail _ (.tail _ (.tail _ (.tail _ (.tail _ (.tail _ (.tail _ (.tail _ (.tail _ (.tail _ (.tail _ (.tail _ (.tail _ (.tail _ (.tail _ (.tail _ (.tail _ (.tail _ (.tail _ (.tail _ (.tail _ (.tail _ (.tail _ (.tail _ (.tail _ (.tail _ (.tail _ (.tail _ (.tail _ (.tail _ (.tail _ (.tail _ (.tail _ (.tail _ (.tail _ (.tail _ (.tail _ (.tail _ (.tail _ (.tail _ (.tail _ (.tail _ (.tail _ (.tail _ (.tail _ (.tail _ (.tail _ (.tail _ (.tail _ (.tail _ (.tail _ (.tail _ (.tail _ (.tail _ (.tail _ (.tail _ (.tail _ (.tail _ (.tail _ (.tail _ (.tail _ (.tail _ (.tail _ (.tail _ (.tail _ (.tail _ (.head _)))))))))))))))))))))))))))))))))))))))))))))))))))))))))))))))))))))))))))))))))))))))))))))))))))) (q_sc (.tail _ (.tail _ (.tail _ (.tail _ (.tail _ (.tail _ (.tail _ (.tail _ (.tail _ (.tail _ (.tail _ (.tail _ (.tail _ (.tail _ (.tail _ (.tail _ (.tail _ (.tail _ (.tail _ (.tail _ (.tail _ (.tail _ (.tail _ (.tail _ (.tail _ (.tail _ (.tail _ (.tail _ (.tail _ (.tail _ (.tail _ (.tail _ (.tail _ (.tail _ (.tail _ (.tail _ (.tail _ (.tail _ (.tail _ (.tail _ (.tail _ (.tail _ (.tail _ (.tail _ (.tail _ (.tail _ (.tail _ (.tail _ (.tail _ (.tail _ (.tail _ (.tail _ (.tail _ (.tail _ (.tail _ (.tail _ (.tail _ (.tail _ (.tail _ (.tail _ (.tail _ (.tail _ (.tail _ (.tail _ (.tail _ (.tail _ (.tail _ (.tail _ (.tail _ (.tail _ (.tail _ (.tail _ (.tail _ (.tail _ (.tail _ (.tail _ (.tail _ (.tail _ (.tail _ (.tail _ (.tail _ (.tail _ (.tail _ (.tail _ (.tail _ (.tail _ (.tail _ (.tail _ (.tail _ (.tail _ (.tail _ (.tail _ (.tail _ (.tail _ (.tail _ (.tail _ (.tail _ (.tail _ (.tail _ (.tail _ (.head _))))))))))))))))))))))))))))))))))))))))))))))))))))))))))))))))))))))))))))))))))))))))))))))))))))) (fun _ h => absurd h List.not_mem_nil))))
  have hn98 : u411[99]? = some (q412, .inr (2, [.ref q413, .int 0, .int 0])) := hq415
  have hn99 : u411[100]? = some (q413, .inl (g 0, 108, .inl (fun _ => 0))) := hq416
  replace hN : u411.length = 101 := hN
  have ho417 := hn5
  refine q_aast (t := 5) (ci := 3) (i9 := 6) C0 V hn5 rfl hn97 rfl (by decide) (by decide) d_1_1_247 (fun H locs w418 hu419 hn5 V => ?_)
  replace hn5 : w418[6]? = some (q32, .inl (g 5, 10, .inr (.inr (.inr (.inr (va_up (va_up (va_up (va_up (va_up (va_up (va_up (fun _ => none) 0 (some q244)) 1 (some q271)) 2 (some q298)) 3 (some q325)) 4 (some q352)) 5 (some q379)) 6 (some q406))))))) := hn5
  replace hN : w418.length = 101 := (q_len1 hu419 hn5 ho417).trans hN
  replace hO0 := (hu419 _ (q_pd 0 6 rfl)).trans hO0
  replace hn0 := (hu419 _ (q_pd 1 6 rfl)).trans hn0
  replace hn1 := (hu419 _ (q_pd 2 6 rfl)).trans hn1
  replace hn2 := (hu419 _ (q_pd 3 6 rfl)).trans hn2
  replace hn3 := (hu419 _ (q_pd 4 6 rfl)).trans hn3
  replace hn4 := (hu419 _ (q_pd 5 6 rfl)).trans hn4
  replace hn6 := (hu419 _ (q_pd 7 6 rfl)).trans hn6
  replace hn7 := (hu419 _ (q_pd 8 6 rfl)).trans hn7
  replace hn8 := (hu419 _ (q_pd 9 6 rfl)).trans hn8
  replace hn9 := (hu419 _ (q_pd 10 6 rfl)).trans hn9
  replace hn10 := (hu419 _ (q_pd 11 6 rfl)).trans hn10
  replace hn11 := (hu419 _ (q_pd 12 6 rfl)).trans hn11
  replace hn12 := (hu419 _ (q_pd 13 6 rfl)).trans hn12
  replace hn13 := (hu419 _ (q_pd 14 6 rfl)).trans hn13
  replace hn14 := (hu419 _ (q_pd 15 6 rfl)).trans hn14
  replace hn15 := (hu419 _ (q_pd 16 6 rfl)).trans hn15
  replace hn16 := (hu419 _ (q_pd 17 6 rfl)).trans hn16
  replace hn17 := (hu419 _ (q_pd 18 6 rfl)).trans hn17
  replace hn18 := (hu419 _ (q_pd 19 6 rfl)).trans hn18
  replace hn19 := (hu419 _ (q_pd 20 6 rfl)).trans hn19
  replace hn20 := (hu419 _ (q_pd 21 6 rfl)).trans hn20
  replace hn21 := (hu419 _ (q_pd 22 6 rfl)).trans hn21
  replace hn22 := (hu419 _ (q_pd 23 6 rfl)).trans hn22
  replace hn23 := (hu419 _ (q_pd 24 6 rfl)).trans hn23
  replace hn24 := (hu419 _ (q_pd 25 6 rfl)).trans hn24
  replace hn25 := (hu419 _ (q_pd 26 6 rfl)).trans hn25
  replace hn26 := (hu419 _ (q_pd 27 6 rfl)).trans hn26
  replace hn27 := (hu419 _ (q_pd 28 6 rfl)).trans hn27
  replace hn28 := (hu419 _ (q_pd 29 6 rfl)).trans hn28
  replace hn29 := (hu419 _ (q_pd 30 6 rfl)).trans hn29
  replace hn30 := (hu419 _ (q_pd 31 6 rfl)).trans hn30
  replace hn31 := (hu419 _ (q_pd 32 6 rfl)).trans hn31
  replace hn32 := (hu419 _ (q_pd 33 6 rfl)).trans hn32
  replace hn33 := (hu419 _ (q_pd 34 6 rfl)).trans hn33
  replace hn34 := (hu419 _ (q_pd 35 6 rfl)).trans hn34
  replace hn35 := (hu419 _ (q_pd 36 6 rfl)).trans hn35
  replace hn36 := (hu419 _ (q_pd 37 6 rfl)).trans hn36
  replace hn37 := (hu419 _ (q_pd 38 6 rfl)).trans hn37
  replace hn38 := (hu419 _ (q_pd 39 6 rfl)).trans hn38
  replace hn39 := (hu419 _ (q_pd 40 6 rfl)).trans hn39
  replace hn40 := (hu419 _ (q_pd 41 6 rfl)).trans hn40
  replace hn41 := (hu419 _ (q_pd 42 6 rfl)).trans hn41
  replace hn42 := (hu419 _ (q_pd 43 6 rfl)).trans hn42
  replace hn43 := (hu419 _ (q_pd 44 6 rfl)).trans hn43
  replace hn44 := (hu419 _ (q_pd 45 6 rfl)).trans hn44
  replace hn45 := (hu419 _ (q_pd 46 6 rfl)).trans hn45
  replace hn46 := (hu419 _ (q_pd 47 6 rfl)).trans hn46
  replace hn47 := (hu419 _ (q_pd 48 6 rfl)).trans hn47
  replace hn48 := (hu419 _ (q_pd 49 6 rfl)).trans hn48
  replace hn49 := (hu419 _ (q_pd 50 6 rfl)).trans hn49
  replace hn50 := (hu419 _ (q_pd 51 6 rfl)).trans hn50
  replace hn51 := (hu419 _ (q_pd 52 6 rfl)).trans hn51
  replace hn52 := (hu419 _ (q_pd 53 6 rfl)).trans hn52
  replace hn53 := (hu419 _ (q_pd 54 6 rfl)).trans hn53
  replace hn54 := (hu419 _ (q_pd 55 6 rfl)).trans hn54
  replace hn55 := (hu419 _ (q_pd 56 6 rfl)).trans hn55
  replace hn56 := (hu419 _ (q_pd 57 6 rfl)).trans hn56
  replace hn57 := (hu419 _ (q_pd 58 6 rfl)).trans hn57
  replace hn58 := (hu419 _ (q_pd 59 6 rfl)).trans hn58
  replace hn59 := (hu419 _ (q_pd 60 6 rfl)).trans hn59
  replace hn60 := (hu419 _ (q_pd 61 6 rfl)).trans hn60
  replace hn61 := (hu419 _ (q_pd 62 6 rfl)).trans hn61
  replace hn62 := (hu419 _ (q_pd 63 6 rfl)).trans hn62
  replace hn63 := (hu419 _ (q_pd 64 6 rfl)).trans hn63
  replace hn64 := (hu419 _ (q_pd 65 6 rfl)).trans hn64
  replace hn65 := (hu419 _ (q_pd 66 6 rfl)).trans hn65
  replace hn66 := (hu419 _ (q_pd 67 6 rfl)).trans hn66
  replace hn67 := (hu419 _ (q_pd 68 6 rfl)).trans hn67
  replace hn68 := (hu419 _ (q_pd 69 6 rfl)).trans hn68
  replace hn69 := (hu419 _ (q_pd 70 6 rfl)).trans hn69
  replace hn70 := (hu419 _ (q_pd 71 6 rfl)).trans hn70
  replace hn71 := (hu419 _ (q_pd 72 6 rfl)).trans hn71
  replace hn72 := (hu419 _ (q_pd 73 6 rfl)).trans hn72
  replace hn73 := (hu419 _ (q_pd 74 6 rfl)).trans hn73
  replace hn74 := (hu419 _ (q_pd 75 6 rfl)).trans hn74
  replace hn75 := (hu419 _ (q_pd 76 6 rfl)).trans hn75
  replace hn76 := (hu419 _ (q_pd 77 6 rfl)).trans hn76
  replace hn77 := (hu419 _ (q_pd 78 6 rfl)).trans hn77
  replace hn78 := (hu419 _ (q_pd 79 6 rfl)).trans hn78
  replace hn79 := (hu419 _ (q_pd 80 6 rfl)).trans hn79
  replace hn80 := (hu419 _ (q_pd 81 6 rfl)).trans hn80
  replace hn81 := (hu419 _ (q_pd 82 6 rfl)).trans hn81
  replace hn82 := (hu419 _ (q_pd 83 6 rfl)).trans hn82
  replace hn83 := (hu419 _ (q_pd 84 6 rfl)).trans hn83
  replace hn84 := (hu419 _ (q_pd 85 6 rfl)).trans hn84
  replace hn85 := (hu419 _ (q_pd 86 6 rfl)).trans hn85
  replace hn86 := (hu419 _ (q_pd 87 6 rfl)).trans hn86
  replace hn87 := (hu419 _ (q_pd 88 6 rfl)).trans hn87
  replace hn88 := (hu419 _ (q_pd 89 6 rfl)).trans hn88
  replace hn89 := (hu419 _ (q_pd 90 6 rfl)).trans hn89
  replace hn90 := (hu419 _ (q_pd 91 6 rfl)).trans hn90
  replace hn91 := (hu419 _ (q_pd 92 6 rfl)).trans hn91
  replace hn92 := (hu419 _ (q_pd 93 6 rfl)).trans hn92
  replace hn93 := (hu419 _ (q_pd 94 6 rfl)).trans hn93
  replace hn94 := (hu419 _ (q_pd 95 6 rfl)).trans hn94
  replace hn95 := (hu419 _ (q_pd 96 6 rfl)).trans hn95
  replace hn96 := (hu419 _ (q_pd 97 6 rfl)).trans hn96
  replace hn97 := (hu419 _ (q_pd 98 6 rfl)).trans hn97
  replace hn98 := (hu419 _ (q_pd 99 6 rfl)).trans hn98
  replace hn99 := (hu419 _ (q_pd 100 6 rfl)).trans hn99
  replace hF := q_us hF hu419 (.tail _ (.tail _ (.tail _ (.tail _ (.tail _ (.tail _ (.head _)))))))
  refine lv_iinc (v := 7) (lv' := [(1, .int 7), (0, .ref qO0)]) hx hb d_1_1_248 hl (k := 0) rfl (by decide) (by decide) rfl (fun ls hl => ?_)
  refine lv_goto (tgt := 212) hx hb d_1_1_251 (by decide) ?_
  refine lv_iload_n hx hb d_1_1_212 rfl (lv_at hl 0 rfl) ?_
  refine lv_bipush (v := 10) hx hb d_1_1_213 (by decide) ?_
  refine lv_icmp_ge (tgt := 254) hx hb d_1_1_215 (by decide) (fun c420 => absurd c420 (by decide)) (fun c420 => ?_)
  refine lv_aload_n hx hb d_1_1_218 rfl (lv_at hl 1 rfl) ?_
  refine q_get (ci := 0) (j := 2) (v := .ref q25) C0 V i_NH rfl rfl hO0 (by decide) w_426 rfl d_1_1_219 ?_
  refine lv_iload_n hx hb d_1_1_222 rfl (lv_at hl 0 rfl) ?_
  refine q_new (ci := 2) (fs := [.null, .int 0, .int 0]) C0 V hN i_Big o_Big rfl w_68 w_79 w_4 rfl (fun j hj => by rcases (show j = 0 ∨ j = 1 ∨ j = 2 by omega) with rfl | rfl | rfl <;> rfl) (Nat.le_of_ble_eq_true rfl) (Nat.le_of_ble_eq_true rfl) d_1_1_223 (fun q421 H w422 hu423 hn424 hN V => ?_)
  have hn100 : w422[101]? = some (q421, .inr (2, [.null, .int 0, .int 0])) := hn424
  replace hO0 := (hu423 _ (q_pd 0 101 rfl)).trans hO0
  replace hn0 := (hu423 _ (q_pd 1 101 rfl)).trans hn0
  replace hn1 := (hu423 _ (q_pd 2 101 rfl)).trans hn1
  replace hn2 := (hu423 _ (q_pd 3 101 rfl)).trans hn2
  replace hn3 := (hu423 _ (q_pd 4 101 rfl)).trans hn3
  replace hn4 := (hu423 _ (q_pd 5 101 rfl)).trans hn4
  replace hn5 := (hu423 _ (q_pd 6 101 rfl)).trans hn5
  replace hn6 := (hu423 _ (q_pd 7 101 rfl)).trans hn6
  replace hn7 := (hu423 _ (q_pd 8 101 rfl)).trans hn7
  replace hn8 := (hu423 _ (q_pd 9 101 rfl)).trans hn8
  replace hn9 := (hu423 _ (q_pd 10 101 rfl)).trans hn9
  replace hn10 := (hu423 _ (q_pd 11 101 rfl)).trans hn10
  replace hn11 := (hu423 _ (q_pd 12 101 rfl)).trans hn11
  replace hn12 := (hu423 _ (q_pd 13 101 rfl)).trans hn12
  replace hn13 := (hu423 _ (q_pd 14 101 rfl)).trans hn13
  replace hn14 := (hu423 _ (q_pd 15 101 rfl)).trans hn14
  replace hn15 := (hu423 _ (q_pd 16 101 rfl)).trans hn15
  replace hn16 := (hu423 _ (q_pd 17 101 rfl)).trans hn16
  replace hn17 := (hu423 _ (q_pd 18 101 rfl)).trans hn17
  replace hn18 := (hu423 _ (q_pd 19 101 rfl)).trans hn18
  replace hn19 := (hu423 _ (q_pd 20 101 rfl)).trans hn19
  replace hn20 := (hu423 _ (q_pd 21 101 rfl)).trans hn20
  replace hn21 := (hu423 _ (q_pd 22 101 rfl)).trans hn21
  replace hn22 := (hu423 _ (q_pd 23 101 rfl)).trans hn22
  replace hn23 := (hu423 _ (q_pd 24 101 rfl)).trans hn23
  replace hn24 := (hu423 _ (q_pd 25 101 rfl)).trans hn24
  replace hn25 := (hu423 _ (q_pd 26 101 rfl)).trans hn25
  replace hn26 := (hu423 _ (q_pd 27 101 rfl)).trans hn26
  replace hn27 := (hu423 _ (q_pd 28 101 rfl)).trans hn27
  replace hn28 := (hu423 _ (q_pd 29 101 rfl)).trans hn28
  replace hn29 := (hu423 _ (q_pd 30 101 rfl)).trans hn29
  replace hn30 := (hu423 _ (q_pd 31 101 rfl)).trans hn30
  replace hn31 := (hu423 _ (q_pd 32 101 rfl)).trans hn31
  replace hn32 := (hu423 _ (q_pd 33 101 rfl)).trans hn32
  replace hn33 := (hu423 _ (q_pd 34 101 rfl)).trans hn33
  replace hn34 := (hu423 _ (q_pd 35 101 rfl)).trans hn34
  replace hn35 := (hu423 _ (q_pd 36 101 rfl)).trans hn35
  replace hn36 := (hu423 _ (q_pd 37 101 rfl)).trans hn36
  replace hn37 := (hu423 _ (q_pd 38 101 rfl)).trans hn37
  replace hn38 := (hu423 _ (q_pd 39 101 rfl)).trans hn38
  replace hn39 := (hu423 _ (q_pd 40 101 rfl)).trans hn39
  replace hn40 := (hu423 _ (q_pd 41 101 rfl)).trans hn40
  replace hn41 := (hu423 _ (q_pd 42 101 rfl)).trans hn41
  replace hn42 := (hu423 _ (q_pd 43 101 rfl)).trans hn42
  replace hn43 := (hu423 _ (q_pd 44 101 rfl)).trans hn43
  replace hn44 := (hu423 _ (q_pd 45 101 rfl)).trans hn44
  replace hn45 := (hu423 _ (q_pd 46 101 rfl)).trans hn45
  replace hn46 := (hu423 _ (q_pd 47 101 rfl)).trans hn46
  replace hn47 := (hu423 _ (q_pd 48 101 rfl)).trans hn47
  replace hn48 := (hu423 _ (q_pd 49 101 rfl)).trans hn48
  replace hn49 := (hu423 _ (q_pd 50 101 rfl)).trans hn49
  replace hn50 := (hu423 _ (q_pd 51 101 rfl)).trans hn50
  replace hn51 := (hu423 _ (q_pd 52 101 rfl)).trans hn51
  replace hn52 := (hu423 _ (q_pd 53 101 rfl)).trans hn52
  replace hn53 := (hu423 _ (q_pd 54 101 rfl)).trans hn53
  replace hn54 := (hu423 _ (q_pd 55 101 rfl)).trans hn54
  replace hn55 := (hu423 _ (q_pd 56 101 rfl)).trans hn55
  replace hn56 := (hu423 _ (q_pd 57 101 rfl)).trans hn56
  replace hn57 := (hu423 _ (q_pd 58 101 rfl)).trans hn57
  replace hn58 := (hu423 _ (q_pd 59 101 rfl)).trans hn58
  replace hn59 := (hu423 _ (q_pd 60 101 rfl)).trans hn59
  replace hn60 := (hu423 _ (q_pd 61 101 rfl)).trans hn60
  replace hn61 := (hu423 _ (q_pd 62 101 rfl)).trans hn61
  replace hn62 := (hu423 _ (q_pd 63 101 rfl)).trans hn62
  replace hn63 := (hu423 _ (q_pd 64 101 rfl)).trans hn63
  replace hn64 := (hu423 _ (q_pd 65 101 rfl)).trans hn64
  replace hn65 := (hu423 _ (q_pd 66 101 rfl)).trans hn65
  replace hn66 := (hu423 _ (q_pd 67 101 rfl)).trans hn66
  replace hn67 := (hu423 _ (q_pd 68 101 rfl)).trans hn67
  replace hn68 := (hu423 _ (q_pd 69 101 rfl)).trans hn68
  replace hn69 := (hu423 _ (q_pd 70 101 rfl)).trans hn69
  replace hn70 := (hu423 _ (q_pd 71 101 rfl)).trans hn70
  replace hn71 := (hu423 _ (q_pd 72 101 rfl)).trans hn71
  replace hn72 := (hu423 _ (q_pd 73 101 rfl)).trans hn72
  replace hn73 := (hu423 _ (q_pd 74 101 rfl)).trans hn73
  replace hn74 := (hu423 _ (q_pd 75 101 rfl)).trans hn74
  replace hn75 := (hu423 _ (q_pd 76 101 rfl)).trans hn75
  replace hn76 := (hu423 _ (q_pd 77 101 rfl)).trans hn76
  replace hn77 := (hu423 _ (q_pd 78 101 rfl)).trans hn77
  replace hn78 := (hu423 _ (q_pd 79 101 rfl)).trans hn78
  replace hn79 := (hu423 _ (q_pd 80 101 rfl)).trans hn79
  replace hn80 := (hu423 _ (q_pd 81 101 rfl)).trans hn80
  replace hn81 := (hu423 _ (q_pd 82 101 rfl)).trans hn81
  replace hn82 := (hu423 _ (q_pd 83 101 rfl)).trans hn82
  replace hn83 := (hu423 _ (q_pd 84 101 rfl)).trans hn83
  replace hn84 := (hu423 _ (q_pd 85 101 rfl)).trans hn84
  replace hn85 := (hu423 _ (q_pd 86 101 rfl)).trans hn85
  replace hn86 := (hu423 _ (q_pd 87 101 rfl)).trans hn86
  replace hn87 := (hu423 _ (q_pd 88 101 rfl)).trans hn87
  replace hn88 := (hu423 _ (q_pd 89 101 rfl)).trans hn88
  replace hn89 := (hu423 _ (q_pd 90 101 rfl)).trans hn89
  replace hn90 := (hu423 _ (q_pd 91 101 rfl)).trans hn90
  replace hn91 := (hu423 _ (q_pd 92 101 rfl)).trans hn91
  replace hn92 := (hu423 _ (q_pd 93 101 rfl)).trans hn92
  replace hn93 := (hu423 _ (q_pd 94 101 rfl)).trans hn93
  replace hn94 := (hu423 _ (q_pd 95 101 rfl)).trans hn94
  replace hn95 := (hu423 _ (q_pd 96 101 rfl)).trans hn95
  replace hn96 := (hu423 _ (q_pd 97 101 rfl)).trans hn96
  replace hn97 := (hu423 _ (q_pd 98 101 rfl)).trans hn97
  replace hn98 := (hu423 _ (q_pd 99 101 rfl)).trans hn98
  replace hn99 := (hu423 _ (q_pd 100 101 rfl)).trans hn99
  replace hF := q_us hF hu423 (.tail _ (.tail _ (.tail _ (.tail _ (.tail _ (.tail _ (.tail _ (.tail _ (.tail _ (.tail _ (.tail _ (.tail _ (.tail _ (.tail _ (.tail _ (.tail _ (.tail _ (.tail _ (.tail _ (.tail _ (.tail _ (.tail _ (.tail _ (.tail _ (.tail _ (.tail _ (.tail _ (.tail _ (.tail _ (.tail _ (.tail _ (.tail _ (.tail _ (.tail _ (.tail _ (.tail _ (.tail _ (.tail _ (.tail _ (.tail _ (.tail _ (.tail _ (.tail _ (.tail _ (.tail _ (.tail _ (.tail _ (.tail _ (.tail _ (.tail _ (.tail _ (.tail _ (.tail _ (.tail _ (.tail _ (.tail _ (.tail _ (.tail _ (.tail _ (.tail _ (.tail _ (.tail _ (.tail _ (.tail _ (.tail _ (.tail _ (.tail _ (.tail _ (.tail _ (.tail _ (.tail _ (.tail _ (.tail _ (.tail _ (.tail _ (.tail _ (.tail _ (.tail _ (.tail _ (.tail _ (.tail _ (.tail _ (.tail _ (.tail _ (.tail _ (.tail _ (.tail _ (.tail _ (.tail _ (.tail _ (.tail _ (.tail _ (.tail _ (.tail _ (.tail _ (.tail _ (.tail _ (.tail _ (.tail _ (.tail _ (.tail _ (.head _))))))))))))))))))))))))))))))))))))))))))))))))))))))))))))))))))))))))))))))))))))))))))))))))))))))
  replace hN : w422.length = 102 := hN
  refine lv_dup hx hb d_1_1_226 rfl ?_
  refine lv_bipush (v := 68) hx hb d_1_1_227 (by decide) ?_
  refine q_gov V (q_runI (As := [.int 68]) (rest := [.ref q421, .int 7, .ref q25]) (d := 2) (mc := 1) (ms := 68) C0 V rfl LI_NH_102 (c_Big_init l D g w422 101 q421 102 hN hn100 _) rfl hl.1 rfl (Nat.le_of_ble_eq_true rfl) ⟨by decide, by decide⟩ ⟨Nat.le_of_ble_eq_true rfl, Nat.le_of_ble_eq_true rfl⟩ d_1_1_229) (fun u426 H locs hp425 V => ?_)
  obtain ⟨q427, hg428, hn100, hq429, hN⟩ := hp425
  replace hO0 := (hg428 _ (q_nc (q_pd 0 101 rfl) (q_nc (q_pd 0 102 rfl) List.not_mem_nil))).trans hO0
  replace hn0 := (hg428 _ (q_nc (q_pd 1 101 rfl) (q_nc (q_pd 1 102 rfl) List.not_mem_nil))).trans hn0
  replace hn1 := (hg428 _ (q_nc (q_pd 2 101 rfl) (q_nc (q_pd 2 102 rfl) List.not_mem_nil))).trans hn1
  replace hn2 := (hg428 _ (q_nc (q_pd 3 101 rfl) (q_nc (q_pd 3 102 rfl) List.not_mem_nil))).trans hn2
  replace hn3 := (hg428 _ (q_nc (q_pd 4 101 rfl) (q_nc (q_pd 4 102 rfl) List.not_mem_nil))).trans hn3
  replace hn4 := (hg428 _ (q_nc (q_pd 5 101 rfl) (q_nc (q_pd 5 102 rfl) List.not_mem_nil))).trans hn4
  replace hn5 := (hg428 _ (q_nc (q_pd 6 101 rfl) (q_nc (q_pd 6 102 rfl) List.not_mem_nil))).trans hn5
  replace hn6 := (hg428 _ (q_nc (q_pd 7 101 rfl) (q_nc (q_pd 7 102 rfl) List.not_mem_nil))).trans hn6
  replace hn7 := (hg428 _ (q_nc (q_pd 8 101 rfl) (q_nc (q_pd 8 102 rfl) List.not_mem_nil))).trans hn7
  replace hn8 := (hg428 _ (q_nc (q_pd 9 101 rfl) (q_nc (q_pd 9 102 rfl) List.not_mem_nil))).trans hn8
  replace hn9 := (hg428 _ (q_nc (q_pd 10 101 rfl) (q_nc (q_pd 10 102 rfl) List.not_mem_nil))).trans hn9
  replace hn10 := (hg428 _ (q_nc (q_pd 11 101 rfl) (q_nc (q_pd 11 102 rfl) List.not_mem_nil))).trans hn10
  replace hn11 := (hg428 _ (q_nc (q_pd 12 101 rfl) (q_nc (q_pd 12 102 rfl) List.not_mem_nil))).trans hn11
  replace hn12 := (hg428 _ (q_nc (q_pd 13 101 rfl) (q_nc (q_pd 13 102 rfl) List.not_mem_nil))).trans hn12
  replace hn13 := (hg428 _ (q_nc (q_pd 14 101 rfl) (q_nc (q_pd 14 102 rfl) List.not_mem_nil))).trans hn13
  replace hn14 := (hg428 _ (q_nc (q_pd 15 101 rfl) (q_nc (q_pd 15 102 rfl) List.not_mem_nil))).trans hn14
  replace hn15 := (hg428 _ (q_nc (q_pd 16 101 rfl) (q_nc (q_pd 16 102 rfl) List.not_mem_nil))).trans hn15
  replace hn16 := (hg428 _ (q_nc (q_pd 17 101 rfl) (q_nc (q_pd 17 102 rfl) List.not_mem_nil))).trans hn16
  replace hn17 := (hg428 _ (q_nc (q_pd 18 101 rfl) (q_nc (q_pd 18 102 rfl) List.not_mem_nil))).trans hn17
  replace hn18 := (hg428 _ (q_nc (q_pd 19 101 rfl) (q_nc (q_pd 19 102 rfl) List.not_mem_nil))).trans hn18
  replace hn19 := (hg428 _ (q_nc (q_pd 20 101 rfl) (q_nc (q_pd 20 102 rfl) List.not_mem_nil))).trans hn19
  replace hn20 := (hg428 _ (q_nc (q_pd 21 101 rfl) (q_nc (q_pd 21 102 rfl) List.not_mem_nil))).trans hn20
  replace hn21 := (hg428 _ (q_nc (q_pd 22 101 rfl) (q_nc (q_pd 22 102 rfl) List.not_mem_nil))).trans hn21
  replace hn22 := (hg428 _ (q_nc (q_pd 23 101 rfl) (q_nc (q_pd 23 102 rfl) List.not_mem_nil))).trans hn22
  replace hn23 := (hg428 _ (q_nc (q_pd 24 101 rfl) (q_nc (q_pd 24 102 rfl) List.not_mem_nil))).trans hn23
  replace hn24 := (hg428 _ (q_nc (q_pd 25 101 rfl) (q_nc (q_pd 25 102 rfl) List.not_mem_nil))).trans hn24
  replace hn25 := (hg428 _ (q_nc (q_pd 26 101 rfl) (q_nc (q_pd 26 102 rfl) List.not_mem_nil))).trans hn25
  replace hn26 := (hg428 _ (q_nc (q_pd 27 101 rfl) (q_nc (q_pd 27 102 rfl) List.not_mem_nil))).trans hn26
  replace hn27 := (hg428 _ (q_nc (q_pd 28 101 rfl) (q_nc (q_pd 28 102 rfl) List.not_mem_nil))).trans hn27
  replace hn28 := (hg428 _ (q_nc (q_pd 29 101 rfl) (q_nc (q_pd 29 102 rfl) List.not_mem_nil))).trans hn28
  replace hn29 := (hg428 _ (q_nc (q_pd 30 101 rfl) (q_nc (q_pd 30 102 rfl) List.not_mem_nil))).trans hn29
  replace hn30 := (hg428 _ (q_nc (q_pd 31 101 rfl) (q_nc (q_pd 31 102 rfl) List.not_mem_nil))).trans hn30
  replace hn31 := (hg428 _ (q_nc (q_pd 32 101 rfl) (q_nc (q_pd 32 102 rfl) List.not_mem_nil))).trans hn31
  replace hn32 := (hg428 _ (q_nc (q_pd 33 101 rfl) (q_nc (q_pd 33 102 rfl) List.not_mem_nil))).trans hn32
  replace hn33 := (hg428 _ (q_nc (q_pd 34 101 rfl) (q_nc (q_pd 34 102 rfl) List.not_mem_nil))).trans hn33
  replace hn34 := (hg428 _ (q_nc (q_pd 35 101 rfl) (q_nc (q_pd 35 102 rfl) List.not_mem_nil))).trans hn34
  replace hn35 := (hg428 _ (q_nc (q_pd 36 101 rfl) (q_nc (q_pd 36 102 rfl) List.not_mem_nil))).trans hn35
  replace hn36 := (hg428 _ (q_nc (q_pd 37 101 rfl) (q_nc (q_pd 37 102 rfl) List.not_mem_nil))).trans hn36
  replace hn37 := (hg428 _ (q_nc (q_pd 38 101 rfl) (q_nc (q_pd 38 102 rfl) List.not_mem_nil))).trans hn37
  replace hn38 := (hg428 _ (q_nc (q_pd 39 101 rfl) (q_nc (q_pd 39 102 rfl) List.not_mem_nil))).trans hn38
  replace hn39 := (hg428 _ (q_nc (q_pd 40 101 rfl) (q_nc (q_pd 40 102 rfl) List.not_mem_nil))).trans hn39
  replace hn40 := (hg428 _ (q_nc (q_pd 41 101 rfl) (q_nc (q_pd 41 102 rfl) List.not_mem_nil))).trans hn40
  replace hn41 := (hg428 _ (q_nc (q_pd 42 101 rfl) (q_nc (q_pd 42 102 rfl) List.not_mem_nil))).trans hn41
  replace hn42 := (hg428 _ (q_nc (q_pd 43 101 rfl) (q_nc (q_pd 43 102 rfl) List.not_mem_nil))).trans hn42
  replace hn43 := (hg428 _ (q_nc (q_pd 44 101 rfl) (q_nc (q_pd 44 102 rfl) List.not_mem_nil))).trans hn43
  replace hn44 := (hg428 _ (q_nc (q_pd 45 101 rfl) (q_nc (q_pd 45 102 rfl) List.not_mem_nil))).trans hn44
  replace hn45 := (hg428 _ (q_nc (q_pd 46 101 rfl) (q_nc (q_pd 46 102 rfl) List.not_mem_nil))).trans hn45
  replace hn46 := (hg428 _ (q_nc (q_pd 47 101 rfl) (q_nc (q_pd 47 102 rfl) List.not_mem_nil))).trans hn46
  replace hn47 := (hg428 _ (q_nc (q_pd 48 101 rfl) (q_nc (q_pd 48 102 rfl) List.not_mem_nil))).trans hn47
  replace hn48 := (hg428 _ (q_nc (q_pd 49 101 rfl) (q_nc (q_pd 49 102 rfl) List.not_mem_nil))).trans hn48
  replace hn49 := (hg428 _ (q_nc (q_pd 50 101 rfl) (q_nc (q_pd 50 102 rfl) List.not_mem_nil))).trans hn49
  replace hn50 := (hg428 _ (q_nc (q_pd 51 101 rfl) (q_nc (q_pd 51 102 rfl) List.not_mem_nil))).trans hn50
  replace hn51 := (hg428 _ (q_nc (q_pd 52 101 rfl) (q_nc (q_pd 52 102 rfl) List.not_mem_nil))).trans hn51
  replace hn52 := (hg428 _ (q_nc (q_pd 53 101 rfl) (q_nc (q_pd 53 102 rfl) List.not_mem_nil))).trans hn52
  replace hn53 := (hg428 _ (q_nc (q_pd 54 101 rfl) (q_nc (q_pd 54 102 rfl) List.not_mem_nil))).trans hn53
  replace hn54 := (hg428 _ (q_nc (q_pd 55 101 rfl) (q_nc (q_pd 55 102 rfl) List.not_mem_nil))).trans hn54
  replace hn55 := (hg428 _ (q_nc (q_pd 56 101 rfl) (q_nc (q_pd 56 102 rfl) List.not_mem_nil))).trans hn55
  replace hn56 := (hg428 _ (q_nc (q_pd 57 101 rfl) (q_nc (q_pd 57 102 rfl) List.not_mem_nil))).trans hn56
  replace hn57 := (hg428 _ (q_nc (q_pd 58 101 rfl) (q_nc (q_pd 58 102 rfl) List.not_mem_nil))).trans hn57
  replace hn58 := (hg428 _ (q_nc (q_pd 59 101 rfl) (q_nc (q_pd 59 102 rfl) List.not_mem_nil))).trans hn58
  replace hn59 := (hg428 _ (q_nc (q_pd 60 101 rfl) (q_nc (q_pd 60 102 rfl) List.not_mem_nil))).trans hn59
  replace hn60 := (hg428 _ (q_nc (q_pd 61 101 rfl) (q_nc (q_pd 61 102 rfl) List.not_mem_nil))).trans hn60
  replace hn61 := (hg428 _ (q_nc (q_pd 62 101 rfl) (q_nc (q_pd 62 102 rfl) List.not_mem_nil))).trans hn61
  replace hn62 := (hg428 _ (q_nc (q_pd 63 101 rfl) (q_nc (q_pd 63 102 rfl) List.not_mem_nil))).trans hn62
  replace hn63 := (hg428 _ (q_nc (q_pd 64 101 rfl) (q_nc (q_pd 64 102 rfl) List.not_mem_nil))).trans hn63
  replace hn64 := (hg428 _ (q_nc (q_pd 65 101 rfl) (q_nc (q_pd 65 102 rfl) List.not_mem_nil))).trans hn64
  replace hn65 := (hg428 _ (q_nc (q_pd 66 101 rfl) (q_nc (q_pd 66 102 rfl) List.not_mem_nil))).trans hn65
  replace hn66 := (hg428 _ (q_nc (q_pd 67 101 rfl) (q_nc (q_pd 67 102 rfl) List.not_mem_nil))).trans hn66
  replace hn67 := (hg428 _ (q_nc (q_pd 68 101 rfl) (q_nc (q_pd 68 102 rfl) List.not_mem_nil))).trans hn67
  replace hn68 := (hg428 _ (q_nc (q_pd 69 101 rfl) (q_nc (q_pd 69 102 rfl) List.not_mem_nil))).trans hn68
  replace hn69 := (hg428 _ (q_nc (q_pd 70 101 rfl) (q_nc (q_pd 70 102 rfl) List.not_mem_nil))).trans hn69
  replace hn70 := (hg428 _ (q_nc (q_pd 71 101 rfl) (q_nc (q_pd 71 102 rfl) List.not_mem_nil))).trans hn70
  replace hn71 := (hg428 _ (q_nc (q_pd 72 101 rfl) (q_nc (q_pd 72 102 rfl) List.not_mem_nil))).trans hn71
  replace hn72 := (hg428 _ (q_nc (q_pd 73 101 rfl) (q_nc (q_pd 73 102 rfl) List.not_mem_nil))).trans hn72
  replace hn73 := (hg428 _ (q_nc (q_pd 74 101 rfl) (q_nc (q_pd 74 102 rfl) List.not_mem_nil))).trans hn73
  replace hn74 := (hg428 _ (q_nc (q_pd 75 101 rfl) (q_nc (q_pd 75 102 rfl) List.not_mem_nil))).trans hn74
  replace hn75 := (hg428 _ (q_nc (q_pd 76 101 rfl) (q_nc (q_pd 76 102 rfl) List.not_mem_nil))).trans hn75
  replace hn76 := (hg428 _ (q_nc (q_pd 77 101 rfl) (q_nc (q_pd 77 102 rfl) List.not_mem_nil))).trans hn76
  replace hn77 := (hg428 _ (q_nc (q_pd 78 101 rfl) (q_nc (q_pd 78 102 rfl) List.not_mem_nil))).trans hn77
  replace hn78 := (hg428 _ (q_nc (q_pd 79 101 rfl) (q_nc (q_pd 79 102 rfl) List.not_mem_nil))).trans hn78
  replace hn79 := (hg428 _ (q_nc (q_pd 80 101 rfl) (q_nc (q_pd 80 102 rfl) List.not_mem_nil))).trans hn79
  replace hn80 := (hg428 _ (q_nc (q_pd 81 101 rfl) (q_nc (q_pd 81 102 rfl) List.not_mem_nil))).trans hn80
  replace hn81 := (hg428 _ (q_nc (q_pd 82 101 rfl) (q_nc (q_pd 82 102 rfl) List.not_mem_nil))).trans hn81
  replace hn82 := (hg428 _ (q_nc (q_pd 83 101 rfl) (q_nc (q_pd 83 102 rfl) List.not_mem_nil))).trans hn82
  replace hn83 := (hg428 _ (q_nc (q_pd 84 101 rfl) (q_nc (q_pd 84 102 rfl) List.not_mem_nil))).trans hn83
  replace hn84 := (hg428 _ (q_nc (q_pd 85 101 rfl) (q_nc (q_pd 85 102 rfl) List.not_mem_nil))).trans hn84
  replace hn85 := (hg428 _ (q_nc (q_pd 86 101 rfl) (q_nc (q_pd 86 102 rfl) List.not_mem_nil))).trans hn85
  replace hn86 := (hg428 _ (q_nc (q_pd 87 101 rfl) (q_nc (q_pd 87 102 rfl) List.not_mem_nil))).trans hn86
  replace hn87 := (hg428 _ (q_nc (q_pd 88 101 rfl) (q_nc (q_pd 88 102 rfl) List.not_mem_nil))).trans hn87
  replace hn88 := (hg428 _ (q_nc (q_pd 89 101 rfl) (q_nc (q_pd 89 102 rfl) List.not_mem_nil))).trans hn88
  replace hn89 := (hg428 _ (q_nc (q_pd 90 101 rfl) (q_nc (q_pd 90 102 rfl) List.not_mem_nil))).trans hn89
  replace hn90 := (hg428 _ (q_nc (q_pd 91 101 rfl) (q_nc (q_pd 91 102 rfl) List.not_mem_nil))).trans hn90
  replace hn91 := (hg428 _ (q_nc (q_pd 92 101 rfl) (q_nc (q_pd 92 102 rfl) List.not_mem_nil))).trans hn91
  replace hn92 := (hg428 _ (q_nc (q_pd 93 101 rfl) (q_nc (q_pd 93 102 rfl) List.not_mem_nil))).trans hn92
  replace hn93 := (hg428 _ (q_nc (q_pd 94 101 rfl) (q_nc (q_pd 94 102 rfl) List.not_mem_nil))).trans hn93
  replace hn94 := (hg428 _ (q_nc (q_pd 95 101 rfl) (q_nc (q_pd 95 102 rfl) List.not_mem_nil))).trans hn94
  replace hn95 := (hg428 _ (q_nc (q_pd 96 101 rfl) (q_nc (q_pd 96 102 rfl) List.not_mem_nil))).trans hn95
  replace hn96 := (hg428 _ (q_nc (q_pd 97 101 rfl) (q_nc (q_pd 97 102 rfl) List.not_mem_nil))).trans hn96
  replace hn97 := (hg428 _ (q_nc (q_pd 98 101 rfl) (q_nc (q_pd 98 102 rfl) List.not_mem_nil))).trans hn97
  replace hn98 := (hg428 _ (q_nc (q_pd 99 101 rfl) (q_nc (q_pd 99 102 rfl) List.not_mem_nil))).trans hn98
  replace hn99 := (hg428 _ (q_nc (q_pd 100 101 rfl) (q_nc (q_pd 100 102 rfl) List.not_mem_nil))).trans hn99
  replace hF := q_uc hF hg428 (q_sc (.tail _ (.tail _ (.tail _ (.tail _ (.tail _ (.tail _ (.tail _ (.tail _ (.tail _ (.tail _ (.tail _ (.tail _ (.tail _ (.tail _ (.tail _ (.tail _ (.tail _ (.tail _ (.tail _ (.tail _ (.tail _ (.tail _ (.tail _ (.tail _ (.tail _ (.tail _ (.tail _ (.tail _ (.tail _ (.tail _ (.tail _ (.tail _ (.tail _ (.tail _ (.tail _ (.tail _ (.tail _ (.tail _ (.tail _ (.tail _ (.tail _ (.tail _ (.tail _ (.tail _ (.tail _ (.tail _ (.tail _ (.tail _ (.tail _ (.tail _ (.tail _ (.tail _ (.tail _ (.tail _ (.tail _ (.tail _ (.tail _ (.tail _ (.tail _ (.tail _ (.tail _ (.tail _ (.tail _ (.tail _ (.tail _ (.tail _ (.tail _ (.tail _ (.tail _ (.tail _ (.tail _ (.tail _ (.tail _ (.tail _ (.tail _ (.tail _ (.tail _ (.tail _ (.tail _ (.tail _ (.tail _ (.tail _ (.tail _ (.tail _ (.tail _ (.tail _ (.tail _ (.tail _ (.tail _ (.tail _ (.tail _ (.tail _ (.tail _ (.tail _ (.tail _ (.tail _ (.tail _ (.tail _ (.tail _ (.tail _ (.tail _ (.head _)))))))))))))))))))))))))))))))))))))))))))))))))))))))))))))))))))))))))))))))))))))))))))))))))))))) (q_sc (.tail _ (.tail _ (.tail _ (.tail _ (.tail _ (.tail _ (.tail _ (.tail _ (.tail _ (.tail _ (.tail _ (.tail _ (.tail _ (.tail _ (.tail _ (.tail _ (.tail _ (.tail _ (.tail _ (.tail _ (.tail _ (.tail _ (.tail _ (.tail _ (.tail _ (.tail _ (.tail _ (.tail _ (.tail _ (.tail _ (.tail _ (.tail _ (.tail _ (.tail _ (.tail _ (.tail _ (.tail _ (.tail _ (.tail _ (.tail _ (.tail _ (.tail _ (.tail _ (.tail _ (.tail _ (.tail _ (.tail _ (.tail _ (.tail _ (.tail _ (.tail _ (.tail _ (.tail _ (.tail _ (.tail _ (.tail _ (.tail _ (.tail _ (.tail _ (.tail _ (.tail _ (.tail _ (.tail _ (.tail _ (.tail _ (.tail _ (.tail _ (.tail _ (.tail _ (.tail _ (.tail _ (.tail _ (.tail _ (.tail _ (.tail _ (.tail _ (.tail _ (.tail _ (.tail _ (.tail _ (.tail _ (.tail _ (.tail _ (.tail _ (.tail _ (.tail _ (.tail _ (.tail _ (.tail _ (.tail _ (.tail _ (.tail _ (.tail _ (.tail _ (.tail _ (.tail _ (.tail _ (.tail _ (.tail _ (.tail _ (.tail _ (.tail _ (.head _))))))))))))))))))))))))))))))))))))))))))))))))))))))))))))))))))))))))))))))))))))))))))))))))))))))) (fun _ h => absurd h List.not_mem_nil)))
  have hn101 : u426[102]? = some (q427, .inl (g 0, 68, .inl (fun _ => 0))) := hq429
  replace hN : u426.length = 103 := hN
  have ho430 := hn4
  refine q_aast (t := 4) (ci := 2) (i9 := 7) C0 V hn4 rfl hn100 rfl (by decide) (by decide) d_1_1_232 (fun H locs w431 hu432 hn4 V => ?_)
  replace hn4 : w431[5]? = some (q25, .inl (g 4, 10, .inr (.inr (.inr (.inr (va_up (va_up (va_up (va_up (va_up (va_up (va_up (va_up (fun _ => none) 0 (some q232)) 1 (some q259)) 2 (some q286)) 3 (some q313)) 4 (some q340)) 5 (some q367)) 6 (some q394)) 7 (some q421))))))) := hn4
  replace hN : w431.length = 103 := (q_len1 hu432 hn4 ho430).trans hN
  replace hO0 := (hu432 _ (q_pd 0 5 rfl)).trans hO0
  replace hn0 := (hu432 _ (q_pd 1 5 rfl)).trans hn0
  replace hn1 := (hu432 _ (q_pd 2 5 rfl)).trans hn1
  replace hn2 := (hu432 _ (q_pd 3 5 rfl)).trans hn2
  replace hn3 := (hu432 _ (q_pd 4 5 rfl)).trans hn3
  replace hn5 := (hu432 _ (q_pd 6 5 rfl)).trans hn5
  replace hn6 := (hu432 _ (q_pd 7 5 rfl)).trans hn6
  replace hn7 := (hu432 _ (q_pd 8 5 rfl)).trans hn7
  replace hn8 := (hu432 _ (q_pd 9 5 rfl)).trans hn8
  replace hn9 := (hu432 _ (q_pd 10 5 rfl)).trans hn9
  replace hn10 := (hu432 _ (q_pd 11 5 rfl)).trans hn10
  replace hn11 := (hu432 _ (q_pd 12 5 rfl)).trans hn11
  replace hn12 := (hu432 _ (q_pd 13 5 rfl)).trans hn12
  replace hn13 := (hu432 _ (q_pd 14 5 rfl)).trans hn13
  replace hn14 := (hu432 _ (q_pd 15 5 rfl)).trans hn14
  replace hn15 := (hu432 _ (q_pd 16 5 rfl)).trans hn15
  replace hn16 := (hu432 _ (q_pd 17 5 rfl)).trans hn16
  replace hn17 := (hu432 _ (q_pd 18 5 rfl)).trans hn17
  replace hn18 := (hu432 _ (q_pd 19 5 rfl)).trans hn18
  replace hn19 := (hu432 _ (q_pd 20 5 rfl)).trans hn19
  replace hn20 := (hu432 _ (q_pd 21 5 rfl)).trans hn20
  replace hn21 := (hu432 _ (q_pd 22 5 rfl)).trans hn21
  replace hn22 := (hu432 _ (q_pd 23 5 rfl)).trans hn22
  replace hn23 := (hu432 _ (q_pd 24 5 rfl)).trans hn23
  replace hn24 := (hu432 _ (q_pd 25 5 rfl)).trans hn24
  replace hn25 := (hu432 _ (q_pd 26 5 rfl)).trans hn25
  replace hn26 := (hu432 _ (q_pd 27 5 rfl)).trans hn26
  replace hn27 := (hu432 _ (q_pd 28 5 rfl)).trans hn27
  replace hn28 := (hu432 _ (q_pd 29 5 rfl)).trans hn28
  replace hn29 := (hu432 _ (q_pd 30 5 rfl)).trans hn29
  replace hn30 := (hu432 _ (q_pd 31 5 rfl)).trans hn30
  replace hn31 := (hu432 _ (q_pd 32 5 rfl)).trans hn31
  replace hn32 := (hu432 _ (q_pd 33 5 rfl)).trans hn32
  replace hn33 := (hu432 _ (q_pd 34 5 rfl)).trans hn33
  replace hn34 := (hu432 _ (q_pd 35 5 rfl)).trans hn34
  replace hn35 := (hu432 _ (q_pd 36 5 rfl)).trans hn35
  replace hn36 := (hu432 _ (q_pd 37 5 rfl)).trans hn36
  replace hn37 := (hu432 _ (q_pd 38 5 rfl)).trans hn37
  replace hn38 := (hu432 _ (q_pd 39 5 rfl)).trans hn38
  replace hn39 := (hu432 _ (q_pd 40 5 rfl)).trans hn39
  replace hn40 := (hu432 _ (q_pd 41 5 rfl)).trans hn40
  replace hn41 := (hu432 _ (q_pd 42 5 rfl)).trans hn41
  replace hn42 := (hu432 _ (q_pd 43 5 rfl)).trans hn42
  replace hn43 := (hu432 _ (q_pd 44 5 rfl)).trans hn43
  replace hn44 := (hu432 _ (q_pd 45 5 rfl)).trans hn44
  replace hn45 := (hu432 _ (q_pd 46 5 rfl)).trans hn45
  replace hn46 := (hu432 _ (q_pd 47 5 rfl)).trans hn46
  replace hn47 := (hu432 _ (q_pd 48 5 rfl)).trans hn47
  replace hn48 := (hu432 _ (q_pd 49 5 rfl)).trans hn48
  replace hn49 := (hu432 _ (q_pd 50 5 rfl)).trans hn49
  replace hn50 := (hu432 _ (q_pd 51 5 rfl)).trans hn50
  replace hn51 := (hu432 _ (q_pd 52 5 rfl)).trans hn51
  replace hn52 := (hu432 _ (q_pd 53 5 rfl)).trans hn52
  replace hn53 := (hu432 _ (q_pd 54 5 rfl)).trans hn53
  replace hn54 := (hu432 _ (q_pd 55 5 rfl)).trans hn54
  replace hn55 := (hu432 _ (q_pd 56 5 rfl)).trans hn55
  replace hn56 := (hu432 _ (q_pd 57 5 rfl)).trans hn56
  replace hn57 := (hu432 _ (q_pd 58 5 rfl)).trans hn57
  replace hn58 := (hu432 _ (q_pd 59 5 rfl)).trans hn58
  replace hn59 := (hu432 _ (q_pd 60 5 rfl)).trans hn59
  replace hn60 := (hu432 _ (q_pd 61 5 rfl)).trans hn60
  replace hn61 := (hu432 _ (q_pd 62 5 rfl)).trans hn61
  replace hn62 := (hu432 _ (q_pd 63 5 rfl)).trans hn62
  replace hn63 := (hu432 _ (q_pd 64 5 rfl)).trans hn63
  replace hn64 := (hu432 _ (q_pd 65 5 rfl)).trans hn64
  replace hn65 := (hu432 _ (q_pd 66 5 rfl)).trans hn65
  replace hn66 := (hu432 _ (q_pd 67 5 rfl)).trans hn66
  replace hn67 := (hu432 _ (q_pd 68 5 rfl)).trans hn67
  replace hn68 := (hu432 _ (q_pd 69 5 rfl)).trans hn68
  replace hn69 := (hu432 _ (q_pd 70 5 rfl)).trans hn69
  replace hn70 := (hu432 _ (q_pd 71 5 rfl)).trans hn70
  replace hn71 := (hu432 _ (q_pd 72 5 rfl)).trans hn71
  replace hn72 := (hu432 _ (q_pd 73 5 rfl)).trans hn72
  replace hn73 := (hu432 _ (q_pd 74 5 rfl)).trans hn73
  replace hn74 := (hu432 _ (q_pd 75 5 rfl)).trans hn74
  replace hn75 := (hu432 _ (q_pd 76 5 rfl)).trans hn75
  replace hn76 := (hu432 _ (q_pd 77 5 rfl)).trans hn76
  replace hn77 := (hu432 _ (q_pd 78 5 rfl)).trans hn77
  replace hn78 := (hu432 _ (q_pd 79 5 rfl)).trans hn78
  replace hn79 := (hu432 _ (q_pd 80 5 rfl)).trans hn79
  replace hn80 := (hu432 _ (q_pd 81 5 rfl)).trans hn80
  replace hn81 := (hu432 _ (q_pd 82 5 rfl)).trans hn81
  replace hn82 := (hu432 _ (q_pd 83 5 rfl)).trans hn82
  replace hn83 := (hu432 _ (q_pd 84 5 rfl)).trans hn83
  replace hn84 := (hu432 _ (q_pd 85 5 rfl)).trans hn84
  replace hn85 := (hu432 _ (q_pd 86 5 rfl)).trans hn85
  replace hn86 := (hu432 _ (q_pd 87 5 rfl)).trans hn86
  replace hn87 := (hu432 _ (q_pd 88 5 rfl)).trans hn87
  replace hn88 := (hu432 _ (q_pd 89 5 rfl)).trans hn88
  replace hn89 := (hu432 _ (q_pd 90 5 rfl)).trans hn89
  replace hn90 := (hu432 _ (q_pd 91 5 rfl)).trans hn90
  replace hn91 := (hu432 _ (q_pd 92 5 rfl)).trans hn91
  replace hn92 := (hu432 _ (q_pd 93 5 rfl)).trans hn92
  replace hn93 := (hu432 _ (q_pd 94 5 rfl)).trans hn93
  replace hn94 := (hu432 _ (q_pd 95 5 rfl)).trans hn94
  replace hn95 := (hu432 _ (q_pd 96 5 rfl)).trans hn95
  replace hn96 := (hu432 _ (q_pd 97 5 rfl)).trans hn96
  replace hn97 := (hu432 _ (q_pd 98 5 rfl)).trans hn97
  replace hn98 := (hu432 _ (q_pd 99 5 rfl)).trans hn98
  replace hn99 := (hu432 _ (q_pd 100 5 rfl)).trans hn99
  replace hn100 := (hu432 _ (q_pd 101 5 rfl)).trans hn100
  replace hn101 := (hu432 _ (q_pd 102 5 rfl)).trans hn101
  replace hF := q_us hF hu432 (.tail _ (.tail _ (.tail _ (.tail _ (.tail _ (.head _))))))
  refine lv_aload_n hx hb d_1_1_233 rfl (lv_at hl 1 rfl) ?_
  refine q_get (ci := 0) (j := 3) (v := .ref q32) C0 V i_NH rfl rfl hO0 (by decide) w_427 rfl d_1_1_234 ?_
  refine lv_iload_n hx hb d_1_1_237 rfl (lv_at hl 0 rfl) ?_
  refine q_new (ci := 3) (fs := [.null, .int 0, .int 0]) C0 V hN i_Dec o_Dec rfl w_70 w_163 w_6 rfl (fun j hj => by rcases (show j = 0 ∨ j = 1 ∨ j = 2 by omega) with rfl | rfl | rfl <;> rfl) (Nat.le_of_ble_eq_true rfl) (Nat.le_of_ble_eq_true rfl) d_1_1_238 (fun q433 H w434 hu435 hn436 hN V => ?_)
  have hn102 : w434[103]? = some (q433, .inr (3, [.null, .int 0, .int 0])) := hn436
  replace hO0 := (hu435 _ (q_pd 0 103 rfl)).trans hO0
  replace hn0 := (hu435 _ (q_pd 1 103 rfl)).trans hn0
  replace hn1 := (hu435 _ (q_pd 2 103 rfl)).trans hn1
  replace hn2 := (hu435 _ (q_pd 3 103 rfl)).trans hn2
  replace hn3 := (hu435 _ (q_pd 4 103 rfl)).trans hn3
  replace hn4 := (hu435 _ (q_pd 5 103 rfl)).trans hn4
  replace hn5 := (hu435 _ (q_pd 6 103 rfl)).trans hn5
  replace hn6 := (hu435 _ (q_pd 7 103 rfl)).trans hn6
  replace hn7 := (hu435 _ (q_pd 8 103 rfl)).trans hn7
  replace hn8 := (hu435 _ (q_pd 9 103 rfl)).trans hn8
  replace hn9 := (hu435 _ (q_pd 10 103 rfl)).trans hn9
  replace hn10 := (hu435 _ (q_pd 11 103 rfl)).trans hn10
  replace hn11 := (hu435 _ (q_pd 12 103 rfl)).trans hn11
  replace hn12 := (hu435 _ (q_pd 13 103 rfl)).trans hn12
  replace hn13 := (hu435 _ (q_pd 14 103 rfl)).trans hn13
  replace hn14 := (hu435 _ (q_pd 15 103 rfl)).trans hn14
  replace hn15 := (hu435 _ (q_pd 16 103 rfl)).trans hn15
  replace hn16 := (hu435 _ (q_pd 17 103 rfl)).trans hn16
  replace hn17 := (hu435 _ (q_pd 18 103 rfl)).trans hn17
  replace hn18 := (hu435 _ (q_pd 19 103 rfl)).trans hn18
  replace hn19 := (hu435 _ (q_pd 20 103 rfl)).trans hn19
  replace hn20 := (hu435 _ (q_pd 21 103 rfl)).trans hn20
  replace hn21 := (hu435 _ (q_pd 22 103 rfl)).trans hn21
  replace hn22 := (hu435 _ (q_pd 23 103 rfl)).trans hn22
  replace hn23 := (hu435 _ (q_pd 24 103 rfl)).trans hn23
  replace hn24 := (hu435 _ (q_pd 25 103 rfl)).trans hn24
  replace hn25 := (hu435 _ (q_pd 26 103 rfl)).trans hn25
  replace hn26 := (hu435 _ (q_pd 27 103 rfl)).trans hn26
  replace hn27 := (hu435 _ (q_pd 28 103 rfl)).trans hn27
  replace hn28 := (hu435 _ (q_pd 29 103 rfl)).trans hn28
  replace hn29 := (hu435 _ (q_pd 30 103 rfl)).trans hn29
  replace hn30 := (hu435 _ (q_pd 31 103 rfl)).trans hn30
  replace hn31 := (hu435 _ (q_pd 32 103 rfl)).trans hn31
  replace hn32 := (hu435 _ (q_pd 33 103 rfl)).trans hn32
  replace hn33 := (hu435 _ (q_pd 34 103 rfl)).trans hn33
  replace hn34 := (hu435 _ (q_pd 35 103 rfl)).trans hn34
  replace hn35 := (hu435 _ (q_pd 36 103 rfl)).trans hn35
  replace hn36 := (hu435 _ (q_pd 37 103 rfl)).trans hn36
  replace hn37 := (hu435 _ (q_pd 38 103 rfl)).trans hn37
  replace hn38 := (hu435 _ (q_pd 39 103 rfl)).trans hn38
  replace hn39 := (hu435 _ (q_pd 40 103 rfl)).trans hn39
  replace hn40 := (hu435 _ (q_pd 41 103 rfl)).trans hn40
  replace hn41 := (hu435 _ (q_pd 42 103 rfl)).trans hn41
  replace hn42 := (hu435 _ (q_pd 43 103 rfl)).trans hn42
  replace hn43 := (hu435 _ (q_pd 44 103 rfl)).trans hn43
  replace hn44 := (hu435 _ (q_pd 45 103 rfl)).trans hn44
  replace hn45 := (hu435 _ (q_pd 46 103 rfl)).trans hn45
  replace hn46 := (hu435 _ (q_pd 47 103 rfl)).trans hn46
  replace hn47 := (hu435 _ (q_pd 48 103 rfl)).trans hn47
  replace hn48 := (hu435 _ (q_pd 49 103 rfl)).trans hn48
  replace hn49 := (hu435 _ (q_pd 50 103 rfl)).trans hn49
  replace hn50 := (hu435 _ (q_pd 51 103 rfl)).trans hn50
  replace hn51 := (hu435 _ (q_pd 52 103 rfl)).trans hn51
  replace hn52 := (hu435 _ (q_pd 53 103 rfl)).trans hn52
  replace hn53 := (hu435 _ (q_pd 54 103 rfl)).trans hn53
  replace hn54 := (hu435 _ (q_pd 55 103 rfl)).trans hn54
  replace hn55 := (hu435 _ (q_pd 56 103 rfl)).trans hn55
  replace hn56 := (hu435 _ (q_pd 57 103 rfl)).trans hn56
  replace hn57 := (hu435 _ (q_pd 58 103 rfl)).trans hn57
  replace hn58 := (hu435 _ (q_pd 59 103 rfl)).trans hn58
  replace hn59 := (hu435 _ (q_pd 60 103 rfl)).trans hn59
  replace hn60 := (hu435 _ (q_pd 61 103 rfl)).trans hn60
  replace hn61 := (hu435 _ (q_pd 62 103 rfl)).trans hn61
  replace hn62 := (hu435 _ (q_pd 63 103 rfl)).trans hn62
  replace hn63 := (hu435 _ (q_pd 64 103 rfl)).trans hn63
  replace hn64 := (hu435 _ (q_pd 65 103 rfl)).trans hn64
  replace hn65 := (hu435 _ (q_pd 66 103 rfl)).trans hn65
  replace hn66 := (hu435 _ (q_pd 67 103 rfl)).trans hn66
  replace hn67 := (hu435 _ (q_pd 68 103 rfl)).trans hn67
  replace hn68 := (hu435 _ (q_pd 69 103 rfl)).trans hn68
  replace hn69 := (hu435 _ (q_pd 70 103 rfl)).trans hn69
  replace hn70 := (hu435 _ (q_pd 71 103 rfl)).trans hn70
  replace hn71 := (hu435 _ (q_pd 72 103 rfl)).trans hn71
  replace hn72 := (hu435 _ (q_pd 73 103 rfl)).trans hn72
  replace hn73 := (hu435 _ (q_pd 74 103 rfl)).trans hn73
  replace hn74 := (hu435 _ (q_pd 75 103 rfl)).trans hn74
  replace hn75 := (hu435 _ (q_pd 76 103 rfl)).trans hn75
  replace hn76 := (hu435 _ (q_pd 77 103 rfl)).trans hn76
  replace hn77 := (hu435 _ (q_pd 78 103 rfl)).trans hn77
  replace hn78 := (hu435 _ (q_pd 79 103 rfl)).trans hn78
  replace hn79 := (hu435 _ (q_pd 80 103 rfl)).trans hn79
  replace hn80 := (hu435 _ (q_pd 81 103 rfl)).trans hn80
  replace hn81 := (hu435 _ (q_pd 82 103 rfl)).trans hn81
  replace hn82 := (hu435 _ (q_pd 83 103 rfl)).trans hn82
  replace hn83 := (hu435 _ (q_pd 84 103 rfl)).trans hn83
  replace hn84 := (hu435 _ (q_pd 85 103 rfl)).trans hn84
  replace hn85 := (hu435 _ (q_pd 86 103 rfl)).trans hn85
  replace hn86 := (hu435 _ (q_pd 87 103 rfl)).trans hn86
  replace hn87 := (hu435 _ (q_pd 88 103 rfl)).trans hn87
  replace hn88 := (hu435 _ (q_pd 89 103 rfl)).trans hn88
  replace hn89 := (hu435 _ (q_pd 90 103 rfl)).trans hn89
  replace hn90 := (hu435 _ (q_pd 91 103 rfl)).trans hn90
  replace hn91 := (hu435 _ (q_pd 92 103 rfl)).trans hn91
  replace hn92 := (hu435 _ (q_pd 93 103 rfl)).trans hn92
  replace hn93 := (hu435 _ (q_pd 94 103 rfl)).trans hn93
  replace hn94 := (hu435 _ (q_pd 95 103 rfl)).trans hn94
  replace hn95 := (hu435 _ (q_pd 96 103 rfl)).trans hn95
  replace hn96 := (hu435 _ (q_pd 97 103 rfl)).trans hn96
  replace hn97 := (hu435 _ (q_pd 98 103 rfl)).trans hn97
  replace hn98 := (hu435 _ (q_pd 99 103 rfl)).trans hn98
  replace hn99 := (hu435 _ (q_pd 100 103 rfl)).trans hn99
  replace hn100 := (hu435 _ (q_pd 101 103 rfl)).trans hn100
  replace hn101 := (hu435 _ (q_pd 102 103 rfl)).trans hn101
  replace hF := q_us hF hu435 (.tail _ (.tail _ (.tail _ (.tail _ (.tail _ (.tail _ (.tail _ (.tail _ (.tail _ (.tail _ (.tail _ (.tail _ (.tail _ (.tail _ (.tail _ (.tail _ (.tail _ (.tail _ (.tail _ (.tail _ (.tail _ (.tail _ (.tail _ (.tail _ (.tail _ (.tail _ (.tail _ (.tail _ (.tail _ (.tail _ (.tail _ (.tail _ (.tail _ (.tail _ (.tail _ (.tail _ (.tail _ (.tail _ (.tail _ (.tail _ (.tail _ (.tail _ (.tail _ (.tail _ (.tail _ (.tail _ (.tail _ (.tail _ (.tail _ (.tail _ (.tail _ (.tail _ (.tail _ (.tail _ (.tail _ (.tail _ (.tail _ (.tail _ (.tail _ (.tail _ (.tail _ (.tail _ (.tail _ (.tail _ (.tail _ (.tail _ (.tail _ (.tail _ (.tail _ (.tail _ (.tail _ (.tail _ (.tail _ (.tail _ (.tail _ (.tail _ (.tail _ (.tail _ (.tail _ (.tail _ (.tail _ (.tail _ (.tail _ (.tail _ (.tail _ (.tail _ (.tail _ (.tail _ (.tail _ (.tail _ (.tail _ (.tail _ (.tail _ (.tail _ (.tail _ (.tail _ (.tail _ (.tail _ (.tail _ (.tail _ (.tail _ (.tail _ (.tail _ (.head _))))))))))))))))))))))))))))))))))))))))))))))))))))))))))))))))))))))))))))))))))))))))))))))))))))))))
  replace hN : w434.length = 104 := hN
  refine lv_dup hx hb d_1_1_241 rfl ?_
  refine lv_bipush (v := 108) hx hb d_1_1_242 (by decide) ?_
  refine q_gov V (q_runI (As := [.int 108]) (rest := [.ref q433, .int 7, .ref q32]) (d := 3) (mc := 2) (ms := 111) C0 V rfl LI_NH_103 (c_Dec_init l D g w434 103 q433 104 hN hn102 _) rfl hl.1 rfl (Nat.le_of_ble_eq_true rfl) ⟨by decide, by decide⟩ ⟨Nat.le_of_ble_eq_true rfl, Nat.le_of_ble_eq_true rfl⟩ d_1_1_244) (fun u438 H locs hp437 V => ?_)
  obtain ⟨q439, q440, hg441, hn102, hq442, hq443, hN⟩ := hp437
  replace hO0 := (hg441 _ (q_nc (q_pd 0 103 rfl) (q_nc (q_pd 0 104 rfl) (q_nc (q_pd 0 105 rfl) List.not_mem_nil)))).trans hO0
  replace hn0 := (hg441 _ (q_nc (q_pd 1 103 rfl) (q_nc (q_pd 1 104 rfl) (q_nc (q_pd 1 105 rfl) List.not_mem_nil)))).trans hn0
  replace hn1 := (hg441 _ (q_nc (q_pd 2 103 rfl) (q_nc (q_pd 2 104 rfl) (q_nc (q_pd 2 105 rfl) List.not_mem_nil)))).trans hn1
  replace hn2 := (hg441 _ (q_nc (q_pd 3 103 rfl) (q_nc (q_pd 3 104 rfl) (q_nc (q_pd 3 105 rfl) List.not_mem_nil)))).trans hn2
  replace hn3 := (hg441 _ (q_nc (q_pd 4 103 rfl) (q_nc (q_pd 4 104 rfl) (q_nc (q_pd 4 105 rfl) List.not_mem_nil)))).trans hn3
  replace hn4 := (hg441 _ (q_nc (q_pd 5 103 rfl) (q_nc (q_pd 5 104 rfl) (q_nc (q_pd 5 105 rfl) List.not_mem_nil)))).trans hn4
  replace hn5 := (hg441 _ (q_nc (q_pd 6 103 rfl) (q_nc (q_pd 6 104 rfl) (q_nc (q_pd 6 105 rfl) List.not_mem_nil)))).trans hn5
  replace hn6 := (hg441 _ (q_nc (q_pd 7 103 rfl) (q_nc (q_pd 7 104 rfl) (q_nc (q_pd 7 105 rfl) List.not_mem_nil)))).trans hn6
  replace hn7 := (hg441 _ (q_nc (q_pd 8 103 rfl) (q_nc (q_pd 8 104 rfl) (q_nc (q_pd 8 105 rfl) List.not_mem_nil)))).trans hn7
  replace hn8 := (hg441 _ (q_nc (q_pd 9 103 rfl) (q_nc (q_pd 9 104 rfl) (q_nc (q_pd 9 105 rfl) List.not_mem_nil)))).trans hn8
  replace hn9 := (hg441 _ (q_nc (q_pd 10 103 rfl) (q_nc (q_pd 10 104 rfl) (q_nc (q_pd 10 105 rfl) List.not_mem_nil)))).trans hn9
  replace hn10 := (hg441 _ (q_nc (q_pd 11 103 rfl) (q_nc (q_pd 11 104 rfl) (q_nc (q_pd 11 105 rfl) List.not_mem_nil)))).trans hn10
  replace hn11 := (hg441 _ (q_nc (q_pd 12 103 rfl) (q_nc (q_pd 12 104 rfl) (q_nc (q_pd 12 105 rfl) List.not_mem_nil)))).trans hn11
  replace hn12 := (hg441 _ (q_nc (q_pd 13 103 rfl) (q_nc (q_pd 13 104 rfl) (q_nc (q_pd 13 105 rfl) List.not_mem_nil)))).trans hn12
  replace hn13 := (hg441 _ (q_nc (q_pd 14 103 rfl) (q_nc (q_pd 14 104 rfl) (q_nc (q_pd 14 105 rfl) List.not_mem_nil)))).trans hn13
  replace hn14 := (hg441 _ (q_nc (q_pd 15 103 rfl) (q_nc (q_pd 15 104 rfl) (q_nc (q_pd 15 105 rfl) List.not_mem_nil)))).trans hn14
  replace hn15 := (hg441 _ (q_nc (q_pd 16 103 rfl) (q_nc (q_pd 16 104 rfl) (q_nc (q_pd 16 105 rfl) List.not_mem_nil)))).trans hn15
  replace hn16 := (hg441 _ (q_nc (q_pd 17 103 rfl) (q_nc (q_pd 17 104 rfl) (q_nc (q_pd 17 105 rfl) List.not_mem_nil)))).trans hn16
  replace hn17 := (hg441 _ (q_nc (q_pd 18 103 rfl) (q_nc (q_pd 18 104 rfl) (q_nc (q_pd 18 105 rfl) List.not_mem_nil)))).trans hn17
  replace hn18 := (hg441 _ (q_nc (q_pd 19 103 rfl) (q_nc (q_pd 19 104 rfl) (q_nc (q_pd 19 105 rfl) List.not_mem_nil)))).trans hn18
  replace hn19 := (hg441 _ (q_nc (q_pd 20 103 rfl) (q_nc (q_pd 20 104 rfl) (q_nc (q_pd 20 105 rfl) List.not_mem_nil)))).trans hn19
  replace hn20 := (hg441 _ (q_nc (q_pd 21 103 rfl) (q_nc (q_pd 21 104 rfl) (q_nc (q_pd 21 105 rfl) List.not_mem_nil)))).trans hn20
  replace hn21 := (hg441 _ (q_nc (q_pd 22 103 rfl) (q_nc (q_pd 22 104 rfl) (q_nc (q_pd 22 105 rfl) List.not_mem_nil)))).trans hn21
  replace hn22 := (hg441 _ (q_nc (q_pd 23 103 rfl) (q_nc (q_pd 23 104 rfl) (q_nc (q_pd 23 105 rfl) List.not_mem_nil)))).trans hn22
  replace hn23 := (hg441 _ (q_nc (q_pd 24 103 rfl) (q_nc (q_pd 24 104 rfl) (q_nc (q_pd 24 105 rfl) List.not_mem_nil)))).trans hn23
  replace hn24 := (hg441 _ (q_nc (q_pd 25 103 rfl) (q_nc (q_pd 25 104 rfl) (q_nc (q_pd 25 105 rfl) List.not_mem_nil)))).trans hn24
  replace hn25 := (hg441 _ (q_nc (q_pd 26 103 rfl) (q_nc (q_pd 26 104 rfl) (q_nc (q_pd 26 105 rfl) List.not_mem_nil)))).trans hn25
  replace hn26 := (hg441 _ (q_nc (q_pd 27 103 rfl) (q_nc (q_pd 27 104 rfl) (q_nc (q_pd 27 105 rfl) List.not_mem_nil)))).trans hn26
  replace hn27 := (hg441 _ (q_nc (q_pd 28 103 rfl) (q_nc (q_pd 28 104 rfl) (q_nc (q_pd 28 105 rfl) List.not_mem_nil)))).trans hn27
  replace hn28 := (hg441 _ (q_nc (q_pd 29 103 rfl) (q_nc (q_pd 29 104 rfl) (q_nc (q_pd 29 105 rfl) List.not_mem_nil)))).trans hn28
  replace hn29 := (hg441 _ (q_nc (q_pd 30 103 rfl) (q_nc (q_pd 30 104 rfl) (q_nc (q_pd 30 105 rfl) List.not_mem_nil)))).trans hn29
  replace hn30 := (hg441 _ (q_nc (q_pd 31 103 rfl) (q_nc (q_pd 31 104 rfl) (q_nc (q_pd 31 105 rfl) List.not_mem_nil)))).trans hn30
  replace hn31 := (hg441 _ (q_nc (q_pd 32 103 rfl) (q_nc (q_pd 32 104 rfl) (q_nc (q_pd 32 105 rfl) List.not_mem_nil)))).trans hn31
  replace hn32 := (hg441 _ (q_nc (q_pd 33 103 rfl) (q_nc (q_pd 33 104 rfl) (q_nc (q_pd 33 105 rfl) List.not_mem_nil)))).trans hn32
  replace hn33 := (hg441 _ (q_nc (q_pd 34 103 rfl) (q_nc (q_pd 34 104 rfl) (q_nc (q_pd 34 105 rfl) List.not_mem_nil)))).trans hn33
  replace hn34 := (hg441 _ (q_nc (q_pd 35 103 rfl) (q_nc (q_pd 35 104 rfl) (q_nc (q_pd 35 105 rfl) List.not_mem_nil)))).trans hn34
  replace hn35 := (hg441 _ (q_nc (q_pd 36 103 rfl) (q_nc (q_pd 36 104 rfl) (q_nc (q_pd 36 105 rfl) List.not_mem_nil)))).trans hn35
  replace hn36 := (hg441 _ (q_nc (q_pd 37 103 rfl) (q_nc (q_pd 37 104 rfl) (q_nc (q_pd 37 105 rfl) List.not_mem_nil)))).trans hn36
  replace hn37 := (hg441 _ (q_nc (q_pd 38 103 rfl) (q_nc (q_pd 38 104 rfl) (q_nc (q_pd 38 105 rfl) List.not_mem_nil)))).trans hn37
  replace hn38 := (hg441 _ (q_nc (q_pd 39 103 rfl) (q_nc (q_pd 39 104 rfl) (q_nc (q_pd 39 105 rfl) List.not_mem_nil)))).trans hn38
  replace hn39 := (hg441 _ (q_nc (q_pd 40 103 rfl) (q_nc (q_pd 40 104 rfl) (q_nc (q_pd 40 105 rfl) List.not_mem_nil)))).trans hn39
  replace hn40 := (hg441 _ (q_nc (q_pd 41 103 rfl) (q_nc (q_pd 41 104 rfl) (q_nc (q_pd 41 105 rfl) List.not_mem_nil)))).trans hn40
  replace hn41 := (hg441 _ (q_nc (q_pd 42 103 rfl) (q_nc (q_pd 42 104 rfl) (q_nc (q_pd 42 105 rfl) List.not_mem_nil)))).trans hn41
  replace hn42 := (hg441 _ (q_nc (q_pd 43 103 rfl) (q_nc (q_pd 43 104 rfl) (q_nc (q_pd 43 105 rfl) List.not_mem_nil)))).trans hn42
  replace hn43 := (hg441 _ (q_nc (q_pd 44 103 rfl) (q_nc (q_pd 44 104 rfl) (q_nc (q_pd 44 105 rfl) List.not_mem_nil)))).trans hn43
  replace hn44 := (hg441 _ (q_nc (q_pd 45 103 rfl) (q_nc (q_pd 45 104 rfl) (q_nc (q_pd 45 105 rfl) List.not_mem_nil)))).trans hn44
  replace hn45 := (hg441 _ (q_nc (q_pd 46 103 rfl) (q_nc (q_pd 46 104 rfl) (q_nc (q_pd 46 105 rfl) List.not_mem_nil)))).trans hn45
  replace hn46 := (hg441 _ (q_nc (q_pd 47 103 rfl) (q_nc (q_pd 47 104 rfl) (q_nc (q_pd 47 105 rfl) List.not_mem_nil)))).trans hn46
  replace hn47 := (hg441 _ (q_nc (q_pd 48 103 rfl) (q_nc (q_pd 48 104 rfl) (q_nc (q_pd 48 105 rfl) List.not_mem_nil)))).trans hn47
  replace hn48 := (hg441 _ (q_nc (q_pd 49 103 rfl) (q_nc (q_pd 49 104 rfl) (q_nc (q_pd 49 105 rfl) List.not_mem_nil)))).trans hn48
  replace hn49 := (hg441 _ (q_nc (q_pd 50 103 rfl) (q_nc (q_pd 50 104 rfl) (q_nc (q_pd 50 105 rfl) List.not_mem_nil)))).trans hn49
  replace hn50 := (hg441 _ (q_nc (q_pd 51 103 rfl) (q_nc (q_pd 51 104 rfl) (q_nc (q_pd 51 105 rfl) List.not_mem_nil)))).trans hn50
  replace hn51 := (hg441 _ (q_nc (q_pd 52 103 rfl) (q_nc (q_pd 52 104 rfl) (q_nc (q_pd 52 105 rfl) List.not_mem_nil)))).trans hn51
  replace hn52 := (hg441 _ (q_nc (q_pd 53 103 rfl) (q_nc (q_pd 53 104 rfl) (q_nc (q_pd 53 105 rfl) List.not_mem_nil)))).trans hn52
  replace hn53 := (hg441 _ (q_nc (q_pd 54 103 rfl) (q_nc (q_pd 54 104 rfl) (q_nc (q_pd 54 105 rfl) List.not_mem_nil)))).trans hn53
  replace hn54 := (hg441 _ (q_nc (q_pd 55 103 rfl) (q_nc (q_pd 55 104 rfl) (q_nc (q_pd 55 105 rfl) List.not_mem_nil)))).trans hn54
  replace hn55 := (hg441 _ (q_nc (q_pd 56 103 rfl) (q_nc (q_pd 56 104 rfl) (q_nc (q_pd 56 105 rfl) List.not_mem_nil)))).trans hn55
  replace hn56 := (hg441 _ (q_nc (q_pd 57 103 rfl) (q_nc (q_pd 57 104 rfl) (q_nc (q_pd 57 105 rfl) List.not_mem_nil)))).trans hn56
  replace hn57 := (hg441 _ (q_nc (q_pd 58 103 rfl) (q_nc (q_pd 58 104 rfl) (q_nc (q_pd 58 105 rfl) List.not_mem_nil)))).trans hn57
  replace hn58 := (hg441 _ (q_nc (q_pd 59 103 rfl) (q_nc (q_pd 59 104 rfl) (q_nc (q_pd 59 105 rfl) List.not_mem_nil)))).trans hn58
  replace hn59 := (hg441 _ (q_nc (q_pd 60 103 rfl) (q_nc (q_pd 60 104 rfl) (q_nc (q_pd 60 105 rfl) List.not_mem_nil)))).trans hn59
  replace hn60 := (hg441 _ (q_nc (q_pd 61 103 rfl) (q_nc (q_pd 61 104 rfl) (q_nc (q_pd 61 105 rfl) List.not_mem_nil)))).trans hn60
  replace hn61 := (hg441 _ (q_nc (q_pd 62 103 rfl) (q_nc (q_pd 62 104 rfl) (q_nc (q_pd 62 105 rfl) List.not_mem_nil)))).trans hn61
  replace hn62 := (hg441 _ (q_nc (q_pd 63 103 rfl) (q_nc (q_pd 63 104 rfl) (q_nc (q_pd 63 105 rfl) List.not_mem_nil)))).trans hn62
  replace hn63 := (hg441 _ (q_nc (q_pd 64 103 rfl) (q_nc (q_pd 64 104 rfl) (q_nc (q_pd 64 105 rfl) List.not_mem_nil)))).trans hn63
  replace hn64 := (hg441 _ (q_nc (q_pd 65 103 rfl) (q_nc (q_pd 65 104 rfl) (q_nc (q_pd 65 105 rfl) List.not_mem_nil)))).trans hn64
  replace hn65 := (hg441 _ (q_nc (q_pd 66 103 rfl) (q_nc (q_pd 66 104 rfl) (q_nc (q_pd 66 105 rfl) List.not_mem_nil)))).trans hn65
  replace hn66 := (hg441 _ (q_nc (q_pd 67 103 rfl) (q_nc (q_pd 67 104 rfl) (q_nc (q_pd 67 105 rfl) List.not_mem_nil)))).trans hn66
  replace hn67 := (hg441 _ (q_nc (q_pd 68 103 rfl) (q_nc (q_pd 68 104 rfl) (q_nc (q_pd 68 105 rfl) List.not_mem_nil)))).trans hn67
  replace hn68 := (hg441 _ (q_nc (q_pd 69 103 rfl) (q_nc (q_pd 69 104 rfl) (q_nc (q_pd 69 105 rfl) List.not_mem_nil)))).trans hn68
  replace hn69 := (hg441 _ (q_nc (q_pd 70 103 rfl) (q_nc (q_pd 70 104 rfl) (q_nc (q_pd 70 105 rfl) List.not_mem_nil)))).trans hn69
  replace hn70 := (hg441 _ (q_nc (q_pd 71 103 rfl) (q_nc (q_pd 71 104 rfl) (q_nc (q_pd 71 105 rfl) List.not_mem_nil)))).trans hn70
  replace hn71 := (hg441 _ (q_nc (q_pd 72 103 rfl) (q_nc (q_pd 72 104 rfl) (q_nc (q_pd 72 105 rfl) List.not_mem_nil)))).trans hn71
  replace hn72 := (hg441 _ (q_nc (q_pd 73 103 rfl) (q_nc (q_pd 73 104 rfl) (q_nc (q_pd 73 105 rfl) List.not_mem_nil)))).trans hn72
  replace hn73 := (hg441 _ (q_nc (q_pd 74 103 rfl) (q_nc (q_pd 74 104 rfl) (q_nc (q_pd 74 105 rfl) List.not_mem_nil)))).trans hn73
  replace hn74 := (hg441 _ (q_nc (q_pd 75 103 rfl) (q_nc (q_pd 75 104 rfl) (q_nc (q_pd 75 105 rfl) List.not_mem_nil)))).trans hn74
  replace hn75 := (hg441 _ (q_nc (q_pd 76 103 rfl) (q_nc (q_pd 76 104 rfl) (q_nc (q_pd 76 105 rfl) List.not_mem_nil)))).trans hn75
  replace hn76 := (hg441 _ (q_nc (q_pd 77 103 rfl) (q_nc (q_pd 77 104 rfl) (q_nc (q_pd 77 105 rfl) List.not_mem_nil)))).trans hn76
  replace hn77 := (hg441 _ (q_nc (q_pd 78 103 rfl) (q_nc (q_pd 78 104 rfl) (q_nc (q_pd 78 105 rfl) List.not_mem_nil)))).trans hn77
  replace hn78 := (hg441 _ (q_nc (q_pd 79 103 rfl) (q_nc (q_pd 79 104 rfl) (q_nc (q_pd 79 105 rfl) List.not_mem_nil)))).trans hn78
  replace hn79 := (hg441 _ (q_nc (q_pd 80 103 rfl) (q_nc (q_pd 80 104 rfl) (q_nc (q_pd 80 105 rfl) List.not_mem_nil)))).trans hn79
  replace hn80 := (hg441 _ (q_nc (q_pd 81 103 rfl) (q_nc (q_pd 81 104 rfl) (q_nc (q_pd 81 105 rfl) List.not_mem_nil)))).trans hn80
  replace hn81 := (hg441 _ (q_nc (q_pd 82 103 rfl) (q_nc (q_pd 82 104 rfl) (q_nc (q_pd 82 105 rfl) List.not_mem_nil)))).trans hn81
  replace hn82 := (hg441 _ (q_nc (q_pd 83 103 rfl) (q_nc (q_pd 83 104 rfl) (q_nc (q_pd 83 105 rfl) List.not_mem_nil)))).trans hn82
  replace hn83 := (hg441 _ (q_nc (q_pd 84 103 rfl) (q_nc (q_pd 84 104 rfl) (q_nc (q_pd 84 105 rfl) List.not_mem_nil)))).trans hn83
  replace hn84 := (hg441 _ (q_nc (q_pd 85 103 rfl) (q_nc (q_pd 85 104 rfl) (q_nc (q_pd 85 105 rfl) List.not_mem_nil)))).trans hn84
  replace hn85 := (hg441 _ (q_nc (q_pd 86 103 rfl) (q_nc (q_pd 86 104 rfl) (q_nc (q_pd 86 105 rfl) List.not_mem_nil)))).trans hn85
  replace hn86 := (hg441 _ (q_nc (q_pd 87 103 rfl) (q_nc (q_pd 87 104 rfl) (q_nc (q_pd 87 105 rfl) List.not_mem_nil)))).trans hn86
  replace hn87 := (hg441 _ (q_nc (q_pd 88 103 rfl) (q_nc (q_pd 88 104 rfl) (q_nc (q_pd 88 105 rfl) List.not_mem_nil)))).trans hn87
  replace hn88 := (hg441 _ (q_nc (q_pd 89 103 rfl) (q_nc (q_pd 89 104 rfl) (q_nc (q_pd 89 105 rfl) List.not_mem_nil)))).trans hn88
  replace hn89 := (hg441 _ (q_nc (q_pd 90 103 rfl) (q_nc (q_pd 90 104 rfl) (q_nc (q_pd 90 105 rfl) List.not_mem_nil)))).trans hn89
  replace hn90 := (hg441 _ (q_nc (q_pd 91 103 rfl) (q_nc (q_pd 91 104 rfl) (q_nc (q_pd 91 105 rfl) List.not_mem_nil)))).trans hn90
  replace hn91 := (hg441 _ (q_nc (q_pd 92 103 rfl) (q_nc (q_pd 92 104 rfl) (q_nc (q_pd 92 105 rfl) List.not_mem_nil)))).trans hn91
  replace hn92 := (hg441 _ (q_nc (q_pd 93 103 rfl) (q_nc (q_pd 93 104 rfl) (q_nc (q_pd 93 105 rfl) List.not_mem_nil)))).trans hn92
  replace hn93 := (hg441 _ (q_nc (q_pd 94 103 rfl) (q_nc (q_pd 94 104 rfl) (q_nc (q_pd 94 105 rfl) List.not_mem_nil)))).trans hn93
  replace hn94 := (hg441 _ (q_nc (q_pd 95 103 rfl) (q_nc (q_pd 95 104 rfl) (q_nc (q_pd 95 105 rfl) List.not_mem_nil)))).trans hn94
  replace hn95 := (hg441 _ (q_nc (q_pd 96 103 rfl) (q_nc (q_pd 96 104 rfl) (q_nc (q_pd 96 105 rfl) List.not_mem_nil)))).trans hn95
  replace hn96 := (hg441 _ (q_nc (q_pd 97 103 rfl) (q_nc (q_pd 97 104 rfl) (q_nc (q_pd 97 105 rfl) List.not_mem_nil)))).trans hn96
  replace hn97 := (hg441 _ (q_nc (q_pd 98 103 rfl) (q_nc (q_pd 98 104 rfl) (q_nc (q_pd 98 105 rfl) List.not_mem_nil)))).trans hn97
  replace hn98 := (hg441 _ (q_nc (q_pd 99 103 rfl) (q_nc (q_pd 99 104 rfl) (q_nc (q_pd 99 105 rfl) List.not_mem_nil)))).trans hn98
  replace hn99 := (hg441 _ (q_nc (q_pd 100 103 rfl) (q_nc (q_pd 100 104 rfl) (q_nc (q_pd 100 105 rfl) List.not_mem_nil)))).trans hn99
  replace hn100 := (hg441 _ (q_nc (q_pd 101 103 rfl) (q_nc (q_pd 101 104 rfl) (q_nc (q_pd 101 105 rfl) List.not_mem_nil)))).trans hn100
  replace hn101 := (hg441 _ (q_nc (q_pd 102 103 rfl) (q_nc (q_pd 102 104 rfl) (q_nc (q_pd 102 105 rfl) List.not_mem_nil)))).trans hn101
  replace hF := q_uc hF hg441 (q_sc (.tail _ (.tail _ (.tail _ (.tail _ (.tail _ (.tail _ (.tail _ (.tail _ (.tail _ (.tail _ (.tail _ (.tail _ (.tail _ (.tail _ (.tail _ (.tail _ (.tail _ (.tail _ (.tail _ (.tail _ (.tail _ (.tail _ (.tail _ (.tail _ (.tail _ (.tail _ (.tail _ (.tail _ (.tail _ (.tail _ (.tail _ (.tail _ (.tail _ (.tail _ (.tail _ (.tail _ (.tail _ (.tail _ (.tail _ (.tail _ (.tail _ (.tail _ (.tail _ (.tail _ (.tail _ (.tail _ (.tail _ (.tail _ (.tail _ (.tail _ (.tail _ (.tail _ (.tail _ (.tail _ (.tail _ (.tail _ (.tail _ (.tail _ (.tail _ (.tail _ (.tail _ (.tail _ (.tail _ (.tail _ (.tail _ (.tail _ (.tail _ (.tail _ (.tail _ (.tail _ (.tail _ (.tail _ (.tail _ (.tail _ (.tail _ (.tail _ (.tail _ (.tail _ (.tail _ (.tail _ (.tail _ (.tail _ (.tail _ (.tail _ (.tail _ (.tail _ (.tail _ (.tail _ (.tail _ (.tail _ (.tail _ (.tail _ (.tail _ (.tail _ (.tail _ (.tail _ (.tail _ (.tail _ (.tail _ (.tail _ (.tail _ (.tail _ (.tail _ (.head _)))))))))))))))))))))))))))))))))))))))))))))))))))))))))))))))))))))))))))))))))))))))))))))))))))))))) (q_sc (.tail _ (.tail _ (.tail _ (.tail _ (.tail _ (.tail _ (.tail _ (.tail _ (.tail _ (.tail _ (.tail _ (.tail _ (.tail _ (.tail _ (.tail _ (.tail _ (.tail _ (.tail _ (.tail _ (.tail _ (.tail _ (.tail _ (.tail _ (.tail _ (.tail _ (.tail _ (.tail _ (.tail _ (.tail _ (.tail _ (.tail _ (.tail _ (.tail _ (.tail _ (.tail _ (.tail _ (.tail _ (.tail _ (.tail _ (.tail _ (.tail _ (.tail _ (.tail _ (.tail _ (.tail _ (.tail _ (.tail _ (.tail _ (.tail _ (.tail _ (.tail _ (.tail _ (.tail _ (.tail _ (.tail _ (.tail _ (.tail _ (.tail _ (.tail _ (.tail _ (.tail _ (.tail _ (.tail _ (.tail _ (.tail _ (.tail _ (.tail _ (.tail _ (.tail _ (.tail _ (.tail _ (.tail _ (.tail _ (.tail _ (.tail _ (.tail _ (.tail _ (.tail _ (.tail _ (.tail _ (.tail _ (.tail _ (.tail _ (.tail _ (.tail _ (.tail _ (.tail _ (.tail _ (.tail _ (.tail _ (.tail _ (.tail _ (.tail _ (.tail _ (.tail _ (.tail _ (.tail _ (.tail _ (.tail _ (.tail _ (.tail _ (.tail _ (.tail _ (.tail _ (.head _))))))))))))))))))))))))))))))))))))))))))))))))))))))))))))))))))))))))))))))))))))))))))))))))))))))))) (q_sc (.tail _ (.tail _ (.tail _ (.tail _ (.tail _ (.tail _ (.tail _ (.tail _ (.tail _ (.tail _ (.tail _ (.tail _ (.tail _ (.tail _ (.tail _ (.tail _ (.tail _ (.tail _ (.tail _ (.tail _ (.tail _ (.tail _ (.tail _ (.tail _ (.tail _ (.tail _ (.tail _ (.tail _ (.tail _ (.tail _ (.tail _ (.tail _ (.tail _ (.tail _ (.tail _ (.tail _ (.tail _ (.tail _ (.tail _ (.tail _ (.tail _ (.tail _ (.tail _ (.tail _ (.tail _ (.tail _ (.tail _ (.tail _ (.tail _ (.tail _ (.tail _ (.tail _ (.tail _ (.tail _ (.tail _ (.tail _ (.tail _ (.tail _ (.tail _ (.tail _ (.tail _ (.tail _ (.tail _ (.tail _ (.tail _ (.tail _ (.tail _ (.tail _ (.tail _ (.tail _ (.tail _ (.tail _ (.tail _ (.tail _ (.tail _ (.tail _ (.tail _ (.tail _ (.tail _ (.tail _ (.tail _ (.tail _ (.tail _ (.tail _ (.tail _ (.tail _ (.tail _ (.tail _ (.tail _ (.tail _ (.tail _ (.tail _ (.tail _ (.tail _ (.tail _ (.tail _ (.tail _ (.tail _ (.tail _ (.tail _ (.tail _ (.tail _ (.tail _ (.tail _ (.tail _ (.head _)))))))))))))))))))))))))))))))))))))))))))))))))))))))))))))))))))))))))))))))))))))))))))))))))))))))))) (fun _ h => absurd h List.not_mem_nil))))
  have hn103 : u438[104]? = some (q439, .inr (2, [.ref q440, .int 0, .int 0])) := hq442
  have hn104 : u438[105]? = some (q440, .inl (g 0, 108, .inl (fun _ => 0))) := hq443
  replace hN : u438.length = 106 := hN
  have ho444 := hn5
  refine q_aast (t := 5) (ci := 3) (i9 := 7) C0 V hn5 rfl hn102 rfl (by decide) (by decide) d_1_1_247 (fun H locs w445 hu446 hn5 V => ?_)
  replace hn5 : w445[6]? = some (q32, .inl (g 5, 10, .inr (.inr (.inr (.inr (va_up (va_up (va_up (va_up (va_up (va_up (va_up (va_up (fun _ => none) 0 (some q244)) 1 (some q271)) 2 (some q298)) 3 (some q325)) 4 (some q352)) 5 (some q379)) 6 (some q406)) 7 (some q433))))))) := hn5
  replace hN : w445.length = 106 := (q_len1 hu446 hn5 ho444).trans hN
  replace hO0 := (hu446 _ (q_pd 0 6 rfl)).trans hO0
  replace hn0 := (hu446 _ (q_pd 1 6 rfl)).trans hn0
  replace hn1 := (hu446 _ (q_pd 2 6 rfl)).trans hn1
  replace hn2 := (hu446 _ (q_pd 3 6 rfl)).trans hn2
  replace hn3 := (hu446 _ (q_pd 4 6 rfl)).trans hn3
  replace hn4 := (hu446 _ (q_pd 5 6 rfl)).trans hn4
  replace hn6 := (hu446 _ (q_pd 7 6 rfl)).trans hn6
  replace hn7 := (hu446 _ (q_pd 8 6 rfl)).trans hn7
  replace hn8 := (hu446 _ (q_pd 9 6 rfl)).trans hn8
  replace hn9 := (hu446 _ (q_pd 10 6 rfl)).trans hn9
  replace hn10 := (hu446 _ (q_pd 11 6 rfl)).trans hn10
  replace hn11 := (hu446 _ (q_pd 12 6 rfl)).trans hn11
  replace hn12 := (hu446 _ (q_pd 13 6 rfl)).trans hn12
  replace hn13 := (hu446 _ (q_pd 14 6 rfl)).trans hn13
  replace hn14 := (hu446 _ (q_pd 15 6 rfl)).trans hn14
  replace hn15 := (hu446 _ (q_pd 16 6 rfl)).trans hn15
  replace hn16 := (hu446 _ (q_pd 17 6 rfl)).trans hn16
  replace hn17 := (hu446 _ (q_pd 18 6 rfl)).trans hn17
  replace hn18 := (hu446 _ (q_pd 19 6 rfl)).trans hn18
  replace hn19 := (hu446 _ (q_pd 20 6 rfl)).trans hn19
  replace hn20 := (hu446 _ (q_pd 21 6 rfl)).trans hn20
  replace hn21 := (hu446 _ (q_pd 22 6 rfl)).trans hn21
  replace hn22 := (hu446 _ (q_pd 23 6 rfl)).trans hn22
  replace hn23 := (hu446 _ (q_pd 24 6 rfl)).trans hn23
  replace hn24 := (hu446 _ (q_pd 25 6 rfl)).trans hn24
  replace hn25 := (hu446 _ (q_pd 26 6 rfl)).trans hn25
  replace hn26 := (hu446 _ (q_pd 27 6 rfl)).trans hn26
  replace hn27 := (hu446 _ (q_pd 28 6 rfl)).trans hn27
  replace hn28 := (hu446 _ (q_pd 29 6 rfl)).trans hn28
  replace hn29 := (hu446 _ (q_pd 30 6 rfl)).trans hn29
  replace hn30 := (hu446 _ (q_pd 31 6 rfl)).trans hn30
  replace hn31 := (hu446 _ (q_pd 32 6 rfl)).trans hn31
  replace hn32 := (hu446 _ (q_pd 33 6 rfl)).trans hn32
  replace hn33 := (hu446 _ (q_pd 34 6 rfl)).trans hn33
  replace hn34 := (hu446 _ (q_pd 35 6 rfl)).trans hn34
  replace hn35 := (hu446 _ (q_pd 36 6 rfl)).trans hn35
  replace hn36 := (hu446 _ (q_pd 37 6 rfl)).trans hn36
  replace hn37 := (hu446 _ (q_pd 38 6 rfl)).trans hn37
  replace hn38 := (hu446 _ (q_pd 39 6 rfl)).trans hn38
  replace hn39 := (hu446 _ (q_pd 40 6 rfl)).trans hn39
  replace hn40 := (hu446 _ (q_pd 41 6 rfl)).trans hn40
  replace hn41 := (hu446 _ (q_pd 42 6 rfl)).trans hn41
  replace hn42 := (hu446 _ (q_pd 43 6 rfl)).trans hn42
  replace hn43 := (hu446 _ (q_pd 44 6 rfl)).trans hn43
  replace hn44 := (hu446 _ (q_pd 45 6 rfl)).trans hn44
  replace hn45 := (hu446 _ (q_pd 46 6 rfl)).trans hn45
  replace hn46 := (hu446 _ (q_pd 47 6 rfl)).trans hn46
  replace hn47 := (hu446 _ (q_pd 48 6 rfl)).trans hn47
  replace hn48 := (hu446 _ (q_pd 49 6 rfl)).trans hn48
  replace hn49 := (hu446 _ (q_pd 50 6 rfl)).trans hn49
  replace hn50 := (hu446 _ (q_pd 51 6 rfl)).trans hn50
  replace hn51 := (hu446 _ (q_pd 52 6 rfl)).trans hn51
  replace hn52 := (hu446 _ (q_pd 53 6 rfl)).trans hn52
  replace hn53 := (hu446 _ (q_pd 54 6 rfl)).trans hn53
  replace hn54 := (hu446 _ (q_pd 55 6 rfl)).trans hn54
  replace hn55 := (hu446 _ (q_pd 56 6 rfl)).trans hn55
  replace hn56 := (hu446 _ (q_pd 57 6 rfl)).trans hn56
  replace hn57 := (hu446 _ (q_pd 58 6 rfl)).trans hn57
  replace hn58 := (hu446 _ (q_pd 59 6 rfl)).trans hn58
  replace hn59 := (hu446 _ (q_pd 60 6 rfl)).trans hn59
  replace hn60 := (hu446 _ (q_pd 61 6 rfl)).trans hn60
  replace hn61 := (hu446 _ (q_pd 62 6 rfl)).trans hn61
  replace hn62 := (hu446 _ (q_pd 63 6 rfl)).trans hn62
  replace hn63 := (hu446 _ (q_pd 64 6 rfl)).trans hn63
  replace hn64 := (hu446 _ (q_pd 65 6 rfl)).trans hn64
  replace hn65 := (hu446 _ (q_pd 66 6 rfl)).trans hn65
  replace hn66 := (hu446 _ (q_pd 67 6 rfl)).trans hn66
  replace hn67 := (hu446 _ (q_pd 68 6 rfl)).trans hn67
  replace hn68 := (hu446 _ (q_pd 69 6 rfl)).trans hn68
  replace hn69 := (hu446 _ (q_pd 70 6 rfl)).trans hn69
  replace hn70 := (hu446 _ (q_pd 71 6 rfl)).trans hn70
  replace hn71 := (hu446 _ (q_pd 72 6 rfl)).trans hn71
  replace hn72 := (hu446 _ (q_pd 73 6 rfl)).trans hn72
  replace hn73 := (hu446 _ (q_pd 74 6 rfl)).trans hn73
  replace hn74 := (hu446 _ (q_pd 75 6 rfl)).trans hn74
  replace hn75 := (hu446 _ (q_pd 76 6 rfl)).trans hn75
  replace hn76 := (hu446 _ (q_pd 77 6 rfl)).trans hn76
  replace hn77 := (hu446 _ (q_pd 78 6 rfl)).trans hn77
  replace hn78 := (hu446 _ (q_pd 79 6 rfl)).trans hn78
  replace hn79 := (hu446 _ (q_pd 80 6 rfl)).trans hn79
  replace hn80 := (hu446 _ (q_pd 81 6 rfl)).trans hn80
  replace hn81 := (hu446 _ (q_pd 82 6 rfl)).trans hn81
  replace hn82 := (hu446 _ (q_pd 83 6 rfl)).trans hn82
  replace hn83 := (hu446 _ (q_pd 84 6 rfl)).trans hn83
  replace hn84 := (hu446 _ (q_pd 85 6 rfl)).trans hn84
  replace hn85 := (hu446 _ (q_pd 86 6 rfl)).trans hn85
  replace hn86 := (hu446 _ (q_pd 87 6 rfl)).trans hn86
  replace hn87 := (hu446 _ (q_pd 88 6 rfl)).trans hn87
  replace hn88 := (hu446 _ (q_pd 89 6 rfl)).trans hn88
  replace hn89 := (hu446 _ (q_pd 90 6 rfl)).trans hn89
  replace hn90 := (hu446 _ (q_pd 91 6 rfl)).trans hn90
  replace hn91 := (hu446 _ (q_pd 92 6 rfl)).trans hn91
  replace hn92 := (hu446 _ (q_pd 93 6 rfl)).trans hn92
  replace hn93 := (hu446 _ (q_pd 94 6 rfl)).trans hn93
  replace hn94 := (hu446 _ (q_pd 95 6 rfl)).trans hn94
  replace hn95 := (hu446 _ (q_pd 96 6 rfl)).trans hn95
  replace hn96 := (hu446 _ (q_pd 97 6 rfl)).trans hn96
  replace hn97 := (hu446 _ (q_pd 98 6 rfl)).trans hn97
  replace hn98 := (hu446 _ (q_pd 99 6 rfl)).trans hn98
  replace hn99 := (hu446 _ (q_pd 100 6 rfl)).trans hn99
  replace hn100 := (hu446 _ (q_pd 101 6 rfl)).trans hn100
  replace hn101 := (hu446 _ (q_pd 102 6 rfl)).trans hn101
  replace hn102 := (hu446 _ (q_pd 103 6 rfl)).trans hn102
  replace hn103 := (hu446 _ (q_pd 104 6 rfl)).trans hn103
  replace hn104 := (hu446 _ (q_pd 105 6 rfl)).trans hn104
  replace hF := q_us hF hu446 (.tail _ (.tail _ (.tail _ (.tail _ (.tail _ (.tail _ (.head _)))))))
  refine lv_iinc (v := 8) (lv' := [(1, .int 8), (0, .ref qO0)]) hx hb d_1_1_248 hl (k := 0) rfl (by decide) (by decide) rfl (fun ls hl => ?_)
  refine lv_goto (tgt := 212) hx hb d_1_1_251 (by decide) ?_
  refine lv_iload_n hx hb d_1_1_212 rfl (lv_at hl 0 rfl) ?_
  refine lv_bipush (v := 10) hx hb d_1_1_213 (by decide) ?_
  refine lv_icmp_ge (tgt := 254) hx hb d_1_1_215 (by decide) (fun c447 => absurd c447 (by decide)) (fun c447 => ?_)
  refine lv_aload_n hx hb d_1_1_218 rfl (lv_at hl 1 rfl) ?_
  refine q_get (ci := 0) (j := 2) (v := .ref q25) C0 V i_NH rfl rfl hO0 (by decide) w_426 rfl d_1_1_219 ?_
  refine lv_iload_n hx hb d_1_1_222 rfl (lv_at hl 0 rfl) ?_
  refine q_new (ci := 2) (fs := [.null, .int 0, .int 0]) C0 V hN i_Big o_Big rfl w_68 w_79 w_4 rfl (fun j hj => by rcases (show j = 0 ∨ j = 1 ∨ j = 2 by omega) with rfl | rfl | rfl <;> rfl) (Nat.le_of_ble_eq_true rfl) (Nat.le_of_ble_eq_true rfl) d_1_1_223 (fun q448 H w449 hu450 hn451 hN V => ?_)
  have hn105 : w449[106]? = some (q448, .inr (2, [.null, .int 0, .int 0])) := hn451
  replace hO0 := (hu450 _ (q_pd 0 106 rfl)).trans hO0
  replace hn0 := (hu450 _ (q_pd 1 106 rfl)).trans hn0
  replace hn1 := (hu450 _ (q_pd 2 106 rfl)).trans hn1
  replace hn2 := (hu450 _ (q_pd 3 106 rfl)).trans hn2
  replace hn3 := (hu450 _ (q_pd 4 106 rfl)).trans hn3
  replace hn4 := (hu450 _ (q_pd 5 106 rfl)).trans hn4
  replace hn5 := (hu450 _ (q_pd 6 106 rfl)).trans hn5
  replace hn6 := (hu450 _ (q_pd 7 106 rfl)).trans hn6
  replace hn7 := (hu450 _ (q_pd 8 106 rfl)).trans hn7
  replace hn8 := (hu450 _ (q_pd 9 106 rfl)).trans hn8
  replace hn9 := (hu450 _ (q_pd 10 106 rfl)).trans hn9
  replace hn10 := (hu450 _ (q_pd 11 106 rfl)).trans hn10
  replace hn11 := (hu450 _ (q_pd 12 106 rfl)).trans hn11
  replace hn12 := (hu450 _ (q_pd 13 106 rfl)).trans hn12
  replace hn13 := (hu450 _ (q_pd 14 106 rfl)).trans hn13
  replace hn14 := (hu450 _ (q_pd 15 106 rfl)).trans hn14
  replace hn15 := (hu450 _ (q_pd 16 106 rfl)).trans hn15
  replace hn16 := (hu450 _ (q_pd 17 106 rfl)).trans hn16
  replace hn17 := (hu450 _ (q_pd 18 106 rfl)).trans hn17
  replace hn18 := (hu450 _ (q_pd 19 106 rfl)).trans hn18
  replace hn19 := (hu450 _ (q_pd 20 106 rfl)).trans hn19
  replace hn20 := (hu450 _ (q_pd 21 106 rfl)).trans hn20
  replace hn21 := (hu450 _ (q_pd 22 106 rfl)).trans hn21
  replace hn22 := (hu450 _ (q_pd 23 106 rfl)).trans hn22
  replace hn23 := (hu450 _ (q_pd 24 106 rfl)).trans hn23
  replace hn24 := (hu450 _ (q_pd 25 106 rfl)).trans hn24
  replace hn25 := (hu450 _ (q_pd 26 106 rfl)).trans hn25
  replace hn26 := (hu450 _ (q_pd 27 106 rfl)).trans hn26
  replace hn27 := (hu450 _ (q_pd 28 106 rfl)).trans hn27
  replace hn28 := (hu450 _ (q_pd 29 106 rfl)).trans hn28
  replace hn29 := (hu450 _ (q_pd 30 106 rfl)).trans hn29
  replace hn30 := (hu450 _ (q_pd 31 106 rfl)).trans hn30
  replace hn31 := (hu450 _ (q_pd 32 106 rfl)).trans hn31
  replace hn32 := (hu450 _ (q_pd 33 106 rfl)).trans hn32
  replace hn33 := (hu450 _ (q_pd 34 106 rfl)).trans hn33
  replace hn34 := (hu450 _ (q_pd 35 106 rfl)).trans hn34
  replace hn35 := (hu450 _ (q_pd 36 106 rfl)).trans hn35
  replace hn36 := (hu450 _ (q_pd 37 106 rfl)).trans hn36
  replace hn37 := (hu450 _ (q_pd 38 106 rfl)).trans hn37
  replace hn38 := (hu450 _ (q_pd 39 106 rfl)).trans hn38
  replace hn39 := (hu450 _ (q_pd 40 106 rfl)).trans hn39
  replace hn40 := (hu450 _ (q_pd 41 106 rfl)).trans hn40
  replace hn41 := (hu450 _ (q_pd 42 106 rfl)).trans hn41
  replace hn42 := (hu450 _ (q_pd 43 106 rfl)).trans hn42
  replace hn43 := (hu450 _ (q_pd 44 106 rfl)).trans hn43
  replace hn44 := (hu450 _ (q_pd 45 106 rfl)).trans hn44
  replace hn45 := (hu450 _ (q_pd 46 106 rfl)).trans hn45
  replace hn46 := (hu450 _ (q_pd 47 106 rfl)).trans hn46
  replace hn47 := (hu450 _ (q_pd 48 106 rfl)).trans hn47
  replace hn48 := (hu450 _ (q_pd 49 106 rfl)).trans hn48
  replace hn49 := (hu450 _ (q_pd 50 106 rfl)).trans hn49
  replace hn50 := (hu450 _ (q_pd 51 106 rfl)).trans hn50
  replace hn51 := (hu450 _ (q_pd 52 106 rfl)).trans hn51
  replace hn52 := (hu450 _ (q_pd 53 106 rfl)).trans hn52
  replace hn53 := (hu450 _ (q_pd 54 106 rfl)).trans hn53
  replace hn54 := (hu450 _ (q_pd 55 106 rfl)).trans hn54
  replace hn55 := (hu450 _ (q_pd 56 106 rfl)).trans hn55
  replace hn56 := (hu450 _ (q_pd 57 106 rfl)).trans hn56
  replace hn57 := (hu450 _ (q_pd 58 106 rfl)).trans hn57
  replace hn58 := (hu450 _ (q_pd 59 106 rfl)).trans hn58
  replace hn59 := (hu450 _ (q_pd 60 106 rfl)).trans hn59
  replace hn60 := (hu450 _ (q_pd 61 106 rfl)).trans hn60
  replace hn61 := (hu450 _ (q_pd 62 106 rfl)).trans hn61
  replace hn62 := (hu450 _ (q_pd 63 106 rfl)).trans hn62
  replace hn63 := (hu450 _ (q_pd 64 106 rfl)).trans hn63
  replace hn64 := (hu450 _ (q_pd 65 106 rfl)).trans hn64
  replace hn65 := (hu450 _ (q_pd 66 106 rfl)).trans hn65
  replace hn66 := (hu450 _ (q_pd 67 106 rfl)).trans hn66
  replace hn67 := (hu450 _ (q_pd 68 106 rfl)).trans hn67
  replace hn68 := (hu450 _ (q_pd 69 106 rfl)).trans hn68
  replace hn69 := (hu450 _ (q_pd 70 106 rfl)).trans hn69
  replace hn70 := (hu450 _ (q_pd 71 106 rfl)).trans hn70
  replace hn71 := (hu450 _ (q_pd 72 106 rfl)).trans hn71
  replace hn72 := (hu450 _ (q_pd 73 106 rfl)).trans hn72
  replace hn73 := (hu450 _ (q_pd 74 106 rfl)).trans hn73
  replace hn74 := (hu450 _ (q_pd 75 106 rfl)).trans hn74
  replace hn75 := (hu450 _ (q_pd 76 106 rfl)).trans hn75
  replace hn76 := (hu450 _ (q_pd 77 106 rfl)).trans hn76
  replace hn77 := (hu450 _ (q_pd 78 106 rfl)).trans hn77
  replace hn78 := (hu450 _ (q_pd 79 106 rfl)).trans hn78
  replace hn79 := (hu450 _ (q_pd 80 106 rfl)).trans hn79
  replace hn80 := (hu450 _ (q_pd 81 106 rfl)).trans hn80
  replace hn81 := (hu450 _ (q_pd 82 106 rfl)).trans hn81
  replace hn82 := (hu450 _ (q_pd 83 106 rfl)).trans hn82
  replace hn83 := (hu450 _ (q_pd 84 106 rfl)).trans hn83
  replace hn84 := (hu450 _ (q_pd 85 106 rfl)).trans hn84
  replace hn85 := (hu450 _ (q_pd 86 106 rfl)).trans hn85
  replace hn86 := (hu450 _ (q_pd 87 106 rfl)).trans hn86
  replace hn87 := (hu450 _ (q_pd 88 106 rfl)).trans hn87
  replace hn88 := (hu450 _ (q_pd 89 106 rfl)).trans hn88
  replace hn89 := (hu450 _ (q_pd 90 106 rfl)).trans hn89
  replace hn90 := (hu450 _ (q_pd 91 106 rfl)).trans hn90
  replace hn91 := (hu450 _ (q_pd 92 106 rfl)).trans hn91
  replace hn92 := (hu450 _ (q_pd 93 106 rfl)).trans hn92
  replace hn93 := (hu450 _ (q_pd 94 106 rfl)).trans hn93
  replace hn94 := (hu450 _ (q_pd 95 106 rfl)).trans hn94
  replace hn95 := (hu450 _ (q_pd 96 106 rfl)).trans hn95
  replace hn96 := (hu450 _ (q_pd 97 106 rfl)).trans hn96
  replace hn97 := (hu450 _ (q_pd 98 106 rfl)).trans hn97
  replace hn98 := (hu450 _ (q_pd 99 106 rfl)).trans hn98
  replace hn99 := (hu450 _ (q_pd 100 106 rfl)).trans hn99
  replace hn100 := (hu450 _ (q_pd 101 106 rfl)).trans hn100
  replace hn101 := (hu450 _ (q_pd 102 106 rfl)).trans hn101
  replace hn102 := (hu450 _ (q_pd 103 106 rfl)).trans hn102
  replace hn103 := (hu450 _ (q_pd 104 106 rfl)).trans hn103
  replace hn104 := (hu450 _ (q_pd 105 106 rfl)).trans hn104
  replace hF := q_us hF hu450 (.tail _ (.tail _ (.tail _ (.tail _ (.tail _ (.tail _ (.tail _ (.tail _ (.tail _ (.tail _ (.tail _ (.tail _ (.tail _ (.tail _ (.tail _ (.tail _ (.tail _ (.tail _ (.tail _ (.tail _ (.tail _ (.tail _ (.tail _ (.tail _ (.tail _ (.tail _ (.tail _ (.tail _ (.tail _ (.tail _ (.tail _ (.tail _ (.tail _ (.tail _ (.tail _ (.tail _ (.tail _ (.tail _ (.tail _ (.tail _ (.tail _ (.tail _ (.tail _ (.tail _ (.tail _ (.tail _ (.tail _ (.tail _ (.tail _ (.tail _ (.tail _ (.tail _ (.tail _ (.tail _ (.tail _ (.tail _ (.tail _ (.tail _ (.tail _ (.tail _ (.tail _ (.tail _ (.tail _ (.tail _ (.tail _ (.tail _ (.tail _ (.tail _ (.tail _ (.tail _ (.tail _ (.tail _ (.tail _ (.tail _ (.tail _ (.tail _ (.tail _ (.tail _ (.tail _ (.tail _ (.tail _ (.tail _ (.tail _ (.tail _ (.tail _ (.tail _ (.tail _ (.tail _ (.tail _ (.tail _ (.tail _ (.tail _ (.tail _ (.tail _ (.tail _ (.tail _ (.tail _ (.tail _ (.tail _ (.tail _ (.tail _ (.tail _ (.tail _ (.tail _ (.tail _ (.tail _ (.head _)))))))))))))))))))))))))))))))))))))))))))))))))))))))))))))))))))))))))))))))))))))))))))))))))))))))))))
  replace hN : w449.length = 107 := hN
  refine lv_dup hx hb d_1_1_226 rfl ?_
  refine lv_bipush (v := 68) hx hb d_1_1_227 (by decide) ?_
  refine q_gov V (q_runI (As := [.int 68]) (rest := [.ref q448, .int 8, .ref q25]) (d := 2) (mc := 1) (ms := 68) C0 V rfl LI_NH_102 (c_Big_init l D g w449 106 q448 107 hN hn105 _) rfl hl.1 rfl (Nat.le_of_ble_eq_true rfl) ⟨by decide, by decide⟩ ⟨Nat.le_of_ble_eq_true rfl, Nat.le_of_ble_eq_true rfl⟩ d_1_1_229) (fun u453 H locs hp452 V => ?_)
  obtain ⟨q454, hg455, hn105, hq456, hN⟩ := hp452
  replace hO0 := (hg455 _ (q_nc (q_pd 0 106 rfl) (q_nc (q_pd 0 107 rfl) List.not_mem_nil))).trans hO0
  replace hn0 := (hg455 _ (q_nc (q_pd 1 106 rfl) (q_nc (q_pd 1 107 rfl) List.not_mem_nil))).trans hn0
  replace hn1 := (hg455 _ (q_nc (q_pd 2 106 rfl) (q_nc (q_pd 2 107 rfl) List.not_mem_nil))).trans hn1
  replace hn2 := (hg455 _ (q_nc (q_pd 3 106 rfl) (q_nc (q_pd 3 107 rfl) List.not_mem_nil))).trans hn2
  replace hn3 := (hg455 _ (q_nc (q_pd 4 106 rfl) (q_nc (q_pd 4 107 rfl) List.not_mem_nil))).trans hn3
  replace hn4 := (hg455 _ (q_nc (q_pd 5 106 rfl) (q_nc (q_pd 5 107 rfl) List.not_mem_nil))).trans hn4
  replace hn5 := (hg455 _ (q_nc (q_pd 6 106 rfl) (q_nc (q_pd 6 107 rfl) List.not_mem_nil))).trans hn5
  replace hn6 := (hg455 _ (q_nc (q_pd 7 106 rfl) (q_nc (q_pd 7 107 rfl) List.not_mem_nil))).trans hn6
  replace hn7 := (hg455 _ (q_nc (q_pd 8 106 rfl) (q_nc (q_pd 8 107 rfl) List.not_mem_nil))).trans hn7
  replace hn8 := (hg455 _ (q_nc (q_pd 9 106 rfl) (q_nc (q_pd 9 107 rfl) List.not_mem_nil))).trans hn8
  replace hn9 := (hg455 _ (q_nc (q_pd 10 106 rfl) (q_nc (q_pd 10 107 rfl) List.not_mem_nil))).trans hn9
  replace hn10 := (hg455 _ (q_nc (q_pd 11 106 rfl) (q_nc (q_pd 11 107 rfl) List.not_mem_nil))).trans hn10
  replace hn11 := (hg455 _ (q_nc (q_pd 12 106 rfl) (q_nc (q_pd 12 107 rfl) List.not_mem_nil))).trans hn11
  replace hn12 := (hg455 _ (q_nc (q_pd 13 106 rfl) (q_nc (q_pd 13 107 rfl) List.not_mem_nil))).trans hn12
  replace hn13 := (hg455 _ (q_nc (q_pd 14 106 rfl) (q_nc (q_pd 14 107 rfl) List.not_mem_nil))).trans hn13
  replace hn14 := (hg455 _ (q_nc (q_pd 15 106 rfl) (q_nc (q_pd 15 107 rfl) List.not_mem_nil))).trans hn14
  replace hn15 := (hg455 _ (q_nc (q_pd 16 106 rfl) (q_nc (q_pd 16 107 rfl) List.not_mem_nil))).trans hn15
  replace hn16 := (hg455 _ (q_nc (q_pd 17 106 rfl) (q_nc (q_pd 17 107 rfl) List.not_mem_nil))).trans hn16
  replace hn17 := (hg455 _ (q_nc (q_pd 18 106 rfl) (q_nc (q_pd 18 107 rfl) List.not_mem_nil))).trans hn17
  replace hn18 := (hg455 _ (q_nc (q_pd 19 106 rfl) (q_nc (q_pd 19 107 rfl) List.not_mem_nil))).trans hn18
  replace hn19 := (hg455 _ (q_nc (q_pd 20 106 rfl) (q_nc (q_pd 20 107 rfl) List.not_mem_nil))).trans hn19
  replace hn20 := (hg455 _ (q_nc (q_pd 21 106 rfl) (q_nc (q_pd 21 107 rfl) List.not_mem_nil))).trans hn20
  replace hn21 := (hg455 _ (q_nc (q_pd 22 106 rfl) (q_nc (q_pd 22 107 rfl) List.not_mem_nil))).trans hn21
  replace hn22 := (hg455 _ (q_nc (q_pd 23 106 rfl) (q_nc (q_pd 23 107 rfl) List.not_mem_nil))).trans hn22
  replace hn23 := (hg455 _ (q_nc (q_pd 24 106 rfl) (q_nc (q_pd 24 107 rfl) List.not_mem_nil))).trans hn23
  replace hn24 := (hg455 _ (q_nc (q_pd 25 106 rfl) (q_nc (q_pd 25 107 rfl) List.not_mem_nil))).trans hn24
  replace hn25 := (hg455 _ (q_nc (q_pd 26 106 rfl) (q_nc (q_pd 26 107 rfl) List.not_mem_nil))).trans hn25
  replace hn26 := (hg455 _ (q_nc (q_pd 27 106 rfl) (q_nc (q_pd 27 107 rfl) List.not_mem_nil))).trans hn26
  replace hn27 := (hg455 _ (q_nc (q_pd 28 106 rfl) (q_nc (q_pd 28 107 rfl) List.not_mem_nil))).trans hn27
  replace hn28 := (hg455 _ (q_nc (q_pd 29 106 rfl) (q_nc (q_pd 29 107 rfl) List.not_mem_nil))).trans hn28
  replace hn29 := (hg455 _ (q_nc (q_pd 30 106 rfl) (q_nc (q_pd 30 107 rfl) List.not_mem_nil))).trans hn29
  replace hn30 := (hg455 _ (q_nc (q_pd 31 106 rfl) (q_nc (q_pd 31 107 rfl) List.not_mem_nil))).trans hn30
  replace hn31 := (hg455 _ (q_nc (q_pd 32 106 rfl) (q_nc (q_pd 32 107 rfl) List.not_mem_nil))).trans hn31
  replace hn32 := (hg455 _ (q_nc (q_pd 33 106 rfl) (q_nc (q_pd 33 107 rfl) List.not_mem_nil))).trans hn32
  replace hn33 := (hg455 _ (q_nc (q_pd 34 106 rfl) (q_nc (q_pd 34 107 rfl) List.not_mem_nil))).trans hn33
  replace hn34 := (hg455 _ (q_nc (q_pd 35 106 rfl) (q_nc (q_pd 35 107 rfl) List.not_mem_nil))).trans hn34
  replace hn35 := (hg455 _ (q_nc (q_pd 36 106 rfl) (q_nc (q_pd 36 107 rfl) List.not_mem_nil))).trans hn35
  replace hn36 := (hg455 _ (q_nc (q_pd 37 106 rfl) (q_nc (q_pd 37 107 rfl) List.not_mem_nil))).trans hn36
  replace hn37 := (hg455 _ (q_nc (q_pd 38 106 rfl) (q_nc (q_pd 38 107 rfl) List.not_mem_nil))).trans hn37
  replace hn38 := (hg455 _ (q_nc (q_pd 39 106 rfl) (q_nc (q_pd 39 107 rfl) List.not_mem_nil))).trans hn38
  replace hn39 := (hg455 _ (q_nc (q_pd 40 106 rfl) (q_nc (q_pd 40 107 rfl) List.not_mem_nil))).trans hn39
  replace hn40 := (hg455 _ (q_nc (q_pd 41 106 rfl) (q_nc (q_pd 41 107 rfl) List.not_mem_nil))).trans hn40
  replace hn41 := (hg455 _ (q_nc (q_pd 42 106 rfl) (q_nc (q_pd 42 107 rfl) List.not_mem_nil))).trans hn41
  replace hn42 := (hg455 _ (q_nc (q_pd 43 106 rfl) (q_nc (q_pd 43 107 rfl) List.not_mem_nil))).trans hn42
  replace hn43 := (hg455 _ (q_nc (q_pd 44 106 rfl) (q_nc (q_pd 44 107 rfl) List.not_mem_nil))).trans hn43
  replace hn44 := (hg455 _ (q_nc (q_pd 45 106 rfl) (q_nc (q_pd 45 107 rfl) List.not_mem_nil))).trans hn44
  replace hn45 := (hg455 _ (q_nc (q_pd 46 106 rfl) (q_nc (q_pd 46 107 rfl) List.not_mem_nil))).trans hn45
  replace hn46 := (hg455 _ (q_nc (q_pd 47 106 rfl) (q_nc (q_pd 47 107 rfl) List.not_mem_nil))).trans hn46
  replace hn47 := (hg455 _ (q_nc (q_pd 48 106 rfl) (q_nc (q_pd 48 107 rfl) List.not_mem_nil))).trans hn47
  replace hn48 := (hg455 _ (q_nc (q_pd 49 106 rfl) (q_nc (q_pd 49 107 rfl) List.not_mem_nil))).trans hn48
  replace hn49 := (hg455 _ (q_nc (q_pd 50 106 rfl) (q_nc (q_pd 50 107 rfl) List.not_mem_nil))).trans hn49
  replace hn50 := (hg455 _ (q_nc (q_pd 51 106 rfl) (q_nc (q_pd 51 107 rfl) List.not_mem_nil))).trans hn50
  replace hn51 := (hg455 _ (q_nc (q_pd 52 106 rfl) (q_nc (q_pd 52 107 rfl) List.not_mem_nil))).trans hn51
  replace hn52 := (hg455 _ (q_nc (q_pd 53 106 rfl) (q_nc (q_pd 53 107 rfl) List.not_mem_nil))).trans hn52
  replace hn53 := (hg455 _ (q_nc (q_pd 54 106 rfl) (q_nc (q_pd 54 107 rfl) List.not_mem_nil))).trans hn53
  replace hn54 := (hg455 _ (q_nc (q_pd 55 106 rfl) (q_nc (q_pd 55 107 rfl) List.not_mem_nil))).trans hn54
  replace hn55 := (hg455 _ (q_nc (q_pd 56 106 rfl) (q_nc (q_pd 56 107 rfl) List.not_mem_nil))).trans hn55
  replace hn56 := (hg455 _ (q_nc (q_pd 57 106 rfl) (q_nc (q_pd 57 107 rfl) List.not_mem_nil))).trans hn56
  replace hn57 := (hg455 _ (q_nc (q_pd 58 106 rfl) (q_nc (q_pd 58 107 rfl) List.not_mem_nil))).trans hn57
  replace hn58 := (hg455 _ (q_nc (q_pd 59 106 rfl) (q_nc (q_pd 59 107 rfl) List.not_mem_nil))).trans hn58
  replace hn59 := (hg455 _ (q_nc (q_pd 60 106 rfl) (q_nc (q_pd 60 107 rfl) List.not_mem_nil))).trans hn59
  replace hn60 := (hg455 _ (q_nc (q_pd 61 106 rfl) (q_nc (q_pd 61 107 rfl) List.not_mem_nil))).trans hn60
  replace hn61 := (hg455 _ (q_nc (q_pd 62 106 rfl) (q_nc (q_pd 62 107 rfl) List.not_mem_nil))).trans hn61
  replace hn62 := (hg455 _ (q_nc (q_pd 63 106 rfl) (q_nc (q_pd 63 107 rfl) List.not_mem_nil))).trans hn62
  replace hn63 := (hg455 _ (q_nc (q_pd 64 106 rfl) (q_nc (q_pd 64 107 rfl) List.not_mem_nil))).trans hn63
  replace hn64 := (hg455 _ (q_nc (q_pd 65 106 rfl) (q_nc (q_pd 65 107 rfl) List.not_mem_nil))).trans hn64
  replace hn65 := (hg455 _ (q_nc (q_pd 66 106 rfl) (q_nc (q_pd 66 107 rfl) List.not_mem_nil))).trans hn65
  replace hn66 := (hg455 _ (q_nc (q_pd 67 106 rfl) (q_nc (q_pd 67 107 rfl) List.not_mem_nil))).trans hn66
  replace hn67 := (hg455 _ (q_nc (q_pd 68 106 rfl) (q_nc (q_pd 68 107 rfl) List.not_mem_nil))).trans hn67
  replace hn68 := (hg455 _ (q_nc (q_pd 69 106 rfl) (q_nc (q_pd 69 107 rfl) List.not_mem_nil))).trans hn68
  replace hn69 := (hg455 _ (q_nc (q_pd 70 106 rfl) (q_nc (q_pd 70 107 rfl) List.not_mem_nil))).trans hn69
  replace hn70 := (hg455 _ (q_nc (q_pd 71 106 rfl) (q_nc (q_pd 71 107 rfl) List.not_mem_nil))).trans hn70
  replace hn71 := (hg455 _ (q_nc (q_pd 72 106 rfl) (q_nc (q_pd 72 107 rfl) List.not_mem_nil))).trans hn71
  replace hn72 := (hg455 _ (q_nc (q_pd 73 106 rfl) (q_nc (q_pd 73 107 rfl) List.not_mem_nil))).trans hn72
  replace hn73 := (hg455 _ (q_nc (q_pd 74 106 rfl) (q_nc (q_pd 74 107 rfl) List.not_mem_nil))).trans hn73
  replace hn74 := (hg455 _ (q_nc (q_pd 75 106 rfl) (q_nc (q_pd 75 107 rfl) List.not_mem_nil))).trans hn74
  replace hn75 := (hg455 _ (q_nc (q_pd 76 106 rfl) (q_nc (q_pd 76 107 rfl) List.not_mem_nil))).trans hn75
  replace hn76 := (hg455 _ (q_nc (q_pd 77 106 rfl) (q_nc (q_pd 77 107 rfl) List.not_mem_nil))).trans hn76
  replace hn77 := (hg455 _ (q_nc (q_pd 78 106 rfl) (q_nc (q_pd 78 107 rfl) List.not_mem_nil))).trans hn77
  replace hn78 := (hg455 _ (q_nc (q_pd 79 106 rfl) (q_nc (q_pd 79 107 rfl) List.not_mem_nil))).trans hn78
  replace hn79 := (hg455 _ (q_nc (q_pd 80 106 rfl) (q_nc (q_pd 80 107 rfl) List.not_mem_nil))).trans hn79
  replace hn80 := (hg455 _ (q_nc (q_pd 81 106 rfl) (q_nc (q_pd 81 107 rfl) List.not_mem_nil))).trans hn80
  replace hn81 := (hg455 _ (q_nc (q_pd 82 106 rfl) (q_nc (q_pd 82 107 rfl) List.not_mem_nil))).trans hn81
  replace hn82 := (hg455 _ (q_nc (q_pd 83 106 rfl) (q_nc (q_pd 83 107 rfl) List.not_mem_nil))).trans hn82
  replace hn83 := (hg455 _ (q_nc (q_pd 84 106 rfl) (q_nc (q_pd 84 107 rfl) List.not_mem_nil))).trans hn83
  replace hn84 := (hg455 _ (q_nc (q_pd 85 106 rfl) (q_nc (q_pd 85 107 rfl) List.not_mem_nil))).trans hn84
  replace hn85 := (hg455 _ (q_nc (q_pd 86 106 rfl) (q_nc (q_pd 86 107 rfl) List.not_mem_nil))).trans hn85
  replace hn86 := (hg455 _ (q_nc (q_pd 87 106 rfl) (q_nc (q_pd 87 107 rfl) List.not_mem_nil))).trans hn86
  replace hn87 := (hg455 _ (q_nc (q_pd 88 106 rfl) (q_nc (q_pd 88 107 rfl) List.not_mem_nil))).trans hn87
  replace hn88 := (hg455 _ (q_nc (q_pd 89 106 rfl) (q_nc (q_pd 89 107 rfl) List.not_mem_nil))).trans hn88
  replace hn89 := (hg455 _ (q_nc (q_pd 90 106 rfl) (q_nc (q_pd 90 107 rfl) List.not_mem_nil))).trans hn89
  replace hn90 := (hg455 _ (q_nc (q_pd 91 106 rfl) (q_nc (q_pd 91 107 rfl) List.not_mem_nil))).trans hn90
  replace hn91 := (hg455 _ (q_nc (q_pd 92 106 rfl) (q_nc (q_pd 92 107 rfl) List.not_mem_nil))).trans hn91
  replace hn92 := (hg455 _ (q_nc (q_pd 93 106 rfl) (q_nc (q_pd 93 107 rfl) List.not_mem_nil))).trans hn92
  replace hn93 := (hg455 _ (q_nc (q_pd 94 106 rfl) (q_nc (q_pd 94 107 rfl) List.not_mem_nil))).trans hn93
  replace hn94 := (hg455 _ (q_nc (q_pd 95 106 rfl) (q_nc (q_pd 95 107 rfl) List.not_mem_nil))).trans hn94
  replace hn95 := (hg455 _ (q_nc (q_pd 96 106 rfl) (q_nc (q_pd 96 107 rfl) List.not_mem_nil))).trans hn95
  replace hn96 := (hg455 _ (q_nc (q_pd 97 106 rfl) (q_nc (q_pd 97 107 rfl) List.not_mem_nil))).trans hn96
  replace hn97 := (hg455 _ (q_nc (q_pd 98 106 rfl) (q_nc (q_pd 98 107 rfl) List.not_mem_nil))).trans hn97
  replace hn98 := (hg455 _ (q_nc (q_pd 99 106 rfl) (q_nc (q_pd 99 107 rfl) List.not_mem_nil))).trans hn98
  replace hn99 := (hg455 _ (q_nc (q_pd 100 106 rfl) (q_nc (q_pd 100 107 rfl) List.not_mem_nil))).trans hn99
  replace hn100 := (hg455 _ (q_nc (q_pd 101 106 rfl) (q_nc (q_pd 101 107 rfl) List.not_mem_nil))).trans hn100
  replace hn101 := (hg455 _ (q_nc (q_pd 102 106 rfl) (q_nc (q_pd 102 107 rfl) List.not_mem_nil))).trans hn101
  replace hn102 := (hg455 _ (q_nc (q_pd 103 106 rfl) (q_nc (q_pd 103 107 rfl) List.not_mem_nil))).trans hn102
  replace hn103 := (hg455 _ (q_nc (q_pd 104 106 rfl) (q_nc (q_pd 104 107 rfl) List.not_mem_nil))).trans hn103
  replace hn104 := (hg455 _ (q_nc (q_pd 105 106 rfl) (q_nc (q_pd 105 107 rfl) List.not_mem_nil))).trans hn104
  replace hF := q_uc hF hg455 (q_sc (.tail _ (.tail _ (.tail _ (.tail _ (.tail _ (.tail _ (.tail _ (.tail _ (.tail _ (.tail _ (.tail _ (.tail _ (.tail _ (.tail _ (.tail _ (.tail _ (.tail _ (.tail _ (.tail _ (.tail _ (.tail _ (.tail _ (.tail _ (.tail _ (.tail _ (.tail _ (.tail _ (.tail _ (.tail _ (.tail _ (.tail _ (.tail _ (.tail _ (.tail _ (.tail _ (.tail _ (.tail _ (.tail _ (.tail _ (.tail _ (.tail _ (.tail _ (.tail _ (.tail _ (.tail _ (.tail _ (.tail _ (.tail _ (.tail _ (.tail _ (.tail _ (.tail _ (.tail _ (.tail _ (.tail _ (.tail _ (.tail _ (.tail _ (.tail _ (.tail _ (.tail _ (.tail _ (.tail _ (.tail _ (.tail _ (.tail _ (.tail _ (.tail _ (.tail _ (.tail _ (.tail _ (.tail _ (.tail _ (.tail _ (.tail _ (.tail _ (.tail _ (.tail _ (.tail _ (.tail _ (.tail _ (.tail _ (.tail _ (.tail _ (.tail _ (.tail _ (.tail _ (.tail _ (.tail _ (.tail _ (.tail _ (.tail _ (.tail _ (.tail _ (.tail _ (.tail _ (.tail _ (.tail _ (.tail _ (.tail _ (.tail _ (.tail _ (.tail _ (.tail _ (.tail _ (.tail _ (.head _))))))))))))))))))))))))))))))))))))))))))))))))))))))))))))))))))))))))))))))))))))))))))))))))))))))))))) (q_sc (.tail _ (.tail _ (.tail _ (.tail _ (.tail _ (.tail _ (.tail _ (.tail _ (.tail _ (.tail _ (.tail _ (.tail _ (.tail _ (.tail _ (.tail _ (.tail _ (.tail _ (.tail _ (.tail _ (.tail _ (.tail _ (.tail _ (.tail _ (.tail _ (.tail _ (.tail _ (.tail _ (.tail _ (.tail _ (.tail _ (.tail _ (.tail _ (.tail _ (.tail _ (.tail _ (.tail _ (.tail _ (.tail _ (.tail _ (.tail _ (.tail _ (.tail _ (.tail _ (.tail _ (.tail _ (.tail _ (.tail _ (.tail _ (.tail _ (.tail _ (.tail _ (.tail _ (.tail _ (.tail _ (.tail _ (.tail _ (.tail _ (.tail _ (.tail _ (.tail _ (.tail _ (.tail _ (.tail _ (.tail _ (.tail _ (.tail _ (.tail _ (.tail _ (.tail _ (.tail _ (.tail _ (.tail _ (.tail _ (.tail _ (.tail _ (.tail _ (.tail _ (.tail _ (.tail _ (.tail _ (.tail _ (.tail _ (.tail _ (.tail _ (.tail _ (.tail _ (.tail _ (.tail _ (.tail _ (.tail _ (.tail _ (.tail _ (.tail _ (.tail _ (.tail _ (.tail _ (.tail _ (.tail _ (.tail _ (.tail _ (.tail _ (.tail _ (.tail _ (.tail _ (.tail _ (.tail _ (.tail _ (.head _)))))))))))))))))))))))))))))))))))))))))))))))))))))))))))))))))))))))))))))))))))))))))))))))))))))))))))) (fun _ h => absurd h List.not_mem_nil)))
  have hn106 : u453[107]? = some (q454, .inl (g 0, 68, .inl (fun _ => 0))) := hq456
  replace hN : u453.length = 108 := hN
  have ho457 := hn4
  refine q_aast (t := 4) (ci := 2) (i9 := 8) C0 V hn4 rfl hn105 rfl (by decide) (by decide) d_1_1_232 (fun H locs w458 hu459 hn4 V => ?_)
  replace hn4 : w458[5]? = some (q25, .inl (g 4, 10, .inr (.inr (.inr (.inr (va_up (va_up (va_up (va_up (va_up (va_up (va_up (va_up (va_up (fun _ => none) 0 (some q232)) 1 (some q259)) 2 (some q286)) 3 (some q313)) 4 (some q340)) 5 (some q367)) 6 (some q394)) 7 (some q421)) 8 (some q448))))))) := hn4
  replace hN : w458.length = 108 := (q_len1 hu459 hn4 ho457).trans hN
  replace hO0 := (hu459 _ (q_pd 0 5 rfl)).trans hO0
  replace hn0 := (hu459 _ (q_pd 1 5 rfl)).trans hn0
  replace hn1 := (hu459 _ (q_pd 2 5 rfl)).trans hn1
  replace hn2 := (hu459 _ (q_pd 3 5 rfl)).trans hn2
  replace hn3 := (hu459 _ (q_pd 4 5 rfl)).trans hn3
  replace hn5 := (hu459 _ (q_pd 6 5 rfl)).trans hn5
  replace hn6 := (hu459 _ (q_pd 7 5 rfl)).trans hn6
  replace hn7 := (hu459 _ (q_pd 8 5 rfl)).trans hn7
  replace hn8 := (hu459 _ (q_pd 9 5 rfl)).trans hn8
  replace hn9 := (hu459 _ (q_pd 10 5 rfl)).trans hn9
  replace hn10 := (hu459 _ (q_pd 11 5 rfl)).trans hn10
  replace hn11 := (hu459 _ (q_pd 12 5 rfl)).trans hn11
  replace hn12 := (hu459 _ (q_pd 13 5 rfl)).trans hn12
  replace hn13 := (hu459 _ (q_pd 14 5 rfl)).trans hn13
  replace hn14 := (hu459 _ (q_pd 15 5 rfl)).trans hn14
  replace hn15 := (hu459 _ (q_pd 16 5 rfl)).trans hn15
  replace hn16 := (hu459 _ (q_pd 17 5 rfl)).trans hn16
  replace hn17 := (hu459 _ (q_pd 18 5 rfl)).trans hn17
  replace hn18 := (hu459 _ (q_pd 19 5 rfl)).trans hn18
  replace hn19 := (hu459 _ (q_pd 20 5 rfl)).trans hn19
  replace hn20 := (hu459 _ (q_pd 21 5 rfl)).trans hn20
  replace hn21 := (hu459 _ (q_pd 22 5 rfl)).trans hn21
  replace hn22 := (hu459 _ (q_pd 23 5 rfl)).trans hn22
  replace hn23 := (hu459 _ (q_pd 24 5 rfl)).trans hn23
  replace hn24 := (hu459 _ (q_pd 25 5 rfl)).trans hn24
  replace hn25 := (hu459 _ (q_pd 26 5 rfl)).trans hn25
  replace hn26 := (hu459 _ (q_pd 27 5 rfl)).trans hn26
  replace hn27 := (hu459 _ (q_pd 28 5 rfl)).trans hn27
  replace hn28 := (hu459 _ (q_pd 29 5 rfl)).trans hn28
  replace hn29 := (hu459 _ (q_pd 30 5 rfl)).trans hn29
  replace hn30 := (hu459 _ (q_pd 31 5 rfl)).trans hn30
  replace hn31 := (hu459 _ (q_pd 32 5 rfl)).trans hn31
  replace hn32 := (hu459 _ (q_pd 33 5 rfl)).trans hn32
  replace hn33 := (hu459 _ (q_pd 34 5 rfl)).trans hn33
  replace hn34 := (hu459 _ (q_pd 35 5 rfl)).trans hn34
  replace hn35 := (hu459 _ (q_pd 36 5 rfl)).trans hn35
  replace hn36 := (hu459 _ (q_pd 37 5 rfl)).trans hn36
  replace hn37 := (hu459 _ (q_pd 38 5 rfl)).trans hn37
  replace hn38 := (hu459 _ (q_pd 39 5 rfl)).trans hn38
  replace hn39 := (hu459 _ (q_pd 40 5 rfl)).trans hn39
  replace hn40 := (hu459 _ (q_pd 41 5 rfl)).trans hn40
  replace hn41 := (hu459 _ (q_pd 42 5 rfl)).trans hn41
  replace hn42 := (hu459 _ (q_pd 43 5 rfl)).trans hn42
  replace hn43 := (hu459 _ (q_pd 44 5 rfl)).trans hn43
  replace hn44 := (hu459 _ (q_pd 45 5 rfl)).trans hn44
  replace hn45 := (hu459 _ (q_pd 46 5 rfl)).trans hn45
  replace hn46 := (hu459 _ (q_pd 47 5 rfl)).trans hn46
  replace hn47 := (hu459 _ (q_pd 48 5 rfl)).trans hn47
  replace hn48 := (hu459 _ (q_pd 49 5 rfl)).trans hn48
  replace hn49 := (hu459 _ (q_pd 50 5 rfl)).trans hn49
  replace hn50 := (hu459 _ (q_pd 51 5 rfl)).trans hn50
  replace hn51 := (hu459 _ (q_pd 52 5 rfl)).trans hn51
  replace hn52 := (hu459 _ (q_pd 53 5 rfl)).trans hn52
  replace hn53 := (hu459 _ (q_pd 54 5 rfl)).trans hn53
  replace hn54 := (hu459 _ (q_pd 55 5 rfl)).trans hn54
  replace hn55 := (hu459 _ (q_pd 56 5 rfl)).trans hn55
  replace hn56 := (hu459 _ (q_pd 57 5 rfl)).trans hn56
  replace hn57 := (hu459 _ (q_pd 58 5 rfl)).trans hn57
  replace hn58 := (hu459 _ (q_pd 59 5 rfl)).trans hn58
  replace hn59 := (hu459 _ (q_pd 60 5 rfl)).trans hn59
  replace hn60 := (hu459 _ (q_pd 61 5 rfl)).trans hn60
  replace hn61 := (hu459 _ (q_pd 62 5 rfl)).trans hn61
  replace hn62 := (hu459 _ (q_pd 63 5 rfl)).trans hn62
  replace hn63 := (hu459 _ (q_pd 64 5 rfl)).trans hn63
  replace hn64 := (hu459 _ (q_pd 65 5 rfl)).trans hn64
  replace hn65 := (hu459 _ (q_pd 66 5 rfl)).trans hn65
  replace hn66 := (hu459 _ (q_pd 67 5 rfl)).trans hn66
  replace hn67 := (hu459 _ (q_pd 68 5 rfl)).trans hn67
  replace hn68 := (hu459 _ (q_pd 69 5 rfl)).trans hn68
  replace hn69 := (hu459 _ (q_pd 70 5 rfl)).trans hn69
  replace hn70 := (hu459 _ (q_pd 71 5 rfl)).trans hn70
  replace hn71 := (hu459 _ (q_pd 72 5 rfl)).trans hn71
  replace hn72 := (hu459 _ (q_pd 73 5 rfl)).trans hn72
  replace hn73 := (hu459 _ (q_pd 74 5 rfl)).trans hn73
  replace hn74 := (hu459 _ (q_pd 75 5 rfl)).trans hn74
  replace hn75 := (hu459 _ (q_pd 76 5 rfl)).trans hn75
  replace hn76 := (hu459 _ (q_pd 77 5 rfl)).trans hn76
  replace hn77 := (hu459 _ (q_pd 78 5 rfl)).trans hn77
  replace hn78 := (hu459 _ (q_pd 79 5 rfl)).trans hn78
  replace hn79 := (hu459 _ (q_pd 80 5 rfl)).trans hn79
  replace hn80 := (hu459 _ (q_pd 81 5 rfl)).trans hn80
  replace hn81 := (hu459 _ (q_pd 82 5 rfl)).trans hn81
  replace hn82 := (hu459 _ (q_pd 83 5 rfl)).trans hn82
  replace hn83 := (hu459 _ (q_pd 84 5 rfl)).trans hn83
  replace hn84 := (hu459 _ (q_pd 85 5 rfl)).trans hn84
  replace hn85 := (hu459 _ (q_pd 86 5 rfl)).trans hn85
  replace hn86 := (hu459 _ (q_pd 87 5 rfl)).trans hn86
  replace hn87 := (hu459 _ (q_pd 88 5 rfl)).trans hn87
  replace hn88 := (hu459 _ (q_pd 89 5 rfl)).trans hn88
  replace hn89 := (hu459 _ (q_pd 90 5 rfl)).trans hn89
  replace hn90 := (hu459 _ (q_pd 91 5 rfl)).trans hn90
  replace hn91 := (hu459 _ (q_pd 92 5 rfl)).trans hn91
  replace hn92 := (hu459 _ (q_pd 93 5 rfl)).trans hn92
  replace hn93 := (hu459 _ (q_pd 94 5 rfl)).trans hn93
  replace hn94 := (hu459 _ (q_pd 95 5 rfl)).trans hn94
  replace hn95 := (hu459 _ (q_pd 96 5 rfl)).trans hn95
  replace hn96 := (hu459 _ (q_pd 97 5 rfl)).trans hn96
  replace hn97 := (hu459 _ (q_pd 98 5 rfl)).trans hn97
  replace hn98 := (hu459 _ (q_pd 99 5 rfl)).trans hn98
  replace hn99 := (hu459 _ (q_pd 100 5 rfl)).trans hn99
  replace hn100 := (hu459 _ (q_pd 101 5 rfl)).trans hn100
  replace hn101 := (hu459 _ (q_pd 102 5 rfl)).trans hn101
  replace hn102 := (hu459 _ (q_pd 103 5 rfl)).trans hn102
  replace hn103 := (hu459 _ (q_pd 104 5 rfl)).trans hn103
  replace hn104 := (hu459 _ (q_pd 105 5 rfl)).trans hn104
  replace hn105 := (hu459 _ (q_pd 106 5 rfl)).trans hn105
  replace hn106 := (hu459 _ (q_pd 107 5 rfl)).trans hn106
  replace hF := q_us hF hu459 (.tail _ (.tail _ (.tail _ (.tail _ (.tail _ (.head _))))))
  refine lv_aload_n hx hb d_1_1_233 rfl (lv_at hl 1 rfl) ?_
  refine q_get (ci := 0) (j := 3) (v := .ref q32) C0 V i_NH rfl rfl hO0 (by decide) w_427 rfl d_1_1_234 ?_
  refine lv_iload_n hx hb d_1_1_237 rfl (lv_at hl 0 rfl) ?_
  refine q_new (ci := 3) (fs := [.null, .int 0, .int 0]) C0 V hN i_Dec o_Dec rfl w_70 w_163 w_6 rfl (fun j hj => by rcases (show j = 0 ∨ j = 1 ∨ j = 2 by omega) with rfl | rfl | rfl <;> rfl) (Nat.le_of_ble_eq_true rfl) (Nat.le_of_ble_eq_true rfl) d_1_1_238 (fun q460 H w461 hu462 hn463 hN V => ?_)
  have hn107 : w461[108]? = some (q460, .inr (3, [.null, .int 0, .int 0])) := hn463
  replace hO0 := (hu462 _ (q_pd 0 108 rfl)).trans hO0
  replace hn0 := (hu462 _ (q_pd 1 108 rfl)).trans hn0
  replace hn1 := (hu462 _ (q_pd 2 108 rfl)).trans hn1
  replace hn2 := (hu462 _ (q_pd 3 108 rfl)).trans hn2
  replace hn3 := (hu462 _ (q_pd 4 108 rfl)).trans hn3
  replace hn4 := (hu462 _ (q_pd 5 108 rfl)).trans hn4
  replace hn5 := (hu462 _ (q_pd 6 108 rfl)).trans hn5
  replace hn6 := (hu462 _ (q_pd 7 108 rfl)).trans hn6
  replace hn7 := (hu462 _ (q_pd 8 108 rfl)).trans hn7
  replace hn8 := (hu462 _ (q_pd 9 108 rfl)).trans hn8
  replace hn9 := (hu462 _ (q_pd 10 108 rfl)).trans hn9
  replace hn10 := (hu462 _ (q_pd 11 108 rfl)).trans hn10
  replace hn11 := (hu462 _ (q_pd 12 108 rfl)).trans hn11
  replace hn12 := (hu462 _ (q_pd 13 108 rfl)).trans hn12
  replace hn13 := (hu462 _ (q_pd 14 108 rfl)).trans hn13
  replace hn14 := (hu462 _ (q_pd 15 108 rfl)).trans hn14
  replace hn15 := (hu462 _ (q_pd 16 108 rfl)).trans hn15
  replace hn16 := (hu462 _ (q_pd 17 108 rfl)).trans hn16
  replace hn17 := (hu462 _ (q_pd 18 108 rfl)).trans hn17
  replace hn18 := (hu462 _ (q_pd 19 108 rfl)).trans hn18
  replace hn19 := (hu462 _ (q_pd 20 108 rfl)).trans hn19
  replace hn20 := (hu462 _ (q_pd 21 108 rfl)).trans hn20
  replace hn21 := (hu462 _ (q_pd 22 108 rfl)).trans hn21
  replace hn22 := (hu462 _ (q_pd 23 108 rfl)).trans hn22
  replace hn23 := (hu462 _ (q_pd 24 108 rfl)).trans hn23
  replace hn24 := (hu462 _ (q_pd 25 108 rfl)).trans hn24
  replace hn25 := (hu462 _ (q_pd 26 108 rfl)).trans hn25
  replace hn26 := (hu462 _ (q_pd 27 108 rfl)).trans hn26
  replace hn27 := (hu462 _ (q_pd 28 108 rfl)).trans hn27
  replace hn28 := (hu462 _ (q_pd 29 108 rfl)).trans hn28
  replace hn29 := (hu462 _ (q_pd 30 108 rfl)).trans hn29
  replace hn30 := (hu462 _ (q_pd 31 108 rfl)).trans hn30
  replace hn31 := (hu462 _ (q_pd 32 108 rfl)).trans hn31
  replace hn32 := (hu462 _ (q_pd 33 108 rfl)).trans hn32
  replace hn33 := (hu462 _ (q_pd 34 108 rfl)).trans hn33
  replace hn34 := (hu462 _ (q_pd 35 108 rfl)).trans hn34
  replace hn35 := (hu462 _ (q_pd 36 108 rfl)).trans hn35
  replace hn36 := (hu462 _ (q_pd 37 108 rfl)).trans hn36
  replace hn37 := (hu462 _ (q_pd 38 108 rfl)).trans hn37
  replace hn38 := (hu462 _ (q_pd 39 108 rfl)).trans hn38
  replace hn39 := (hu462 _ (q_pd 40 108 rfl)).trans hn39
  replace hn40 := (hu462 _ (q_pd 41 108 rfl)).trans hn40
  replace hn41 := (hu462 _ (q_pd 42 108 rfl)).trans hn41
  replace hn42 := (hu462 _ (q_pd 43 108 rfl)).trans hn42
  replace hn43 := (hu462 _ (q_pd 44 108 rfl)).trans hn43
  replace hn44 := (hu462 _ (q_pd 45 108 rfl)).trans hn44
  replace hn45 := (hu462 _ (q_pd 46 108 rfl)).trans hn45
  replace hn46 := (hu462 _ (q_pd 47 108 rfl)).trans hn46
  replace hn47 := (hu462 _ (q_pd 48 108 rfl)).trans hn47
  replace hn48 := (hu462 _ (q_pd 49 108 rfl)).trans hn48
  replace hn49 := (hu462 _ (q_pd 50 108 rfl)).trans hn49
  replace hn50 := (hu462 _ (q_pd 51 108 rfl)).trans hn50
  replace hn51 := (hu462 _ (q_pd 52 108 rfl)).trans hn51
  replace hn52 := (hu462 _ (q_pd 53 108 rfl)).trans hn52
  replace hn53 := (hu462 _ (q_pd 54 108 rfl)).trans hn53
  replace hn54 := (hu462 _ (q_pd 55 108 rfl)).trans hn54
  replace hn55 := (hu462 _ (q_pd 56 108 rfl)).trans hn55
  replace hn56 := (hu462 _ (q_pd 57 108 rfl)).trans hn56
  replace hn57 := (hu462 _ (q_pd 58 108 rfl)).trans hn57
  replace hn58 := (hu462 _ (q_pd 59 108 rfl)).trans hn58
  replace hn59 := (hu462 _ (q_pd 60 108 rfl)).trans hn59
  replace hn60 := (hu462 _ (q_pd 61 108 rfl)).trans hn60
  replace hn61 := (hu462 _ (q_pd 62 108 rfl)).trans hn61
  replace hn62 := (hu462 _ (q_pd 63 108 rfl)).trans hn62
  replace hn63 := (hu462 _ (q_pd 64 108 rfl)).trans hn63
  replace hn64 := (hu462 _ (q_pd 65 108 rfl)).trans hn64
  replace hn65 := (hu462 _ (q_pd 66 108 rfl)).trans hn65
  replace hn66 := (hu462 _ (q_pd 67 108 rfl)).trans hn66
  replace hn67 := (hu462 _ (q_pd 68 108 rfl)).trans hn67
  replace hn68 := (hu462 _ (q_pd 69 108 rfl)).trans hn68
  replace hn69 := (hu462 _ (q_pd 70 108 rfl)).trans hn69
  replace hn70 := (hu462 _ (q_pd 71 108 rfl)).trans hn70
  replace hn71 := (hu462 _ (q_pd 72 108 rfl)).trans hn71
  replace hn72 := (hu462 _ (q_pd 73 108 rfl)).trans hn72
  replace hn73 := (hu462 _ (q_pd 74 108 rfl)).trans hn73
  replace hn74 := (hu462 _ (q_pd 75 108 rfl)).trans hn74
  replace hn75 := (hu462 _ (q_pd 76 108 rfl)).trans hn75
  replace hn76 := (hu462 _ (q_pd 77 108 rfl)).trans hn76
  replace hn77 := (hu462 _ (q_pd 78 108 rfl)).trans hn77
  replace hn78 := (hu462 _ (q_pd 79 108 rfl)).trans hn78
  replace hn79 := (hu462 _ (q_pd 80 108 rfl)).trans hn79
  replace hn80 := (hu462 _ (q_pd 81 108 rfl)).trans hn80
  replace hn81 := (hu462 _ (q_pd 82 108 rfl)).trans hn81
  replace hn82 := (hu462 _ (q_pd 83 108 rfl)).trans hn82
  replace hn83 := (hu462 _ (q_pd 84 108 rfl)).trans hn83
  replace hn84 := (hu462 _ (q_pd 85 108 rfl)).trans hn84
  replace hn85 := (hu462 _ (q_pd 86 108 rfl)).trans hn85
  replace hn86 := (hu462 _ (q_pd 87 108 rfl)).trans hn86
  replace hn87 := (hu462 _ (q_pd 88 108 rfl)).trans hn87
  replace hn88 := (hu462 _ (q_pd 89 108 rfl)).trans hn88
  replace hn89 := (hu462 _ (q_pd 90 108 rfl)).trans hn89
  replace hn90 := (hu462 _ (q_pd 91 108 rfl)).trans hn90
  replace hn91 := (hu462 _ (q_pd 92 108 rfl)).trans hn91
  replace hn92 := (hu462 _ (q_pd 93 108 rfl)).trans hn92
  replace hn93 := (hu462 _ (q_pd 94 108 rfl)).trans hn93
  replace hn94 := (hu462 _ (q_pd 95 108 rfl)).trans hn94
  replace hn95 := (hu462 _ (q_pd 96 108 rfl)).trans hn95
  replace hn96 := (hu462 _ (q_pd 97 108 rfl)).trans hn96
  replace hn97 := (hu462 _ (q_pd 98 108 rfl)).trans hn97
  replace hn98 := (hu462 _ (q_pd 99 108 rfl)).trans hn98
  replace hn99 := (hu462 _ (q_pd 100 108 rfl)).trans hn99
  replace hn100 := (hu462 _ (q_pd 101 108 rfl)).trans hn100
  replace hn101 := (hu462 _ (q_pd 102 108 rfl)).trans hn101
  replace hn102 := (hu462 _ (q_pd 103 108 rfl)).trans hn102
  replace hn103 := (hu462 _ (q_pd 104 108 rfl)).trans hn103
  replace hn104 := (hu462 _ (q_pd 105 108 rfl)).trans hn104
  replace hn105 := (hu462 _ (q_pd 106 108 rfl)).trans hn105
  replace hn106 := (hu462 _ (q_pd 107 108 rfl)).trans hn106
  replace hF := q_us hF hu462 (.tail _ (.tail _ (.tail _ (.tail _ (.tail _ (.tail _ (.tail _ (.tail _ (.tail _ (.tail _ (.tail _ (.tail _ (.tail _ (.tail _ (.tail _ (.tail _ (.tail _ (.tail _ (.tail _ (.tail _ (.tail _ (.tail _ (.tail _ (.tail _ (.tail _ (.tail _ (.tail _ (.tail _ (.tail _ (.tail _ (.tail _ (.tail _ (.tail _ (.tail _ (.tail _ (.tail _ (.tail _ (.tail _ (.tail _ (.tail _ (.tail _ (.tail _ (.tail _ (.tail _ (.tail _ (.tail _ (.tail _ (.tail _ (.tail _ (.tail _ (.tail _ (.tail _ (.tail _ (.tail _ (.tail _ (.tail _ (.tail _ (.tail _ (.tail _ (.tail _ (.tail _ (.tail _ (.tail _ (.tail _ (.tail _ (.tail _ (.tail _ (.tail _ (.tail _ (.tail _ (.tail _ (.tail _ (.tail _ (.tail _ (.tail _ (.tail _ (.tail _ (.tail _ (.tail _ (.tail _ (.tail _ (.tail _ (.tail _ (.tail _ (.tail _ (.tail _ (.tail _ (.tail _ (.tail _ (.tail _ (.tail _ (.tail _ (.tail _ (.tail _ (.tail _ (.tail _ (.tail _ (.tail _ (.tail _ (.tail _ (.tail _ (.tail _ (.tail _ (.tail _ (.tail _ (.tail _ (.tail _ (.tail _ (.head _)))))))))))))))))))))))))))))))))))))))))))))))))))))))))))))))))))))))))))))))))))))))))))))))))))))))))))))
  replace hN : w461.length = 109 := hN
  refine lv_dup hx hb d_1_1_241 rfl ?_
  refine lv_bipush (v := 108) hx hb d_1_1_242 (by decide) ?_
  refine q_gov V (q_runI (As := [.int 108]) (rest := [.ref q460, .int 8, .ref q32]) (d := 3) (mc := 2) (ms := 111) C0 V rfl LI_NH_103 (c_Dec_init l D g w461 108 q460 109 hN hn107 _) rfl hl.1 rfl (Nat.le_of_ble_eq_true rfl) ⟨by decide, by decide⟩ ⟨Nat.le_of_ble_eq_true rfl, Nat.le_of_ble_eq_true rfl⟩ d_1_1_244) (fun u465 H locs hp464 V => ?_)
  obtain ⟨q466, q467, hg468, hn107, hq469, hq470, hN⟩ := hp464
  replace hO0 := (hg468 _ (q_nc (q_pd 0 108 rfl) (q_nc (q_pd 0 109 rfl) (q_nc (q_pd 0 110 rfl) List.not_mem_nil)))).trans hO0
  replace hn0 := (hg468 _ (q_nc (q_pd 1 108 rfl) (q_nc (q_pd 1 109 rfl) (q_nc (q_pd 1 110 rfl) List.not_mem_nil)))).trans hn0
  replace hn1 := (hg468 _ (q_nc (q_pd 2 108 rfl) (q_nc (q_pd 2 109 rfl) (q_nc (q_pd 2 110 rfl) List.not_mem_nil)))).trans hn1
  replace hn2 := (hg468 _ (q_nc (q_pd 3 108 rfl) (q_nc (q_pd 3 109 rfl) (q_nc (q_pd 3 110 rfl) List.not_mem_nil)))).trans hn2
  replace hn3 := (hg468 _ (q_nc (q_pd 4 108 rfl) (q_nc (q_pd 4 109 rfl) (q_nc (q_pd 4 110 rfl) List.not_mem_nil)))).trans hn3
  replace hn4 := (hg468 _ (q_nc (q_pd 5 108 rfl) (q_nc (q_pd 5 109 rfl) (q_nc (q_pd 5 110 rfl) List.not_mem_nil)))).trans hn4
  replace hn5 := (hg468 _ (q_nc (q_pd 6 108 rfl) (q_nc (q_pd 6 109 rfl) (q_nc (q_pd 6 110 rfl) List.not_mem_nil)))).trans hn5
  replace hn6 := (hg468 _ (q_nc (q_pd 7 108 rfl) (q_nc (q_pd 7 109 rfl) (q_nc (q_pd 7 110 rfl) List.not_mem_nil)))).trans hn6
  replace hn7 := (hg468 _ (q_nc (q_pd 8 108 rfl) (q_nc (q_pd 8 109 rfl) (q_nc (q_pd 8 110 rfl) List.not_mem_nil)))).trans hn7
  replace hn8 := (hg468 _ (q_nc (q_pd 9 108 rfl) (q_nc (q_pd 9 109 rfl) (q_nc (q_pd 9 110 rfl) List.not_mem_nil)))).trans hn8
  replace hn9 := (hg468 _ (q_nc (q_pd 10 108 rfl) (q_nc (q_pd 10 109 rfl) (q_nc (q_pd 10 110 rfl) List.not_mem_nil)))).trans hn9
  replace hn10 := (hg468 _ (q_nc (q_pd 11 108 rfl) (q_nc (q_pd 11 109 rfl) (q_nc (q_pd 11 110 rfl) List.not_mem_nil)))).trans hn10
  replace hn11 := (hg468 _ (q_nc (q_pd 12 108 rfl) (q_nc (q_pd 12 109 rfl) (q_nc (q_pd 12 110 rfl) List.not_mem_nil)))).trans hn11
  replace hn12 := (hg468 _ (q_nc (q_pd 13 108 rfl) (q_nc (q_pd 13 109 rfl) (q_nc (q_pd 13 110 rfl) List.not_mem_nil)))).trans hn12
  replace hn13 := (hg468 _ (q_nc (q_pd 14 108 rfl) (q_nc (q_pd 14 109 rfl) (q_nc (q_pd 14 110 rfl) List.not_mem_nil)))).trans hn13
  replace hn14 := (hg468 _ (q_nc (q_pd 15 108 rfl) (q_nc (q_pd 15 109 rfl) (q_nc (q_pd 15 110 rfl) List.not_mem_nil)))).trans hn14
  replace hn15 := (hg468 _ (q_nc (q_pd 16 108 rfl) (q_nc (q_pd 16 109 rfl) (q_nc (q_pd 16 110 rfl) List.not_mem_nil)))).trans hn15
  replace hn16 := (hg468 _ (q_nc (q_pd 17 108 rfl) (q_nc (q_pd 17 109 rfl) (q_nc (q_pd 17 110 rfl) List.not_mem_nil)))).trans hn16
  replace hn17 := (hg468 _ (q_nc (q_pd 18 108 rfl) (q_nc (q_pd 18 109 rfl) (q_nc (q_pd 18 110 rfl) List.not_mem_nil)))).trans hn17
  replace hn18 := (hg468 _ (q_nc (q_pd 19 108 rfl) (q_nc (q_pd 19 109 rfl) (q_nc (q_pd 19 110 rfl) List.not_mem_nil)))).trans hn18
  replace hn19 := (hg468 _ (q_nc (q_pd 20 108 rfl) (q_nc (q_pd 20 109 rfl) (q_nc (q_pd 20 110 rfl) List.not_mem_nil)))).trans hn19
  replace hn20 := (hg468 _ (q_nc (q_pd 21 108 rfl) (q_nc (q_pd 21 109 rfl) (q_nc (q_pd 21 110 rfl) List.not_mem_nil)))).trans hn20
  replace hn21 := (hg468 _ (q_nc (q_pd 22 108 rfl) (q_nc (q_pd 22 109 rfl) (q_nc (q_pd 22 110 rfl) List.not_mem_nil)))).trans hn21
  replace hn22 := (hg468 _ (q_nc (q_pd 23 108 rfl) (q_nc (q_pd 23 109 rfl) (q_nc (q_pd 23 110 rfl) List.not_mem_nil)))).trans hn22
  replace hn23 := (hg468 _ (q_nc (q_pd 24 108 rfl) (q_nc (q_pd 24 109 rfl) (q_nc (q_pd 24 110 rfl) List.not_mem_nil)))).trans hn23
  replace hn24 := (hg468 _ (q_nc (q_pd 25 108 rfl) (q_nc (q_pd 25 109 rfl) (q_nc (q_pd 25 110 rfl) List.not_mem_nil)))).trans hn24
  replace hn25 := (hg468 _ (q_nc (q_pd 26 108 rfl) (q_nc (q_pd 26 109 rfl) (q_nc (q_pd 26 110 rfl) List.not_mem_nil)))).trans hn25
  replace hn26 := (hg468 _ (q_nc (q_pd 27 108 rfl) (q_nc (q_pd 27 109 rfl) (q_nc (q_pd 27 110 rfl) List.not_mem_nil)))).trans hn26
  replace hn27 := (hg468 _ (q_nc (q_pd 28 108 rfl) (q_nc (q_pd 28 109 rfl) (q_nc (q_pd 28 110 rfl) List.not_mem_nil)))).trans hn27
  replace hn28 := (hg468 _ (q_nc (q_pd 29 108 rfl) (q_nc (q_pd 29 109 rfl) (q_nc (q_pd 29 110 rfl) List.not_mem_nil)))).trans hn28
  replace hn29 := (hg468 _ (q_nc (q_pd 30 108 rfl) (q_nc (q_pd 30 109 rfl) (q_nc (q_pd 30 110 rfl) List.not_mem_nil)))).trans hn29
  replace hn30 := (hg468 _ (q_nc (q_pd 31 108 rfl) (q_nc (q_pd 31 109 rfl) (q_nc (q_pd 31 110 rfl) List.not_mem_nil)))).trans hn30
  replace hn31 := (hg468 _ (q_nc (q_pd 32 108 rfl) (q_nc (q_pd 32 109 rfl) (q_nc (q_pd 32 110 rfl) List.not_mem_nil)))).trans hn31
  replace hn32 := (hg468 _ (q_nc (q_pd 33 108 rfl) (q_nc (q_pd 33 109 rfl) (q_nc (q_pd 33 110 rfl) List.not_mem_nil)))).trans hn32
  replace hn33 := (hg468 _ (q_nc (q_pd 34 108 rfl) (q_nc (q_pd 34 109 rfl) (q_nc (q_pd 34 110 rfl) List.not_mem_nil)))).trans hn33
  replace hn34 := (hg468 _ (q_nc (q_pd 35 108 rfl) (q_nc (q_pd 35 109 rfl) (q_nc (q_pd 35 110 rfl) List.not_mem_nil)))).trans hn34
  replace hn35 := (hg468 _ (q_nc (q_pd 36 108 rfl) (q_nc (q_pd 36 109 rfl) (q_nc (q_pd 36 110 rfl) List.not_mem_nil)))).trans hn35
  replace hn36 := (hg468 _ (q_nc (q_pd 37 108 rfl) (q_nc (q_pd 37 109 rfl) (q_nc (q_pd 37 110 rfl) List.not_mem_nil)))).trans hn36
  replace hn37 := (hg468 _ (q_nc (q_pd 38 108 rfl) (q_nc (q_pd 38 109 rfl) (q_nc (q_pd 38 110 rfl) List.not_mem_nil)))).trans hn37
  replace hn38 := (hg468 _ (q_nc (q_pd 39 108 rfl) (q_nc (q_pd 39 109 rfl) (q_nc (q_pd 39 110 rfl) List.not_mem_nil)))).trans hn38
  replace hn39 := (hg468 _ (q_nc (q_pd 40 108 rfl) (q_nc (q_pd 40 109 rfl) (q_nc (q_pd 40 110 rfl) List.not_mem_nil)))).trans hn39
  replace hn40 := (hg468 _ (q_nc (q_pd 41 108 rfl) (q_nc (q_pd 41 109 rfl) (q_nc (q_pd 41 110 rfl) List.not_mem_nil)))).trans hn40
  replace hn41 := (hg468 _ (q_nc (q_pd 42 108 rfl) (q_nc (q_pd 42 109 rfl) (q_nc (q_pd 42 110 rfl) List.not_mem_nil)))).trans hn41
  replace hn42 := (hg468 _ (q_nc (q_pd 43 108 rfl) (q_nc (q_pd 43 109 rfl) (q_nc (q_pd 43 110 rfl) List.not_mem_nil)))).trans hn42
  replace hn43 := (hg468 _ (q_nc (q_pd 44 108 rfl) (q_nc (q_pd 44 109 rfl) (q_nc (q_pd 44 110 rfl) List.not_mem_nil)))).trans hn43
  replace hn44 := (hg468 _ (q_nc (q_pd 45 108 rfl) (q_nc (q_pd 45 109 rfl) (q_nc (q_pd 45 110 rfl) List.not_mem_nil)))).trans hn44
  replace hn45 := (hg468 _ (q_nc (q_pd 46 108 rfl) (q_nc (q_pd 46 109 rfl) (q_nc (q_pd 46 110 rfl) List.not_mem_nil)))).trans hn45
  replace hn46 := (hg468 _ (q_nc (q_pd 47 108 rfl) (q_nc (q_pd 47 109 rfl) (q_nc (q_pd 47 110 rfl) List.not_mem_nil)))).trans hn46
  replace hn47 := (hg468 _ (q_nc (q_pd 48 108 rfl) (q_nc (q_pd 48 109 rfl) (q_nc (q_pd 48 110 rfl) List.not_mem_nil)))).trans hn47
  replace hn48 := (hg468 _ (q_nc (q_pd 49 108 rfl) (q_nc (q_pd 49 109 rfl) (q_nc (q_pd 49 110 rfl) List.not_mem_nil)))).trans hn48
  replace hn49 := (hg468 _ (q_nc (q_pd 50 108 rfl) (q_nc (q_pd 50 109 rfl) (q_nc (q_pd 50 110 rfl) List.not_mem_nil)))).trans hn49
  replace hn50 := (hg468 _ (q_nc (q_pd 51 108 rfl) (q_nc (q_pd 51 109 rfl) (q_nc (q_pd 51 110 rfl) List.not_mem_nil)))).trans hn50
  replace hn51 := (hg468 _ (q_nc (q_pd 52 108 rfl) (q_nc (q_pd 52 109 rfl) (q_nc (q_pd 52 110 rfl) List.not_mem_nil)))).trans hn51
  replace hn52 := (hg468 _ (q_nc (q_pd 53 108 rfl) (q_nc (q_pd 53 109 rfl) (q_nc (q_pd 53 110 rfl) List.not_mem_nil)))).trans hn52
  replace hn53 := (hg468 _ (q_nc (q_pd 54 108 rfl) (q_nc (q_pd 54 109 rfl) (q_nc (q_pd 54 110 rfl) List.not_mem_nil)))).trans hn53
  replace hn54 := (hg468 _ (q_nc (q_pd 55 108 rfl) (q_nc (q_pd 55 109 rfl) (q_nc (q_pd 55 110 rfl) List.not_mem_nil)))).trans hn54
  replace hn55 := (hg468 _ (q_nc (q_pd 56 108 rfl) (q_nc (q_pd 56 109 rfl) (q_nc (q_pd 56 110 rfl) List.not_mem_nil)))).trans hn55
  replace hn56 := (hg468 _ (q_nc (q_pd 57 108 rfl) (q_nc (q_pd 57 109 rfl) (q_nc (q_pd 57 110 rfl) List.not_mem_nil)))).trans hn56
  replace hn57 := (hg468 _ (q_nc (q_pd 58 108 rfl) (q_nc (q_pd 58 109 rfl) (q_nc (q_pd 58 110 rfl) List.not_mem_nil)))).trans hn57
  replace hn58 := (hg468 _ (q_nc (q_pd 59 108 rfl) (q_nc (q_pd 59 109 rfl) (q_nc (q_pd 59 110 rfl) List.not_mem_nil)))).trans hn58
  replace hn59 := (hg468 _ (q_nc (q_pd 60 108 rfl) (q_nc (q_pd 60 109 rfl) (q_nc (q_pd 60 110 rfl) List.not_mem_nil)))).trans hn59
  replace hn60 := (hg468 _ (q_nc (q_pd 61 108 rfl) (q_nc (q_pd 61 109 rfl) (q_nc (q_pd 61 110 rfl) List.not_mem_nil)))).trans hn60
  replace hn61 := (hg468 _ (q_nc (q_pd 62 108 rfl) (q_nc (q_pd 62 109 rfl) (q_nc (q_pd 62 110 rfl) List.not_mem_nil)))).trans hn61
  replace hn62 := (hg468 _ (q_nc (q_pd 63 108 rfl) (q_nc (q_pd 63 109 rfl) (q_nc (q_pd 63 110 rfl) List.not_mem_nil)))).trans hn62
  replace hn63 := (hg468 _ (q_nc (q_pd 64 108 rfl) (q_nc (q_pd 64 109 rfl) (q_nc (q_pd 64 110 rfl) List.not_mem_nil)))).trans hn63
  replace hn64 := (hg468 _ (q_nc (q_pd 65 108 rfl) (q_nc (q_pd 65 109 rfl) (q_nc (q_pd 65 110 rfl) List.not_mem_nil)))).trans hn64
  replace hn65 := (hg468 _ (q_nc (q_pd 66 108 rfl) (q_nc (q_pd 66 109 rfl) (q_nc (q_pd 66 110 rfl) List.not_mem_nil)))).trans hn65
  replace hn66 := (hg468 _ (q_nc (q_pd 67 108 rfl) (q_nc (q_pd 67 109 rfl) (q_nc (q_pd 67 110 rfl) List.not_mem_nil)))).trans hn66
  replace hn67 := (hg468 _ (q_nc (q_pd 68 108 rfl) (q_nc (q_pd 68 109 rfl) (q_nc (q_pd 68 110 rfl) List.not_mem_nil)))).trans hn67
  replace hn68 := (hg468 _ (q_nc (q_pd 69 108 rfl) (q_nc (q_pd 69 109 rfl) (q_nc (q_pd 69 110 rfl) List.not_mem_nil)))).trans hn68
  replace hn69 := (hg468 _ (q_nc (q_pd 70 108 rfl) (q_nc (q_pd 70 109 rfl) (q_nc (q_pd 70 110 rfl) List.not_mem_nil)))).trans hn69
  replace hn70 := (hg468 _ (q_nc (q_pd 71 108 rfl) (q_nc (q_pd 71 109 rfl) (q_nc (q_pd 71 110 rfl) List.not_mem_nil)))).trans hn70
  replace hn71 := (hg468 _ (q_nc (q_pd 72 108 rfl) (q_nc (q_pd 72 109 rfl) (q_nc (q_pd 72 110 rfl) List.not_mem_nil)))).trans hn71
  replace hn72 := (hg468 _ (q_nc (q_pd 73 108 rfl) (q_nc (q_pd 73 109 rfl) (q_nc (q_pd 73 110 rfl) List.not_mem_nil)))).trans hn72
  replace hn73 := (hg468 _ (q_nc (q_pd 74 108 rfl) (q_nc (q_pd 74 109 rfl) (q_nc (q_pd 74 110 rfl) List.not_mem_nil)))).trans hn73
  replace hn74 := (hg468 _ (q_nc (q_pd 75 108 rfl) (q_nc (q_pd 75 109 rfl) (q_nc (q_pd 75 110 rfl) List.not_mem_nil)))).trans hn74
  replace hn75 := (hg468 _ (q_nc (q_pd 76 108 rfl) (q_nc (q_pd 76 109 rfl) (q_nc (q_pd 76 110 rfl) List.not_mem_nil)))).trans hn75
  replace hn76 := (hg468 _ (q_nc (q_pd 77 108 rfl) (q_nc (q_pd 77 109 rfl) (q_nc (q_pd 77 110 rfl) List.not_mem_nil)))).trans hn76
  replace hn77 := (hg468 _ (q_nc (q_pd 78 108 rfl) (q_nc (q_pd 78 109 rfl) (q_nc (q_pd 78 110 rfl) List.not_mem_nil)))).trans hn77
  replace hn78 := (hg468 _ (q_nc (q_pd 79 108 rfl) (q_nc (q_pd 79 109 rfl) (q_nc (q_pd 79 110 rfl) List.not_mem_nil)))).trans hn78
  replace hn79 := (hg468 _ (q_nc (q_pd 80 108 rfl) (q_nc (q_pd 80 109 rfl) (q_nc (q_pd 80 110 rfl) List.not_mem_nil)))).trans hn79
  replace hn80 := (hg468 _ (q_nc (q_pd 81 108 rfl) (q_nc (q_pd 81 109 rfl) (q_nc (q_pd 81 110 rfl) List.not_mem_nil)))).trans hn80
  replace hn81 := (hg468 _ (q_nc (q_pd 82 108 rfl) (q_nc (q_pd 82 109 rfl) (q_nc (q_pd 82 110 rfl) List.not_mem_nil)))).trans hn81
  replace hn82 := (hg468 _ (q_nc (q_pd 83 108 rfl) (q_nc (q_pd 83 109 rfl) (q_nc (q_pd 83 110 rfl) List.not_mem_nil)))).trans hn82
  replace hn83 := (hg468 _ (q_nc (q_pd 84 108 rfl) (q_nc (q_pd 84 109 rfl) (q_nc (q_pd 84 110 rfl) List.not_mem_nil)))).trans hn83
  replace hn84 := (hg468 _ (q_nc (q_pd 85 108 rfl) (q_nc (q_pd 85 109 rfl) (q_nc (q_pd 85 110 rfl) List.not_mem_nil)))).trans hn84
  replace hn85 := (hg468 _ (q_nc (q_pd 86 108 rfl) (q_nc (q_pd 86 109 rfl) (q_nc (q_pd 86 110 rfl) List.not_mem_nil)))).trans hn85
  replace hn86 := (hg468 _ (q_nc (q_pd 87 108 rfl) (q_nc (q_pd 87 109 rfl) (q_nc (q_pd 87 110 rfl) List.not_mem_nil)))).trans hn86
  replace hn87 := (hg468 _ (q_nc (q_pd 88 108 rfl) (q_nc (q_pd 88 109 rfl) (q_nc (q_pd 88 110 rfl) List.not_mem_nil)))).trans hn87
  replace hn88 := (hg468 _ (q_nc (q_pd 89 108 rfl) (q_nc (q_pd 89 109 rfl) (q_nc (q_pd 89 110 rfl) List.not_mem_nil)))).trans hn88
  replace hn89 := (hg468 _ (q_nc (q_pd 90 108 rfl) (q_nc (q_pd 90 109 rfl) (q_nc (q_pd 90 110 rfl) List.not_mem_nil)))).trans hn89
  replace hn90 := (hg468 _ (q_nc (q_pd 91 108 rfl) (q_nc (q_pd 91 109 rfl) (q_nc (q_pd 91 110 rfl) List.not_mem_nil)))).trans hn90
  replace hn91 := (hg468 _ (q_nc (q_pd 92 108 rfl) (q_nc (q_pd 92 109 rfl) (q_nc (q_pd 92 110 rfl) List.not_mem_nil)))).trans hn91
  replace hn92 := (hg468 _ (q_nc (q_pd 93 108 rfl) (q_nc (q_pd 93 109 rfl) (q_nc (q_pd 93 110 rfl) List.not_mem_nil)))).trans hn92
  replace hn93 := (hg468 _ (q_nc (q_pd 94 108 rfl) (q_nc (q_pd 94 109 rfl) (q_nc (q_pd 94 110 rfl) List.not_mem_nil)))).trans hn93
  replace hn94 := (hg468 _ (q_nc (q_pd 95 108 rfl) (q_nc (q_pd 95 109 rfl) (q_nc (q_pd 95 110 rfl) List.not_mem_nil)))).trans hn94
  replace hn95 := (hg468 _ (q_nc (q_pd 96 108 rfl) (q_nc (q_pd 96 109 rfl) (q_nc (q_pd 96 110 rfl) List.not_mem_nil)))).trans hn95
  replace hn96 := (hg468 _ (q_nc (q_pd 97 108 rfl) (q_nc (q_pd 97 109 rfl) (q_nc (q_pd 97 110 rfl) List.not_mem_nil)))).trans hn96
  replace hn97 := (hg468 _ (q_nc (q_pd 98 108 rfl) (q_nc (q_pd 98 109 rfl) (q_nc (q_pd 98 110 rfl) List.not_mem_nil)))).trans hn97
  replace hn98 := (hg468 _ (q_nc (q_pd 99 108 rfl) (q_nc (q_pd 99 109 rfl) (q_nc (q_pd 99 110 rfl) List.not_mem_nil)))).trans hn98
  replace hn99 := (hg468 _ (q_nc (q_pd 100 108 rfl) (q_nc (q_pd 100 109 rfl) (q_nc (q_pd 100 110 rfl) List.not_mem_nil)))).trans hn99
  replace hn100 := (hg468 _ (q_nc (q_pd 101 108 rfl) (q_nc (q_pd 101 109 rfl) (q_nc (q_pd 101 110 rfl) List.not_mem_nil)))).trans hn100
  replace hn101 := (hg468 _ (q_nc (q_pd 102 108 rfl) (q_nc (q_pd 102 109 rfl) (q_nc (q_pd 102 110 rfl) List.not_mem_nil)))).trans hn101
  replace hn102 := (hg468 _ (q_nc (q_pd 103 108 rfl) (q_nc (q_pd 103 109 rfl) (q_nc (q_pd 103 110 rfl) List.not_mem_nil)))).trans hn102
  replace hn103 := (hg468 _ (q_nc (q_pd 104 108 rfl) (q_nc (q_pd 104 109 rfl) (q_nc (q_pd 104 110 rfl) List.not_mem_nil)))).trans hn103
  replace hn104 := (hg468 _ (q_nc (q_pd 105 108 rfl) (q_nc (q_pd 105 109 rfl) (q_nc (q_pd 105 110 rfl) List.not_mem_nil)))).trans hn104
  replace hn105 := (hg468 _ (q_nc (q_pd 106 108 rfl) (q_nc (q_pd 106 109 rfl) (q_nc (q_pd 106 110 rfl) List.not_mem_nil)))).trans hn105
  replace hn106 := (hg468 _ (q_nc (q_pd 107 108 rfl) (q_nc (q_pd 107 109 rfl) (q_nc (q_pd 107 110 rfl) List.not_mem_nil)))).trans hn106
  replace hF := q_uc hF hg468 (q_sc (.tail _ (.tail _ (.tail _ (.tail _ (.tail _ (.tail _ (.tail _ (.tail _ (.tail _ (.tail _ (.tail _ (.tail _ (.tail _ (.tail _ (.tail _ (.tail _ (.tail _ (.tail _ (.tail _ (.tail _ (.tail _ (.tail _ (.tail _ (.tail _ (.tail _ (.tail _ (.tail _ (.tail _ (.tail _ (.tail _ (.tail _ (.tail _ (.tail _ (.tail _ (.tail _ (.tail _ (.tail _ (.tail _ (.tail _ (.tail _ (.tail _ (.tail _ (.tail _ (.tail _ (.tail _ (.tail _ (.tail _ (.tail _ (.tail _ (.tail _ (.tail _ (.tail _ (.tail _ (.tail _ (.tail _ (.tail _ (.tail _ (.tail _ (.tail _ (.tail _ (.tail _ (.tail _ (.tail _ (.tail _ (.tail _ (.tail _ (.tail _ (.tail _ (.tail _ (.tail _ (.tail _ (.tail _ (.tail _ (.tail _ (.tail _ (.tail _ (.tail _ (.tail _ (.tail _ (.tail _ (.tail _ (.tail _ (.tail _ (.tail _ (.tail _ (.tail _ (.tail _ (.tail _ (.tail _ (.tail _ (.tail _ (.tail _ (.tail _ (.tail _ (.tail _ (.tail _ (.tail _ (.tail _ (.tail _ (.tail _ (.tail _ (.tail _ (.tail _ (.tail _ (.tail _ (.tail _ (.tail _ (.tail _ (.head _))))))))))))))))))))))))))))))))))))))))))))))))))))))))))))))))))))))))))))))))))))))))))))))))))))))))))))) (q_sc (.tail _ (.tail _ (.tail _ (.tail _ (.tail _ (.tail _ (.tail _ (.tail _ (.tail _ (.tail _ (.tail _ (.tail _ (.tail _ (.tail _ (.tail _ (.tail _ (.tail _ (.tail _ (.tail _ (.tail _ (.tail _ (.tail _ (.tail _ (.tail _ (.tail _ (.tail _ (.tail _ (.tail _ (.tail _ (.tail _ (.tail _ (.tail _ (.tail _ (.tail _ (.tail _ (.tail _ (.tail _ (.tail _ (.tail _ (.tail _ (.tail _ (.tail _ (.tail _ (.tail _ (.tail _ (.tail _ (.tail _ (.tail _ (.tail _ (.tail _ (.tail _ (.tail _ (.tail _ (.tail _ (.tail _ (.tail _ (.tail _ (.tail _ (.tail _ (.tail _ (.tail _ (.tail _ (.tail _ (.tail _ (.tail _ (.tail _ (.tail _ (.tail _ (.tail _ (.tail _ (.tail _ (.tail _ (.tail _ (.tail _ (.tail _ (.tail _ (.tail _ (.tail _ (.tail _ (.tail _ (.tail _ (.tail _ (.tail _ (.tail _ (.tail _ (.tail _ (.tail _ (.tail _ (.tail _ (.tail _ (.tail _ (.tail _ (.tail _ (.tail _ (.tail _ (.tail _ (.tail _ (.tail _ (.tail _ (.tail _ (.tail _ (.tail _ (.tail _ (.tail _ (.tail _ (.tail _ (.tail _ (.tail _ (.tail _ (.head _)))))))))))))))))))))))))))))))))))))))))))))))))))))))))))))))))))))))))))))))))))))))))))))))))))))))))))))) (q_sc (.tail _ (.tail _ (.tail _ (.tail _ (.tail _ (.tail _ (.tail _ (.tail _ (.tail _ (.tail _ (.tail _ (.tail _ (.tail _ (.tail _ (.tail _ (.tail _ (.tail _ (.tail _ (.tail _ (.tail _ (.tail _ (.tail _ (.tail _ (.tail _ (.tail _ (.tail _ (.tail _ (.tail _ (.tail _ (.tail _ (.tail _ (.tail _ (.tail _ (.tail _ (.tail _ (.tail _ (.tail _ (.tail _ (.tail _ (.tail _ (.tail _ (.tail _ (.tail _ (.tail _ (.tail _ (.tail _ (.tail _ (.tail _ (.tail _ (.tail _ (.tail _ (.tail _ (.tail _ (.tail _ (.tail _ (.tail _ (.tail _ (.tail _ (.tail _ (.tail _ (.tail _ (.tail _ (.tail _ (.tail _ (.tail _ (.tail _ (.tail _ (.tail _ (.tail _ (.tail _ (.tail _ (.tail _ (.tail _ (.tail _ (.tail _ (.tail _ (.tail _ (.tail _ (.tail _ (.tail _ (.tail _ (.tail _ (.tail _ (.tail _ (.tail _ (.tail _ (.tail _ (.tail _ (.tail _ (.tail _ (.tail _ (.tail _ (.tail _ (.tail _ (.tail _ (.tail _ (.tail _ (.tail _ (.tail _ (.tail _ (.tail _ (.tail _ (.tail _ (.tail _ (.tail _ (.tail _ (.tail _ (.tail _ (.tail _ (.tail _ (.head _))))))))))))))))))))))))))))))))))))))))))))))))))))))))))))))))))))))))))))))))))))))))))))))))))))))))))))))) (fun _ h => absurd h List.not_mem_nil))))
  have hn108 : u465[109]? = some (q466, .inr (2, [.ref q467, .int 0, .int 0])) := hq469
  have hn109 : u465[110]? = some (q467, .inl (g 0, 108, .inl (fun _ => 0))) := hq470
  replace hN : u465.length = 111 := hN
  have ho471 := hn5
  refine q_aast (t := 5) (ci := 3) (i9 := 8) C0 V hn5 rfl hn107 rfl (by decide) (by decide) d_1_1_247 (fun H locs w472 hu473 hn5 V => ?_)
  replace hn5 : w472[6]? = some (q32, .inl (g 5, 10, .inr (.inr (.inr (.inr (va_up (va_up (va_up (va_up (va_up (va_up (va_up (va_up (va_up (fun _ => none) 0 (some q244)) 1 (some q271)) 2 (some q298)) 3 (some q325)) 4 (some q352)) 5 (some q379)) 6 (some q406)) 7 (some q433)) 8 (some q460))))))) := hn5
  replace hN : w472.length = 111 := (q_len1 hu473 hn5 ho471).trans hN
  replace hO0 := (hu473 _ (q_pd 0 6 rfl)).trans hO0
  replace hn0 := (hu473 _ (q_pd 1 6 rfl)).trans hn0
  replace hn1 := (hu473 _ (q_pd 2 6 rfl)).trans hn1
  replace hn2 := (hu473 _ (q_pd 3 6 rfl)).trans hn2
  replace hn3 := (hu473 _ (q_pd 4 6 rfl)).trans hn3
  replace hn4 := (hu473 _ (q_pd 5 6 rfl)).trans hn4
  replace hn6 := (hu473 _ (q_pd 7 6 rfl)).trans hn6
  replace hn7 := (hu473 _ (q_pd 8 6 rfl)).trans hn7
  replace hn8 := (hu473 _ (q_pd 9 6 rfl)).trans hn8
  replace hn9 := (hu473 _ (q_pd 10 6 rfl)).trans hn9
  replace hn10 := (hu473 _ (q_pd 11 6 rfl)).trans hn10
  replace hn11 := (hu473 _ (q_pd 12 6 rfl)).trans hn11
  replace hn12 := (hu473 _ (q_pd 13 6 rfl)).trans hn12
  replace hn13 := (hu473 _ (q_pd 14 6 rfl)).trans hn13
  replace hn14 := (hu473 _ (q_pd 15 6 rfl)).trans hn14
  replace hn15 := (hu473 _ (q_pd 16 6 rfl)).trans hn15
  replace hn16 := (hu473 _ (q_pd 17 6 rfl)).trans hn16
  replace hn17 := (hu473 _ (q_pd 18 6 rfl)).trans hn17
  replace hn18 := (hu473 _ (q_pd 19 6 rfl)).trans hn18
  replace hn19 := (hu473 _ (q_pd 20 6 rfl)).trans hn19
  replace hn20 := (hu473 _ (q_pd 21 6 rfl)).trans hn20
  replace hn21 := (hu473 _ (q_pd 22 6 rfl)).trans hn21
  replace hn22 := (hu473 _ (q_pd 23 6 rfl)).trans hn22
  replace hn23 := (hu473 _ (q_pd 24 6 rfl)).trans hn23
  replace hn24 := (hu473 _ (q_pd 25 6 rfl)).trans hn24
  replace hn25 := (hu473 _ (q_pd 26 6 rfl)).trans hn25
  replace hn26 := (hu473 _ (q_pd 27 6 rfl)).trans hn26
  replace hn27 := (hu473 _ (q_pd 28 6 rfl)).trans hn27
  replace hn28 := (hu473 _ (q_pd 29 6 rfl)).trans hn28
  replace hn29 := (hu473 _ (q_pd 30 6 rfl)).trans hn29
  replace hn30 := (hu473 _ (q_pd 31 6 rfl)).trans hn30
  replace hn31 := (hu473 _ (q_pd 32 6 rfl)).trans hn31
  replace hn32 := (hu473 _ (q_pd 33 6 rfl)).trans hn32
  replace hn33 := (hu473 _ (q_pd 34 6 rfl)).trans hn33
  replace hn34 := (hu473 _ (q_pd 35 6 rfl)).trans hn34
  replace hn35 := (hu473 _ (q_pd 36 6 rfl)).trans hn35
  replace hn36 := (hu473 _ (q_pd 37 6 rfl)).trans hn36
  replace hn37 := (hu473 _ (q_pd 38 6 rfl)).trans hn37
  replace hn38 := (hu473 _ (q_pd 39 6 rfl)).trans hn38
  replace hn39 := (hu473 _ (q_pd 40 6 rfl)).trans hn39
  replace hn40 := (hu473 _ (q_pd 41 6 rfl)).trans hn40
  replace hn41 := (hu473 _ (q_pd 42 6 rfl)).trans hn41
  replace hn42 := (hu473 _ (q_pd 43 6 rfl)).trans hn42
  replace hn43 := (hu473 _ (q_pd 44 6 rfl)).trans hn43
  replace hn44 := (hu473 _ (q_pd 45 6 rfl)).trans hn44
  replace hn45 := (hu473 _ (q_pd 46 6 rfl)).trans hn45
  replace hn46 := (hu473 _ (q_pd 47 6 rfl)).trans hn46
  replace hn47 := (hu473 _ (q_pd 48 6 rfl)).trans hn47
  replace hn48 := (hu473 _ (q_pd 49 6 rfl)).trans hn48
  replace hn49 := (hu473 _ (q_pd 50 6 rfl)).trans hn49
  replace hn50 := (hu473 _ (q_pd 51 6 rfl)).trans hn50
  replace hn51 := (hu473 _ (q_pd 52 6 rfl)).trans hn51
  replace hn52 := (hu473 _ (q_pd 53 6 rfl)).trans hn52
  replace hn53 := (hu473 _ (q_pd 54 6 rfl)).trans hn53
  replace hn54 := (hu473 _ (q_pd 55 6 rfl)).trans hn54
  replace hn55 := (hu473 _ (q_pd 56 6 rfl)).trans hn55
  replace hn56 := (hu473 _ (q_pd 57 6 rfl)).trans hn56
  replace hn57 := (hu473 _ (q_pd 58 6 rfl)).trans hn57
  replace hn58 := (hu473 _ (q_pd 59 6 rfl)).trans hn58
  replace hn59 := (hu473 _ (q_pd 60 6 rfl)).trans hn59
  replace hn60 := (hu473 _ (q_pd 61 6 rfl)).trans hn60
  replace hn61 := (hu473 _ (q_pd 62 6 rfl)).trans hn61
  replace hn62 := (hu473 _ (q_pd 63 6 rfl)).trans hn62
  replace hn63 := (hu473 _ (q_pd 64 6 rfl)).trans hn63
  replace hn64 := (hu473 _ (q_pd 65 6 rfl)).trans hn64
  replace hn65 := (hu473 _ (q_pd 66 6 rfl)).trans hn65
  replace hn66 := (hu473 _ (q_pd 67 6 rfl)).trans hn66
  replace hn67 := (hu473 _ (q_pd 68 6 rfl)).trans hn67
  replace hn68 := (hu473 _ (q_pd 69 6 rfl)).trans hn68
  replace hn69 := (hu473 _ (q_pd 70 6 rfl)).trans hn69
  replace hn70 := (hu473 _ (q_pd 71 6 rfl)).trans hn70
  replace hn71 := (hu473 _ (q_pd 72 6 rfl)).trans hn71
  replace hn72 := (hu473 _ (q_pd 73 6 rfl)).trans hn72
  replace hn73 := (hu473 _ (q_pd 74 6 rfl)).trans hn73
  replace hn74 := (hu473 _ (q_pd 75 6 rfl)).trans hn74
  replace hn75 := (hu473 _ (q_pd 76 6 rfl)).trans hn75
  replace hn76 := (hu473 _ (q_pd 77 6 rfl)).trans hn76
  replace hn77 := (hu473 _ (q_pd 78 6 rfl)).trans hn77
  replace hn78 := (hu473 _ (q_pd 79 6 rfl)).trans hn78
  replace hn79 := (hu473 _ (q_pd 80 6 rfl)).trans hn79
  replace hn80 := (hu473 _ (q_pd 81 6 rfl)).trans hn80
  replace hn81 := (hu473 _ (q_pd 82 6 rfl)).trans hn81
  replace hn82 := (hu473 _ (q_pd 83 6 rfl)).trans hn82
  replace hn83 := (hu473 _ (q_pd 84 6 rfl)).trans hn83
  replace hn84 := (hu473 _ (q_pd 85 6 rfl)).trans hn84
  replace hn85 := (hu473 _ (q_pd 86 6 rfl)).trans hn85
  replace hn86 := (hu473 _ (q_pd 87 6 rfl)).trans hn86
  replace hn87 := (hu473 _ (q_pd 88 6 rfl)).trans hn87
  replace hn88 := (hu473 _ (q_pd 89 6 rfl)).trans hn88
  replace hn89 := (hu473 _ (q_pd 90 6 rfl)).trans hn89
  replace hn90 := (hu473 _ (q_pd 91 6 rfl)).trans hn90
  replace hn91 := (hu473 _ (q_pd 92 6 rfl)).trans hn91
  replace hn92 := (hu473 _ (q_pd 93 6 rfl)).trans hn92
  replace hn93 := (hu473 _ (q_pd 94 6 rfl)).trans hn93
  replace hn94 := (hu473 _ (q_pd 95 6 rfl)).trans hn94
  replace hn95 := (hu473 _ (q_pd 96 6 rfl)).trans hn95
  replace hn96 := (hu473 _ (q_pd 97 6 rfl)).trans hn96
  replace hn97 := (hu473 _ (q_pd 98 6 rfl)).trans hn97
  replace hn98 := (hu473 _ (q_pd 99 6 rfl)).trans hn98
  replace hn99 := (hu473 _ (q_pd 100 6 rfl)).trans hn99
  replace hn100 := (hu473 _ (q_pd 101 6 rfl)).trans hn100
  replace hn101 := (hu473 _ (q_pd 102 6 rfl)).trans hn101
  replace hn102 := (hu473 _ (q_pd 103 6 rfl)).trans hn102
  replace hn103 := (hu473 _ (q_pd 104 6 rfl)).trans hn103
  replace hn104 := (hu473 _ (q_pd 105 6 rfl)).trans hn104
  replace hn105 := (hu473 _ (q_pd 106 6 rfl)).trans hn105
  replace hn106 := (hu473 _ (q_pd 107 6 rfl)).trans hn106
  replace hn107 := (hu473 _ (q_pd 108 6 rfl)).trans hn107
  replace hn108 := (hu473 _ (q_pd 109 6 rfl)).trans hn108
  replace hn109 := (hu473 _ (q_pd 110 6 rfl)).trans hn109
  replace hF := q_us hF hu473 (.tail _ (.tail _ (.tail _ (.tail _ (.tail _ (.tail _ (.head _)))))))
  refine lv_iinc (v := 9) (lv' := [(1, .int 9), (0, .ref qO0)]) hx hb d_1_1_248 hl (k := 0) rfl (by decide) (by decide) rfl (fun ls hl => ?_)
  refine lv_goto (tgt := 212) hx hb d_1_1_251 (by decide) ?_
  refine lv_iload_n hx hb d_1_1_212 rfl (lv_at hl 0 rfl) ?_
  refine lv_bipush (v := 10) hx hb d_1_1_213 (by decide) ?_
  refine lv_icmp_ge (tgt := 254) hx hb d_1_1_215 (by decide) (fun c474 => absurd c474 (by decide)) (fun c474 => ?_)
  refine lv_aload_n hx hb d_1_1_218 rfl (lv_at hl 1 rfl) ?_
  refine q_get (ci := 0) (j := 2) (v := .ref q25) C0 V i_NH rfl rfl hO0 (by decide) w_426 rfl d_1_1_219 ?_
  refine lv_iload_n hx hb d_1_1_222 rfl (lv_at hl 0 rfl) ?_
  refine q_new (ci := 2) (fs := [.null, .int 0, .int 0]) C0 V hN i_Big o_Big rfl w_68 w_79 w_4 rfl (fun j hj => by rcases (show j = 0 ∨ j = 1 ∨ j = 2 by omega) with rfl | rfl | rfl <;> rfl) (Nat.le_of_ble_eq_true rfl) (Nat.le_of_ble_eq_true rfl) d_1_1_223 (fun q475 H w476 hu477 hn478 hN V => ?_)
  have hn110 : w476[111]? = some (q475, .inr (2, [.null, .int 0, .int 0])) := hn478
  replace hO0 := (hu477 _ (q_pd 0 111 rfl)).trans hO0
  replace hn0 := (hu477 _ (q_pd 1 111 rfl)).trans hn0
  replace hn1 := (hu477 _ (q_pd 2 111 rfl)).trans hn1
  replace hn2 := (hu477 _ (q_pd 3 111 rfl)).trans hn2
  replace hn3 := (hu477 _ (q_pd 4 111 rfl)).trans hn3
  replace hn4 := (hu477 _ (q_pd 5 111 rfl)).trans hn4
  replace hn5 := (hu477 _ (q_pd 6 111 rfl)).trans hn5
  replace hn6 := (hu477 _ (q_pd 7 111 rfl)).trans hn6
  replace hn7 := (hu477 _ (q_pd 8 111 rfl)).trans hn7
  replace hn8 := (hu477 _ (q_pd 9 111 rfl)).trans hn8
  replace hn9 := (hu477 _ (q_pd 10 111 rfl)).trans hn9
  replace hn10 := (hu477 _ (q_pd 11 111 rfl)).trans hn10
  replace hn11 := (hu477 _ (q_pd 12 111 rfl)).trans hn11
  replace hn12 := (hu477 _ (q_pd 13 111 rfl)).trans hn12
  replace hn13 := (hu477 _ (q_pd 14 111 rfl)).trans hn13
  replace hn14 := (hu477 _ (q_pd 15 111 rfl)).trans hn14
  replace hn15 := (hu477 _ (q_pd 16 111 rfl)).trans hn15
  replace hn16 := (hu477 _ (q_pd 17 111 rfl)).trans hn16
  replace hn17 := (hu477 _ (q_pd 18 111 rfl)).trans hn17
  replace hn18 := (hu477 _ (q_pd 19 111 rfl)).trans hn18
  replace hn19 := (hu477 _ (q_pd 20 111 rfl)).trans hn19
  replace hn20 := (hu477 _ (q_pd 21 111 rfl)).trans hn20
  replace hn21 := (hu477 _ (q_pd 22 111 rfl)).trans hn21
  replace hn22 := (hu477 _ (q_pd 23 111 rfl)).trans hn22
  replace hn23 := (hu477 _ (q_pd 24 111 rfl)).trans hn23
  replace hn24 := (hu477 _ (q_pd 25 111 rfl)).trans hn24
  replace hn25 := (hu477 _ (q_pd 26 111 rfl)).trans hn25
  replace hn26 := (hu477 _ (q_pd 27 111 rfl)).trans hn26
  replace hn27 := (hu477 _ (q_pd 28 111 rfl)).trans hn27
  replace hn28 := (hu477 _ (q_pd 29 111 rfl)).trans hn28
  replace hn29 := (hu477 _ (q_pd 30 111 rfl)).trans hn29
  replace hn30 := (hu477 _ (q_pd 31 111 rfl)).trans hn30
  replace hn31 := (hu477 _ (q_pd 32 111 rfl)).trans hn31
  replace hn32 := (hu477 _ (q_pd 33 111 rfl)).trans hn32
  replace hn33 := (hu477 _ (q_pd 34 111 rfl)).trans hn33
  replace hn34 := (hu477 _ (q_pd 35 111 rfl)).trans hn34
  replace hn35 := (hu477 _ (q_pd 36 111 rfl)).trans hn35
  replace hn36 := (hu477 _ (q_pd 37 111 rfl)).trans hn36
  replace hn37 := (hu477 _ (q_pd 38 111 rfl)).trans hn37
  replace hn38 := (hu477 _ (q_pd 39 111 rfl)).trans hn38
  replace hn39 := (hu477 _ (q_pd 40 111 rfl)).trans hn39
  replace hn40 := (hu477 _ (q_pd 41 111 rfl)).trans hn40
  replace hn41 := (hu477 _ (q_pd 42 111 rfl)).trans hn41
  replace hn42 := (hu477 _ (q_pd 43 111 rfl)).trans hn42
  replace hn43 := (hu477 _ (q_pd 44 111 rfl)).trans hn43
  replace hn44 := (hu477 _ (q_pd 45 111 rfl)).trans hn44
  replace hn45 := (hu477 _ (q_pd 46 111 rfl)).trans hn45
  replace hn46 := (hu477 _ (q_pd 47 111 rfl)).trans hn46
  replace hn47 := (hu477 _ (q_pd 48 111 rfl)).trans hn47
  replace hn48 := (hu477 _ (q_pd 49 111 rfl)).trans hn48
  replace hn49 := (hu477 _ (q_pd 50 111 rfl)).trans hn49
  replace hn50 := (hu477 _ (q_pd 51 111 rfl)).trans hn50
  replace hn51 := (hu477 _ (q_pd 52 111 rfl)).trans hn51
  replace hn52 := (hu477 _ (q_pd 53 111 rfl)).trans hn52
  replace hn53 := (hu477 _ (q_pd 54 111 rfl)).trans hn53
  replace hn54 := (hu477 _ (q_pd 55 111 rfl)).trans hn54
  replace hn55 := (hu477 _ (q_pd 56 111 rfl)).trans hn55
  replace hn56 := (hu477 _ (q_pd 57 111 rfl)).trans hn56
  replace hn57 := (hu477 _ (q_pd 58 111 rfl)).trans hn57
  replace hn58 := (hu477 _ (q_pd 59 111 rfl)).trans hn58
  replace hn59 := (hu477 _ (q_pd 60 111 rfl)).trans hn59
  replace hn60 := (hu477 _ (q_pd 61 111 rfl)).trans hn60
  replace hn61 := (hu477 _ (q_pd 62 111 rfl)).trans hn61
  replace hn62 := (hu477 _ (q_pd 63 111 rfl)).trans hn62
  replace hn63 := (hu477 _ (q_pd 64 111 rfl)).trans hn63
  replace hn64 := (hu477 _ (q_pd 65 111 rfl)).trans hn64
  replace hn65 := (hu477 _ (q_pd 66 111 rfl)).trans hn65
  replace hn66 := (hu477 _ (q_pd 67 111 rfl)).trans hn66
  replace hn67 := (hu477 _ (q_pd 68 111 rfl)).trans hn67
  replace hn68 := (hu477 _ (q_pd 69 111 rfl)).trans hn68
  replace hn69 := (hu477 _ (q_pd 70 111 rfl)).trans hn69
  replace hn70 := (hu477 _ (q_pd 71 111 rfl)).trans hn70
  replace hn71 := (hu477 _ (q_pd 72 111 rfl)).trans hn71
  replace hn72 := (hu477 _ (q_pd 73 111 rfl)).trans hn72
  replace hn73 := (hu477 _ (q_pd 74 111 rfl)).trans hn73
  replace hn74 := (hu477 _ (q_pd 75 111 rfl)).trans hn74
  replace hn75 := (hu477 _ (q_pd 76 111 rfl)).trans hn75
  replace hn76 := (hu477 _ (q_pd 77 111 rfl)).trans hn76
  replace hn77 := (hu477 _ (q_pd 78 111 rfl)).trans hn77
  replace hn78 := (hu477 _ (q_pd 79 111 rfl)).trans hn78
  replace hn79 := (hu477 _ (q_pd 80 111 rfl)).trans hn79
  replace hn80 := (hu477 _ (q_pd 81 111 rfl)).trans hn80
  replace hn81 := (hu477 _ (q_pd 82 111 rfl)).trans hn81
  replace hn82 := (hu477 _ (q_pd 83 111 rfl)).trans hn82
  replace hn83 := (hu477 _ (q_pd 84 111 rfl)).trans hn83
  replace hn84 := (hu477 _ (q_pd 85 111 rfl)).trans hn84
  replace hn85 := (hu477 _ (q_pd 86 111 rfl)).trans hn85
  replace hn86 := (hu477 _ (q_pd 87 111 rfl)).trans hn86
  replace hn87 := (hu477 _ (q_pd 88 111 rfl)).trans hn87
  replace hn88 := (hu477 _ (q_pd 89 111 rfl)).trans hn88
  replace hn89 := (hu477 _ (q_pd 90 111 rfl)).trans hn89
  replace hn90 := (hu477 _ (q_pd 91 111 rfl)).trans hn90
  replace hn91 := (hu477 _ (q_pd 92 111 rfl)).trans hn91
  replace hn92 := (hu477 _ (q_pd 93 111 rfl)).trans hn92
  replace hn93 := (hu477 _ (q_pd 94 111 rfl)).trans hn93
  replace hn94 := (hu477 _ (q_pd 95 111 rfl)).trans hn94
  replace hn95 := (hu477 _ (q_pd 96 111 rfl)).trans hn95
  replace hn96 := (hu477 _ (q_pd 97 111 rfl)).trans hn96
  replace hn97 := (hu477 _ (q_pd 98 111 rfl)).trans hn97
  replace hn98 := (hu477 _ (q_pd 99 111 rfl)).trans hn98
  replace hn99 := (hu477 _ (q_pd 100 111 rfl)).trans hn99
  replace hn100 := (hu477 _ (q_pd 101 111 rfl)).trans hn100
  replace hn101 := (hu477 _ (q_pd 102 111 rfl)).trans hn101
  replace hn102 := (hu477 _ (q_pd 103 111 rfl)).trans hn102
  replace hn103 := (hu477 _ (q_pd 104 111 rfl)).trans hn103
  replace hn104 := (hu477 _ (q_pd 105 111 rfl)).trans hn104
  replace hn105 := (hu477 _ (q_pd 106 111 rfl)).trans hn105
  replace hn106 := (hu477 _ (q_pd 107 111 rfl)).trans hn106
  replace hn107 := (hu477 _ (q_pd 108 111 rfl)).trans hn107
  replace hn108 := (hu477 _ (q_pd 109 111 rfl)).trans hn108
  replace hn109 := (hu477 _ (q_pd 110 111 rfl)).trans hn109
  replace hF := q_us hF hu477 (.tail _ (.tail _ (.tail _ (.tail _ (.tail _ (.tail _ (.tail _ (.tail _ (.tail _ (.tail _ (.tail _ (.tail _ (.tail _ (.tail _ (.tail _ (.tail _ (.tail _ (.tail _ (.tail _ (.tail _ (.tail _ (.tail _ (.tail _ (.tail _ (.tail _ (.tail _ (.tail _ (.tail _ (.tail _ (.tail _ (.tail _ (.tail _ (.tail _ (.tail _ (.tail _ (.tail _ (.tail _ (.tail _ (.tail _ (.tail _ (.tail _ (.tail _ (.tail _ (.tail _ (.tail _ (.tail _ (.tail _ (.tail _ (.tail _ (.tail _ (.tail _ (.tail _ (.tail _ (.tail _ (.tail _ (.tail _ (.tail _ (.tail _ (.tail _ (.tail _ (.tail _ (.tail _ (.tail _ (.tail _ (.tail _ (.tail _ (.tail _ (.tail _ (.tail _ (.tail _ (.tail _ (.tail _ (.tail _ (.tail _ (.tail _ (.tail _ (.tail _ (.tail _ (.tail _ (.tail _ (.tail _ (.tail _ (.tail _ (.tail _ (.tail _ (.tail _ (.tail _ (.tail _ (.tail _ (.tail _ (.tail _ (.tail _ (.tail _ (.tail _ (.tail _ (.tail _ (.tail _ (.tail _ (.tail _ (.tail _ (.tail _ (.tail _ (.tail _ (.tail _ (.tail _ (.tail _ (.tail _ (.tail _ (.tail _ (.tail _ (.tail _ (.head _))))))))))))))))))))))))))))))))))))))))))))))))))))))))))))))))))))))))))))))))))))))))))))))))))))))))))))))))
  replace hN : w476.length = 112 := hN
  refine lv_dup hx hb d_1_1_226 rfl ?_
  refine lv_bipush (v := 68) hx hb d_1_1_227 (by decide) ?_
  refine q_gov V (q_runI (As := [.int 68]) (rest := [.ref q475, .int 9, .ref q25]) (d := 2) (mc := 1) (ms := 68) C0 V rfl LI_NH_102 (c_Big_init l D g w476 111 q475 112 hN hn110 _) rfl hl.1 rfl (Nat.le_of_ble_eq_true rfl) ⟨by decide, by decide⟩ ⟨Nat.le_of_ble_eq_true rfl, Nat.le_of_ble_eq_true rfl⟩ d_1_1_229) (fun u480 H locs hp479 V => ?_)
  obtain ⟨q481, hg482, hn110, hq483, hN⟩ := hp479
  replace hO0 := (hg482 _ (q_nc (q_pd 0 111 rfl) (q_nc (q_pd 0 112 rfl) List.not_mem_nil))).trans hO0
  replace hn0 := (hg482 _ (q_nc (q_pd 1 111 rfl) (q_nc (q_pd 1 112 rfl) List.not_mem_nil))).trans hn0
  replace hn1 := (hg482 _ (q_nc (q_pd 2 111 rfl) (q_nc (q_pd 2 112 rfl) List.not_mem_nil))).trans hn1
  replace hn2 := (hg482 _ (q_nc (q_pd 3 111 rfl) (q_nc (q_pd 3 112 rfl) List.not_mem_nil))).trans hn2
  replace hn3 := (hg482 _ (q_nc (q_pd 4 111 rfl) (q_nc (q_pd 4 112 rfl) List.not_mem_nil))).trans hn3
  replace hn4 := (hg482 _ (q_nc (q_pd 5 111 rfl) (q_nc (q_pd 5 112 rfl) List.not_mem_nil))).trans hn4
  replace hn5 := (hg482 _ (q_nc (q_pd 6 111 rfl) (q_nc (q_pd 6 112 rfl) List.not_mem_nil))).trans hn5
  replace hn6 := (hg482 _ (q_nc (q_pd 7 111 rfl) (q_nc (q_pd 7 112 rfl) List.not_mem_nil))).trans hn6
  replace hn7 := (hg482 _ (q_nc (q_pd 8 111 rfl) (q_nc (q_pd 8 112 rfl) List.not_mem_nil))).trans hn7
  replace hn8 := (hg482 _ (q_nc (q_pd 9 111 rfl) (q_nc (q_pd 9 112 rfl) List.not_mem_nil))).trans hn8
  replace hn9 := (hg482 _ (q_nc (q_pd 10 111 rfl) (q_nc (q_pd 10 112 rfl) List.not_mem_nil))).trans hn9
  replace hn10 := (hg482 _ (q_nc (q_pd 11 111 rfl) (q_nc (q_pd 11 112 rfl) List.not_mem_nil))).trans hn10
  replace hn11 := (hg482 _ (q_nc (q_pd 12 111 rfl) (q_nc (q_pd 12 112 rfl) List.not_mem_nil))).trans hn11
  replace hn12 := (hg482 _ (q_nc (q_pd 13 111 rfl) (q_nc (q_pd 13 112 rfl) List.not_mem_nil))).trans hn12
  replace hn13 := (hg482 _ (q_nc (q_pd 14 111 rfl) (q_nc (q_pd 14 112 rfl) List.not_mem_nil))).trans hn13
  replace hn14 := (hg482 _ (q_nc (q_pd 15 111 rfl) (q_nc (q_pd 15 112 rfl) List.not_mem_nil))).trans hn14
  replace hn15 := (hg482 _ (q_nc (q_pd 16 111 rfl) (q_nc (q_pd 16 112 rfl) List.not_mem_nil))).trans hn15
  replace hn16 := (hg482 _ (q_nc (q_pd 17 111 rfl) (q_nc (q_pd 17 112 rfl) List.not_mem_nil))).trans hn16
  replace hn17 := (hg482 _ (q_nc (q_pd 18 111 rfl) (q_nc (q_pd 18 112 rfl) List.not_mem_nil))).trans hn17
  replace hn18 := (hg482 _ (q_nc (q_pd 19 111 rfl) (q_nc (q_pd 19 112 rfl) List.not_mem_nil))).trans hn18
  replace hn19 := (hg482 _ (q_nc (q_pd 20 111 rfl) (q_nc (q_pd 20 112 rfl) List.not_mem_nil))).trans hn19
  replace hn20 := (hg482 _ (q_nc (q_pd 21 111 rfl) (q_nc (q_pd 21 112 rfl) List.not_mem_nil))).trans hn20
  replace hn21 := (hg482 _ (q_nc (q_pd 22 111 rfl) (q_nc (q_pd 22 112 rfl) List.not_mem_nil))).trans hn21
  replace hn22 := (hg482 _ (q_nc (q_pd 23 111 rfl) (q_nc (q_pd 23 112 rfl) List.not_mem_nil))).trans hn22
  replace hn23 := (hg482 _ (q_nc (q_pd 24 111 rfl) (q_nc (q_pd 24 112 rfl) List.not_mem_nil))).trans hn23
  replace hn24 := (hg482 _ (q_nc (q_pd 25 111 rfl) (q_nc (q_pd 25 112 rfl) List.not_mem_nil))).trans hn24
  replace hn25 := (hg482 _ (q_nc (q_pd 26 111 rfl) (q_nc (q_pd 26 112 rfl) List.not_mem_nil))).trans hn25
  replace hn26 := (hg482 _ (q_nc (q_pd 27 111 rfl) (q_nc (q_pd 27 112 rfl) List.not_mem_nil))).trans hn26
  replace hn27 := (hg482 _ (q_nc (q_pd 28 111 rfl) (q_nc (q_pd 28 112 rfl) List.not_mem_nil))).trans hn27
  replace hn28 := (hg482 _ (q_nc (q_pd 29 111 rfl) (q_nc (q_pd 29 112 rfl) List.not_mem_nil))).trans hn28
  replace hn29 := (hg482 _ (q_nc (q_pd 30 111 rfl) (q_nc (q_pd 30 112 rfl) List.not_mem_nil))).trans hn29
  replace hn30 := (hg482 _ (q_nc (q_pd 31 111 rfl) (q_nc (q_pd 31 112 rfl) List.not_mem_nil))).trans hn30
  replace hn31 := (hg482 _ (q_nc (q_pd 32 111 rfl) (q_nc (q_pd 32 112 rfl) List.not_mem_nil))).trans hn31
  replace hn32 := (hg482 _ (q_nc (q_pd 33 111 rfl) (q_nc (q_pd 33 112 rfl) List.not_mem_nil))).trans hn32
  replace hn33 := (hg482 _ (q_nc (q_pd 34 111 rfl) (q_nc (q_pd 34 112 rfl) List.not_mem_nil))).trans hn33
  replace hn34 := (hg482 _ (q_nc (q_pd 35 111 rfl) (q_nc (q_pd 35 112 rfl) List.not_mem_nil))).trans hn34
  replace hn35 := (hg482 _ (q_nc (q_pd 36 111 rfl) (q_nc (q_pd 36 112 rfl) List.not_mem_nil))).trans hn35
  replace hn36 := (hg482 _ (q_nc (q_pd 37 111 rfl) (q_nc (q_pd 37 112 rfl) List.not_mem_nil))).trans hn36
  replace hn37 := (hg482 _ (q_nc (q_pd 38 111 rfl) (q_nc (q_pd 38 112 rfl) List.not_mem_nil))).trans hn37
  replace hn38 := (hg482 _ (q_nc (q_pd 39 111 rfl) (q_nc (q_pd 39 112 rfl) List.not_mem_nil))).trans hn38
  replace hn39 := (hg482 _ (q_nc (q_pd 40 111 rfl) (q_nc (q_pd 40 112 rfl) List.not_mem_nil))).trans hn39
  replace hn40 := (hg482 _ (q_nc (q_pd 41 111 rfl) (q_nc (q_pd 41 112 rfl) List.not_mem_nil))).trans hn40
  replace hn41 := (hg482 _ (q_nc (q_pd 42 111 rfl) (q_nc (q_pd 42 112 rfl) List.not_mem_nil))).trans hn41
  replace hn42 := (hg482 _ (q_nc (q_pd 43 111 rfl) (q_nc (q_pd 43 112 rfl) List.not_mem_nil))).trans hn42
  replace hn43 := (hg482 _ (q_nc (q_pd 44 111 rfl) (q_nc (q_pd 44 112 rfl) List.not_mem_nil))).trans hn43
  replace hn44 := (hg482 _ (q_nc (q_pd 45 111 rfl) (q_nc (q_pd 45 112 rfl) List.not_mem_nil))).trans hn44
  replace hn45 := (hg482 _ (q_nc (q_pd 46 111 rfl) (q_nc (q_pd 46 112 rfl) List.not_mem_nil))).trans hn45
  replace hn46 := (hg482 _ (q_nc (q_pd 47 111 rfl) (q_nc (q_pd 47 112 rfl) List.not_mem_nil))).trans hn46
  replace hn47 := (hg482 _ (q_nc (q_pd 48 111 rfl) (q_nc (q_pd 48 112 rfl) List.not_mem_nil))).trans hn47
  replace hn48 := (hg482 _ (q_nc (q_pd 49 111 rfl) (q_nc (q_pd 49 112 rfl) List.not_mem_nil))).trans hn48
  replace hn49 := (hg482 _ (q_nc (q_pd 50 111 rfl) (q_nc (q_pd 50 112 rfl) List.not_mem_nil))).trans hn49
  replace hn50 := (hg482 _ (q_nc (q_pd 51 111 rfl) (q_nc (q_pd 51 112 rfl) List.not_mem_nil))).trans hn50
  replace hn51 := (hg482 _ (q_nc (q_pd 52 111 rfl) (q_nc (q_pd 52 112 rfl) List.not_mem_nil))).trans hn51
  replace hn52 := (hg482 _ (q_nc (q_pd 53 111 rfl) (q_nc (q_pd 53 112 rfl) List.not_mem_nil))).trans hn52
  replace hn53 := (hg482 _ (q_nc (q_pd 54 111 rfl) (q_nc (q_pd 54 112 rfl) List.not_mem_nil))).trans hn53
  replace hn54 := (hg482 _ (q_nc (q_pd 55 111 rfl) (q_nc (q_pd 55 112 rfl) List.not_mem_nil))).trans hn54
  replace hn55 := (hg482 _ (q_nc (q_pd 56 111 rfl) (q_nc (q_pd 56 112 rfl) List.not_mem_nil))).trans hn55
  replace hn56 := (hg482 _ (q_nc (q_pd 57 111 rfl) (q_nc (q_pd 57 112 rfl) List.not_mem_nil))).trans hn56
  replace hn57 := (hg482 _ (q_nc (q_pd 58 111 rfl) (q_nc (q_pd 58 112 rfl) List.not_mem_nil))).trans hn57
  replace hn58 := (hg482 _ (q_nc (q_pd 59 111 rfl) (q_nc (q_pd 59 112 rfl) List.not_mem_nil))).trans hn58
  replace hn59 := (hg482 _ (q_nc (q_pd 60 111 rfl) (q_nc (q_pd 60 112 rfl) List.not_mem_nil))).trans hn59
  replace hn60 := (hg482 _ (q_nc (q_pd 61 111 rfl) (q_nc (q_pd 61 112 rfl) List.not_mem_nil))).trans hn60
  replace hn61 := (hg482 _ (q_nc (q_pd 62 111 rfl) (q_nc (q_pd 62 112 rfl) List.not_mem_nil))).trans hn61
  replace hn62 := (hg482 _ (q_nc (q_pd 63 111 rfl) (q_nc (q_pd 63 112 rfl) List.not_mem_nil))).trans hn62
  replace hn63 := (hg482 _ (q_nc (q_pd 64 111 rfl) (q_nc (q_pd 64 112 rfl) List.not_mem_nil))).trans hn63
  replace hn64 := (hg482 _ (q_nc (q_pd 65 111 rfl) (q_nc (q_pd 65 112 rfl) List.not_mem_nil))).trans hn64
  replace hn65 := (hg482 _ (q_nc (q_pd 66 111 rfl) (q_nc (q_pd 66 112 rfl) List.not_mem_nil))).trans hn65
  replace hn66 := (hg482 _ (q_nc (q_pd 67 111 rfl) (q_nc (q_pd 67 112 rfl) List.not_mem_nil))).trans hn66
  replace hn67 := (hg482 _ (q_nc (q_pd 68 111 rfl) (q_nc (q_pd 68 112 rfl) List.not_mem_nil))).trans hn67
  replace hn68 := (hg482 _ (q_nc (q_pd 69 111 rfl) (q_nc (q_pd 69 112 rfl) List.not_mem_nil))).trans hn68
  replace hn69 := (hg482 _ (q_nc (q_pd 70 111 rfl) (q_nc (q_pd 70 112 rfl) List.not_mem_nil))).trans hn69
  replace hn70 := (hg482 _ (q_nc (q_pd 71 111 rfl) (q_nc (q_pd 71 112 rfl) List.not_mem_nil))).trans hn70
  replace hn71 := (hg482 _ (q_nc (q_pd 72 111 rfl) (q_nc (q_pd 72 112 rfl) List.not_mem_nil))).trans hn71
  replace hn72 := (hg482 _ (q_nc (q_pd 73 111 rfl) (q_nc (q_pd 73 112 rfl) List.not_mem_nil))).trans hn72
  replace hn73 := (hg482 _ (q_nc (q_pd 74 111 rfl) (q_nc (q_pd 74 112 rfl) List.not_mem_nil))).trans hn73
  replace hn74 := (hg482 _ (q_nc (q_pd 75 111 rfl) (q_nc (q_pd 75 112 rfl) List.not_mem_nil))).trans hn74
  replace hn75 := (hg482 _ (q_nc (q_pd 76 111 rfl) (q_nc (q_pd 76 112 rfl) List.not_mem_nil))).trans hn75
  replace hn76 := (hg482 _ (q_nc (q_pd 77 111 rfl) (q_nc (q_pd 77 112 rfl) List.not_mem_nil))).trans hn76
  replace hn77 := (hg482 _ (q_nc (q_pd 78 111 rfl) (q_nc (q_pd 78 112 rfl) List.not_mem_nil))).trans hn77
  replace hn78 := (hg482 _ (q_nc (q_pd 79 111 rfl) (q_nc (q_pd 79 112 rfl) List.not_mem_nil))).trans hn78
  replace hn79 := (hg482 _ (q_nc (q_pd 80 111 rfl) (q_nc (q_pd 80 112 rfl) List.not_mem_nil))).trans hn79
  replace hn80 := (hg482 _ (q_nc (q_pd 81 111 rfl) (q_nc (q_pd 81 112 rfl) List.not_mem_nil))).trans hn80
  replace hn81 := (hg482 _ (q_nc (q_pd 82 111 rfl) (q_nc (q_pd 82 112 rfl) List.not_mem_nil))).trans hn81
  replace hn82 := (hg482 _ (q_nc (q_pd 83 111 rfl) (q_nc (q_pd 83 112 rfl) List.not_mem_nil))).trans hn82
  replace hn83 := (hg482 _ (q_nc (q_pd 84 111 rfl) (q_nc (q_pd 84 112 rfl) List.not_mem_nil))).trans hn83
  replace hn84 := (hg482 _ (q_nc (q_pd 85 111 rfl) (q_nc (q_pd 85 112 rfl) List.not_mem_nil))).trans hn84
  replace hn85 := (hg482 _ (q_nc (q_pd 86 111 rfl) (q_nc (q_pd 86 112 rfl) List.not_mem_nil))).trans hn85
  replace hn86 := (hg482 _ (q_nc (q_pd 87 111 rfl) (q_nc (q_pd 87 112 rfl) List.not_mem_nil))).trans hn86
  replace hn87 := (hg482 _ (q_nc (q_pd 88 111 rfl) (q_nc (q_pd 88 112 rfl) List.not_mem_nil))).trans hn87
  replace hn88 := (hg482 _ (q_nc (q_pd 89 111 rfl) (q_nc (q_pd 89 112 rfl) List.not_mem_nil))).trans hn88
  replace hn89 := (hg482 _ (q_nc (q_pd 90 111 rfl) (q_nc (q_pd 90 112 rfl) List.not_mem_nil))).trans hn89
  replace hn90 := (hg482 _ (q_nc (q_pd 91 111 rfl) (q_nc (q_pd 91 112 rfl) List.not_mem_nil))).trans hn90
  replace hn91 := (hg482 _ (q_nc (q_pd 92 111 rfl) (q_nc (q_pd 92 112 rfl) List.not_mem_nil))).trans hn91
  replace hn92 := (hg482 _ (q_nc (q_pd 93 111 rfl) (q_nc (q_pd 93 112 rfl) List.not_mem_nil))).trans hn92
  replace hn93 := (hg482 _ (q_nc (q_pd 94 111 rfl) (q_nc (q_pd 94 112 rfl) List.not_mem_nil))).trans hn93
  replace hn94 := (hg482 _ (q_nc (q_pd 95 111 rfl) (q_nc (q_pd 95 112 rfl) List.not_mem_nil))).trans hn94
  replace hn95 := (hg482 _ (q_nc (q_pd 96 111 rfl) (q_nc (q_pd 96 112 rfl) List.not_mem_nil))).trans hn95
  replace hn96 := (hg482 _ (q_nc (q_pd 97 111 rfl) (q_nc (q_pd 97 112 rfl) List.not_mem_nil))).trans hn96
  replace hn97 := (hg482 _ (q_nc (q_pd 98 111 rfl) (q_nc (q_pd 98 112 rfl) List.not_mem_nil))).trans hn97
  replace hn98 := (hg482 _ (q_nc (q_pd 99 111 rfl) (q_nc (q_pd 99 112 rfl) List.not_mem_nil))).trans hn98
  replace hn99 := (hg482 _ (q_nc (q_pd 100 111 rfl) (q_nc (q_pd 100 112 rfl) List.not_mem_nil))).trans hn99
  replace hn100 := (hg482 _ (q_nc (q_pd 101 111 rfl) (q_nc (q_pd 101 112 rfl) List.not_mem_nil))).trans hn100
  replace hn101 := (hg482 _ (q_nc (q_pd 102 111 rfl) (q_nc (q_pd 102 112 rfl) List.not_mem_nil))).trans hn101
  replace hn102 := (hg482 _ (q_nc (q_pd 103 111 rfl) (q_nc (q_pd 103 112 rfl) List.not_mem_nil))).trans hn102
  replace hn103 := (hg482 _ (q_nc (q_pd 104 111 rfl) (q_nc (q_pd 104 112 rfl) List.not_mem_nil))).trans hn103
  replace hn104 := (hg482 _ (q_nc (q_pd 105 111 rfl) (q_nc (q_pd 105 112 rfl) List.not_mem_nil))).trans hn104
  replace hn105 := (hg482 _ (q_nc (q_pd 106 111 rfl) (q_nc (q_pd 106 112 rfl) List.not_mem_nil))).trans hn105
  replace hn106 := (hg482 _ (q_nc (q_pd 107 111 rfl) (q_nc (q_pd 107 112 rfl) List.not_mem_nil))).trans hn106
  replace hn107 := (hg482 _ (q_nc (q_pd 108 111 rfl) (q_nc (q_pd 108 112 rfl) List.not_mem_nil))).trans hn107
  replace hn108 := (hg482 _ (q_nc (q_pd 109 111 rfl) (q_nc (q_pd 109 112 rfl) List.not_mem_nil))).trans hn108
  replace hn109 := (hg482 _ (q_nc (q_pd 110 111 rfl) (q_nc (q_pd 110 112 rfl) List.not_mem_nil))).trans hn109
  replace hF := q_uc hF hg482 (q_sc (.tail _ (.tail _ (.tail _ (.tail _ (.tail _ (.tail _ (.tail _ (.tail _ (.tail _ (.tail _ (.tail _ (.tail _ (.tail _ (.tail _ (.tail _ (.tail _ (.tail _ (.tail _ (.tail _ (.tail _ (.tail _ (.tail _ (.tail _ (.tail _ (.tail _ (.tail _ (.tail _ (.tail _ (.tail _ (.tail _ (.tail _ (.tail _ (.tail _ (.tail _ (.tail _ (.tail _ (.tail _ (.tail _ (.tail _ (.tail _ (.tail _ (.tail _ (.tail _ (.tail _ (.tail _ (.tail _ (.tail _ (.tail _ (.tail _ (.tail _ (.tail _ (.tail _ (.tail _ (.tail _ (.tail _ (.tail _ (.tail _ (.tail _ (.tail _ (.tail _ (.tail _ (.tail _ (.tail _ (.tail _ (.tail _ (.tail _ (.tail _ (.tail _ (.tail _ (.tail _ (.tail _ (.tail _ (.tail _ (.tail _ (.tail _ (.tail _ (.tail _ (.tail _ (.tail _ (.tail _ (.tail _ (.tail _ (.tail _ (.tail _ (.tail _ (.tail _ (.tail _ (.tail _ (.tail _ (.tail _ (.tail _ (.tail _ (.tail _ (.tail _ (.tail _ (.tail _ (.tail _ (.tail _ (.tail _ (.tail _ (.tail _ (.tail _ (.tail _ (.tail _ (.tail _ (.tail _ (.tail _ (.tail _ (.tail _ (.tail _ (.tail _ (.head _)))))))))))))))))))))))))))))))))))))))))))))))))))))))))))))))))))))))))))))))))))))))))))))))))))))))))))))))) (q_sc (.tail _ (.tail _ (.tail _ (.tail _ (.tail _ (.tail _ (.tail _ (.tail _ (.tail _ (.tail _ (.tail _ (.tail _ (.tail _ (.tail _ (.tail _ (.tail _ (.tail _ (.tail _ (.tail _ (.tail _ (.tail _ (.tail _ (.tail _ (.tail _ (.tail _ (.tail _ (.tail _ (.tail _ (.tail _ (.tail _ (.tail _ (.tail _ (.tail _ (.tail _ (.tail _ (.tail _ (.tail _ (.tail _ (.tail _ (.tail _ (.tail _ (.tail _ (.tail _ (.tail _ (.tail _ (.tail _ (.tail _ (.tail _ (.tail _ (.tail _ (.tail _ (.tail _ (.tail _ (.tail _ (.tail _ (.tail _ (.tail _ (.tail _ (.tail _ (.tail _ (.tail _ (.tail _ (.tail _ (.tail _ (.tail _ (.tail _ (.tail _ (.tail _ (.tail _ (.tail _ (.tail _ (.tail _ (.tail _ (.tail _ (.tail _ (.tail _ (.tail _ (.tail _ (.tail _ (.tail _ (.tail _ (.tail _ (.tail _ (.tail _ (.tail _ (.tail _ (.tail _ (.tail _ (.tail _ (.tail _ (.tail _ (.tail _ (.tail _ (.tail _ (.tail _ (.tail _ (.tail _ (.tail _ (.tail _ (.tail _ (.tail _ (.tail _ (.tail _ (.tail _ (.tail _ (.tail _ (.tail _ (.tail _ (.tail _ (.tail _ (.tail _ (.tail _ (.head _))))))))))))))))))))))))))))))))))))))))))))))))))))))))))))))))))))))))))))))))))))))))))))))))))))))))))))))))) (fun _ h => absurd h List.not_mem_nil)))
  have hn111 : u480[112]? = some (q481, .inl (g 0, 68, .inl (fun _ => 0))) := hq483
  replace hN : u480.length = 113 := hN
  have ho484 := hn4
  refine q_aast (t := 4) (ci := 2) (i9 := 9) C0 V hn4 rfl hn110 rfl (by decide) (by decide) d_1_1_232 (fun H locs w485 hu486 hn4 V => ?_)
  replace hn4 : w485[5]? = some (q25, .inl (g 4, 10, .inr (.inr (.inr (.inr (va_up (va_up (va_up (va_up (va_up (va_up (va_up (va_up (va_up (va_up (fun _ => none) 0 (some q232)) 1 (some q259)) 2 (some q286)) 3 (some q313)) 4 (some q340)) 5 (some q367)) 6 (some q394)) 7 (some q421)) 8 (some q448)) 9 (some q475))))))) := hn4
  replace hN : w485.length = 113 := (q_len1 hu486 hn4 ho484).trans hN
  replace hO0 := (hu486 _ (q_pd 0 5 rfl)).trans hO0
  replace hn0 := (hu486 _ (q_pd 1 5 rfl)).trans hn0
  replace hn1 := (hu486 _ (q_pd 2 5 rfl)).trans hn1
  replace hn2 := (hu486 _ (q_pd 3 5 rfl)).trans hn2
  replace hn3 := (hu486 _ (q_pd 4 5 rfl)).trans hn3
  replace hn5 := (hu486 _ (q_pd 6 5 rfl)).trans hn5
  replace hn6 := (hu486 _ (q_pd 7 5 rfl)).trans hn6
  replace hn7 := (hu486 _ (q_pd 8 5 rfl)).trans hn7
  replace hn8 := (hu486 _ (q_pd 9 5 rfl)).trans hn8
  replace hn9 := (hu486 _ (q_pd 10 5 rfl)).trans hn9
  replace hn10 := (hu486 _ (q_pd 11 5 rfl)).trans hn10
  replace hn11 := (hu486 _ (q_pd 12 5 rfl)).trans hn11
  replace hn12 := (hu486 _ (q_pd 13 5 rfl)).trans hn12
  replace hn13 := (hu486 _ (q_pd 14 5 rfl)).trans hn13
  replace hn14 := (hu486 _ (q_pd 15 5 rfl)).trans hn14
  replace hn15 := (hu486 _ (q_pd 16 5 rfl)).trans hn15
  replace hn16 := (hu486 _ (q_pd 17 5 rfl)).trans hn16
  replace hn17 := (hu486 _ (q_pd 18 5 rfl)).trans hn17
  replace hn18 := (hu486 _ (q_pd 19 5 rfl)).trans hn18
  replace hn19 := (hu486 _ (q_pd 20 5 rfl)).trans hn19
  replace hn20 := (hu486 _ (q_pd 21 5 rfl)).trans hn20
  replace hn21 := (hu486 _ (q_pd 22 5 rfl)).trans hn21
  replace hn22 := (hu486 _ (q_pd 23 5 rfl)).trans hn22
  replace hn23 := (hu486 _ (q_pd 24 5 rfl)).trans hn23
  replace hn24 := (hu486 _ (q_pd 25 5 rfl)).trans hn24
  replace hn25 := (hu486 _ (q_pd 26 5 rfl)).trans hn25
  replace hn26 := (hu486 _ (q_pd 27 5 rfl)).trans hn26
  replace hn27 := (hu486 _ (q_pd 28 5 rfl)).trans hn27
  replace hn28 := (hu486 _ (q_pd 29 5 rfl)).trans hn28
  replace hn29 := (hu486 _ (q_pd 30 5 rfl)).trans hn29
  replace hn30 := (hu486 _ (q_pd 31 5 rfl)).trans hn30
  replace hn31 := (hu486 _ (q_pd 32 5 rfl)).trans hn31
  replace hn32 := (hu486 _ (q_pd 33 5 rfl)).trans hn32
  replace hn33 := (hu486 _ (q_pd 34 5 rfl)).trans hn33
  replace hn34 := (hu486 _ (q_pd 35 5 rfl)).trans hn34
  replace hn35 := (hu486 _ (q_pd 36 5 rfl)).trans hn35
  replace hn36 := (hu486 _ (q_pd 37 5 rfl)).trans hn36
  replace hn37 := (hu486 _ (q_pd 38 5 rfl)).trans hn37
  replace hn38 := (hu486 _ (q_pd 39 5 rfl)).trans hn38
  replace hn39 := (hu486 _ (q_pd 40 5 rfl)).trans hn39
  replace hn40 := (hu486 _ (q_pd 41 5 rfl)).trans hn40
  replace hn41 := (hu486 _ (q_pd 42 5 rfl)).trans hn41
  replace hn42 := (hu486 _ (q_pd 43 5 rfl)).trans hn42
  replace hn43 := (hu486 _ (q_pd 44 5 rfl)).trans hn43
  replace hn44 := (hu486 _ (q_pd 45 5 rfl)).trans hn44
  replace hn45 := (hu486 _ (q_pd 46 5 rfl)).trans hn45
  replace hn46 := (hu486 _ (q_pd 47 5 rfl)).trans hn46
  replace hn47 := (hu486 _ (q_pd 48 5 rfl)).trans hn47
  replace hn48 := (hu486 _ (q_pd 49 5 rfl)).trans hn48
  replace hn49 := (hu486 _ (q_pd 50 5 rfl)).trans hn49
  replace hn50 := (hu486 _ (q_pd 51 5 rfl)).trans hn50
  replace hn51 := (hu486 _ (q_pd 52 5 rfl)).trans hn51
  replace hn52 := (hu486 _ (q_pd 53 5 rfl)).trans hn52
  replace hn53 := (hu486 _ (q_pd 54 5 rfl)).trans hn53
  replace hn54 := (hu486 _ (q_pd 55 5 rfl)).trans hn54
  replace hn55 := (hu486 _ (q_pd 56 5 rfl)).trans hn55
  replace hn56 := (hu486 _ (q_pd 57 5 rfl)).trans hn56
  replace hn57 := (hu486 _ (q_pd 58 5 rfl)).trans hn57
  replace hn58 := (hu486 _ (q_pd 59 5 rfl)).trans hn58
  replace hn59 := (hu486 _ (q_pd 60 5 rfl)).trans hn59
  replace hn60 := (hu486 _ (q_pd 61 5 rfl)).trans hn60
  replace hn61 := (hu486 _ (q_pd 62 5 rfl)).trans hn61
  replace hn62 := (hu486 _ (q_pd 63 5 rfl)).trans hn62
  replace hn63 := (hu486 _ (q_pd 64 5 rfl)).trans hn63
  replace hn64 := (hu486 _ (q_pd 65 5 rfl)).trans hn64
  replace hn65 := (hu486 _ (q_pd 66 5 rfl)).trans hn65
  replace hn66 := (hu486 _ (q_pd 67 5 rfl)).trans hn66
  replace hn67 := (hu486 _ (q_pd 68 5 rfl)).trans hn67
  replace hn68 := (hu486 _ (q_pd 69 5 rfl)).trans hn68
  replace hn69 := (hu486 _ (q_pd 70 5 rfl)).trans hn69
  replace hn70 := (hu486 _ (q_pd 71 5 rfl)).trans hn70
  replace hn71 := (hu486 _ (q_pd 72 5 rfl)).trans hn71
  replace hn72 := (hu486 _ (q_pd 73 5 rfl)).trans hn72
  replace hn73 := (hu486 _ (q_pd 74 5 rfl)).trans hn73
  replace hn74 := (hu486 _ (q_pd 75 5 rfl)).trans hn74
  replace hn75 := (hu486 _ (q_pd 76 5 rfl)).trans hn75
  replace hn76 := (hu486 _ (q_pd 77 5 rfl)).trans hn76
  replace hn77 := (hu486 _ (q_pd 78 5 rfl)).trans hn77
  replace hn78 := (hu486 _ (q_pd 79 5 rfl)).trans hn78
  replace hn79 := (hu486 _ (q_pd 80 5 rfl)).trans hn79
  replace hn80 := (hu486 _ (q_pd 81 5 rfl)).trans hn80
  replace hn81 := (hu486 _ (q_pd 82 5 rfl)).trans hn81
  replace hn82 := (hu486 _ (q_pd 83 5 rfl)).trans hn82
  replace hn83 := (hu486 _ (q_pd 84 5 rfl)).trans hn83
  replace hn84 := (hu486 _ (q_pd 85 5 rfl)).trans hn84
  replace hn85 := (hu486 _ (q_pd 86 5 rfl)).trans hn85
  replace hn86 := (hu486 _ (q_pd 87 5 rfl)).trans hn86
  replace hn87 := (hu486 _ (q_pd 88 5 rfl)).trans hn87
  replace hn88 := (hu486 _ (q_pd 89 5 rfl)).trans hn88
  replace hn89 := (hu486 _ (q_pd 90 5 rfl)).trans hn89
  replace hn90 := (hu486 _ (q_pd 91 5 rfl)).trans hn90
  replace hn91 := (hu486 _ (q_pd 92 5 rfl)).trans hn91
  replace hn92 := (hu486 _ (q_pd 93 5 rfl)).trans hn92
  replace hn93 := (hu486 _ (q_pd 94 5 rfl)).trans hn93
  replace hn94 := (hu486 _ (q_pd 95 5 rfl)).trans hn94
  replace hn95 := (hu486 _ (q_pd 96 5 rfl)).trans hn95
  replace hn96 := (hu486 _ (q_pd 97 5 rfl)).trans hn96
  replace hn97 := (hu486 _ (q_pd 98 5 rfl)).trans hn97
  replace hn98 := (hu486 _ (q_pd 99 5 rfl)).trans hn98
  replace hn99 := (hu486 _ (q_pd 100 5 rfl)).trans hn99
  replace hn100 := (hu486 _ (q_pd 101 5 rfl)).trans hn100
  replace hn101 := (hu486 _ (q_pd 102 5 rfl)).trans hn101
  replace hn102 := (hu486 _ (q_pd 103 5 rfl)).trans hn102
  replace hn103 := (hu486 _ (q_pd 104 5 rfl)).trans hn103
  replace hn104 := (hu486 _ (q_pd 105 5 rfl)).trans hn104
  replace hn105 := (hu486 _ (q_pd 106 5 rfl)).trans hn105
  replace hn106 := (hu486 _ (q_pd 107 5 rfl)).trans hn106
  replace hn107 := (hu486 _ (q_pd 108 5 rfl)).trans hn107
  replace hn108 := (hu486 _ (q_pd 109 5 rfl)).trans hn108
  replace hn109 := (hu486 _ (q_pd 110 5 rfl)).trans hn109
  replace hn110 := (hu486 _ (q_pd 111 5 rfl)).trans hn110
  replace hn111 := (hu486 _ (q_pd 112 5 rfl)).trans hn111
  replace hF := q_us hF hu486 (.tail _ (.tail _ (.tail _ (.tail _ (.tail _ (.head _))))))
  refine lv_aload_n hx hb d_1_1_233 rfl (lv_at hl 1 rfl) ?_
  refine q_get (ci := 0) (j := 3) (v := .ref q32) C0 V i_NH rfl rfl hO0 (by decide) w_427 rfl d_1_1_234 ?_
  refine lv_iload_n hx hb d_1_1_237 rfl (lv_at hl 0 rfl) ?_
  refine q_new (ci := 3) (fs := [.null, .int 0, .int 0]) C0 V hN i_Dec o_Dec rfl w_70 w_163 w_6 rfl (fun j hj => by rcases (show j = 0 ∨ j = 1 ∨ j = 2 by omega) with rfl | rfl | rfl <;> rfl) (Nat.le_of_ble_eq_true rfl) (Nat.le_of_ble_eq_true rfl) d_1_1_238 (fun q487 H w488 hu489 hn490 hN V => ?_)
  have hn112 : w488[113]? = some (q487, .inr (3, [.null, .int 0, .int 0])) := hn490
  replace hO0 := (hu489 _ (q_pd 0 113 rfl)).trans hO0
  replace hn0 := (hu489 _ (q_pd 1 113 rfl)).trans hn0
  replace hn1 := (hu489 _ (q_pd 2 113 rfl)).trans hn1
  replace hn2 := (hu489 _ (q_pd 3 113 rfl)).trans hn2
  replace hn3 := (hu489 _ (q_pd 4 113 rfl)).trans hn3
  replace hn4 := (hu489 _ (q_pd 5 113 rfl)).trans hn4
  replace hn5 := (hu489 _ (q_pd 6 113 rfl)).trans hn5
  replace hn6 := (hu489 _ (q_pd 7 113 rfl)).trans hn6
  replace hn7 := (hu489 _ (q_pd 8 113 rfl)).trans hn7
  replace hn8 := (hu489 _ (q_pd 9 113 rfl)).trans hn8
  replace hn9 := (hu489 _ (q_pd 10 113 rfl)).trans hn9
  replace hn10 := (hu489 _ (q_pd 11 113 rfl)).trans hn10
  replace hn11 := (hu489 _ (q_pd 12 113 rfl)).trans hn11
  replace hn12 := (hu489 _ (q_pd 13 113 rfl)).trans hn12
  replace hn13 := (hu489 _ (q_pd 14 113 rfl)).trans hn13
  replace hn14 := (hu489 _ (q_pd 15 113 rfl)).trans hn14
  replace hn15 := (hu489 _ (q_pd 16 113 rfl)).trans hn15
  replace hn16 := (hu489 _ (q_pd 17 113 rfl)).trans hn16
  replace hn17 := (hu489 _ (q_pd 18 113 rfl)).trans hn17
  replace hn18 := (hu489 _ (q_pd 19 113 rfl)).trans hn18
  replace hn19 := (hu489 _ (q_pd 20 113 rfl)).trans hn19
  replace hn20 := (hu489 _ (q_pd 21 113 rfl)).trans hn20
  replace hn21 := (hu489 _ (q_pd 22 113 rfl)).trans hn21
  replace hn22 := (hu489 _ (q_pd 23 113 rfl)).trans hn22
  replace hn23 := (hu489 _ (q_pd 24 113 rfl)).trans hn23
  replace hn24 := (hu489 _ (q_pd 25 113 rfl)).trans hn24
  replace hn25 := (hu489 _ (q_pd 26 113 rfl)).trans hn25
  replace hn26 := (hu489 _ (q_pd 27 113 rfl)).trans hn26
  replace hn27 := (hu489 _ (q_pd 28 113 rfl)).trans hn27
  replace hn28 := (hu489 _ (q_pd 29 113 rfl)).trans hn28
  replace hn29 := (hu489 _ (q_pd 30 113 rfl)).trans hn29
  replace hn30 := (hu489 _ (q_pd 31 113 rfl)).trans hn30
  replace hn31 := (hu489 _ (q_pd 32 113 rfl)).trans hn31
  replace hn32 := (hu489 _ (q_pd 33 113 rfl)).trans hn32
  replace hn33 := (hu489 _ (q_pd 34 113 rfl)).trans hn33
  replace hn34 := (hu489 _ (q_pd 35 113 rfl)).trans hn34
  replace hn35 := (hu489 _ (q_pd 36 113 rfl)).trans hn35
  replace hn36 := (hu489 _ (q_pd 37 113 rfl)).trans hn36
  replace hn37 := (hu489 _ (q_pd 38 113 rfl)).trans hn37
  replace hn38 := (hu489 _ (q_pd 39 113 rfl)).trans hn38
  replace hn39 := (hu489 _ (q_pd 40 113 rfl)).trans hn39
  replace hn40 := (hu489 _ (q_pd 41 113 rfl)).trans hn40
  replace hn41 := (hu489 _ (q_pd 42 113 rfl)).trans hn41
  replace hn42 := (hu489 _ (q_pd 43 113 rfl)).trans hn42
  replace hn43 := (hu489 _ (q_pd 44 113 rfl)).trans hn43
  replace hn44 := (hu489 _ (q_pd 45 113 rfl)).trans hn44
  replace hn45 := (hu489 _ (q_pd 46 113 rfl)).trans hn45
  replace hn46 := (hu489 _ (q_pd 47 113 rfl)).trans hn46
  replace hn47 := (hu489 _ (q_pd 48 113 rfl)).trans hn47
  replace hn48 := (hu489 _ (q_pd 49 113 rfl)).trans hn48
  replace hn49 := (hu489 _ (q_pd 50 113 rfl)).trans hn49
  replace hn50 := (hu489 _ (q_pd 51 113 rfl)).trans hn50
  replace hn51 := (hu489 _ (q_pd 52 113 rfl)).trans hn51
  replace hn52 := (hu489 _ (q_pd 53 113 rfl)).trans hn52
  replace hn53 := (hu489 _ (q_pd 54 113 rfl)).trans hn53
  replace hn54 := (hu489 _ (q_pd 55 113 rfl)).trans hn54
  replace hn55 := (hu489 _ (q_pd 56 113 rfl)).trans hn55
  replace hn56 := (hu489 _ (q_pd 57 113 rfl)).trans hn56
  replace hn57 := (hu489 _ (q_pd 58 113 rfl)).trans hn57
  replace hn58 := (hu489 _ (q_pd 59 113 rfl)).trans hn58
  replace hn59 := (hu489 _ (q_pd 60 113 rfl)).trans hn59
  replace hn60 := (hu489 _ (q_pd 61 113 rfl)).trans hn60
  replace hn61 := (hu489 _ (q_pd 62 113 rfl)).trans hn61
  replace hn62 := (hu489 _ (q_pd 63 113 rfl)).trans hn62
  replace hn63 := (hu489 _ (q_pd 64 113 rfl)).trans hn63
  replace hn64 := (hu489 _ (q_pd 65 113 rfl)).trans hn64
  replace hn65 := (hu489 _ (q_pd 66 113 rfl)).trans hn65
  replace hn66 := (hu489 _ (q_pd 67 113 rfl)).trans hn66
  replace hn67 := (hu489 _ (q_pd 68 113 rfl)).trans hn67
  replace hn68 := (hu489 _ (q_pd 69 113 rfl)).trans hn68
  replace hn69 := (hu489 _ (q_pd 70 113 rfl)).trans hn69
  replace hn70 := (hu489 _ (q_pd 71 113 rfl)).trans hn70
  replace hn71 := (hu489 _ (q_pd 72 113 rfl)).trans hn71
  replace hn72 := (hu489 _ (q_pd 73 113 rfl)).trans hn72
  replace hn73 := (hu489 _ (q_pd 74 113 rfl)).trans hn73
  replace hn74 := (hu489 _ (q_pd 75 113 rfl)).trans hn74
  replace hn75 := (hu489 _ (q_pd 76 113 rfl)).trans hn75
  replace hn76 := (hu489 _ (q_pd 77 113 rfl)).trans hn76
  replace hn77 := (hu489 _ (q_pd 78 113 rfl)).trans hn77
  replace hn78 := (hu489 _ (q_pd 79 113 rfl)).trans hn78
  replace hn79 := (hu489 _ (q_pd 80 113 rfl)).trans hn79
  replace hn80 := (hu489 _ (q_pd 81 113 rfl)).trans hn80
  replace hn81 := (hu489 _ (q_pd 82 113 rfl)).trans hn81
  replace hn82 := (hu489 _ (q_pd 83 113 rfl)).trans hn82
  replace hn83 := (hu489 _ (q_pd 84 113 rfl)).trans hn83
  replace hn84 := (hu489 _ (q_pd 85 113 rfl)).trans hn84
  replace hn85 := (hu489 _ (q_pd 86 113 rfl)).trans hn85
  replace hn86 := (hu489 _ (q_pd 87 113 rfl)).trans hn86
  replace hn87 := (hu489 _ (q_pd 88 113 rfl)).trans hn87
  replace hn88 := (hu489 _ (q_pd 89 113 rfl)).trans hn88
  replace hn89 := (hu489 _ (q_pd 90 113 rfl)).trans hn89
  replace hn90 := (hu489 _ (q_pd 91 113 rfl)).trans hn90
  replace hn91 := (hu489 _ (q_pd 92 113 rfl)).trans hn91
  replace hn92 := (hu489 _ (q_pd 93 113 rfl)).trans hn92
  replace hn93 := (hu489 _ (q_pd 94 113 rfl)).trans hn93
  replace hn94 := (hu489 _ (q_pd 95 113 rfl)).trans hn94
  replace hn95 := (hu489 _ (q_pd 96 113 rfl)).trans hn95
  replace hn96 := (hu489 _ (q_pd 97 113 rfl)).trans hn96
  replace hn97 := (hu489 _ (q_pd 98 113 rfl)).trans hn97
  replace hn98 := (hu489 _ (q_pd 99 113 rfl)).trans hn98
  replace hn99 := (hu489 _ (q_pd 100 113 rfl)).trans hn99
  replace hn100 := (hu489 _ (q_pd 101 113 rfl)).trans hn100
  replace hn101 := (hu489 _ (q_pd 102 113 rfl)).trans hn101
  replace hn102 := (hu489 _ (q_pd 103 113 rfl)).trans hn102
  replace hn103 := (hu489 _ (q_pd 104 113 rfl)).trans hn103
  replace hn104 := (hu489 _ (q_pd 105 113 rfl)).trans hn104
  replace hn105 := (hu489 _ (q_pd 106 113 rfl)).trans hn105
  replace hn106 := (hu489 _ (q_pd 107 113 rfl)).trans hn106
  replace hn107 := (hu489 _ (q_pd 108 113 rfl)).trans hn107
  replace hn108 := (hu489 _ (q_pd 109 113 rfl)).trans hn108
  replace hn109 := (hu489 _ (q_pd 110 113 rfl)).trans hn109
  replace hn110 := (hu489 _ (q_pd 111 113 rfl)).trans hn110
  replace hn111 := (hu489 _ (q_pd 112 113 rfl)).trans hn111
  replace hF := q_us hF hu489 (.tail _ (.tail _ (.tail _ (.tail _ (.tail _ (.tail _ (.tail _ (.tail _ (.tail _ (.tail _ (.tail _ (.tail _ (.tail _ (.tail _ (.tail _ (.tail _ (.tail _ (.tail _ (.tail _ (.tail _ (.tail _ (.tail _ (.tail _ (.tail _ (.tail _ (.tail _ (.tail _ (.tail _ (.tail _ (.tail _ (.tail _ (.tail _ (.tail _ (.tail _ (.tail _ (.tail _ (.tail _ (.tail _ (.tail _ (.tail _ (.tail _ (.tail _ (.tail _ (.tail _ (.tail _ (.tail _ (.tail _ (.tail _ (.tail _ (.tail _ (.tail _ (.tail _ (.tail _ (.tail _ (.tail _ (.tail _ (.tail _ (.tail _ (.tail _ (.tail _ (.tail _ (.tail _ (.tail _ (.tail _ (.tail _ (.tail _ (.tail _ (.tail _ (.tail _ (.tail _ (.tail _ (.tail _ (.tail _ (.tail _ (.tail _ (.tail _ (.tail _ (.tail _ (.tail _ (.tail _ (.tail _ (.tail _ (.tail _ (.tail _ (.tail _ (.tail _ (.tail _ (.tail _ (.tail _ (.tail _ (.tail _ (.tail _ (.tail _ (.tail _ (.tail _ (.tail _ (.tail _ (.tail _ (.tail _ (.tail _ (.tail _ (.tail _ (.tail _ (.tail _ (.tail _ (.tail _ (.tail _ (.tail _ (.tail _ (.tail _ (.tail _ (.tail _ (.tail _ (.head _))))))))))))))))))))))))))))))))))))))))))))))))))))))))))))))))))))))))))))))))))))))))))))))))))))))))))))))))))
  replace hN : w488.length = 114 := hN
  refine lv_dup hx hb d_1_1_241 rfl ?_
  refine lv_bipush (v := 108) hx hb d_1_1_242 (by decide) ?_
  refine q_gov V (q_runI (As := [.int 108]) (rest := [.ref q487, .int 9, .ref q32]) (d := 3) (mc := 2) (ms := 111) C0 V rfl LI_NH_103 (c_Dec_init l D g w488 113 q487 114 hN hn112 _) rfl hl.1 rfl (Nat.le_of_ble_eq_true rfl) ⟨by decide, by decide⟩ ⟨Nat.le_of_ble_eq_true rfl, Nat.le_of_ble_eq_true rfl⟩ d_1_1_244) (fun u492 H locs hp491 V => ?_)
  obtain ⟨q493, q494, hg495, hn112, hq496, hq497, hN⟩ := hp491
  replace hO0 := (hg495 _ (q_nc (q_pd 0 113 rfl) (q_nc (q_pd 0 114 rfl) (q_nc (q_pd 0 115 rfl) List.not_mem_nil)))).trans hO0
  replace hn0 := (hg495 _ (q_nc (q_pd 1 113 rfl) (q_nc (q_pd 1 114 rfl) (q_nc (q_pd 1 115 rfl) List.not_mem_nil)))).trans hn0
  replace hn1 := (hg495 _ (q_nc (q_pd 2 113 rfl) (q_nc (q_pd 2 114 rfl) (q_nc (q_pd 2 115 rfl) List.not_mem_nil)))).trans hn1
  replace hn2 := (hg495 _ (q_nc (q_pd 3 113 rfl) (q_nc (q_pd 3 114 rfl) (q_nc (q_pd 3 115 rfl) List.not_mem_nil)))).trans hn2
  replace hn3 := (hg495 _ (q_nc (q_pd 4 113 rfl) (q_nc (q_pd 4 114 rfl) (q_nc (q_pd 4 115 rfl) List.not_mem_nil)))).trans hn3
  replace hn4 := (hg495 _ (q_nc (q_pd 5 113 rfl) (q_nc (q_pd 5 114 rfl) (q_nc (q_pd 5 115 rfl) List.not_mem_nil)))).trans hn4
  replace hn5 := (hg495 _ (q_nc (q_pd 6 113 rfl) (q_nc (q_pd 6 114 rfl) (q_nc (q_pd 6 115 rfl) List.not_mem_nil)))).trans hn5
  replace hn6 := (hg495 _ (q_nc (q_pd 7 113 rfl) (q_nc (q_pd 7 114 rfl) (q_nc (q_pd 7 115 rfl) List.not_mem_nil)))).trans hn6
  replace hn7 := (hg495 _ (q_nc (q_pd 8 113 rfl) (q_nc (q_pd 8 114 rfl) (q_nc (q_pd 8 115 rfl) List.not_mem_nil)))).trans hn7
  replace hn8 := (hg495 _ (q_nc (q_pd 9 113 rfl) (q_nc (q_pd 9 114 rfl) (q_nc (q_pd 9 115 rfl) List.not_mem_nil)))).trans hn8
  replace hn9 := (hg495 _ (q_nc (q_pd 10 113 rfl) (q_nc (q_pd 10 114 rfl) (q_nc (q_pd 10 115 rfl) List.not_mem_nil)))).trans hn9
  replace hn10 := (hg495 _ (q_nc (q_pd 11 113 rfl) (q_nc (q_pd 11 114 rfl) (q_nc (q_pd 11 115 rfl) List.not_mem_nil)))).trans hn10
  replace hn11 := (hg495 _ (q_nc (q_pd 12 113 rfl) (q_nc (q_pd 12 114 rfl) (q_nc (q_pd 12 115 rfl) List.not_mem_nil)))).trans hn11
  replace hn12 := (hg495 _ (q_nc (q_pd 13 113 rfl) (q_nc (q_pd 13 114 rfl) (q_nc (q_pd 13 115 rfl) List.not_mem_nil)))).trans hn12
  replace hn13 := (hg495 _ (q_nc (q_pd 14 113 rfl) (q_nc (q_pd 14 114 rfl) (q_nc (q_pd 14 115 rfl) List.not_mem_nil)))).trans hn13
  replace hn14 := (hg495 _ (q_nc (q_pd 15 113 rfl) (q_nc (q_pd 15 114 rfl) (q_nc (q_pd 15 115 rfl) List.not_mem_nil)))).trans hn14
  replace hn15 := (hg495 _ (q_nc (q_pd 16 113 rfl) (q_nc (q_pd 16 114 rfl) (q_nc (q_pd 16 115 rfl) List.not_mem_nil)))).trans hn15
  replace hn16 := (hg495 _ (q_nc (q_pd 17 113 rfl) (q_nc (q_pd 17 114 rfl) (q_nc (q_pd 17 115 rfl) List.not_mem_nil)))).trans hn16
  replace hn17 := (hg495 _ (q_nc (q_pd 18 113 rfl) (q_nc (q_pd 18 114 rfl) (q_nc (q_pd 18 115 rfl) List.not_mem_nil)))).trans hn17
  replace hn18 := (hg495 _ (q_nc (q_pd 19 113 rfl) (q_nc (q_pd 19 114 rfl) (q_nc (q_pd 19 115 rfl) List.not_mem_nil)))).trans hn18
  replace hn19 := (hg495 _ (q_nc (q_pd 20 113 rfl) (q_nc (q_pd 20 114 rfl) (q_nc (q_pd 20 115 rfl) List.not_mem_nil)))).trans hn19
  replace hn20 := (hg495 _ (q_nc (q_pd 21 113 rfl) (q_nc (q_pd 21 114 rfl) (q_nc (q_pd 21 115 rfl) List.not_mem_nil)))).trans hn20
  replace hn21 := (hg495 _ (q_nc (q_pd 22 113 rfl) (q_nc (q_pd 22 114 rfl) (q_nc (q_pd 22 115 rfl) List.not_mem_nil)))).trans hn21
  replace hn22 := (hg495 _ (q_nc (q_pd 23 113 rfl) (q_nc (q_pd 23 114 rfl) (q_nc (q_pd 23 115 rfl) List.not_mem_nil)))).trans hn22
  replace hn23 := (hg495 _ (q_nc (q_pd 24 113 rfl) (q_nc (q_pd 24 114 rfl) (q_nc (q_pd 24 115 rfl) List.not_mem_nil)))).trans hn23
  replace hn24 := (hg495 _ (q_nc (q_pd 25 113 rfl) (q_nc (q_pd 25 114 rfl) (q_nc (q_pd 25 115 rfl) List.not_mem_nil)))).trans hn24
  replace hn25 := (hg495 _ (q_nc (q_pd 26 113 rfl) (q_nc (q_pd 26 114 rfl) (q_nc (q_pd 26 115 rfl) List.not_mem_nil)))).trans hn25
  replace hn26 := (hg495 _ (q_nc (q_pd 27 113 rfl) (q_nc (q_pd 27 114 rfl) (q_nc (q_pd 27 115 rfl) List.not_mem_nil)))).trans hn26
  replace hn27 := (hg495 _ (q_nc (q_pd 28 113 rfl) (q_nc (q_pd 28 114 rfl) (q_nc (q_pd 28 115 rfl) List.not_mem_nil)))).trans hn27
  replace hn28 := (hg495 _ (q_nc (q_pd 29 113 rfl) (q_nc (q_pd 29 114 rfl) (q_nc (q_pd 29 115 rfl) List.not_mem_nil)))).trans hn28
  replace hn29 := (hg495 _ (q_nc (q_pd 30 113 rfl) (q_nc (q_pd 30 114 rfl) (q_nc (q_pd 30 115 rfl) List.not_mem_nil)))).trans hn29
  replace hn30 := (hg495 _ (q_nc (q_pd 31 113 rfl) (q_nc (q_pd 31 114 rfl) (q_nc (q_pd 31 115 rfl) List.not_mem_nil)))).trans hn30
  replace hn31 := (hg495 _ (q_nc (q_pd 32 113 rfl) (q_nc (q_pd 32 114 rfl) (q_nc (q_pd 32 115 rfl) List.not_mem_nil)))).trans hn31
  replace hn32 := (hg495 _ (q_nc (q_pd 33 113 rfl) (q_nc (q_pd 33 114 rfl) (q_nc (q_pd 33 115 rfl) List.not_mem_nil)))).trans hn32
  replace hn33 := (hg495 _ (q_nc (q_pd 34 113 rfl) (q_nc (q_pd 34 114 rfl) (q_nc (q_pd 34 115 rfl) List.not_mem_nil)))).trans hn33
  replace hn34 := (hg495 _ (q_nc (q_pd 35 113 rfl) (q_nc (q_pd 35 114 rfl) (q_nc (q_pd 35 115 rfl) List.not_mem_nil)))).trans hn34
  replace hn35 := (hg495 _ (q_nc (q_pd 36 113 rfl) (q_nc (q_pd 36 114 rfl) (q_nc (q_pd 36 115 rfl) List.not_mem_nil)))).trans hn35
  replace hn36 := (hg495 _ (q_nc (q_pd 37 113 rfl) (q_nc (q_pd 37 114 rfl) (q_nc (q_pd 37 115 rfl) List.not_mem_nil)))).trans hn36
  replace hn37 := (hg495 _ (q_nc (q_pd 38 113 rfl) (q_nc (q_pd 38 114 rfl) (q_nc (q_pd 38 115 rfl) List.not_mem_nil)))).trans hn37
  replace hn38 := (hg495 _ (q_nc (q_pd 39 113 rfl) (q_nc (q_pd 39 114 rfl) (q_nc (q_pd 39 115 rfl) List.not_mem_nil)))).trans hn38
  replace hn39 := (hg495 _ (q_nc (q_pd 40 113 rfl) (q_nc (q_pd 40 114 rfl) (q_nc (q_pd 40 115 rfl) List.not_mem_nil)))).trans hn39
  replace hn40 := (hg495 _ (q_nc (q_pd 41 113 rfl) (q_nc (q_pd 41 114 rfl) (q_nc (q_pd 41 115 rfl) List.not_mem_nil)))).trans hn40
  replace hn41 := (hg495 _ (q_nc (q_pd 42 113 rfl) (q_nc (q_pd 42 114 rfl) (q_nc (q_pd 42 115 rfl) List.not_mem_nil)))).trans hn41
  replace hn42 := (hg495 _ (q_nc (q_pd 43 113 rfl) (q_nc (q_pd 43 114 rfl) (q_nc (q_pd 43 115 rfl) List.not_mem_nil)))).trans hn42
  replace hn43 := (hg495 _ (q_nc (q_pd 44 113 rfl) (q_nc (q_pd 44 114 rfl) (q_nc (q_pd 44 115 rfl) List.not_mem_nil)))).trans hn43
  replace hn44 := (hg495 _ (q_nc (q_pd 45 113 rfl) (q_nc (q_pd 45 114 rfl) (q_nc (q_pd 45 115 rfl) List.not_mem_nil)))).trans hn44
  replace hn45 := (hg495 _ (q_nc (q_pd 46 113 rfl) (q_nc (q_pd 46 114 rfl) (q_nc (q_pd 46 115 rfl) List.not_mem_nil)))).trans hn45
  replace hn46 := (hg495 _ (q_nc (q_pd 47 113 rfl) (q_nc (q_pd 47 114 rfl) (q_nc (q_pd 47 115 rfl) List.not_mem_nil)))).trans hn46
  replace hn47 := (hg495 _ (q_nc (q_pd 48 113 rfl) (q_nc (q_pd 48 114 rfl) (q_nc (q_pd 48 115 rfl) List.not_mem_nil)))).trans hn47
  replace hn48 := (hg495 _ (q_nc (q_pd 49 113 rfl) (q_nc (q_pd 49 114 rfl) (q_nc (q_pd 49 115 rfl) List.not_mem_nil)))).trans hn48
  replace hn49 := (hg495 _ (q_nc (q_pd 50 113 rfl) (q_nc (q_pd 50 114 rfl) (q_nc (q_pd 50 115 rfl) List.not_mem_nil)))).trans hn49
  replace hn50 := (hg495 _ (q_nc (q_pd 51 113 rfl) (q_nc (q_pd 51 114 rfl) (q_nc (q_pd 51 115 rfl) List.not_mem_nil)))).trans hn50
  replace hn51 := (hg495 _ (q_nc (q_pd 52 113 rfl) (q_nc (q_pd 52 114 rfl) (q_nc (q_pd 52 115 rfl) List.not_mem_nil)))).trans hn51
  replace hn52 := (hg495 _ (q_nc (q_pd 53 113 rfl) (q_nc (q_pd 53 114 rfl) (q_nc (q_pd 53 115 rfl) List.not_mem_nil)))).trans hn52
  replace hn53 := (hg495 _ (q_nc (q_pd 54 113 rfl) (q_nc (q_pd 54 114 rfl) (q_nc (q_pd 54 115 rfl) List.not_mem_nil)))).trans hn53
  replace hn54 := (hg495 _ (q_nc (q_pd 55 113 rfl) (q_nc (q_pd 55 114 rfl) (q_nc (q_pd 55 115 rfl) List.not_mem_nil)))).trans hn54
  replace hn55 := (hg495 _ (q_nc (q_pd 56 113 rfl) (q_nc (q_pd 56 114 rfl) (q_nc (q_pd 56 115 rfl) List.not_mem_nil)))).trans hn55
  replace hn56 := (hg495 _ (q_nc (q_pd 57 113 rfl) (q_nc (q_pd 57 114 rfl) (q_nc (q_pd 57 115 rfl) List.not_mem_nil)))).trans hn56
  replace hn57 := (hg495 _ (q_nc (q_pd 58 113 rfl) (q_nc (q_pd 58 114 rfl) (q_nc (q_pd 58 115 rfl) List.not_mem_nil)))).trans hn57
  replace hn58 := (hg495 _ (q_nc (q_pd 59 113 rfl) (q_nc (q_pd 59 114 rfl) (q_nc (q_pd 59 115 rfl) List.not_mem_nil)))).trans hn58
  replace hn59 := (hg495 _ (q_nc (q_pd 60 113 rfl) (q_nc (q_pd 60 114 rfl) (q_nc (q_pd 60 115 rfl) List.not_mem_nil)))).trans hn59
  replace hn60 := (hg495 _ (q_nc (q_pd 61 113 rfl) (q_nc (q_pd 61 114 rfl) (q_nc (q_pd 61 115 rfl) List.not_mem_nil)))).trans hn60
  replace hn61 := (hg495 _ (q_nc (q_pd 62 113 rfl) (q_nc (q_pd 62 114 rfl) (q_nc (q_pd 62 115 rfl) List.not_mem_nil)))).trans hn61
  replace hn62 := (hg495 _ (q_nc (q_pd 63 113 rfl) (q_nc (q_pd 63 114 rfl) (q_nc (q_pd 63 115 rfl) List.not_mem_nil)))).trans hn62
  replace hn63 := (hg495 _ (q_nc (q_pd 64 113 rfl) (q_nc (q_pd 64 114 rfl) (q_nc (q_pd 64 115 rfl) List.not_mem_nil)))).trans hn63
  replace hn64 := (hg495 _ (q_nc (q_pd 65 113 rfl) (q_nc (q_pd 65 114 rfl) (q_nc (q_pd 65 115 rfl) List.not_mem_nil)))).trans hn64
  replace hn65 := (hg495 _ (q_nc (q_pd 66 113 rfl) (q_nc (q_pd 66 114 rfl) (q_nc (q_pd 66 115 rfl) List.not_mem_nil)))).trans hn65
  replace hn66 := (hg495 _ (q_nc (q_pd 67 113 rfl) (q_nc (q_pd 67 114 rfl) (q_nc (q_pd 67 115 rfl) List.not_mem_nil)))).trans hn66
  replace hn67 := (hg495 _ (q_nc (q_pd 68 113 rfl) (q_nc (q_pd 68 114 rfl) (q_nc (q_pd 68 115 rfl) List.not_mem_nil)))).trans hn67
  replace hn68 := (hg495 _ (q_nc (q_pd 69 113 rfl) (q_nc (q_pd 69 114 rfl) (q_nc (q_pd 69 115 rfl) List.not_mem_nil)))).trans hn68
  replace hn69 := (hg495 _ (q_nc (q_pd 70 113 rfl) (q_nc (q_pd 70 114 rfl) (q_nc (q_pd 70 115 rfl) List.not_mem_nil)))).trans hn69
  replace hn70 := (hg495 _ (q_nc (q_pd 71 113 rfl) (q_nc (q_pd 71 114 rfl) (q_nc (q_pd 71 115 rfl) List.not_mem_nil)))).trans hn70
  replace hn71 := (hg495 _ (q_nc (q_pd 72 113 rfl) (q_nc (q_pd 72 114 rfl) (q_nc (q_pd 72 115 rfl) List.not_mem_nil)))).trans hn71
  replace hn72 := (hg495 _ (q_nc (q_pd 73 113 rfl) (q_nc (q_pd 73 114 rfl) (q_nc (q_pd 73 115 rfl) List.not_mem_nil)))).trans hn72
  replace hn73 := (hg495 _ (q_nc (q_pd 74 113 rfl) (q_nc (q_pd 74 114 rfl) (q_nc (q_pd 74 115 rfl) List.not_mem_nil)))).trans hn73
  replace hn74 := (hg495 _ (q_nc (q_pd 75 113 rfl) (q_nc (q_pd 75 114 rfl) (q_nc (q_pd 75 115 rfl) List.not_mem_nil)))).trans hn74
  replace hn75 := (hg495 _ (q_nc (q_pd 76 113 rfl) (q_nc (q_pd 76 114 rfl) (q_nc (q_pd 76 115 rfl) List.not_mem_nil)))).trans hn75
  replace hn76 := (hg495 _ (q_nc (q_pd 77 113 rfl) (q_nc (q_pd 77 114 rfl) (q_nc (q_pd 77 115 rfl) List.not_mem_nil)))).trans hn76
  replace hn77 := (hg495 _ (q_nc (q_pd 78 113 rfl) (q_nc (q_pd 78 114 rfl) (q_nc (q_pd 78 115 rfl) List.not_mem_nil)))).trans hn77
  replace hn78 := (hg495 _ (q_nc (q_pd 79 113 rfl) (q_nc (q_pd 79 114 rfl) (q_nc (q_pd 79 115 rfl) List.not_mem_nil)))).trans hn78
  replace hn79 := (hg495 _ (q_nc (q_pd 80 113 rfl) (q_nc (q_pd 80 114 rfl) (q_nc (q_pd 80 115 rfl) List.not_mem_nil)))).trans hn79
  replace hn80 := (hg495 _ (q_nc (q_pd 81 113 rfl) (q_nc (q_pd 81 114 rfl) (q_nc (q_pd 81 115 rfl) List.not_mem_nil)))).trans hn80
  replace hn81 := (hg495 _ (q_nc (q_pd 82 113 rfl) (q_nc (q_pd 82 114 rfl) (q_nc (q_pd 82 115 rfl) List.not_mem_nil)))).trans hn81
  replace hn82 := (hg495 _ (q_nc (q_pd 83 113 rfl) (q_nc (q_pd 83 114 rfl) (q_nc (q_pd 83 115 rfl) List.not_mem_nil)))).trans hn82
  replace hn83 := (hg495 _ (q_nc (q_pd 84 113 rfl) (q_nc (q_pd 84 114 rfl) (q_nc (q_pd 84 115 rfl) List.not_mem_nil)))).trans hn83
  replace hn84 := (hg495 _ (q_nc (q_pd 85 113 rfl) (q_nc (q_pd 85 114 rfl) (q_nc (q_pd 85 115 rfl) List.not_mem_nil)))).trans hn84
  replace hn85 := (hg495 _ (q_nc (q_pd 86 113 rfl) (q_nc (q_pd 86 114 rfl) (q_nc (q_pd 86 115 rfl) List.not_mem_nil)))).trans hn85
  replace hn86 := (hg495 _ (q_nc (q_pd 87 113 rfl) (q_nc (q_pd 87 114 rfl) (q_nc (q_pd 87 115 rfl) List.not_mem_nil)))).trans hn86
  replace hn87 := (hg495 _ (q_nc (q_pd 88 113 rfl) (q_nc (q_pd 88 114 rfl) (q_nc (q_pd 88 115 rfl) List.not_mem_nil)))).trans hn87
  replace hn88 := (hg495 _ (q_nc (q_pd 89 113 rfl) (q_nc (q_pd 89 114 rfl) (q_nc (q_pd 89 115 rfl) List.not_mem_nil)))).trans hn88
  replace hn89 := (hg495 _ (q_nc (q_pd 90 113 rfl) (q_nc (q_pd 90 114 rfl) (q_nc (q_pd 90 115 rfl) List.not_mem_nil)))).trans hn89
  replace hn90 := (hg495 _ (q_nc (q_pd 91 113 rfl) (q_nc (q_pd 91 114 rfl) (q_nc (q_pd 91 115 rfl) List.not_mem_nil)))).trans hn90
  replace hn91 := (hg495 _ (q_nc (q_pd 92 113 rfl) (q_nc (q_pd 92 114 rfl) (q_nc (q_pd 92 115 rfl) List.not_mem_nil)))).trans hn91
  replace hn92 := (hg495 _ (q_nc (q_pd 93 113 rfl) (q_nc (q_pd 93 114 rfl) (q_nc (q_pd 93 115 rfl) List.not_mem_nil)))).trans hn92
  replace hn93 := (hg495 _ (q_nc (q_pd 94 113 rfl) (q_nc (q_pd 94 114 rfl) (q_nc (q_pd 94 115 rfl) List.not_mem_nil)))).trans hn93
  replace hn94 := (hg495 _ (q_nc (q_pd 95 113 rfl) (q_nc (q_pd 95 114 rfl) (q_nc (q_pd 95 115 rfl) List.not_mem_nil)))).trans hn94
  replace hn95 := (hg495 _ (q_nc (q_pd 96 113 rfl) (q_nc (q_pd 96 114 rfl) (q_nc (q_pd 96 115 rfl) List.not_mem_nil)))).trans hn95
  replace hn96 := (hg495 _ (q_nc (q_pd 97 113 rfl) (q_nc (q_pd 97 114 rfl) (q_nc (q_pd 97 115 rfl) List.not_mem_nil)))).trans hn96
  replace hn97 := (hg495 _ (q_nc (q_pd 98 113 rfl) (q_nc (q_pd 98 114 rfl) (q_nc (q_pd 98 115 rfl) List.not_mem_nil)))).trans hn97
  replace hn98 := (hg495 _ (q_nc (q_pd 99 113 rfl) (q_nc (q_pd 99 114 rfl) (q_nc (q_pd 99 115 rfl) List.not_mem_nil)))).trans hn98
  replace hn99 := (hg495 _ (q_nc (q_pd 100 113 rfl) (q_nc (q_pd 100 114 rfl) (q_nc (q_pd 100 115 rfl) List.not_mem_nil)))).trans hn99
  replace hn100 := (hg495 _ (q_nc (q_pd 101 113 rfl) (q_nc (q_pd 101 114 rfl) (q_nc (q_pd 101 115 rfl) List.not_mem_nil)))).trans hn100
  replace hn101 := (hg495 _ (q_nc (q_pd 102 113 rfl) (q_nc (q_pd 102 114 rfl) (q_nc (q_pd 102 115 rfl) List.not_mem_nil)))).trans hn101
  replace hn102 := (hg495 _ (q_nc (q_pd 103 113 rfl) (q_nc (q_pd 103 114 rfl) (q_nc (q_pd 103 115 rfl) List.not_mem_nil)))).trans hn102
  replace hn103 := (hg495 _ (q_nc (q_pd 104 113 rfl) (q_nc (q_pd 104 114 rfl) (q_nc (q_pd 104 115 rfl) List.not_mem_nil)))).trans hn103
  replace hn104 := (hg495 _ (q_nc (q_pd 105 113 rfl) (q_nc (q_pd 105 114 rfl) (q_nc (q_pd 105 115 rfl) List.not_mem_nil)))).trans hn104
  replace hn105 := (hg495 _ (q_nc (q_pd 106 113 rfl) (q_nc (q_pd 106 114 rfl) (q_nc (q_pd 106 115 rfl) List.not_mem_nil)))).trans hn105
  replace hn106 := (hg495 _ (q_nc (q_pd 107 113 rfl) (q_nc (q_pd 107 114 rfl) (q_nc (q_pd 107 115 rfl) List.not_mem_nil)))).trans hn106
  replace hn107 := (hg495 _ (q_nc (q_pd 108 113 rfl) (q_nc (q_pd 108 114 rfl) (q_nc (q_pd 108 115 rfl) List.not_mem_nil)))).trans hn107
  replace hn108 := (hg495 _ (q_nc (q_pd 109 113 rfl) (q_nc (q_pd 109 114 rfl) (q_nc (q_pd 109 115 rfl) List.not_mem_nil)))).trans hn108
  replace hn109 := (hg495 _ (q_nc (q_pd 110 113 rfl) (q_nc (q_pd 110 114 rfl) (q_nc (q_pd 110 115 rfl) List.not_mem_nil)))).trans hn109
  replace hn110 := (hg495 _ (q_nc (q_pd 111 113 rfl) (q_nc (q_pd 111 114 rfl) (q_nc (q_pd 111 115 rfl) List.not_mem_nil)))).trans hn110
  replace hn111 := (hg495 _ (q_nc (q_pd 112 113 rfl) (q_nc (q_pd 112 114 rfl) (q_nc (q_pd 112 115 rfl) List.not_mem_nil)))).trans hn111
  replace hF := q_uc hF hg495 (q_sc (.tail _ (.tail _ (.tail _ (.tail _ (.tail _ (.tail _ (.tail _ (.tail _ (.tail _ (.tail _ (.tail _ (.tail _ (.tail _ (.tail _ (.tail _ (.tail _ (.tail _ (.tail _ (.tail _ (.tail _ (.tail _ (.tail _ (.tail _ (.tail _ (.tail _ (.tail _ (.tail _ (.tail _ (.tail _ (.tail _ (.tail _ (.tail _ (.tail _ (.tail _ (.tail _ (.tail _ (.tail _ (.tail _ (.tail _ (.tail _ (.tail _ (.tail _ (.tail _ (.tail _ (.tail _ (.tail _ (.tail _ (.tail _ (.tail _ (.tail _ (.tail _ (.tail _ (.tail _ (.tail _ (.tail _ (.tail _ (.tail _ (.tail _ (.tail _ (.tail _ (.tail _ (.tail _ (.tail _ (.tail _ (.tail _ (.tail _ (.tail _ (.tail _ (.tail _ (.tail _ (.tail _ (.tail _ (.tail _ (.tail _ (.tail _ (.tail _ (.tail _ (.tail _ (.tail _ (.tail _ (.tail _ (.tail _ (.tail _ (.tail _ (.tail _ (.tail _ (.tail _ (.tail _ (.tail _ (.tail _ (.tail _ (.tail _ (.tail _ (.tail _ (.tail _ (.tail _ (.tail _ (.tail _ (.tail _ (.tail _ (.tail _ (.tail _ (.tail _ (.tail _ (.tail _ (.tail _ (.tail _ (.tail _ (.tail _ (.tail _ (.tail _ (.tail _ (.tail _ (.head _)))))))))))))))))))))))))))))))))))))))))))))))))))))))))))))))))))))))))))))))))))))))))))))))))))))))))))))))))) (q_sc (.tail _ (.tail _ (.tail _ (.tail _ (.tail _ (.tail _ (.tail _ (.tail _ (.tail _ (.tail _ (.tail _ (.tail _ (.tail _ (.tail _ (.tail _ (.tail _ (.tail _ (.tail _ (.tail _ (.tail _ (.tail _ (.tail _ (.tail _ (.tail _ (.tail _ (.tail _ (.tail _ (.tail _ (.tail _ (.tail _ (.tail _ (.tail _ (.tail _ (.tail _ (.tail _ (.tail _ (.tail _ (.tail _ (.tail _ (.tail _ (.tail _ (.tail _ (.tail _ (.tail _ (.tail _ (.tail _ (.tail _ (.tail _ (.tail _ (.tail _ (.tail _ (.tail _ (.tail _ (.tail _ (.tail _ (.tail _ (.tail _ (.tail _ (.tail _ (.tail _ (.tail _ (.tail _ (.tail _ (.tail _ (.tail _ (.tail _ (.tail _ (.tail _ (.tail _ (.tail _ (.tail _ (.tail _ (.tail _ (.tail _ (.tail _ (.tail _ (.tail _ (.tail _ (.tail _ (.tail _ (.tail _ (.tail _ (.tail _ (.tail _ (.tail _ (.tail _ (.tail _ (.tail _ (.tail _ (.tail _ (.tail _ (.tail _ (.tail _ (.tail _ (.tail _ (.tail _ (.tail _ (.tail _ (.tail _ (.tail _ (.tail _ (.tail _ (.tail _ (.tail _ (.tail _ (.tail _ (.tail _ (.tail _ (.tail _ (.tail _ (.tail _ (.tail _ (.tail _ (.tail _ (.head _))))))))))))))))))))))))))))))))))))))))))))))))))))))))))))))))))))))))))))))))))))))))))))))))))))))))))))))))))) (q_sc (.tail _ (.tail _ (.tail _ (.tail _ (.tail _ (.tail _ (.tail _ (.tail _ (.tail _ (.tail _ (.tail _ (.tail _ (.tail _ (.tail _ (.tail _ (.tail _ (.tail _ (.tail _ (.tail _ (.tail _ (.tail _ (.tail _ (.tail _ (.tail _ (.tail _ (.tail _ (.tail _ (.tail _ (.tail _ (.tail _ (.tail _ (.tail _ (.tail _ (.tail _ (.tail _ (.tail _ (.tail _ (.tail _ (.tail _ (.tail _ (.tail _ (.tail _ (.tail _ (.tail _ (.tail _ (.tail _ (.tail _ (.tail _ (.tail _ (.tail _ (.tail _ (.tail _ (.tail _ (.tail _ (.tail _ (.tail _ (.tail _ (.tail _ (.tail _ (.tail _ (.tail _ (.tail _ (.tail _ (.tail _ (.tail _ (.tail _ (.tail _ (.tail _ (.tail _ (.tail _ (.tail _ (.tail _ (.tail _ (.tail _ (.tail _ (.tail _ (.tail _ (.tail _ (.tail _ (.tail _ (.tail _ (.tail _ (.tail _ (.tail _ (.tail _ (.tail _ (.tail _ (.tail _ (.tail _ (.tail _ (.tail _ (.tail _ (.tail _ (.tail _ (.tail _ (.tail _ (.tail _ (.tail _ (.tail _ (.tail _ (.tail _ (.tail _ (.tail _ (.tail _ (.tail _ (.tail _ (.tail _ (.tail _ (.tail _ (.tail _ (.tail _ (.tail _ (.tail _ (.tail _ (.tail _ (.head _)))))))))))))))))))))))))))))))))))))))))))))))))))))))))))))))))))))))))))))))))))))))))))))))))))))))))))))))))))) (fun _ h => absurd h List.not_mem_nil))))
  have hn113 : u492[114]? = some (q493, .inr (2, [.ref q494, .int 0, .int 0])) := hq496
  have hn114 : u492[115]? = some (q494, .inl (g 0, 108, .inl (fun _ => 0))) := hq497
  replace hN : u492.length = 116 := hN
  have ho498 := hn5
  refine q_aast (t := 5) (ci := 3) (i9 := 9) C0 V hn5 rfl hn112 rfl (by decide) (by decide) d_1_1_247 (fun H locs w499 hu500 hn5 V => ?_)
  replace hn5 : w499[6]? = some (q32, .inl (g 5, 10, .inr (.inr (.inr (.inr (va_up (va_up (va_up (va_up (va_up (va_up (va_up (va_up (va_up (va_up (fun _ => none) 0 (some q244)) 1 (some q271)) 2 (some q298)) 3 (some q325)) 4 (some q352)) 5 (some q379)) 6 (some q406)) 7 (some q433)) 8 (some q460)) 9 (some q487))))))) := hn5
  replace hN : w499.length = 116 := (q_len1 hu500 hn5 ho498).trans hN
  replace hO0 := (hu500 _ (q_pd 0 6 rfl)).trans hO0
  replace hn0 := (hu500 _ (q_pd 1 6 rfl)).trans hn0
  replace hn1 := (hu500 _ (q_pd 2 6 rfl)).trans hn1
  replace hn2 := (hu500 _ (q_pd 3 6 rfl)).trans hn2
  replace hn3 := (hu500 _ (q_pd 4 6 rfl)).trans hn3
  replace hn4 := (hu500 _ (q_pd 5 6 rfl)).trans hn4
  replace hn6 := (hu500 _ (q_pd 7 6 rfl)).trans hn6
  replace hn7 := (hu500 _ (q_pd 8 6 rfl)).trans hn7
  replace hn8 := (hu500 _ (q_pd 9 6 rfl)).trans hn8
  replace hn9 := (hu500 _ (q_pd 10 6 rfl)).trans hn9
  replace hn10 := (hu500 _ (q_pd 11 6 rfl)).trans hn10
  replace hn11 := (hu500 _ (q_pd 12 6 rfl)).trans hn11
  replace hn12 := (hu500 _ (q_pd 13 6 rfl)).trans hn12
  replace hn13 := (hu500 _ (q_pd 14 6 rfl)).trans hn13
  replace hn14 := (hu500 _ (q_pd 15 6 rfl)).trans hn14
  replace hn15 := (hu500 _ (q_pd 16 6 rfl)).trans hn15
  replace hn16 := (hu500 _ (q_pd 17 6 rfl)).trans hn16
  replace hn17 := (hu500 _ (q_pd 18 6 rfl)).trans hn17
  replace hn18 := (hu500 _ (q_pd 19 6 rfl)).trans hn18
  replace hn19 := (hu500 _ (q_pd 20 6 rfl)).trans hn19
  replace hn20 := (hu500 _ (q_pd 21 6 rfl)).trans hn20
  replace hn21 := (hu500 _ (q_pd 22 6 rfl)).trans hn21
  replace hn22 := (hu500 _ (q_pd 23 6 rfl)).trans hn22
  replace hn23 := (hu500 _ (q_pd 24 6 rfl)).trans hn23
  replace hn24 := (hu500 _ (q_pd 25 6 rfl)).trans hn24
  replace hn25 := (hu500 _ (q_pd 26 6 rfl)).trans hn25
  replace hn26 := (hu500 _ (q_pd 27 6 rfl)).trans hn26
  replace hn27 := (hu500 _ (q_pd 28 6 rfl)).trans hn27
  replace hn28 := (hu500 _ (q_pd 29 6 rfl)).trans hn28
  replace hn29 := (hu500 _ (q_pd 30 6 rfl)).trans hn29
  replace hn30 := (hu500 _ (q_pd 31 6 rfl)).trans hn30
  replace hn31 := (hu500 _ (q_pd 32 6 rfl)).trans hn31
  replace hn32 := (hu500 _ (q_pd 33 6 rfl)).trans hn32
  replace hn33 := (hu500 _ (q_pd 34 6 rfl)).trans hn33
  replace hn34 := (hu500 _ (q_pd 35 6 rfl)).trans hn34
  replace hn35 := (hu500 _ (q_pd 36 6 rfl)).trans hn35
  replace hn36 := (hu500 _ (q_pd 37 6 rfl)).trans hn36
  replace hn37 := (hu500 _ (q_pd 38 6 rfl)).trans hn37
  replace hn38 := (hu500 _ (q_pd 39 6 rfl)).trans hn38
  replace hn39 := (hu500 _ (q_pd 40 6 rfl)).trans hn39
  replace hn40 := (hu500 _ (q_pd 41 6 rfl)).trans hn40
  replace hn41 := (hu500 _ (q_pd 42 6 rfl)).trans hn41
  replace hn42 := (hu500 _ (q_pd 43 6 rfl)).trans hn42
  replace hn43 := (hu500 _ (q_pd 44 6 rfl)).trans hn43
  replace hn44 := (hu500 _ (q_pd 45 6 rfl)).trans hn44
  replace hn45 := (hu500 _ (q_pd 46 6 rfl)).trans hn45
  replace hn46 := (hu500 _ (q_pd 47 6 rfl)).trans hn46
  replace hn47 := (hu500 _ (q_pd 48 6 rfl)).trans hn47
  replace hn48 := (hu500 _ (q_pd 49 6 rfl)).trans hn48
  replace hn49 := (hu500 _ (q_pd 50 6 rfl)).trans hn49
  replace hn50 := (hu500 _ (q_pd 51 6 rfl)).trans hn50
  replace hn51 := (hu500 _ (q_pd 52 6 rfl)).trans hn51
  replace hn52 := (hu500 _ (q_pd 53 6 rfl)).trans hn52
  replace hn53 := (hu500 _ (q_pd 54 6 rfl)).trans hn53
  replace hn54 := (hu500 _ (q_pd 55 6 rfl)).trans hn54
  replace hn55 := (hu500 _ (q_pd 56 6 rfl)).trans hn55
  replace hn56 := (hu500 _ (q_pd 57 6 rfl)).trans hn56
  replace hn57 := (hu500 _ (q_pd 58 6 rfl)).trans hn57
  replace hn58 := (hu500 _ (q_pd 59 6 rfl)).trans hn58
  replace hn59 := (hu500 _ (q_pd 60 6 rfl)).trans hn59
  replace hn60 := (hu500 _ (q_pd 61 6 rfl)).trans hn60
  replace hn61 := (hu500 _ (q_pd 62 6 rfl)).trans hn61
  replace hn62 := (hu500 _ (q_pd 63 6 rfl)).trans hn62
  replace hn63 := (hu500 _ (q_pd 64 6 rfl)).trans hn63
  replace hn64 := (hu500 _ (q_pd 65 6 rfl)).trans hn64
  replace hn65 := (hu500 _ (q_pd 66 6 rfl)).trans hn65
  replace hn66 := (hu500 _ (q_pd 67 6 rfl)).trans hn66
  replace hn67 := (hu500 _ (q_pd 68 6 rfl)).trans hn67
  replace hn68 := (hu500 _ (q_pd 69 6 rfl)).trans hn68
  replace hn69 := (hu500 _ (q_pd 70 6 rfl)).trans hn69
  replace hn70 := (hu500 _ (q_pd 71 6 rfl)).trans hn70
  replace hn71 := (hu500 _ (q_pd 72 6 rfl)).trans hn71
  replace hn72 := (hu500 _ (q_pd 73 6 rfl)).trans hn72
  replace hn73 := (hu500 _ (q_pd 74 6 rfl)).trans hn73
  replace hn74 := (hu500 _ (q_pd 75 6 rfl)).trans hn74
  replace hn75 := (hu500 _ (q_pd 76 6 rfl)).trans hn75
  replace hn76 := (hu500 _ (q_pd 77 6 rfl)).trans hn76
  replace hn77 := (hu500 _ (q_pd 78 6 rfl)).trans hn77
  replace hn78 := (hu500 _ (q_pd 79 6 rfl)).trans hn78
  replace hn79 := (hu500 _ (q_pd 80 6 rfl)).trans hn79
  replace hn80 := (hu500 _ (q_pd 81 6 rfl)).trans hn80
  replace hn81 := (hu500 _ (q_pd 82 6 rfl)).trans hn81
  replace hn82 := (hu500 _ (q_pd 83 6 rfl)).trans hn82
  replace hn83 := (hu500 _ (q_pd 84 6 rfl)).trans hn83
  replace hn84 := (hu500 _ (q_pd 85 6 rfl)).trans hn84
  replace hn85 := (hu500 _ (q_pd 86 6 rfl)).trans hn85
  replace hn86 := (hu500 _ (q_pd 87 6 rfl)).trans hn86
  replace hn87 := (hu500 _ (q_pd 88 6 rfl)).trans hn87
  replace hn88 := (hu500 _ (q_pd 89 6 rfl)).trans hn88
  replace hn89 := (hu500 _ (q_pd 90 6 rfl)).trans hn89
  replace hn90 := (hu500 _ (q_pd 91 6 rfl)).trans hn90
  replace hn91 := (hu500 _ (q_pd 92 6 rfl)).trans hn91
  replace hn92 := (hu500 _ (q_pd 93 6 rfl)).trans hn92
  replace hn93 := (hu500 _ (q_pd 94 6 rfl)).trans hn93
  replace hn94 := (hu500 _ (q_pd 95 6 rfl)).trans hn94
  replace hn95 := (hu500 _ (q_pd 96 6 rfl)).trans hn95
  replace hn96 := (hu500 _ (q_pd 97 6 rfl)).trans hn96
  replace hn97 := (hu500 _ (q_pd 98 6 rfl)).trans hn97
  replace hn98 := (hu500 _ (q_pd 99 6 rfl)).trans hn98
  replace hn99 := (hu500 _ (q_pd 100 6 rfl)).trans hn99
  replace hn100 := (hu500 _ (q_pd 101 6 rfl)).trans hn100
  replace hn101 := (hu500 _ (q_pd 102 6 rfl)).trans hn101
  replace hn102 := (hu500 _ (q_pd 103 6 rfl)).trans hn102
  replace hn103 := (hu500 _ (q_pd 104 6 rfl)).trans hn103
  replace hn104 := (hu500 _ (q_pd 105 6 rfl)).trans hn104
  replace hn105 := (hu500 _ (q_pd 106 6 rfl)).trans hn105
  replace hn106 := (hu500 _ (q_pd 107 6 rfl)).trans hn106
  replace hn107 := (hu500 _ (q_pd 108 6 rfl)).trans hn107
  replace hn108 := (hu500 _ (q_pd 109 6 rfl)).trans hn108
  replace hn109 := (hu500 _ (q_pd 110 6 rfl)).trans hn109
  replace hn110 := (hu500 _ (q_pd 111 6 rfl)).trans hn110
  replace hn111 := (hu500 _ (q_pd 112 6 rfl)).trans hn111
  replace hn112 := (hu500 _ (q_pd 113 6 rfl)).trans hn112
  replace hn113 := (hu500 _ (q_pd 114 6 rfl)).trans hn113
  replace hn114 := (hu500 _ (q_pd 115 6 rfl)).trans hn114
  replace hF := q_us hF hu500 (.tail _ (.tail _ (.tail _ (.tail _ (.tail _ (.tail _ (.head _)))))))
  refine lv_iinc (v := 10) (lv' := [(1, .int 10), (0, .ref qO0)]) hx hb d_1_1_248 hl (k := 0) rfl (by decide) (by decide) rfl (fun ls hl => ?_)
  refine lv_goto (tgt := 212) hx hb d_1_1_251 (by decide) ?_
  refine lv_iload_n hx hb d_1_1_212 rfl (lv_at hl 0 rfl) ?_
  refine lv_bipush (v := 10) hx hb d_1_1_213 (by decide) ?_
  refine lv_icmp_ge (tgt := 254) hx hb d_1_1_215 (by decide) (fun c501 => ?_) (fun c501 => absurd (by decide) c501)
  exact q_retv C0 V (⟨q1, q7, q13, q19, q25, q32, q39, q46, q53, q59, q60, q61, q62, q63, q64, q65, q66, q67, q68, q69, q70, q71, q72, q73, q74, q75, q76, q77, q78, q103, q109, q110, q111, q119, q129, q139, q145, q151, q161, q171, q177, q178, q179, q180, q181, q182, q183, q184, q185, q186, q187, q188, q189, q190, q191, q192, q193, q194, q195, q196, q197, q198, q199, q200, q201, q232, q238, q244, q250, q251, q259, q265, q271, q277, q278, q286, q292, q298, q304, q305, q313, q319, q325, q331, q332, q340, q346, q352, q358, q359, q367, q373, q379, q385, q386, q394, q400, q406, q412, q413, q421, q427, q433, q439, q440, q448, q454, q460, q466, q467, q475, q481, q487, q493, q494, hF, hO0, hn0, hn1, hn2, hn3, hn4, hn5, hn6, hn7, hn8, hn9, hn10, hn11, hn12, hn13, hn14, hn15, hn16, hn17, hn18, hn19, hn20, hn21, hn22, hn23, hn24, hn25, hn26, hn27, hn28, hn29, hn30, hn31, hn32, hn33, hn34, hn35, hn36, hn37, hn38, hn39, hn40, hn41, hn42, hn43, hn44, hn45, hn46, hn47, hn48, hn49, hn50, hn51, hn52, hn53, hn54, hn55, hn56, hn57, hn58, hn59, hn60, hn61, hn62, hn63, hn64, hn65, hn66, hn67, hn68, hn69, hn70, hn71, hn72, hn73, hn74, hn75, hn76, hn77, hn78, hn79, hn80, hn81, hn82, hn83, hn84, hn85, hn86, hn87, hn88, hn89, hn90, hn91, hn92, hn93, hn94, hn95, hn96, hn97, hn98, hn99, hn100, hn101, hn102, hn103, hn104, hn105, hn106, hn107, hn108, hn109, hn110, hn111, hn112, hn113, hn114, hN⟩) d_1_1_254
