/-! the constructor of the reference -/
theorem d_19_1_0 : decode prog_19_method_1_code 0 = .ok (.aload_n 0, 1) := by decide +kernel
theorem d_19_1_1 : decode prog_19_method_1_code 1 = .ok (.invokespecial 1, 3) := by decide +kernel
set_option maxRecDepth 100000 in
theorem w_1920 : (Cond.methodLink "NumberHouseModel$WholeRows" (1 : Nat) ({ cls := "java/lang/Object", name := "<init>", desc := "()V" } : MethodName)) ∈ q_tbl := q_of9 0 rfl (by decide +kernel)
theorem d_19_1_4 : decode prog_19_method_1_code 4 = .ok (.aload_n 0, 1) := by decide +kernel
theorem d_19_1_5 : decode prog_19_method_1_code 5 = .ok (.sipush 4100, 3) := by decide +kernel
theorem d_19_1_8 : decode prog_19_method_1_code 8 = .ok (.newarray .int, 2) := by decide +kernel
theorem d_19_1_10 : decode prog_19_method_1_code 10 = .ok (.putfield 7, 3) := by decide +kernel
set_option maxRecDepth 100000 in
theorem w_1924 : (Cond.fieldLink "NumberHouseModel$WholeRows" (7 : Nat) "NumberHouseModel$WholeRows" "draft" "[I") ∈ q_tbl := q_of9 4 rfl (by decide +kernel)
theorem d_19_1_13 : decode prog_19_method_1_code 13 = .ok (.aload_n 0, 1) := by decide +kernel
theorem d_19_1_14 : decode prog_19_method_1_code 14 = .ok (.sipush 1408, 3) := by decide +kernel
theorem d_19_1_17 : decode prog_19_method_1_code 17 = .ok (.newarray .int, 2) := by decide +kernel
theorem d_19_1_19 : decode prog_19_method_1_code 19 = .ok (.putfield 13, 3) := by decide +kernel
set_option maxRecDepth 100000 in
theorem w_1928 : (Cond.fieldLink "NumberHouseModel$WholeRows" (13 : Nat) "NumberHouseModel$WholeRows" "kept" "[I") ∈ q_tbl := q_of9 8 rfl (by decide +kernel)
theorem d_19_1_22 : decode prog_19_method_1_code 22 = .ok (.aload_n 0, 1) := by decide +kernel
theorem d_19_1_23 : decode prog_19_method_1_code 23 = .ok (.bipush 11, 2) := by decide +kernel
theorem d_19_1_25 : decode prog_19_method_1_code 25 = .ok (.newarray .boolean, 2) := by decide +kernel
set_option maxRecDepth 100000 in
theorem w_1989 : (Cond.arrayClass .boolean) ∈ q_tbl := q_of9 69 rfl (by decide +kernel)
theorem d_19_1_27 : decode prog_19_method_1_code 27 = .ok (.putfield 16, 3) := by decide +kernel
set_option maxRecDepth 100000 in
theorem w_1929 : (Cond.fieldLink "NumberHouseModel$WholeRows" (16 : Nat) "NumberHouseModel$WholeRows" "minus" "[Z") ∈ q_tbl := q_of9 9 rfl (by decide +kernel)
theorem d_19_1_30 : decode prog_19_method_1_code 30 = .ok (.aload_n 0, 1) := by decide +kernel
theorem d_19_1_31 : decode prog_19_method_1_code 31 = .ok (.sipush 264, 3) := by decide +kernel
theorem d_19_1_34 : decode prog_19_method_1_code 34 = .ok (.newarray .int, 2) := by decide +kernel
theorem d_19_1_36 : decode prog_19_method_1_code 36 = .ok (.putfield 20, 3) := by decide +kernel
set_option maxRecDepth 100000 in
theorem w_1930 : (Cond.fieldLink "NumberHouseModel$WholeRows" (20 : Nat) "NumberHouseModel$WholeRows" "row" "[I") ∈ q_tbl := q_of9 10 rfl (by decide +kernel)
theorem d_19_1_39 : decode prog_19_method_1_code 39 = .ok (.aload_n 0, 1) := by decide +kernel
theorem d_19_1_40 : decode prog_19_method_1_code 40 = .ok (.sipush 264, 3) := by decide +kernel
theorem d_19_1_43 : decode prog_19_method_1_code 43 = .ok (.newarray .int, 2) := by decide +kernel
theorem d_19_1_45 : decode prog_19_method_1_code 45 = .ok (.putfield 23, 3) := by decide +kernel
set_option maxRecDepth 100000 in
theorem w_1932 : (Cond.fieldLink "NumberHouseModel$WholeRows" (23 : Nat) "NumberHouseModel$WholeRows" "other" "[I") ∈ q_tbl := q_of9 12 rfl (by decide +kernel)
theorem d_19_1_48 : decode prog_19_method_1_code 48 = .ok (.aload_n 0, 1) := by decide +kernel
theorem d_19_1_49 : decode prog_19_method_1_code 49 = .ok (.sipush 528, 3) := by decide +kernel
theorem d_19_1_52 : decode prog_19_method_1_code 52 = .ok (.newarray .int, 2) := by decide +kernel
theorem d_19_1_54 : decode prog_19_method_1_code 54 = .ok (.putfield 26, 3) := by decide +kernel
set_option maxRecDepth 100000 in
theorem w_1933 : (Cond.fieldLink "NumberHouseModel$WholeRows" (26 : Nat) "NumberHouseModel$WholeRows" "product" "[I") ∈ q_tbl := q_of9 13 rfl (by decide +kernel)
theorem d_19_1_57 : decode prog_19_method_1_code 57 = .ok (.aload_n 0, 1) := by decide +kernel
theorem d_19_1_58 : decode prog_19_method_1_code 58 = .ok (.sipush 264, 3) := by decide +kernel
theorem d_19_1_61 : decode prog_19_method_1_code 61 = .ok (.newarray .int, 2) := by decide +kernel
theorem d_19_1_63 : decode prog_19_method_1_code 63 = .ok (.putfield 29, 3) := by decide +kernel
set_option maxRecDepth 100000 in
theorem w_1934 : (Cond.fieldLink "NumberHouseModel$WholeRows" (29 : Nat) "NumberHouseModel$WholeRows" "rest" "[I") ∈ q_tbl := q_of9 14 rfl (by decide +kernel)
theorem d_19_1_66 : decode prog_19_method_1_code 66 = .ok (.aload_n 0, 1) := by decide +kernel
theorem d_19_1_67 : decode prog_19_method_1_code 67 = .ok (.sipush 264, 3) := by decide +kernel
theorem d_19_1_70 : decode prog_19_method_1_code 70 = .ok (.newarray .int, 2) := by decide +kernel
theorem d_19_1_72 : decode prog_19_method_1_code 72 = .ok (.putfield 32, 3) := by decide +kernel
set_option maxRecDepth 100000 in
theorem w_1935 : (Cond.fieldLink "NumberHouseModel$WholeRows" (32 : Nat) "NumberHouseModel$WholeRows" "quotient" "[I") ∈ q_tbl := q_of9 15 rfl (by decide +kernel)
theorem d_19_1_75 : decode prog_19_method_1_code 75 = .ok (.aload_n 0, 1) := by decide +kernel
theorem d_19_1_76 : decode prog_19_method_1_code 76 = .ok (.sipush 264, 3) := by decide +kernel
theorem d_19_1_79 : decode prog_19_method_1_code 79 = .ok (.newarray .int, 2) := by decide +kernel
theorem d_19_1_81 : decode prog_19_method_1_code 81 = .ok (.putfield 35, 3) := by decide +kernel
set_option maxRecDepth 100000 in
theorem w_1936 : (Cond.fieldLink "NumberHouseModel$WholeRows" (35 : Nat) "NumberHouseModel$WholeRows" "one" "[I") ∈ q_tbl := q_of9 16 rfl (by decide +kernel)
theorem d_19_1_84 : decode prog_19_method_1_code 84 = .ok (.aload_n 0, 1) := by decide +kernel
theorem d_19_1_85 : decode prog_19_method_1_code 85 = .ok (.sipush 264, 3) := by decide +kernel
theorem d_19_1_88 : decode prog_19_method_1_code 88 = .ok (.newarray .int, 2) := by decide +kernel
theorem d_19_1_90 : decode prog_19_method_1_code 90 = .ok (.putfield 38, 3) := by decide +kernel
set_option maxRecDepth 100000 in
theorem w_1937 : (Cond.fieldLink "NumberHouseModel$WholeRows" (38 : Nat) "NumberHouseModel$WholeRows" "two" "[I") ∈ q_tbl := q_of9 17 rfl (by decide +kernel)
theorem d_19_1_93 : decode prog_19_method_1_code 93 = .ok (.aload_n 0, 1) := by decide +kernel
theorem d_19_1_94 : decode prog_19_method_1_code 94 = .ok (.sipush 264, 3) := by decide +kernel
theorem d_19_1_97 : decode prog_19_method_1_code 97 = .ok (.newarray .int, 2) := by decide +kernel
theorem d_19_1_99 : decode prog_19_method_1_code 99 = .ok (.putfield 41, 3) := by decide +kernel
set_option maxRecDepth 100000 in
theorem w_1938 : (Cond.fieldLink "NumberHouseModel$WholeRows" (41 : Nat) "NumberHouseModel$WholeRows" "first" "[I") ∈ q_tbl := q_of9 18 rfl (by decide +kernel)
theorem d_19_1_102 : decode prog_19_method_1_code 102 = .ok (.aload_n 0, 1) := by decide +kernel
theorem d_19_1_103 : decode prog_19_method_1_code 103 = .ok (.sipush 264, 3) := by decide +kernel
theorem d_19_1_106 : decode prog_19_method_1_code 106 = .ok (.newarray .int, 2) := by decide +kernel
theorem d_19_1_108 : decode prog_19_method_1_code 108 = .ok (.putfield 44, 3) := by decide +kernel
set_option maxRecDepth 100000 in
theorem w_1939 : (Cond.fieldLink "NumberHouseModel$WholeRows" (44 : Nat) "NumberHouseModel$WholeRows" "second" "[I") ∈ q_tbl := q_of9 19 rfl (by decide +kernel)
theorem d_19_1_111 : decode prog_19_method_1_code 111 = .ok (.aload_n 0, 1) := by decide +kernel
theorem d_19_1_112 : decode prog_19_method_1_code 112 = .ok (.sipush 264, 3) := by decide +kernel
theorem d_19_1_115 : decode prog_19_method_1_code 115 = .ok (.newarray .int, 2) := by decide +kernel
theorem d_19_1_117 : decode prog_19_method_1_code 117 = .ok (.putfield 47, 3) := by decide +kernel
set_option maxRecDepth 100000 in
theorem w_1942 : (Cond.fieldLink "NumberHouseModel$WholeRows" (47 : Nat) "NumberHouseModel$WholeRows" "modulus" "[I") ∈ q_tbl := q_of9 22 rfl (by decide +kernel)
theorem d_19_1_120 : decode prog_19_method_1_code 120 = .ok (.aload_n 0, 1) := by decide +kernel
theorem d_19_1_121 : decode prog_19_method_1_code 121 = .ok (.sipush 2100, 3) := by decide +kernel
theorem d_19_1_124 : decode prog_19_method_1_code 124 = .ok (.newarray .int, 2) := by decide +kernel
theorem d_19_1_126 : decode prog_19_method_1_code 126 = .ok (.putfield 50, 3) := by decide +kernel
set_option maxRecDepth 100000 in
theorem w_1943 : (Cond.fieldLink "NumberHouseModel$WholeRows" (50 : Nat) "NumberHouseModel$WholeRows" "paper" "[I") ∈ q_tbl := q_of9 23 rfl (by decide +kernel)
theorem d_19_1_129 : decode prog_19_method_1_code 129 = .ok (.return_, 1) := by decide +kernel
def y_WR_init : MethodName := ⟨"NumberHouseModel$WholeRows", "<init>", "()V"⟩
set_option maxRecDepth 100000 in
set_option maxHeartbeats 4000000 in
theorem c_WR_init (l : Launch) (D : va_G) (g : Nat → ClassId) (ws : va_W) ( qO0 : Nat) (hN : ws.length = 120) (hO0 : ws[119]? = (some (qO0, .inr (13, [.int 0, .int 0, .null, .int 0, .null, .null, .null, .int 0, .null, .null, .null, .null, .null, .null, .null, .null, .int 0, .int 0, .null, .null, .int 0])) : Option (Nat × va_E))) : q_mV l y_WR_init prog_19_method_1_code 1 2 14 10523 D g [.ref qO0] ws (fun u => ∃ (q1 : Nat) (q8 : Nat) (q15 : Nat) (q22 : Nat) (q29 : Nat) (q36 : Nat) (q43 : Nat) (q50 : Nat) (q57 : Nat) (q64 : Nat) (q71 : Nat) (q78 : Nat) (q85 : Nat) (q92 : Nat), q_un ws u [119, 120, 121, 122, 123, 124, 125, 126, 127, 128, 129, 130, 131, 132, 133] ∧ u[119]? = (some (qO0, .inr (13, [.int 0, .int 0, .ref q1, .int 0, .ref q8, .ref q15, .ref q22, .int 0, .ref q29, .ref q36, .ref q43, .ref q50, .ref q57, .ref q64, .ref q71, .ref q78, .int 0, .int 0, .ref q85, .ref q92, .int 0])) : Option (Nat × va_E)) ∧ u[120]? = (some (q1, .inl (g 0, 4100, .inl (fun _ => 0))) : Option (Nat × va_E)) ∧ u[121]? = (some (q8, .inl (g 0, 1408, .inl (fun _ => 0))) : Option (Nat × va_E)) ∧ u[122]? = (some (q15, .inl (g 3, 11, .inl (fun _ => 0))) : Option (Nat × va_E)) ∧ u[123]? = (some (q22, .inl (g 0, 264, .inl (fun _ => 0))) : Option (Nat × va_E)) ∧ u[124]? = (some (q29, .inl (g 0, 264, .inl (fun _ => 0))) : Option (Nat × va_E)) ∧ u[125]? = (some (q36, .inl (g 0, 528, .inl (fun _ => 0))) : Option (Nat × va_E)) ∧ u[126]? = (some (q43, .inl (g 0, 264, .inl (fun _ => 0))) : Option (Nat × va_E)) ∧ u[127]? = (some (q50, .inl (g 0, 264, .inl (fun _ => 0))) : Option (Nat × va_E)) ∧ u[128]? = (some (q57, .inl (g 0, 264, .inl (fun _ => 0))) : Option (Nat × va_E)) ∧ u[129]? = (some (q64, .inl (g 0, 264, .inl (fun _ => 0))) : Option (Nat × va_E)) ∧ u[130]? = (some (q71, .inl (g 0, 264, .inl (fun _ => 0))) : Option (Nat × va_E)) ∧ u[131]? = (some (q78, .inl (g 0, 264, .inl (fun _ => 0))) : Option (Nat × va_E)) ∧ u[132]? = (some (q85, .inl (g 0, 264, .inl (fun _ => 0))) : Option (Nat × va_E)) ∧ u[133]? = (some (q92, .inl (g 0, 2100, .inl (fun _ => 0))) : Option (Nat × va_E)) ∧ u.length = 134) := by
  intro sz
  refine q_into (by decide) (Nat.le_of_ble_eq_true rfl) ?_
  intro p e s m below meth c ls hsz C0 V hl
  have hx := C0.1
  have hb := C0.2.1
  have hl : lv_has ls 1 [(0, .ref qO0)] := hl
  have hF : q_un ws ws [119, 120, 121, 122, 123, 124, 125, 126, 127, 128, 129, 130, 131, 132, 133] := q_u0
  refine lv_aload_n hx hb d_19_1_0 rfl (lv_at hl 0 rfl) ?_
  refine q_obj C0 hl.1 rfl w_1920 w_44 w_45 ⟨by decide, by decide⟩ d_19_1_1 ?_
  refine lv_aload_n hx hb d_19_1_4 rfl (lv_at hl 0 rfl) ?_
  refine lv_sipush (v := 4100) hx hb d_19_1_5 (by decide) ?_
  refine q_newI (N' := 4100) C0 V hN w_107 (by decide) (by decide) (by decide) (Nat.le_of_ble_eq_true rfl) (Nat.le_of_ble_eq_true rfl) d_19_1_8 (fun q1 H w2 hu3 hn4 hN V => ?_)
  have hn0 : w2[120]? = (some (q1, .inl (g 0, 4100, .inl (fun _ => 0))) : Option (Nat × va_E)) := hn4
  replace hF := q_us hF hu3 (.tail _ (.head _))
  replace hN : w2.length = 121 := hN
  replace hO0 := (hu3 _ (q_pd 119 120 rfl)).trans (hO0)
  have ho7 := hO0
  refine q_putF (ci := 13) (j := 2) (v := .ref q1) (ty := .array .int) C0 V i_WR o_WR n_WR rfl rfl rfl rfl rfl hO0 (by decide) w_1924 rfl rfl rfl (Nat.le_of_ble_eq_true rfl) d_19_1_10 (fun H locs w5 hu6 hO0 V => ?_)
  replace hO0 : w5[119]? = (some (qO0, .inr (13, [.int 0, .int 0, .ref q1, .int 0, .null, .null, .null, .int 0, .null, .null, .null, .null, .null, .null, .null, .null, .int 0, .int 0, .null, .null, .int 0])) : Option (Nat × va_E)) := hO0
  replace hN : w5.length = 121 := (q_len1 hu6 hO0 ho7).trans hN
  replace hF := q_us hF hu6 (.head _)
  refine lv_aload_n hx hb d_19_1_13 rfl (lv_at hl 0 rfl) ?_
  refine lv_sipush (v := 1408) hx hb d_19_1_14 (by decide) ?_
  refine q_newI (N' := 1408) C0 V hN w_107 (by decide) (by decide) (by decide) (Nat.le_of_ble_eq_true rfl) (Nat.le_of_ble_eq_true rfl) d_19_1_17 (fun q8 H w9 hu10 hn11 hN V => ?_)
  have hn1 : w9[121]? = (some (q8, .inl (g 0, 1408, .inl (fun _ => 0))) : Option (Nat × va_E)) := hn11
  replace hF := q_us hF hu10 (.tail _ (.tail _ (.head _)))
  replace hN : w9.length = 122 := hN
  replace hO0 := (hu10 _ (q_pd 119 121 rfl)).trans (hO0)
  have ho14 := hO0
  refine q_putF (ci := 13) (j := 4) (v := .ref q8) (ty := .array .int) C0 V i_WR o_WR n_WR rfl rfl rfl rfl rfl hO0 (by decide) w_1928 rfl rfl rfl (Nat.le_of_ble_eq_true rfl) d_19_1_19 (fun H locs w12 hu13 hO0 V => ?_)
  replace hO0 : w12[119]? = (some (qO0, .inr (13, [.int 0, .int 0, .ref q1, .int 0, .ref q8, .null, .null, .int 0, .null, .null, .null, .null, .null, .null, .null, .null, .int 0, .int 0, .null, .null, .int 0])) : Option (Nat × va_E)) := hO0
  replace hN : w12.length = 122 := (q_len1 hu13 hO0 ho14).trans hN
  replace hF := q_us hF hu13 (.head _)
  refine lv_aload_n hx hb d_19_1_22 rfl (lv_at hl 0 rfl) ?_
  refine lv_bipush (v := 11) hx hb d_19_1_23 (by decide) ?_
  refine q_newZ (N' := 11) C0 V hN w_1989 (by decide) (by decide) (by decide) (Nat.le_of_ble_eq_true rfl) (Nat.le_of_ble_eq_true rfl) d_19_1_25 (fun q15 H w16 hu17 hn18 hN V => ?_)
  have hn2 : w16[122]? = (some (q15, .inl (g 3, 11, .inl (fun _ => 0))) : Option (Nat × va_E)) := hn18
  replace hF := q_us hF hu17 (List.mem_of_getElem? (i := 3) rfl)
  replace hN : w16.length = 123 := hN
  replace hO0 := (hu17 _ (q_pd 119 122 rfl)).trans (hO0)
  have ho21 := hO0
  refine q_putF (ci := 13) (j := 5) (v := .ref q15) (ty := .array .boolean) C0 V i_WR o_WR n_WR rfl rfl rfl rfl rfl hO0 (by decide) w_1929 rfl rfl rfl (Nat.le_of_ble_eq_true rfl) d_19_1_27 (fun H locs w19 hu20 hO0 V => ?_)
  replace hO0 : w19[119]? = (some (qO0, .inr (13, [.int 0, .int 0, .ref q1, .int 0, .ref q8, .ref q15, .null, .int 0, .null, .null, .null, .null, .null, .null, .null, .null, .int 0, .int 0, .null, .null, .int 0])) : Option (Nat × va_E)) := hO0
  replace hN : w19.length = 123 := (q_len1 hu20 hO0 ho21).trans hN
  replace hF := q_us hF hu20 (.head _)
  refine lv_aload_n hx hb d_19_1_30 rfl (lv_at hl 0 rfl) ?_
  refine lv_sipush (v := 264) hx hb d_19_1_31 (by decide) ?_
  refine q_newI (N' := 264) C0 V hN w_107 (by decide) (by decide) (by decide) (Nat.le_of_ble_eq_true rfl) (Nat.le_of_ble_eq_true rfl) d_19_1_34 (fun q22 H w23 hu24 hn25 hN V => ?_)
  have hn3 : w23[123]? = (some (q22, .inl (g 0, 264, .inl (fun _ => 0))) : Option (Nat × va_E)) := hn25
  replace hF := q_us hF hu24 (List.mem_of_getElem? (i := 4) rfl)
  replace hN : w23.length = 124 := hN
  replace hO0 := (hu24 _ (q_pd 119 123 rfl)).trans (hO0)
  have ho28 := hO0
  refine q_putF (ci := 13) (j := 6) (v := .ref q22) (ty := .array .int) C0 V i_WR o_WR n_WR rfl rfl rfl rfl rfl hO0 (by decide) w_1930 rfl rfl rfl (Nat.le_of_ble_eq_true rfl) d_19_1_36 (fun H locs w26 hu27 hO0 V => ?_)
  replace hO0 : w26[119]? = (some (qO0, .inr (13, [.int 0, .int 0, .ref q1, .int 0, .ref q8, .ref q15, .ref q22, .int 0, .null, .null, .null, .null, .null, .null, .null, .null, .int 0, .int 0, .null, .null, .int 0])) : Option (Nat × va_E)) := hO0
  replace hN : w26.length = 124 := (q_len1 hu27 hO0 ho28).trans hN
  replace hF := q_us hF hu27 (.head _)
  refine lv_aload_n hx hb d_19_1_39 rfl (lv_at hl 0 rfl) ?_
  refine lv_sipush (v := 264) hx hb d_19_1_40 (by decide) ?_
  refine q_newI (N' := 264) C0 V hN w_107 (by decide) (by decide) (by decide) (Nat.le_of_ble_eq_true rfl) (Nat.le_of_ble_eq_true rfl) d_19_1_43 (fun q29 H w30 hu31 hn32 hN V => ?_)
  have hn4 : w30[124]? = (some (q29, .inl (g 0, 264, .inl (fun _ => 0))) : Option (Nat × va_E)) := hn32
  replace hF := q_us hF hu31 (List.mem_of_getElem? (i := 5) rfl)
  replace hN : w30.length = 125 := hN
  replace hO0 := (hu31 _ (q_pd 119 124 rfl)).trans (hO0)
  have ho35 := hO0
  refine q_putF (ci := 13) (j := 8) (v := .ref q29) (ty := .array .int) C0 V i_WR o_WR n_WR rfl rfl rfl rfl rfl hO0 (by decide) w_1932 rfl rfl rfl (Nat.le_of_ble_eq_true rfl) d_19_1_45 (fun H locs w33 hu34 hO0 V => ?_)
  replace hO0 : w33[119]? = (some (qO0, .inr (13, [.int 0, .int 0, .ref q1, .int 0, .ref q8, .ref q15, .ref q22, .int 0, .ref q29, .null, .null, .null, .null, .null, .null, .null, .int 0, .int 0, .null, .null, .int 0])) : Option (Nat × va_E)) := hO0
  replace hN : w33.length = 125 := (q_len1 hu34 hO0 ho35).trans hN
  replace hF := q_us hF hu34 (.head _)
  refine lv_aload_n hx hb d_19_1_48 rfl (lv_at hl 0 rfl) ?_
  refine lv_sipush (v := 528) hx hb d_19_1_49 (by decide) ?_
  refine q_newI (N' := 528) C0 V hN w_107 (by decide) (by decide) (by decide) (Nat.le_of_ble_eq_true rfl) (Nat.le_of_ble_eq_true rfl) d_19_1_52 (fun q36 H w37 hu38 hn39 hN V => ?_)
  have hn5 : w37[125]? = (some (q36, .inl (g 0, 528, .inl (fun _ => 0))) : Option (Nat × va_E)) := hn39
  replace hF := q_us hF hu38 (List.mem_of_getElem? (i := 6) rfl)
  replace hN : w37.length = 126 := hN
  replace hO0 := (hu38 _ (q_pd 119 125 rfl)).trans (hO0)
  have ho42 := hO0
  refine q_putF (ci := 13) (j := 9) (v := .ref q36) (ty := .array .int) C0 V i_WR o_WR n_WR rfl rfl rfl rfl rfl hO0 (by decide) w_1933 rfl rfl rfl (Nat.le_of_ble_eq_true rfl) d_19_1_54 (fun H locs w40 hu41 hO0 V => ?_)
  replace hO0 : w40[119]? = (some (qO0, .inr (13, [.int 0, .int 0, .ref q1, .int 0, .ref q8, .ref q15, .ref q22, .int 0, .ref q29, .ref q36, .null, .null, .null, .null, .null, .null, .int 0, .int 0, .null, .null, .int 0])) : Option (Nat × va_E)) := hO0
  replace hN : w40.length = 126 := (q_len1 hu41 hO0 ho42).trans hN
  replace hF := q_us hF hu41 (.head _)
  refine lv_aload_n hx hb d_19_1_57 rfl (lv_at hl 0 rfl) ?_
  refine lv_sipush (v := 264) hx hb d_19_1_58 (by decide) ?_
  refine q_newI (N' := 264) C0 V hN w_107 (by decide) (by decide) (by decide) (Nat.le_of_ble_eq_true rfl) (Nat.le_of_ble_eq_true rfl) d_19_1_61 (fun q43 H w44 hu45 hn46 hN V => ?_)
  have hn6 : w44[126]? = (some (q43, .inl (g 0, 264, .inl (fun _ => 0))) : Option (Nat × va_E)) := hn46
  replace hF := q_us hF hu45 (List.mem_of_getElem? (i := 7) rfl)
  replace hN : w44.length = 127 := hN
  replace hO0 := (hu45 _ (q_pd 119 126 rfl)).trans (hO0)
  have ho49 := hO0
  refine q_putF (ci := 13) (j := 10) (v := .ref q43) (ty := .array .int) C0 V i_WR o_WR n_WR rfl rfl rfl rfl rfl hO0 (by decide) w_1934 rfl rfl rfl (Nat.le_of_ble_eq_true rfl) d_19_1_63 (fun H locs w47 hu48 hO0 V => ?_)
  replace hO0 : w47[119]? = (some (qO0, .inr (13, [.int 0, .int 0, .ref q1, .int 0, .ref q8, .ref q15, .ref q22, .int 0, .ref q29, .ref q36, .ref q43, .null, .null, .null, .null, .null, .int 0, .int 0, .null, .null, .int 0])) : Option (Nat × va_E)) := hO0
  replace hN : w47.length = 127 := (q_len1 hu48 hO0 ho49).trans hN
  replace hF := q_us hF hu48 (.head _)
  refine lv_aload_n hx hb d_19_1_66 rfl (lv_at hl 0 rfl) ?_
  refine lv_sipush (v := 264) hx hb d_19_1_67 (by decide) ?_
  refine q_newI (N' := 264) C0 V hN w_107 (by decide) (by decide) (by decide) (Nat.le_of_ble_eq_true rfl) (Nat.le_of_ble_eq_true rfl) d_19_1_70 (fun q50 H w51 hu52 hn53 hN V => ?_)
  have hn7 : w51[127]? = (some (q50, .inl (g 0, 264, .inl (fun _ => 0))) : Option (Nat × va_E)) := hn53
  replace hF := q_us hF hu52 (List.mem_of_getElem? (i := 8) rfl)
  replace hN : w51.length = 128 := hN
  replace hO0 := (hu52 _ (q_pd 119 127 rfl)).trans (hO0)
  have ho56 := hO0
  refine q_putF (ci := 13) (j := 11) (v := .ref q50) (ty := .array .int) C0 V i_WR o_WR n_WR rfl rfl rfl rfl rfl hO0 (by decide) w_1935 rfl rfl rfl (Nat.le_of_ble_eq_true rfl) d_19_1_72 (fun H locs w54 hu55 hO0 V => ?_)
  replace hO0 : w54[119]? = (some (qO0, .inr (13, [.int 0, .int 0, .ref q1, .int 0, .ref q8, .ref q15, .ref q22, .int 0, .ref q29, .ref q36, .ref q43, .ref q50, .null, .null, .null, .null, .int 0, .int 0, .null, .null, .int 0])) : Option (Nat × va_E)) := hO0
  replace hN : w54.length = 128 := (q_len1 hu55 hO0 ho56).trans hN
  replace hF := q_us hF hu55 (.head _)
  refine lv_aload_n hx hb d_19_1_75 rfl (lv_at hl 0 rfl) ?_
  refine lv_sipush (v := 264) hx hb d_19_1_76 (by decide) ?_
  refine q_newI (N' := 264) C0 V hN w_107 (by decide) (by decide) (by decide) (Nat.le_of_ble_eq_true rfl) (Nat.le_of_ble_eq_true rfl) d_19_1_79 (fun q57 H w58 hu59 hn60 hN V => ?_)
  have hn8 : w58[128]? = (some (q57, .inl (g 0, 264, .inl (fun _ => 0))) : Option (Nat × va_E)) := hn60
  replace hF := q_us hF hu59 (List.mem_of_getElem? (i := 9) rfl)
  replace hN : w58.length = 129 := hN
  replace hO0 := (hu59 _ (q_pd 119 128 rfl)).trans (hO0)
  have ho63 := hO0
  refine q_putF (ci := 13) (j := 12) (v := .ref q57) (ty := .array .int) C0 V i_WR o_WR n_WR rfl rfl rfl rfl rfl hO0 (by decide) w_1936 rfl rfl rfl (Nat.le_of_ble_eq_true rfl) d_19_1_81 (fun H locs w61 hu62 hO0 V => ?_)
  replace hO0 : w61[119]? = (some (qO0, .inr (13, [.int 0, .int 0, .ref q1, .int 0, .ref q8, .ref q15, .ref q22, .int 0, .ref q29, .ref q36, .ref q43, .ref q50, .ref q57, .null, .null, .null, .int 0, .int 0, .null, .null, .int 0])) : Option (Nat × va_E)) := hO0
  replace hN : w61.length = 129 := (q_len1 hu62 hO0 ho63).trans hN
  replace hF := q_us hF hu62 (.head _)
  refine lv_aload_n hx hb d_19_1_84 rfl (lv_at hl 0 rfl) ?_
  refine lv_sipush (v := 264) hx hb d_19_1_85 (by decide) ?_
  refine q_newI (N' := 264) C0 V hN w_107 (by decide) (by decide) (by decide) (Nat.le_of_ble_eq_true rfl) (Nat.le_of_ble_eq_true rfl) d_19_1_88 (fun q64 H w65 hu66 hn67 hN V => ?_)
  have hn9 : w65[129]? = (some (q64, .inl (g 0, 264, .inl (fun _ => 0))) : Option (Nat × va_E)) := hn67
  replace hF := q_us hF hu66 (List.mem_of_getElem? (i := 10) rfl)
  replace hN : w65.length = 130 := hN
  replace hO0 := (hu66 _ (q_pd 119 129 rfl)).trans (hO0)
  have ho70 := hO0
  refine q_putF (ci := 13) (j := 13) (v := .ref q64) (ty := .array .int) C0 V i_WR o_WR n_WR rfl rfl rfl rfl rfl hO0 (by decide) w_1937 rfl rfl rfl (Nat.le_of_ble_eq_true rfl) d_19_1_90 (fun H locs w68 hu69 hO0 V => ?_)
  replace hO0 : w68[119]? = (some (qO0, .inr (13, [.int 0, .int 0, .ref q1, .int 0, .ref q8, .ref q15, .ref q22, .int 0, .ref q29, .ref q36, .ref q43, .ref q50, .ref q57, .ref q64, .null, .null, .int 0, .int 0, .null, .null, .int 0])) : Option (Nat × va_E)) := hO0
  replace hN : w68.length = 130 := (q_len1 hu69 hO0 ho70).trans hN
  replace hF := q_us hF hu69 (.head _)
  refine lv_aload_n hx hb d_19_1_93 rfl (lv_at hl 0 rfl) ?_
  refine lv_sipush (v := 264) hx hb d_19_1_94 (by decide) ?_
  refine q_newI (N' := 264) C0 V hN w_107 (by decide) (by decide) (by decide) (Nat.le_of_ble_eq_true rfl) (Nat.le_of_ble_eq_true rfl) d_19_1_97 (fun q71 H w72 hu73 hn74 hN V => ?_)
  have hn10 : w72[130]? = (some (q71, .inl (g 0, 264, .inl (fun _ => 0))) : Option (Nat × va_E)) := hn74
  replace hF := q_us hF hu73 (List.mem_of_getElem? (i := 11) rfl)
  replace hN : w72.length = 131 := hN
  replace hO0 := (hu73 _ (q_pd 119 130 rfl)).trans (hO0)
  have ho77 := hO0
  refine q_putF (ci := 13) (j := 14) (v := .ref q71) (ty := .array .int) C0 V i_WR o_WR n_WR rfl rfl rfl rfl rfl hO0 (by decide) w_1938 rfl rfl rfl (Nat.le_of_ble_eq_true rfl) d_19_1_99 (fun H locs w75 hu76 hO0 V => ?_)
  replace hO0 : w75[119]? = (some (qO0, .inr (13, [.int 0, .int 0, .ref q1, .int 0, .ref q8, .ref q15, .ref q22, .int 0, .ref q29, .ref q36, .ref q43, .ref q50, .ref q57, .ref q64, .ref q71, .null, .int 0, .int 0, .null, .null, .int 0])) : Option (Nat × va_E)) := hO0
  replace hN : w75.length = 131 := (q_len1 hu76 hO0 ho77).trans hN
  replace hF := q_us hF hu76 (.head _)
  refine lv_aload_n hx hb d_19_1_102 rfl (lv_at hl 0 rfl) ?_
  refine lv_sipush (v := 264) hx hb d_19_1_103 (by decide) ?_
  refine q_newI (N' := 264) C0 V hN w_107 (by decide) (by decide) (by decide) (Nat.le_of_ble_eq_true rfl) (Nat.le_of_ble_eq_true rfl) d_19_1_106 (fun q78 H w79 hu80 hn81 hN V => ?_)
  have hn11 : w79[131]? = (some (q78, .inl (g 0, 264, .inl (fun _ => 0))) : Option (Nat × va_E)) := hn81
  replace hF := q_us hF hu80 (List.mem_of_getElem? (i := 12) rfl)
  replace hN : w79.length = 132 := hN
  replace hO0 := (hu80 _ (q_pd 119 131 rfl)).trans (hO0)
  have ho84 := hO0
  refine q_putF (ci := 13) (j := 15) (v := .ref q78) (ty := .array .int) C0 V i_WR o_WR n_WR rfl rfl rfl rfl rfl hO0 (by decide) w_1939 rfl rfl rfl (Nat.le_of_ble_eq_true rfl) d_19_1_108 (fun H locs w82 hu83 hO0 V => ?_)
  replace hO0 : w82[119]? = (some (qO0, .inr (13, [.int 0, .int 0, .ref q1, .int 0, .ref q8, .ref q15, .ref q22, .int 0, .ref q29, .ref q36, .ref q43, .ref q50, .ref q57, .ref q64, .ref q71, .ref q78, .int 0, .int 0, .null, .null, .int 0])) : Option (Nat × va_E)) := hO0
  replace hN : w82.length = 132 := (q_len1 hu83 hO0 ho84).trans hN
  replace hF := q_us hF hu83 (.head _)
  refine lv_aload_n hx hb d_19_1_111 rfl (lv_at hl 0 rfl) ?_
  refine lv_sipush (v := 264) hx hb d_19_1_112 (by decide) ?_
  refine q_newI (N' := 264) C0 V hN w_107 (by decide) (by decide) (by decide) (Nat.le_of_ble_eq_true rfl) (Nat.le_of_ble_eq_true rfl) d_19_1_115 (fun q85 H w86 hu87 hn88 hN V => ?_)
  have hn12 : w86[132]? = (some (q85, .inl (g 0, 264, .inl (fun _ => 0))) : Option (Nat × va_E)) := hn88
  replace hF := q_us hF hu87 (List.mem_of_getElem? (i := 13) rfl)
  replace hN : w86.length = 133 := hN
  replace hO0 := (hu87 _ (q_pd 119 132 rfl)).trans (hO0)
  have ho91 := hO0
  refine q_putF (ci := 13) (j := 18) (v := .ref q85) (ty := .array .int) C0 V i_WR o_WR n_WR rfl rfl rfl rfl rfl hO0 (by decide) w_1942 rfl rfl rfl (Nat.le_of_ble_eq_true rfl) d_19_1_117 (fun H locs w89 hu90 hO0 V => ?_)
  replace hO0 : w89[119]? = (some (qO0, .inr (13, [.int 0, .int 0, .ref q1, .int 0, .ref q8, .ref q15, .ref q22, .int 0, .ref q29, .ref q36, .ref q43, .ref q50, .ref q57, .ref q64, .ref q71, .ref q78, .int 0, .int 0, .ref q85, .null, .int 0])) : Option (Nat × va_E)) := hO0
  replace hN : w89.length = 133 := (q_len1 hu90 hO0 ho91).trans hN
  replace hF := q_us hF hu90 (.head _)
  refine lv_aload_n hx hb d_19_1_120 rfl (lv_at hl 0 rfl) ?_
  refine lv_sipush (v := 2100) hx hb d_19_1_121 (by decide) ?_
  refine q_newI (N' := 2100) C0 V hN w_107 (by decide) (by decide) (by decide) (Nat.le_of_ble_eq_true rfl) (Nat.le_of_ble_eq_true rfl) d_19_1_124 (fun q92 H w93 hu94 hn95 hN V => ?_)
  have hn13 : w93[133]? = (some (q92, .inl (g 0, 2100, .inl (fun _ => 0))) : Option (Nat × va_E)) := hn95
  replace hF := q_us hF hu94 (List.mem_of_getElem? (i := 14) rfl)
  replace hN : w93.length = 134 := hN
  replace hO0 := (hu94 _ (q_pd 119 133 rfl)).trans (hO0)
  have ho98 := hO0
  refine q_putF (ci := 13) (j := 19) (v := .ref q92) (ty := .array .int) C0 V i_WR o_WR n_WR rfl rfl rfl rfl rfl hO0 (by decide) w_1943 rfl rfl rfl (Nat.le_of_ble_eq_true rfl) d_19_1_126 (fun H locs w96 hu97 hO0 V => ?_)
  replace hO0 : w96[119]? = (some (qO0, .inr (13, [.int 0, .int 0, .ref q1, .int 0, .ref q8, .ref q15, .ref q22, .int 0, .ref q29, .ref q36, .ref q43, .ref q50, .ref q57, .ref q64, .ref q71, .ref q78, .int 0, .int 0, .ref q85, .ref q92, .int 0])) : Option (Nat × va_E)) := hO0
  replace hN : w96.length = 134 := (q_len1 hu97 hO0 ho98).trans hN
  replace hF := q_us hF hu97 (.head _)
  have RR : q_un w96 w96 [] := q_u0
  replace RR := q_ub hu97 RR
  replace hn13 := (RR 133 (by decide +kernel)).trans hn13
  replace RR := q_ub hu94 RR
  replace RR := q_ub hu90 RR
  replace hn12 := (RR 132 (by decide +kernel)).trans hn12
  replace RR := q_ub hu87 RR
  replace RR := q_ub hu83 RR
  replace hn11 := (RR 131 (by decide +kernel)).trans hn11
  replace RR := q_ub hu80 RR
  replace RR := q_ub hu76 RR
  replace hn10 := (RR 130 (by decide +kernel)).trans hn10
  replace RR := q_ub hu73 RR
  replace RR := q_ub hu69 RR
  replace hn9 := (RR 129 (by decide +kernel)).trans hn9
  replace RR := q_ub hu66 RR
  replace RR := q_ub hu62 RR
  replace hn8 := (RR 128 (by decide +kernel)).trans hn8
  replace RR := q_ub hu59 RR
  replace RR := q_ub hu55 RR
  replace hn7 := (RR 127 (by decide +kernel)).trans hn7
  replace RR := q_ub hu52 RR
  replace RR := q_ub hu48 RR
  replace hn6 := (RR 126 (by decide +kernel)).trans hn6
  replace RR := q_ub hu45 RR
  replace RR := q_ub hu41 RR
  replace hn5 := (RR 125 (by decide +kernel)).trans hn5
  replace RR := q_ub hu38 RR
  replace RR := q_ub hu34 RR
  replace hn4 := (RR 124 (by decide +kernel)).trans hn4
  replace RR := q_ub hu31 RR
  replace RR := q_ub hu27 RR
  replace hn3 := (RR 123 (by decide +kernel)).trans hn3
  replace RR := q_ub hu24 RR
  replace RR := q_ub hu20 RR
  replace hn2 := (RR 122 (by decide +kernel)).trans hn2
  replace RR := q_ub hu17 RR
  replace RR := q_ub hu13 RR
  replace hn1 := (RR 121 (by decide +kernel)).trans hn1
  replace RR := q_ub hu10 RR
  replace RR := q_ub hu6 RR
  replace hn0 := (RR 120 (by decide +kernel)).trans hn0
  exact q_retv C0 V (⟨q1, q8, q15, q22, q29, q36, q43, q50, q57, q64, q71, q78, q85, q92, hF, hO0, hn0, hn1, hn2, hn3, hn4, hn5, hn6, hn7, hn8, hn9, hn10, hn11, hn12, hn13, hN⟩) d_19_1_129
theorem d_15_1_0 : decode prog_15_method_1_code 0 = .ok (.aload_n 0, 1) := by decide +kernel
theorem d_15_1_1 : decode prog_15_method_1_code 1 = .ok (.invokespecial 1, 3) := by decide +kernel
set_option maxRecDepth 100000 in
theorem w_1995 : (Cond.methodLink "NumberHouseModel$DecimalRows" (1 : Nat) ({ cls := "java/lang/Object", name := "<init>", desc := "()V" } : MethodName)) ∈ q_tbl := q_of9 75 rfl (by decide +kernel)
theorem d_15_1_4 : decode prog_15_method_1_code 4 = .ok (.aload_n 0, 1) := by decide +kernel
theorem d_15_1_5 : decode prog_15_method_1_code 5 = .ok (.sipush 4100, 3) := by decide +kernel
theorem d_15_1_8 : decode prog_15_method_1_code 8 = .ok (.newarray .int, 2) := by decide +kernel
theorem d_15_1_10 : decode prog_15_method_1_code 10 = .ok (.putfield 7, 3) := by decide +kernel
set_option maxRecDepth 100000 in
theorem w_1998 : (Cond.fieldLink "NumberHouseModel$DecimalRows" (7 : Nat) "NumberHouseModel$DecimalRows" "draft" "[I") ∈ q_tbl := q_of9 78 rfl (by decide +kernel)
theorem d_15_1_13 : decode prog_15_method_1_code 13 = .ok (.aload_n 0, 1) := by decide +kernel
theorem d_15_1_14 : decode prog_15_method_1_code 14 = .ok (.sipush 10000, 3) := by decide +kernel
theorem d_15_1_17 : decode prog_15_method_1_code 17 = .ok (.newarray .int, 2) := by decide +kernel
theorem d_15_1_19 : decode prog_15_method_1_code 19 = .ok (.putfield 13, 3) := by decide +kernel
set_option maxRecDepth 100000 in
theorem w_2002 : (Cond.fieldLink "NumberHouseModel$DecimalRows" (13 : Nat) "NumberHouseModel$DecimalRows" "kept" "[I") ∈ q_tbl := q_of9 82 rfl (by decide +kernel)
theorem d_15_1_22 : decode prog_15_method_1_code 22 = .ok (.aload_n 0, 1) := by decide +kernel
theorem d_15_1_23 : decode prog_15_method_1_code 23 = .ok (.bipush 10, 2) := by decide +kernel
theorem d_15_1_25 : decode prog_15_method_1_code 25 = .ok (.newarray .int, 2) := by decide +kernel
theorem d_15_1_27 : decode prog_15_method_1_code 27 = .ok (.putfield 16, 3) := by decide +kernel
set_option maxRecDepth 100000 in
theorem w_2004 : (Cond.fieldLink "NumberHouseModel$DecimalRows" (16 : Nat) "NumberHouseModel$DecimalRows" "many" "[I") ∈ q_tbl := q_of9 84 rfl (by decide +kernel)
theorem d_15_1_30 : decode prog_15_method_1_code 30 = .ok (.aload_n 0, 1) := by decide +kernel
theorem d_15_1_31 : decode prog_15_method_1_code 31 = .ok (.bipush 10, 2) := by decide +kernel
theorem d_15_1_33 : decode prog_15_method_1_code 33 = .ok (.newarray .boolean, 2) := by decide +kernel
theorem d_15_1_35 : decode prog_15_method_1_code 35 = .ok (.putfield 19, 3) := by decide +kernel
set_option maxRecDepth 100000 in
theorem w_2006 : (Cond.fieldLink "NumberHouseModel$DecimalRows" (19 : Nat) "NumberHouseModel$DecimalRows" "minus" "[Z") ∈ q_tbl := q_of9 86 rfl (by decide +kernel)
theorem d_15_1_38 : decode prog_15_method_1_code 38 = .ok (.aload_n 0, 1) := by decide +kernel
theorem d_15_1_39 : decode prog_15_method_1_code 39 = .ok (.bipush 10, 2) := by decide +kernel
theorem d_15_1_41 : decode prog_15_method_1_code 41 = .ok (.newarray .int, 2) := by decide +kernel
theorem d_15_1_43 : decode prog_15_method_1_code 43 = .ok (.putfield 23, 3) := by decide +kernel
set_option maxRecDepth 100000 in
theorem w_2008 : (Cond.fieldLink "NumberHouseModel$DecimalRows" (23 : Nat) "NumberHouseModel$DecimalRows" "scales" "[I") ∈ q_tbl := q_of9 88 rfl (by decide +kernel)
theorem d_15_1_46 : decode prog_15_method_1_code 46 = .ok (.aload_n 0, 1) := by decide +kernel
theorem d_15_1_47 : decode prog_15_method_1_code 47 = .ok (.sipush 4400, 3) := by decide +kernel
theorem d_15_1_50 : decode prog_15_method_1_code 50 = .ok (.newarray .int, 2) := by decide +kernel
theorem d_15_1_52 : decode prog_15_method_1_code 52 = .ok (.putfield 26, 3) := by decide +kernel
set_option maxRecDepth 100000 in
theorem w_2010 : (Cond.fieldLink "NumberHouseModel$DecimalRows" (26 : Nat) "NumberHouseModel$DecimalRows" "row" "[I") ∈ q_tbl := q_of9 90 rfl (by decide +kernel)
theorem d_15_1_55 : decode prog_15_method_1_code 55 = .ok (.aload_n 0, 1) := by decide +kernel
theorem d_15_1_56 : decode prog_15_method_1_code 56 = .ok (.sipush 4400, 3) := by decide +kernel
theorem d_15_1_59 : decode prog_15_method_1_code 59 = .ok (.newarray .int, 2) := by decide +kernel
theorem d_15_1_61 : decode prog_15_method_1_code 61 = .ok (.putfield 29, 3) := by decide +kernel
set_option maxRecDepth 100000 in
theorem w_2015 : (Cond.fieldLink "NumberHouseModel$DecimalRows" (29 : Nat) "NumberHouseModel$DecimalRows" "top" "[I") ∈ q_tbl := q_of9 95 rfl (by decide +kernel)
theorem d_15_1_64 : decode prog_15_method_1_code 64 = .ok (.aload_n 0, 1) := by decide +kernel
theorem d_15_1_65 : decode prog_15_method_1_code 65 = .ok (.sipush 2200, 3) := by decide +kernel
theorem d_15_1_68 : decode prog_15_method_1_code 68 = .ok (.newarray .int, 2) := by decide +kernel
theorem d_15_1_70 : decode prog_15_method_1_code 70 = .ok (.putfield 32, 3) := by decide +kernel
set_option maxRecDepth 100000 in
theorem w_2017 : (Cond.fieldLink "NumberHouseModel$DecimalRows" (32 : Nat) "NumberHouseModel$DecimalRows" "under" "[I") ∈ q_tbl := q_of9 97 rfl (by decide +kernel)
theorem d_15_1_73 : decode prog_15_method_1_code 73 = .ok (.aload_n 0, 1) := by decide +kernel
theorem d_15_1_74 : decode prog_15_method_1_code 74 = .ok (.sipush 2202, 3) := by decide +kernel
theorem d_15_1_77 : decode prog_15_method_1_code 77 = .ok (.newarray .int, 2) := by decide +kernel
theorem d_15_1_79 : decode prog_15_method_1_code 79 = .ok (.putfield 35, 3) := by decide +kernel
set_option maxRecDepth 100000 in
theorem w_2019 : (Cond.fieldLink "NumberHouseModel$DecimalRows" (35 : Nat) "NumberHouseModel$DecimalRows" "left" "[I") ∈ q_tbl := q_of9 99 rfl (by decide +kernel)
theorem d_15_1_82 : decode prog_15_method_1_code 82 = .ok (.aload_n 0, 1) := by decide +kernel
theorem d_15_1_83 : decode prog_15_method_1_code 83 = .ok (.sipush 12200, 3) := by decide +kernel
theorem d_15_1_86 : decode prog_15_method_1_code 86 = .ok (.newarray .int, 2) := by decide +kernel
theorem d_15_1_88 : decode prog_15_method_1_code 88 = .ok (.putfield 38, 3) := by decide +kernel
set_option maxRecDepth 100000 in
theorem w_2021 : (Cond.fieldLink "NumberHouseModel$DecimalRows" (38 : Nat) "NumberHouseModel$DecimalRows" "paper" "[I") ∈ q_tbl := q_of9 101 rfl (by decide +kernel)
theorem d_15_1_91 : decode prog_15_method_1_code 91 = .ok (.iconst 0, 1) := by decide +kernel
theorem d_15_1_92 : decode prog_15_method_1_code 92 = .ok (.istore_n 1, 1) := by decide +kernel
theorem d_15_1_93 : decode prog_15_method_1_code 93 = .ok (.iload_n 1, 1) := by decide +kernel
theorem d_15_1_94 : decode prog_15_method_1_code 94 = .ok (.bipush 10, 2) := by decide +kernel
theorem d_15_1_96 : decode prog_15_method_1_code 96 = .ok (.if_icmp .ge 16, 3) := by decide +kernel
theorem d_15_1_99 : decode prog_15_method_1_code 99 = .ok (.aload_n 0, 1) := by decide +kernel
theorem d_15_1_100 : decode prog_15_method_1_code 100 = .ok (.getfield 16, 3) := by decide +kernel
theorem d_15_1_103 : decode prog_15_method_1_code 103 = .ok (.iload_n 1, 1) := by decide +kernel
theorem d_15_1_104 : decode prog_15_method_1_code 104 = .ok (.iconst 1, 1) := by decide +kernel
theorem d_15_1_105 : decode prog_15_method_1_code 105 = .ok (.iastore, 1) := by decide +kernel
theorem d_15_1_106 : decode prog_15_method_1_code 106 = .ok (.iinc 1 1, 3) := by decide +kernel
theorem d_15_1_109 : decode prog_15_method_1_code 109 = .ok (.goto (-16), 3) := by decide +kernel
theorem d_15_1_112 : decode prog_15_method_1_code 112 = .ok (.return_, 1) := by decide +kernel
def y_DR_init : MethodName := ⟨"NumberHouseModel$DecimalRows", "<init>", "()V"⟩
set_option maxRecDepth 100000 in
set_option maxHeartbeats 4000000 in
theorem c_DR_init (l : Launch) (D : va_G) (g : Nat → ClassId) (ws : va_W) ( qO0 : Nat) (hN : ws.length = 135) (hO0 : ws[134]? = (some (qO0, .inr (14, [.int 0, .null, .int 0, .null, .null, .null, .null, .null, .int 0, .long 0, .int 0, .int 0, .null, .int 0, .null, .int 0, .null, .int 0, .null, .int 0, .int 0])) : Option (Nat × va_E))) : q_mV l y_DR_init prog_15_method_1_code 2 2 10 39532 D g [.ref qO0] ws (fun u => ∃ (q1 : Nat) (q8 : Nat) (q15 : Nat) (q22 : Nat) (q29 : Nat) (q36 : Nat) (q43 : Nat) (q50 : Nat) (q57 : Nat) (q64 : Nat), q_un ws u [134, 135, 136, 137, 138, 139, 140, 141, 142, 143, 144] ∧ u[134]? = (some (qO0, .inr (14, [.int 0, .ref q1, .int 0, .ref q8, .ref q15, .ref q22, .ref q29, .ref q36, .int 0, .long 0, .int 0, .int 0, .ref q43, .int 0, .ref q50, .int 0, .ref q57, .int 0, .ref q64, .int 0, .int 0])) : Option (Nat × va_E)) ∧ u[135]? = (some (q1, .inl (g 0, 4100, .inl (fun _ => 0))) : Option (Nat × va_E)) ∧ u[136]? = (some (q8, .inl (g 0, 10000, .inl (fun _ => 0))) : Option (Nat × va_E)) ∧ u[137]? = (some (q15, .inl (g 0, 10, .inl (upd (upd (upd (upd (upd (upd (upd (upd (upd (upd (fun _ => 0) 0 1) 1 1) 2 1) 3 1) 4 1) 5 1) 6 1) 7 1) 8 1) 9 1))) : Option (Nat × va_E)) ∧ u[138]? = (some (q22, .inl (g 3, 10, .inl (fun _ => 0))) : Option (Nat × va_E)) ∧ u[139]? = (some (q29, .inl (g 0, 10, .inl (fun _ => 0))) : Option (Nat × va_E)) ∧ u[140]? = (some (q36, .inl (g 0, 4400, .inl (fun _ => 0))) : Option (Nat × va_E)) ∧ u[141]? = (some (q43, .inl (g 0, 4400, .inl (fun _ => 0))) : Option (Nat × va_E)) ∧ u[142]? = (some (q50, .inl (g 0, 2200, .inl (fun _ => 0))) : Option (Nat × va_E)) ∧ u[143]? = (some (q57, .inl (g 0, 2202, .inl (fun _ => 0))) : Option (Nat × va_E)) ∧ u[144]? = (some (q64, .inl (g 0, 12200, .inl (fun _ => 0))) : Option (Nat × va_E)) ∧ u.length = 145) := by
  intro sz
  refine q_into (by decide) (Nat.le_of_ble_eq_true rfl) ?_
  intro p e s m below meth c ls hsz C0 V hl
  have hx := C0.1
  have hb := C0.2.1
  have hl : lv_has ls 2 [(0, .ref qO0)] := hl
  have hF : q_un ws ws [134, 135, 136, 137, 138, 139, 140, 141, 142, 143, 144] := q_u0
  refine lv_aload_n hx hb d_15_1_0 rfl (lv_at hl 0 rfl) ?_
  refine q_obj C0 hl.1 rfl w_1995 w_44 w_45 ⟨by decide, by decide⟩ d_15_1_1 ?_
  refine lv_aload_n hx hb d_15_1_4 rfl (lv_at hl 0 rfl) ?_
  refine lv_sipush (v := 4100) hx hb d_15_1_5 (by decide) ?_
  refine q_newI (N' := 4100) C0 V hN w_107 (by decide) (by decide) (by decide) (Nat.le_of_ble_eq_true rfl) (Nat.le_of_ble_eq_true rfl) d_15_1_8 (fun q1 H w2 hu3 hn4 hN V => ?_)
  have hn0 : w2[135]? = (some (q1, .inl (g 0, 4100, .inl (fun _ => 0))) : Option (Nat × va_E)) := hn4
  replace hF := q_us hF hu3 (.tail _ (.head _))
  replace hN : w2.length = 136 := hN
  replace hO0 := (hu3 _ (q_pd 134 135 rfl)).trans (hO0)
  have ho7 := hO0
  refine q_putF (ci := 14) (j := 1) (v := .ref q1) (ty := .array .int) C0 V i_DR o_DR n_DR rfl rfl rfl rfl rfl hO0 (by decide) w_1998 rfl rfl rfl (Nat.le_of_ble_eq_true rfl) d_15_1_10 (fun H locs w5 hu6 hO0 V => ?_)
  replace hO0 : w5[134]? = (some (qO0, .inr (14, [.int 0, .ref q1, .int 0, .null, .null, .null, .null, .null, .int 0, .long 0, .int 0, .int 0, .null, .int 0, .null, .int 0, .null, .int 0, .null, .int 0, .int 0])) : Option (Nat × va_E)) := hO0
  replace hN : w5.length = 136 := (q_len1 hu6 hO0 ho7).trans hN
  replace hF := q_us hF hu6 (.head _)
  refine lv_aload_n hx hb d_15_1_13 rfl (lv_at hl 0 rfl) ?_
  refine lv_sipush (v := 10000) hx hb d_15_1_14 (by decide) ?_
  refine q_newI (N' := 10000) C0 V hN w_107 (by decide) (by decide) (by decide) (Nat.le_of_ble_eq_true rfl) (Nat.le_of_ble_eq_true rfl) d_15_1_17 (fun q8 H w9 hu10 hn11 hN V => ?_)
  have hn1 : w9[136]? = (some (q8, .inl (g 0, 10000, .inl (fun _ => 0))) : Option (Nat × va_E)) := hn11
  replace hF := q_us hF hu10 (.tail _ (.tail _ (.head _)))
  replace hN : w9.length = 137 := hN
  replace hO0 := (hu10 _ (q_pd 134 136 rfl)).trans (hO0)
  have ho14 := hO0
  refine q_putF (ci := 14) (j := 3) (v := .ref q8) (ty := .array .int) C0 V i_DR o_DR n_DR rfl rfl rfl rfl rfl hO0 (by decide) w_2002 rfl rfl rfl (Nat.le_of_ble_eq_true rfl) d_15_1_19 (fun H locs w12 hu13 hO0 V => ?_)
  replace hO0 : w12[134]? = (some (qO0, .inr (14, [.int 0, .ref q1, .int 0, .ref q8, .null, .null, .null, .null, .int 0, .long 0, .int 0, .int 0, .null, .int 0, .null, .int 0, .null, .int 0, .null, .int 0, .int 0])) : Option (Nat × va_E)) := hO0
  replace hN : w12.length = 137 := (q_len1 hu13 hO0 ho14).trans hN
  replace hF := q_us hF hu13 (.head _)
  refine lv_aload_n hx hb d_15_1_22 rfl (lv_at hl 0 rfl) ?_
  refine lv_bipush (v := 10) hx hb d_15_1_23 (by decide) ?_
  refine q_newI (N' := 10) C0 V hN w_107 (by decide) (by decide) (by decide) (Nat.le_of_ble_eq_true rfl) (Nat.le_of_ble_eq_true rfl) d_15_1_25 (fun q15 H w16 hu17 hn18 hN V => ?_)
  have hn2 : w16[137]? = (some (q15, .inl (g 0, 10, .inl (fun _ => 0))) : Option (Nat × va_E)) := hn18
  replace hF := q_us hF hu17 (List.mem_of_getElem? (i := 3) rfl)
  replace hN : w16.length = 138 := hN
  replace hO0 := (hu17 _ (q_pd 134 137 rfl)).trans (hO0)
  have ho21 := hO0
  refine q_putF (ci := 14) (j := 4) (v := .ref q15) (ty := .array .int) C0 V i_DR o_DR n_DR rfl rfl rfl rfl rfl hO0 (by decide) w_2004 rfl rfl rfl (Nat.le_of_ble_eq_true rfl) d_15_1_27 (fun H locs w19 hu20 hO0 V => ?_)
  replace hO0 : w19[134]? = (some (qO0, .inr (14, [.int 0, .ref q1, .int 0, .ref q8, .ref q15, .null, .null, .null, .int 0, .long 0, .int 0, .int 0, .null, .int 0, .null, .int 0, .null, .int 0, .null, .int 0, .int 0])) : Option (Nat × va_E)) := hO0
  replace hN : w19.length = 138 := (q_len1 hu20 hO0 ho21).trans hN
  replace hF := q_us hF hu20 (.head _)
  refine lv_aload_n hx hb d_15_1_30 rfl (lv_at hl 0 rfl) ?_
  refine lv_bipush (v := 10) hx hb d_15_1_31 (by decide) ?_
  refine q_newZ (N' := 10) C0 V hN w_1989 (by decide) (by decide) (by decide) (Nat.le_of_ble_eq_true rfl) (Nat.le_of_ble_eq_true rfl) d_15_1_33 (fun q22 H w23 hu24 hn25 hN V => ?_)
  have hn3 : w23[138]? = (some (q22, .inl (g 3, 10, .inl (fun _ => 0))) : Option (Nat × va_E)) := hn25
  replace hF := q_us hF hu24 (List.mem_of_getElem? (i := 4) rfl)
  replace hN : w23.length = 139 := hN
  replace hO0 := (hu24 _ (q_pd 134 138 rfl)).trans (hO0)
  have ho28 := hO0
  refine q_putF (ci := 14) (j := 5) (v := .ref q22) (ty := .array .boolean) C0 V i_DR o_DR n_DR rfl rfl rfl rfl rfl hO0 (by decide) w_2006 rfl rfl rfl (Nat.le_of_ble_eq_true rfl) d_15_1_35 (fun H locs w26 hu27 hO0 V => ?_)
  replace hO0 : w26[134]? = (some (qO0, .inr (14, [.int 0, .ref q1, .int 0, .ref q8, .ref q15, .ref q22, .null, .null, .int 0, .long 0, .int 0, .int 0, .null, .int 0, .null, .int 0, .null, .int 0, .null, .int 0, .int 0])) : Option (Nat × va_E)) := hO0
  replace hN : w26.length = 139 := (q_len1 hu27 hO0 ho28).trans hN
  replace hF := q_us hF hu27 (.head _)
  refine lv_aload_n hx hb d_15_1_38 rfl (lv_at hl 0 rfl) ?_
  refine lv_bipush (v := 10) hx hb d_15_1_39 (by decide) ?_
  refine q_newI (N' := 10) C0 V hN w_107 (by decide) (by decide) (by decide) (Nat.le_of_ble_eq_true rfl) (Nat.le_of_ble_eq_true rfl) d_15_1_41 (fun q29 H w30 hu31 hn32 hN V => ?_)
  have hn4 : w30[139]? = (some (q29, .inl (g 0, 10, .inl (fun _ => 0))) : Option (Nat × va_E)) := hn32
  replace hF := q_us hF hu31 (List.mem_of_getElem? (i := 5) rfl)
  replace hN : w30.length = 140 := hN
  replace hO0 := (hu31 _ (q_pd 134 139 rfl)).trans (hO0)
  have ho35 := hO0
  refine q_putF (ci := 14) (j := 6) (v := .ref q29) (ty := .array .int) C0 V i_DR o_DR n_DR rfl rfl rfl rfl rfl hO0 (by decide) w_2008 rfl rfl rfl (Nat.le_of_ble_eq_true rfl) d_15_1_43 (fun H locs w33 hu34 hO0 V => ?_)
  replace hO0 : w33[134]? = (some (qO0, .inr (14, [.int 0, .ref q1, .int 0, .ref q8, .ref q15, .ref q22, .ref q29, .null, .int 0, .long 0, .int 0, .int 0, .null, .int 0, .null, .int 0, .null, .int 0, .null, .int 0, .int 0])) : Option (Nat × va_E)) := hO0
  replace hN : w33.length = 140 := (q_len1 hu34 hO0 ho35).trans hN
  replace hF := q_us hF hu34 (.head _)
  refine lv_aload_n hx hb d_15_1_46 rfl (lv_at hl 0 rfl) ?_
  refine lv_sipush (v := 4400) hx hb d_15_1_47 (by decide) ?_
  refine q_newI (N' := 4400) C0 V hN w_107 (by decide) (by decide) (by decide) (Nat.le_of_ble_eq_true rfl) (Nat.le_of_ble_eq_true rfl) d_15_1_50 (fun q36 H w37 hu38 hn39 hN V => ?_)
  have hn5 : w37[140]? = (some (q36, .inl (g 0, 4400, .inl (fun _ => 0))) : Option (Nat × va_E)) := hn39
  replace hF := q_us hF hu38 (List.mem_of_getElem? (i := 6) rfl)
  replace hN : w37.length = 141 := hN
  replace hO0 := (hu38 _ (q_pd 134 140 rfl)).trans (hO0)
  have ho42 := hO0
  refine q_putF (ci := 14) (j := 7) (v := .ref q36) (ty := .array .int) C0 V i_DR o_DR n_DR rfl rfl rfl rfl rfl hO0 (by decide) w_2010 rfl rfl rfl (Nat.le_of_ble_eq_true rfl) d_15_1_52 (fun H locs w40 hu41 hO0 V => ?_)
  replace hO0 : w40[134]? = (some (qO0, .inr (14, [.int 0, .ref q1, .int 0, .ref q8, .ref q15, .ref q22, .ref q29, .ref q36, .int 0, .long 0, .int 0, .int 0, .null, .int 0, .null, .int 0, .null, .int 0, .null, .int 0, .int 0])) : Option (Nat × va_E)) := hO0
  replace hN : w40.length = 141 := (q_len1 hu41 hO0 ho42).trans hN
  replace hF := q_us hF hu41 (.head _)
  refine lv_aload_n hx hb d_15_1_55 rfl (lv_at hl 0 rfl) ?_
  refine lv_sipush (v := 4400) hx hb d_15_1_56 (by decide) ?_
  refine q_newI (N' := 4400) C0 V hN w_107 (by decide) (by decide) (by decide) (Nat.le_of_ble_eq_true rfl) (Nat.le_of_ble_eq_true rfl) d_15_1_59 (fun q43 H w44 hu45 hn46 hN V => ?_)
  have hn6 : w44[141]? = (some (q43, .inl (g 0, 4400, .inl (fun _ => 0))) : Option (Nat × va_E)) := hn46
  replace hF := q_us hF hu45 (List.mem_of_getElem? (i := 7) rfl)
  replace hN : w44.length = 142 := hN
  replace hO0 := (hu45 _ (q_pd 134 141 rfl)).trans (hO0)
  have ho49 := hO0
  refine q_putF (ci := 14) (j := 12) (v := .ref q43) (ty := .array .int) C0 V i_DR o_DR n_DR rfl rfl rfl rfl rfl hO0 (by decide) w_2015 rfl rfl rfl (Nat.le_of_ble_eq_true rfl) d_15_1_61 (fun H locs w47 hu48 hO0 V => ?_)
  replace hO0 : w47[134]? = (some (qO0, .inr (14, [.int 0, .ref q1, .int 0, .ref q8, .ref q15, .ref q22, .ref q29, .ref q36, .int 0, .long 0, .int 0, .int 0, .ref q43, .int 0, .null, .int 0, .null, .int 0, .null, .int 0, .int 0])) : Option (Nat × va_E)) := hO0
  replace hN : w47.length = 142 := (q_len1 hu48 hO0 ho49).trans hN
  replace hF := q_us hF hu48 (.head _)
  refine lv_aload_n hx hb d_15_1_64 rfl (lv_at hl 0 rfl) ?_
  refine lv_sipush (v := 2200) hx hb d_15_1_65 (by decide) ?_
  refine q_newI (N' := 2200) C0 V hN w_107 (by decide) (by decide) (by decide) (Nat.le_of_ble_eq_true rfl) (Nat.le_of_ble_eq_true rfl) d_15_1_68 (fun q50 H w51 hu52 hn53 hN V => ?_)
  have hn7 : w51[142]? = (some (q50, .inl (g 0, 2200, .inl (fun _ => 0))) : Option (Nat × va_E)) := hn53
  replace hF := q_us hF hu52 (List.mem_of_getElem? (i := 8) rfl)
  replace hN : w51.length = 143 := hN
  replace hO0 := (hu52 _ (q_pd 134 142 rfl)).trans (hO0)
  have ho56 := hO0
  refine q_putF (ci := 14) (j := 14) (v := .ref q50) (ty := .array .int) C0 V i_DR o_DR n_DR rfl rfl rfl rfl rfl hO0 (by decide) w_2017 rfl rfl rfl (Nat.le_of_ble_eq_true rfl) d_15_1_70 (fun H locs w54 hu55 hO0 V => ?_)
  replace hO0 : w54[134]? = (some (qO0, .inr (14, [.int 0, .ref q1, .int 0, .ref q8, .ref q15, .ref q22, .ref q29, .ref q36, .int 0, .long 0, .int 0, .int 0, .ref q43, .int 0, .ref q50, .int 0, .null, .int 0, .null, .int 0, .int 0])) : Option (Nat × va_E)) := hO0
  replace hN : w54.length = 143 := (q_len1 hu55 hO0 ho56).trans hN
  replace hF := q_us hF hu55 (.head _)
  refine lv_aload_n hx hb d_15_1_73 rfl (lv_at hl 0 rfl) ?_
  refine lv_sipush (v := 2202) hx hb d_15_1_74 (by decide) ?_
  refine q_newI (N' := 2202) C0 V hN w_107 (by decide) (by decide) (by decide) (Nat.le_of_ble_eq_true rfl) (Nat.le_of_ble_eq_true rfl) d_15_1_77 (fun q57 H w58 hu59 hn60 hN V => ?_)
  have hn8 : w58[143]? = (some (q57, .inl (g 0, 2202, .inl (fun _ => 0))) : Option (Nat × va_E)) := hn60
  replace hF := q_us hF hu59 (List.mem_of_getElem? (i := 9) rfl)
  replace hN : w58.length = 144 := hN
  replace hO0 := (hu59 _ (q_pd 134 143 rfl)).trans (hO0)
  have ho63 := hO0
  refine q_putF (ci := 14) (j := 16) (v := .ref q57) (ty := .array .int) C0 V i_DR o_DR n_DR rfl rfl rfl rfl rfl hO0 (by decide) w_2019 rfl rfl rfl (Nat.le_of_ble_eq_true rfl) d_15_1_79 (fun H locs w61 hu62 hO0 V => ?_)
  replace hO0 : w61[134]? = (some (qO0, .inr (14, [.int 0, .ref q1, .int 0, .ref q8, .ref q15, .ref q22, .ref q29, .ref q36, .int 0, .long 0, .int 0, .int 0, .ref q43, .int 0, .ref q50, .int 0, .ref q57, .int 0, .null, .int 0, .int 0])) : Option (Nat × va_E)) := hO0
  replace hN : w61.length = 144 := (q_len1 hu62 hO0 ho63).trans hN
  replace hF := q_us hF hu62 (.head _)
  refine lv_aload_n hx hb d_15_1_82 rfl (lv_at hl 0 rfl) ?_
  refine lv_sipush (v := 12200) hx hb d_15_1_83 (by decide) ?_
  refine q_newI (N' := 12200) C0 V hN w_107 (by decide) (by decide) (by decide) (Nat.le_of_ble_eq_true rfl) (Nat.le_of_ble_eq_true rfl) d_15_1_86 (fun q64 H w65 hu66 hn67 hN V => ?_)
  have hn9 : w65[144]? = (some (q64, .inl (g 0, 12200, .inl (fun _ => 0))) : Option (Nat × va_E)) := hn67
  replace hF := q_us hF hu66 (List.mem_of_getElem? (i := 10) rfl)
  replace hN : w65.length = 145 := hN
  replace hO0 := (hu66 _ (q_pd 134 144 rfl)).trans (hO0)
  have ho70 := hO0
  refine q_putF (ci := 14) (j := 18) (v := .ref q64) (ty := .array .int) C0 V i_DR o_DR n_DR rfl rfl rfl rfl rfl hO0 (by decide) w_2021 rfl rfl rfl (Nat.le_of_ble_eq_true rfl) d_15_1_88 (fun H locs w68 hu69 hO0 V => ?_)
  replace hO0 : w68[134]? = (some (qO0, .inr (14, [.int 0, .ref q1, .int 0, .ref q8, .ref q15, .ref q22, .ref q29, .ref q36, .int 0, .long 0, .int 0, .int 0, .ref q43, .int 0, .ref q50, .int 0, .ref q57, .int 0, .ref q64, .int 0, .int 0])) : Option (Nat × va_E)) := hO0
  replace hN : w68.length = 145 := (q_len1 hu69 hO0 ho70).trans hN
  replace hF := q_us hF hu69 (.head _)
  refine lv_iconst (v := 0) hx hb d_15_1_91 (by decide) ?_
  refine lv_istore_n (lv' := [(1, .int 0), (0, .ref qO0)]) hx hb d_15_1_92 rfl hl (by decide) rfl (fun ls hl => ?_)
  refine lv_iload_n hx hb d_15_1_93 rfl (lv_at hl 0 rfl) ?_
  refine lv_bipush (v := 10) hx hb d_15_1_94 (by decide) ?_
  refine lv_icmp_ge (tgt := 112) hx hb d_15_1_96 (by decide) (fun c71 => absurd c71 (by decide)) (fun c71 => ?_)
  refine lv_aload_n hx hb d_15_1_99 rfl (lv_at hl 1 rfl) ?_
  refine q_get (ci := 14) (j := 4) (v := .ref q15) C0 V i_DR rfl rfl hO0 (by decide) w_2004 rfl d_15_1_100 ?_
  refine lv_iload_n hx hb d_15_1_103 rfl (lv_at hl 0 rfl) ?_
  refine lv_iconst (v := 1) hx hb d_15_1_104 (by decide) ?_
  replace hn2 := (hu69 _ (q_pd 137 134 rfl)).trans ((hu66 _ (q_pd 137 144 rfl)).trans ((hu62 _ (q_pd 137 134 rfl)).trans ((hu59 _ (q_pd 137 143 rfl)).trans ((hu55 _ (q_pd 137 134 rfl)).trans ((hu52 _ (q_pd 137 142 rfl)).trans ((hu48 _ (q_pd 137 134 rfl)).trans ((hu45 _ (q_pd 137 141 rfl)).trans ((hu41 _ (q_pd 137 134 rfl)).trans ((hu38 _ (q_pd 137 140 rfl)).trans ((hu34 _ (q_pd 137 134 rfl)).trans ((hu31 _ (q_pd 137 139 rfl)).trans ((hu27 _ (q_pd 137 134 rfl)).trans ((hu24 _ (q_pd 137 138 rfl)).trans ((hu20 _ (q_pd 137 134 rfl)).trans (hn2)))))))))))))))
  have ho72 := hn2
  refine q_iast C0 V hn2 (by unfold vp_in; decide) d_15_1_105 (fun H locs w73 hu74 hn2 V => ?_)
  replace hn2 : w73[137]? = (some (q15, .inl (g 0, 10, .inl (upd (fun _ => 0) 0 1))) : Option (Nat × va_E)) := hn2
  replace hN : w73.length = 145 := (q_len1 hu74 hn2 ho72).trans hN
  replace hF := q_us hF hu74 (List.mem_of_getElem? (i := 3) rfl)
  refine lv_iinc (v := 1) (lv' := [(1, .int 1), (0, .ref qO0)]) hx hb d_15_1_106 hl (k := 0) rfl (by decide) (by decide) rfl (fun ls hl => ?_)
  refine lv_goto (tgt := 93) hx hb d_15_1_109 (by decide) ?_
  refine lv_iload_n hx hb d_15_1_93 rfl (lv_at hl 0 rfl) ?_
  refine lv_bipush (v := 10) hx hb d_15_1_94 (by decide) ?_
  refine lv_icmp_ge (tgt := 112) hx hb d_15_1_96 (by decide) (fun c75 => absurd c75 (by decide)) (fun c75 => ?_)
  refine lv_aload_n hx hb d_15_1_99 rfl (lv_at hl 1 rfl) ?_
  replace hO0 := (hu74 _ (q_pd 134 137 rfl)).trans (hO0)
  refine q_get (ci := 14) (j := 4) (v := .ref q15) C0 V i_DR rfl rfl hO0 (by decide) w_2004 rfl d_15_1_100 ?_
  refine lv_iload_n hx hb d_15_1_103 rfl (lv_at hl 0 rfl) ?_
  refine lv_iconst (v := 1) hx hb d_15_1_104 (by decide) ?_
  have ho76 := hn2
  refine q_iast C0 V hn2 (by unfold vp_in; decide) d_15_1_105 (fun H locs w77 hu78 hn2 V => ?_)
  replace hn2 : w77[137]? = (some (q15, .inl (g 0, 10, .inl (upd (upd (fun _ => 0) 0 1) 1 1))) : Option (Nat × va_E)) := hn2
  replace hN : w77.length = 145 := (q_len1 hu78 hn2 ho76).trans hN
  replace hF := q_us hF hu78 (List.mem_of_getElem? (i := 3) rfl)
  refine lv_iinc (v := 2) (lv' := [(1, .int 2), (0, .ref qO0)]) hx hb d_15_1_106 hl (k := 0) rfl (by decide) (by decide) rfl (fun ls hl => ?_)
  refine lv_goto (tgt := 93) hx hb d_15_1_109 (by decide) ?_
  refine lv_iload_n hx hb d_15_1_93 rfl (lv_at hl 0 rfl) ?_
  refine lv_bipush (v := 10) hx hb d_15_1_94 (by decide) ?_
  refine lv_icmp_ge (tgt := 112) hx hb d_15_1_96 (by decide) (fun c79 => absurd c79 (by decide)) (fun c79 => ?_)
  refine lv_aload_n hx hb d_15_1_99 rfl (lv_at hl 1 rfl) ?_
  replace hO0 := (hu78 _ (q_pd 134 137 rfl)).trans (hO0)
  refine q_get (ci := 14) (j := 4) (v := .ref q15) C0 V i_DR rfl rfl hO0 (by decide) w_2004 rfl d_15_1_100 ?_
  refine lv_iload_n hx hb d_15_1_103 rfl (lv_at hl 0 rfl) ?_
  refine lv_iconst (v := 1) hx hb d_15_1_104 (by decide) ?_
  have ho80 := hn2
  refine q_iast C0 V hn2 (by unfold vp_in; decide) d_15_1_105 (fun H locs w81 hu82 hn2 V => ?_)
  replace hn2 : w81[137]? = (some (q15, .inl (g 0, 10, .inl (upd (upd (upd (fun _ => 0) 0 1) 1 1) 2 1))) : Option (Nat × va_E)) := hn2
  replace hN : w81.length = 145 := (q_len1 hu82 hn2 ho80).trans hN
  replace hF := q_us hF hu82 (List.mem_of_getElem? (i := 3) rfl)
  refine lv_iinc (v := 3) (lv' := [(1, .int 3), (0, .ref qO0)]) hx hb d_15_1_106 hl (k := 0) rfl (by decide) (by decide) rfl (fun ls hl => ?_)
  refine lv_goto (tgt := 93) hx hb d_15_1_109 (by decide) ?_
  refine lv_iload_n hx hb d_15_1_93 rfl (lv_at hl 0 rfl) ?_
  refine lv_bipush (v := 10) hx hb d_15_1_94 (by decide) ?_
  refine lv_icmp_ge (tgt := 112) hx hb d_15_1_96 (by decide) (fun c83 => absurd c83 (by decide)) (fun c83 => ?_)
  refine lv_aload_n hx hb d_15_1_99 rfl (lv_at hl 1 rfl) ?_
  replace hO0 := (hu82 _ (q_pd 134 137 rfl)).trans (hO0)
  refine q_get (ci := 14) (j := 4) (v := .ref q15) C0 V i_DR rfl rfl hO0 (by decide) w_2004 rfl d_15_1_100 ?_
  refine lv_iload_n hx hb d_15_1_103 rfl (lv_at hl 0 rfl) ?_
  refine lv_iconst (v := 1) hx hb d_15_1_104 (by decide) ?_
  have ho84 := hn2
  refine q_iast C0 V hn2 (by unfold vp_in; decide) d_15_1_105 (fun H locs w85 hu86 hn2 V => ?_)
  replace hn2 : w85[137]? = (some (q15, .inl (g 0, 10, .inl (upd (upd (upd (upd (fun _ => 0) 0 1) 1 1) 2 1) 3 1))) : Option (Nat × va_E)) := hn2
  replace hN : w85.length = 145 := (q_len1 hu86 hn2 ho84).trans hN
  replace hF := q_us hF hu86 (List.mem_of_getElem? (i := 3) rfl)
  refine lv_iinc (v := 4) (lv' := [(1, .int 4), (0, .ref qO0)]) hx hb d_15_1_106 hl (k := 0) rfl (by decide) (by decide) rfl (fun ls hl => ?_)
  refine lv_goto (tgt := 93) hx hb d_15_1_109 (by decide) ?_
  refine lv_iload_n hx hb d_15_1_93 rfl (lv_at hl 0 rfl) ?_
  refine lv_bipush (v := 10) hx hb d_15_1_94 (by decide) ?_
  refine lv_icmp_ge (tgt := 112) hx hb d_15_1_96 (by decide) (fun c87 => absurd c87 (by decide)) (fun c87 => ?_)
  refine lv_aload_n hx hb d_15_1_99 rfl (lv_at hl 1 rfl) ?_
  replace hO0 := (hu86 _ (q_pd 134 137 rfl)).trans (hO0)
  refine q_get (ci := 14) (j := 4) (v := .ref q15) C0 V i_DR rfl rfl hO0 (by decide) w_2004 rfl d_15_1_100 ?_
  refine lv_iload_n hx hb d_15_1_103 rfl (lv_at hl 0 rfl) ?_
  refine lv_iconst (v := 1) hx hb d_15_1_104 (by decide) ?_
  have ho88 := hn2
  refine q_iast C0 V hn2 (by unfold vp_in; decide) d_15_1_105 (fun H locs w89 hu90 hn2 V => ?_)
  replace hn2 : w89[137]? = (some (q15, .inl (g 0, 10, .inl (upd (upd (upd (upd (upd (fun _ => 0) 0 1) 1 1) 2 1) 3 1) 4 1))) : Option (Nat × va_E)) := hn2
  replace hN : w89.length = 145 := (q_len1 hu90 hn2 ho88).trans hN
  replace hF := q_us hF hu90 (List.mem_of_getElem? (i := 3) rfl)
  refine lv_iinc (v := 5) (lv' := [(1, .int 5), (0, .ref qO0)]) hx hb d_15_1_106 hl (k := 0) rfl (by decide) (by decide) rfl (fun ls hl => ?_)
  refine lv_goto (tgt := 93) hx hb d_15_1_109 (by decide) ?_
  refine lv_iload_n hx hb d_15_1_93 rfl (lv_at hl 0 rfl) ?_
  refine lv_bipush (v := 10) hx hb d_15_1_94 (by decide) ?_
  refine lv_icmp_ge (tgt := 112) hx hb d_15_1_96 (by decide) (fun c91 => absurd c91 (by decide)) (fun c91 => ?_)
  refine lv_aload_n hx hb d_15_1_99 rfl (lv_at hl 1 rfl) ?_
  replace hO0 := (hu90 _ (q_pd 134 137 rfl)).trans (hO0)
  refine q_get (ci := 14) (j := 4) (v := .ref q15) C0 V i_DR rfl rfl hO0 (by decide) w_2004 rfl d_15_1_100 ?_
  refine lv_iload_n hx hb d_15_1_103 rfl (lv_at hl 0 rfl) ?_
  refine lv_iconst (v := 1) hx hb d_15_1_104 (by decide) ?_
  have ho92 := hn2
  refine q_iast C0 V hn2 (by unfold vp_in; decide) d_15_1_105 (fun H locs w93 hu94 hn2 V => ?_)
  replace hn2 : w93[137]? = (some (q15, .inl (g 0, 10, .inl (upd (upd (upd (upd (upd (upd (fun _ => 0) 0 1) 1 1) 2 1) 3 1) 4 1) 5 1))) : Option (Nat × va_E)) := hn2
  replace hN : w93.length = 145 := (q_len1 hu94 hn2 ho92).trans hN
  replace hF := q_us hF hu94 (List.mem_of_getElem? (i := 3) rfl)
  refine lv_iinc (v := 6) (lv' := [(1, .int 6), (0, .ref qO0)]) hx hb d_15_1_106 hl (k := 0) rfl (by decide) (by decide) rfl (fun ls hl => ?_)
  refine lv_goto (tgt := 93) hx hb d_15_1_109 (by decide) ?_
  refine lv_iload_n hx hb d_15_1_93 rfl (lv_at hl 0 rfl) ?_
  refine lv_bipush (v := 10) hx hb d_15_1_94 (by decide) ?_
  refine lv_icmp_ge (tgt := 112) hx hb d_15_1_96 (by decide) (fun c95 => absurd c95 (by decide)) (fun c95 => ?_)
  refine lv_aload_n hx hb d_15_1_99 rfl (lv_at hl 1 rfl) ?_
  replace hO0 := (hu94 _ (q_pd 134 137 rfl)).trans (hO0)
  refine q_get (ci := 14) (j := 4) (v := .ref q15) C0 V i_DR rfl rfl hO0 (by decide) w_2004 rfl d_15_1_100 ?_
  refine lv_iload_n hx hb d_15_1_103 rfl (lv_at hl 0 rfl) ?_
  refine lv_iconst (v := 1) hx hb d_15_1_104 (by decide) ?_
  have ho96 := hn2
  refine q_iast C0 V hn2 (by unfold vp_in; decide) d_15_1_105 (fun H locs w97 hu98 hn2 V => ?_)
  replace hn2 : w97[137]? = (some (q15, .inl (g 0, 10, .inl (upd (upd (upd (upd (upd (upd (upd (fun _ => 0) 0 1) 1 1) 2 1) 3 1) 4 1) 5 1) 6 1))) : Option (Nat × va_E)) := hn2
  replace hN : w97.length = 145 := (q_len1 hu98 hn2 ho96).trans hN
  replace hF := q_us hF hu98 (List.mem_of_getElem? (i := 3) rfl)
  refine lv_iinc (v := 7) (lv' := [(1, .int 7), (0, .ref qO0)]) hx hb d_15_1_106 hl (k := 0) rfl (by decide) (by decide) rfl (fun ls hl => ?_)
  refine lv_goto (tgt := 93) hx hb d_15_1_109 (by decide) ?_
  refine lv_iload_n hx hb d_15_1_93 rfl (lv_at hl 0 rfl) ?_
  refine lv_bipush (v := 10) hx hb d_15_1_94 (by decide) ?_
  refine lv_icmp_ge (tgt := 112) hx hb d_15_1_96 (by decide) (fun c99 => absurd c99 (by decide)) (fun c99 => ?_)
  refine lv_aload_n hx hb d_15_1_99 rfl (lv_at hl 1 rfl) ?_
  replace hO0 := (hu98 _ (q_pd 134 137 rfl)).trans (hO0)
  refine q_get (ci := 14) (j := 4) (v := .ref q15) C0 V i_DR rfl rfl hO0 (by decide) w_2004 rfl d_15_1_100 ?_
  refine lv_iload_n hx hb d_15_1_103 rfl (lv_at hl 0 rfl) ?_
  refine lv_iconst (v := 1) hx hb d_15_1_104 (by decide) ?_
  have ho100 := hn2
  refine q_iast C0 V hn2 (by unfold vp_in; decide) d_15_1_105 (fun H locs w101 hu102 hn2 V => ?_)
  replace hn2 : w101[137]? = (some (q15, .inl (g 0, 10, .inl (upd (upd (upd (upd (upd (upd (upd (upd (fun _ => 0) 0 1) 1 1) 2 1) 3 1) 4 1) 5 1) 6 1) 7 1))) : Option (Nat × va_E)) := hn2
  replace hN : w101.length = 145 := (q_len1 hu102 hn2 ho100).trans hN
  replace hF := q_us hF hu102 (List.mem_of_getElem? (i := 3) rfl)
  refine lv_iinc (v := 8) (lv' := [(1, .int 8), (0, .ref qO0)]) hx hb d_15_1_106 hl (k := 0) rfl (by decide) (by decide) rfl (fun ls hl => ?_)
  refine lv_goto (tgt := 93) hx hb d_15_1_109 (by decide) ?_
  refine lv_iload_n hx hb d_15_1_93 rfl (lv_at hl 0 rfl) ?_
  refine lv_bipush (v := 10) hx hb d_15_1_94 (by decide) ?_
  refine lv_icmp_ge (tgt := 112) hx hb d_15_1_96 (by decide) (fun c103 => absurd c103 (by decide)) (fun c103 => ?_)
  refine lv_aload_n hx hb d_15_1_99 rfl (lv_at hl 1 rfl) ?_
  replace hO0 := (hu102 _ (q_pd 134 137 rfl)).trans (hO0)
  refine q_get (ci := 14) (j := 4) (v := .ref q15) C0 V i_DR rfl rfl hO0 (by decide) w_2004 rfl d_15_1_100 ?_
  refine lv_iload_n hx hb d_15_1_103 rfl (lv_at hl 0 rfl) ?_
  refine lv_iconst (v := 1) hx hb d_15_1_104 (by decide) ?_
  have ho104 := hn2
  refine q_iast C0 V hn2 (by unfold vp_in; decide) d_15_1_105 (fun H locs w105 hu106 hn2 V => ?_)
  replace hn2 : w105[137]? = (some (q15, .inl (g 0, 10, .inl (upd (upd (upd (upd (upd (upd (upd (upd (upd (fun _ => 0) 0 1) 1 1) 2 1) 3 1) 4 1) 5 1) 6 1) 7 1) 8 1))) : Option (Nat × va_E)) := hn2
  replace hN : w105.length = 145 := (q_len1 hu106 hn2 ho104).trans hN
  replace hF := q_us hF hu106 (List.mem_of_getElem? (i := 3) rfl)
  refine lv_iinc (v := 9) (lv' := [(1, .int 9), (0, .ref qO0)]) hx hb d_15_1_106 hl (k := 0) rfl (by decide) (by decide) rfl (fun ls hl => ?_)
  refine lv_goto (tgt := 93) hx hb d_15_1_109 (by decide) ?_
  refine lv_iload_n hx hb d_15_1_93 rfl (lv_at hl 0 rfl) ?_
  refine lv_bipush (v := 10) hx hb d_15_1_94 (by decide) ?_
  refine lv_icmp_ge (tgt := 112) hx hb d_15_1_96 (by decide) (fun c107 => absurd c107 (by decide)) (fun c107 => ?_)
  refine lv_aload_n hx hb d_15_1_99 rfl (lv_at hl 1 rfl) ?_
  replace hO0 := (hu106 _ (q_pd 134 137 rfl)).trans (hO0)
  refine q_get (ci := 14) (j := 4) (v := .ref q15) C0 V i_DR rfl rfl hO0 (by decide) w_2004 rfl d_15_1_100 ?_
  refine lv_iload_n hx hb d_15_1_103 rfl (lv_at hl 0 rfl) ?_
  refine lv_iconst (v := 1) hx hb d_15_1_104 (by decide) ?_
  have ho108 := hn2
  refine q_iast C0 V hn2 (by unfold vp_in; decide) d_15_1_105 (fun H locs w109 hu110 hn2 V => ?_)
  replace hn2 : w109[137]? = (some (q15, .inl (g 0, 10, .inl (upd (upd (upd (upd (upd (upd (upd (upd (upd (upd (fun _ => 0) 0 1) 1 1) 2 1) 3 1) 4 1) 5 1) 6 1) 7 1) 8 1) 9 1))) : Option (Nat × va_E)) := hn2
  replace hN : w109.length = 145 := (q_len1 hu110 hn2 ho108).trans hN
  replace hF := q_us hF hu110 (List.mem_of_getElem? (i := 3) rfl)
  refine lv_iinc (v := 10) (lv' := [(1, .int 10), (0, .ref qO0)]) hx hb d_15_1_106 hl (k := 0) rfl (by decide) (by decide) rfl (fun ls hl => ?_)
  refine lv_goto (tgt := 93) hx hb d_15_1_109 (by decide) ?_
  refine lv_iload_n hx hb d_15_1_93 rfl (lv_at hl 0 rfl) ?_
  refine lv_bipush (v := 10) hx hb d_15_1_94 (by decide) ?_
  refine lv_icmp_ge (tgt := 112) hx hb d_15_1_96 (by decide) (fun c111 => ?_) (fun c111 => absurd (by decide) c111)
  replace hO0 := (hu110 _ (q_pd 134 137 rfl)).trans (hO0)
  replace hn0 := (hu110 _ (q_pd 135 137 rfl)).trans ((hu106 _ (q_pd 135 137 rfl)).trans ((hu102 _ (q_pd 135 137 rfl)).trans ((hu98 _ (q_pd 135 137 rfl)).trans ((hu94 _ (q_pd 135 137 rfl)).trans ((hu90 _ (q_pd 135 137 rfl)).trans ((hu86 _ (q_pd 135 137 rfl)).trans ((hu82 _ (q_pd 135 137 rfl)).trans ((hu78 _ (q_pd 135 137 rfl)).trans ((hu74 _ (q_pd 135 137 rfl)).trans ((hu69 _ (q_pd 135 134 rfl)).trans ((hu66 _ (q_pd 135 144 rfl)).trans ((hu62 _ (q_pd 135 134 rfl)).trans ((hu59 _ (q_pd 135 143 rfl)).trans ((hu55 _ (q_pd 135 134 rfl)).trans ((hu52 _ (q_pd 135 142 rfl)).trans ((hu48 _ (q_pd 135 134 rfl)).trans ((hu45 _ (q_pd 135 141 rfl)).trans ((hu41 _ (q_pd 135 134 rfl)).trans ((hu38 _ (q_pd 135 140 rfl)).trans ((hu34 _ (q_pd 135 134 rfl)).trans ((hu31 _ (q_pd 135 139 rfl)).trans ((hu27 _ (q_pd 135 134 rfl)).trans ((hu24 _ (q_pd 135 138 rfl)).trans ((hu20 _ (q_pd 135 134 rfl)).trans ((hu17 _ (q_pd 135 137 rfl)).trans ((hu13 _ (q_pd 135 134 rfl)).trans ((hu10 _ (q_pd 135 136 rfl)).trans ((hu6 _ (q_pd 135 134 rfl)).trans (hn0)))))))))))))))))))))))))))))
  replace hn1 := (hu110 _ (q_pd 136 137 rfl)).trans ((hu106 _ (q_pd 136 137 rfl)).trans ((hu102 _ (q_pd 136 137 rfl)).trans ((hu98 _ (q_pd 136 137 rfl)).trans ((hu94 _ (q_pd 136 137 rfl)).trans ((hu90 _ (q_pd 136 137 rfl)).trans ((hu86 _ (q_pd 136 137 rfl)).trans ((hu82 _ (q_pd 136 137 rfl)).trans ((hu78 _ (q_pd 136 137 rfl)).trans ((hu74 _ (q_pd 136 137 rfl)).trans ((hu69 _ (q_pd 136 134 rfl)).trans ((hu66 _ (q_pd 136 144 rfl)).trans ((hu62 _ (q_pd 136 134 rfl)).trans ((hu59 _ (q_pd 136 143 rfl)).trans ((hu55 _ (q_pd 136 134 rfl)).trans ((hu52 _ (q_pd 136 142 rfl)).trans ((hu48 _ (q_pd 136 134 rfl)).trans ((hu45 _ (q_pd 136 141 rfl)).trans ((hu41 _ (q_pd 136 134 rfl)).trans ((hu38 _ (q_pd 136 140 rfl)).trans ((hu34 _ (q_pd 136 134 rfl)).trans ((hu31 _ (q_pd 136 139 rfl)).trans ((hu27 _ (q_pd 136 134 rfl)).trans ((hu24 _ (q_pd 136 138 rfl)).trans ((hu20 _ (q_pd 136 134 rfl)).trans ((hu17 _ (q_pd 136 137 rfl)).trans ((hu13 _ (q_pd 136 134 rfl)).trans (hn1)))))))))))))))))))))))))))
  replace hn3 := (hu110 _ (q_pd 138 137 rfl)).trans ((hu106 _ (q_pd 138 137 rfl)).trans ((hu102 _ (q_pd 138 137 rfl)).trans ((hu98 _ (q_pd 138 137 rfl)).trans ((hu94 _ (q_pd 138 137 rfl)).trans ((hu90 _ (q_pd 138 137 rfl)).trans ((hu86 _ (q_pd 138 137 rfl)).trans ((hu82 _ (q_pd 138 137 rfl)).trans ((hu78 _ (q_pd 138 137 rfl)).trans ((hu74 _ (q_pd 138 137 rfl)).trans ((hu69 _ (q_pd 138 134 rfl)).trans ((hu66 _ (q_pd 138 144 rfl)).trans ((hu62 _ (q_pd 138 134 rfl)).trans ((hu59 _ (q_pd 138 143 rfl)).trans ((hu55 _ (q_pd 138 134 rfl)).trans ((hu52 _ (q_pd 138 142 rfl)).trans ((hu48 _ (q_pd 138 134 rfl)).trans ((hu45 _ (q_pd 138 141 rfl)).trans ((hu41 _ (q_pd 138 134 rfl)).trans ((hu38 _ (q_pd 138 140 rfl)).trans ((hu34 _ (q_pd 138 134 rfl)).trans ((hu31 _ (q_pd 138 139 rfl)).trans ((hu27 _ (q_pd 138 134 rfl)).trans (hn3)))))))))))))))))))))))
  replace hn4 := (hu110 _ (q_pd 139 137 rfl)).trans ((hu106 _ (q_pd 139 137 rfl)).trans ((hu102 _ (q_pd 139 137 rfl)).trans ((hu98 _ (q_pd 139 137 rfl)).trans ((hu94 _ (q_pd 139 137 rfl)).trans ((hu90 _ (q_pd 139 137 rfl)).trans ((hu86 _ (q_pd 139 137 rfl)).trans ((hu82 _ (q_pd 139 137 rfl)).trans ((hu78 _ (q_pd 139 137 rfl)).trans ((hu74 _ (q_pd 139 137 rfl)).trans ((hu69 _ (q_pd 139 134 rfl)).trans ((hu66 _ (q_pd 139 144 rfl)).trans ((hu62 _ (q_pd 139 134 rfl)).trans ((hu59 _ (q_pd 139 143 rfl)).trans ((hu55 _ (q_pd 139 134 rfl)).trans ((hu52 _ (q_pd 139 142 rfl)).trans ((hu48 _ (q_pd 139 134 rfl)).trans ((hu45 _ (q_pd 139 141 rfl)).trans ((hu41 _ (q_pd 139 134 rfl)).trans ((hu38 _ (q_pd 139 140 rfl)).trans ((hu34 _ (q_pd 139 134 rfl)).trans (hn4)))))))))))))))))))))
  replace hn5 := (hu110 _ (q_pd 140 137 rfl)).trans ((hu106 _ (q_pd 140 137 rfl)).trans ((hu102 _ (q_pd 140 137 rfl)).trans ((hu98 _ (q_pd 140 137 rfl)).trans ((hu94 _ (q_pd 140 137 rfl)).trans ((hu90 _ (q_pd 140 137 rfl)).trans ((hu86 _ (q_pd 140 137 rfl)).trans ((hu82 _ (q_pd 140 137 rfl)).trans ((hu78 _ (q_pd 140 137 rfl)).trans ((hu74 _ (q_pd 140 137 rfl)).trans ((hu69 _ (q_pd 140 134 rfl)).trans ((hu66 _ (q_pd 140 144 rfl)).trans ((hu62 _ (q_pd 140 134 rfl)).trans ((hu59 _ (q_pd 140 143 rfl)).trans ((hu55 _ (q_pd 140 134 rfl)).trans ((hu52 _ (q_pd 140 142 rfl)).trans ((hu48 _ (q_pd 140 134 rfl)).trans ((hu45 _ (q_pd 140 141 rfl)).trans ((hu41 _ (q_pd 140 134 rfl)).trans (hn5)))))))))))))))))))
  replace hn6 := (hu110 _ (q_pd 141 137 rfl)).trans ((hu106 _ (q_pd 141 137 rfl)).trans ((hu102 _ (q_pd 141 137 rfl)).trans ((hu98 _ (q_pd 141 137 rfl)).trans ((hu94 _ (q_pd 141 137 rfl)).trans ((hu90 _ (q_pd 141 137 rfl)).trans ((hu86 _ (q_pd 141 137 rfl)).trans ((hu82 _ (q_pd 141 137 rfl)).trans ((hu78 _ (q_pd 141 137 rfl)).trans ((hu74 _ (q_pd 141 137 rfl)).trans ((hu69 _ (q_pd 141 134 rfl)).trans ((hu66 _ (q_pd 141 144 rfl)).trans ((hu62 _ (q_pd 141 134 rfl)).trans ((hu59 _ (q_pd 141 143 rfl)).trans ((hu55 _ (q_pd 141 134 rfl)).trans ((hu52 _ (q_pd 141 142 rfl)).trans ((hu48 _ (q_pd 141 134 rfl)).trans (hn6)))))))))))))))))
  replace hn7 := (hu110 _ (q_pd 142 137 rfl)).trans ((hu106 _ (q_pd 142 137 rfl)).trans ((hu102 _ (q_pd 142 137 rfl)).trans ((hu98 _ (q_pd 142 137 rfl)).trans ((hu94 _ (q_pd 142 137 rfl)).trans ((hu90 _ (q_pd 142 137 rfl)).trans ((hu86 _ (q_pd 142 137 rfl)).trans ((hu82 _ (q_pd 142 137 rfl)).trans ((hu78 _ (q_pd 142 137 rfl)).trans ((hu74 _ (q_pd 142 137 rfl)).trans ((hu69 _ (q_pd 142 134 rfl)).trans ((hu66 _ (q_pd 142 144 rfl)).trans ((hu62 _ (q_pd 142 134 rfl)).trans ((hu59 _ (q_pd 142 143 rfl)).trans ((hu55 _ (q_pd 142 134 rfl)).trans (hn7)))))))))))))))
  replace hn8 := (hu110 _ (q_pd 143 137 rfl)).trans ((hu106 _ (q_pd 143 137 rfl)).trans ((hu102 _ (q_pd 143 137 rfl)).trans ((hu98 _ (q_pd 143 137 rfl)).trans ((hu94 _ (q_pd 143 137 rfl)).trans ((hu90 _ (q_pd 143 137 rfl)).trans ((hu86 _ (q_pd 143 137 rfl)).trans ((hu82 _ (q_pd 143 137 rfl)).trans ((hu78 _ (q_pd 143 137 rfl)).trans ((hu74 _ (q_pd 143 137 rfl)).trans ((hu69 _ (q_pd 143 134 rfl)).trans ((hu66 _ (q_pd 143 144 rfl)).trans ((hu62 _ (q_pd 143 134 rfl)).trans (hn8)))))))))))))
  replace hn9 := (hu110 _ (q_pd 144 137 rfl)).trans ((hu106 _ (q_pd 144 137 rfl)).trans ((hu102 _ (q_pd 144 137 rfl)).trans ((hu98 _ (q_pd 144 137 rfl)).trans ((hu94 _ (q_pd 144 137 rfl)).trans ((hu90 _ (q_pd 144 137 rfl)).trans ((hu86 _ (q_pd 144 137 rfl)).trans ((hu82 _ (q_pd 144 137 rfl)).trans ((hu78 _ (q_pd 144 137 rfl)).trans ((hu74 _ (q_pd 144 137 rfl)).trans ((hu69 _ (q_pd 144 134 rfl)).trans (hn9)))))))))))
  exact q_retv C0 V (⟨q1, q8, q15, q22, q29, q36, q43, q50, q57, q64, hF, hO0, hn0, hn1, hn2, hn3, hn4, hn5, hn6, hn7, hn8, hn9, hN⟩) d_15_1_112
theorem d_17_1_0 : decode prog_17_method_1_code 0 = .ok (.aload_n 0, 1) := by decide +kernel
theorem d_17_1_1 : decode prog_17_method_1_code 1 = .ok (.invokespecial 1, 3) := by decide +kernel
set_option maxRecDepth 100000 in
theorem w_2073 : (Cond.methodLink "NumberHouseModel$FloatRows" (1 : Nat) ({ cls := "java/lang/Object", name := "<init>", desc := "()V" } : MethodName)) ∈ q_tbl := q_of9 153 rfl (by decide +kernel)
theorem d_17_1_4 : decode prog_17_method_1_code 4 = .ok (.aload_n 0, 1) := by decide +kernel
theorem d_17_1_5 : decode prog_17_method_1_code 5 = .ok (.sipush 156, 3) := by decide +kernel
theorem d_17_1_8 : decode prog_17_method_1_code 8 = .ok (.newarray .int, 2) := by decide +kernel
theorem d_17_1_10 : decode prog_17_method_1_code 10 = .ok (.putfield 7, 3) := by decide +kernel
set_option maxRecDepth 100000 in
theorem w_2076 : (Cond.fieldLink "NumberHouseModel$FloatRows" (7 : Nat) "NumberHouseModel$FloatRows" "unit" "[I") ∈ q_tbl := q_of9 156 rfl (by decide +kernel)
theorem d_17_1_13 : decode prog_17_method_1_code 13 = .ok (.aload_n 0, 1) := by decide +kernel
theorem d_17_1_14 : decode prog_17_method_1_code 14 = .ok (.sipush 156, 3) := by decide +kernel
theorem d_17_1_17 : decode prog_17_method_1_code 17 = .ok (.newarray .int, 2) := by decide +kernel
theorem d_17_1_19 : decode prog_17_method_1_code 19 = .ok (.putfield 13, 3) := by decide +kernel
set_option maxRecDepth 100000 in
theorem w_2077 : (Cond.fieldLink "NumberHouseModel$FloatRows" (13 : Nat) "NumberHouseModel$FloatRows" "limbs" "[I") ∈ q_tbl := q_of9 157 rfl (by decide +kernel)
theorem d_17_1_22 : decode prog_17_method_1_code 22 = .ok (.aload_n 0, 1) := by decide +kernel
theorem d_17_1_23 : decode prog_17_method_1_code 23 = .ok (.sipush 1404, 3) := by decide +kernel
theorem d_17_1_26 : decode prog_17_method_1_code 26 = .ok (.newarray .int, 2) := by decide +kernel
theorem d_17_1_28 : decode prog_17_method_1_code 28 = .ok (.putfield 16, 3) := by decide +kernel
set_option maxRecDepth 100000 in
theorem w_2078 : (Cond.fieldLink "NumberHouseModel$FloatRows" (16 : Nat) "NumberHouseModel$FloatRows" "value" "[I") ∈ q_tbl := q_of9 158 rfl (by decide +kernel)
theorem d_17_1_31 : decode prog_17_method_1_code 31 = .ok (.aload_n 0, 1) := by decide +kernel
theorem d_17_1_32 : decode prog_17_method_1_code 32 = .ok (.sipush 1404, 3) := by decide +kernel
theorem d_17_1_35 : decode prog_17_method_1_code 35 = .ok (.newarray .int, 2) := by decide +kernel
theorem d_17_1_37 : decode prog_17_method_1_code 37 = .ok (.putfield 19, 3) := by decide +kernel
set_option maxRecDepth 100000 in
theorem w_2079 : (Cond.fieldLink "NumberHouseModel$FloatRows" (19 : Nat) "NumberHouseModel$FloatRows" "low" "[I") ∈ q_tbl := q_of9 159 rfl (by decide +kernel)
theorem d_17_1_40 : decode prog_17_method_1_code 40 = .ok (.aload_n 0, 1) := by decide +kernel
theorem d_17_1_41 : decode prog_17_method_1_code 41 = .ok (.sipush 1404, 3) := by decide +kernel
theorem d_17_1_44 : decode prog_17_method_1_code 44 = .ok (.newarray .int, 2) := by decide +kernel
theorem d_17_1_46 : decode prog_17_method_1_code 46 = .ok (.putfield 22, 3) := by decide +kernel
set_option maxRecDepth 100000 in
theorem w_2080 : (Cond.fieldLink "NumberHouseModel$FloatRows" (22 : Nat) "NumberHouseModel$FloatRows" "high" "[I") ∈ q_tbl := q_of9 160 rfl (by decide +kernel)
theorem d_17_1_49 : decode prog_17_method_1_code 49 = .ok (.aload_n 0, 1) := by decide +kernel
theorem d_17_1_50 : decode prog_17_method_1_code 50 = .ok (.sipush 1404, 3) := by decide +kernel
theorem d_17_1_53 : decode prog_17_method_1_code 53 = .ok (.newarray .int, 2) := by decide +kernel
theorem d_17_1_55 : decode prog_17_method_1_code 55 = .ok (.putfield 25, 3) := by decide +kernel
set_option maxRecDepth 100000 in
theorem w_2081 : (Cond.fieldLink "NumberHouseModel$FloatRows" (25 : Nat) "NumberHouseModel$FloatRows" "rounded" "[I") ∈ q_tbl := q_of9 161 rfl (by decide +kernel)
theorem d_17_1_58 : decode prog_17_method_1_code 58 = .ok (.aload_n 0, 1) := by decide +kernel
theorem d_17_1_59 : decode prog_17_method_1_code 59 = .ok (.sipush 1600, 3) := by decide +kernel
theorem d_17_1_62 : decode prog_17_method_1_code 62 = .ok (.newarray .int, 2) := by decide +kernel
theorem d_17_1_64 : decode prog_17_method_1_code 64 = .ok (.putfield 28, 3) := by decide +kernel
set_option maxRecDepth 100000 in
theorem w_2082 : (Cond.fieldLink "NumberHouseModel$FloatRows" (28 : Nat) "NumberHouseModel$FloatRows" "paper" "[I") ∈ q_tbl := q_of9 162 rfl (by decide +kernel)
theorem d_17_1_67 : decode prog_17_method_1_code 67 = .ok (.return_, 1) := by decide +kernel
def y_FR_init : MethodName := ⟨"NumberHouseModel$FloatRows", "<init>", "()V"⟩
set_option maxRecDepth 100000 in
set_option maxHeartbeats 4000000 in
theorem c_FR_init (l : Launch) (D : va_G) (g : Nat → ClassId) (ws : va_W) ( qO0 : Nat) (hN : ws.length = 146) (hO0 : ws[145]? = (some (qO0, .inr (15, [.int 0, .null, .null, .null, .null, .null, .null, .null, .int 0, .int 0, .int 0, .long 0, .int 0, .int 0, .long 0, .int 0, .long 0, .int 0])) : Option (Nat × va_E))) : q_mV l y_FR_init prog_17_method_1_code 1 2 7 7528 D g [.ref qO0] ws (fun u => ∃ (q1 : Nat) (q8 : Nat) (q15 : Nat) (q22 : Nat) (q29 : Nat) (q36 : Nat) (q43 : Nat), q_un ws u [145, 146, 147, 148, 149, 150, 151, 152] ∧ u[145]? = (some (qO0, .inr (15, [.int 0, .ref q1, .ref q8, .ref q15, .ref q22, .ref q29, .ref q36, .ref q43, .int 0, .int 0, .int 0, .long 0, .int 0, .int 0, .long 0, .int 0, .long 0, .int 0])) : Option (Nat × va_E)) ∧ u[146]? = (some (q1, .inl (g 0, 156, .inl (fun _ => 0))) : Option (Nat × va_E)) ∧ u[147]? = (some (q8, .inl (g 0, 156, .inl (fun _ => 0))) : Option (Nat × va_E)) ∧ u[148]? = (some (q15, .inl (g 0, 1404, .inl (fun _ => 0))) : Option (Nat × va_E)) ∧ u[149]? = (some (q22, .inl (g 0, 1404, .inl (fun _ => 0))) : Option (Nat × va_E)) ∧ u[150]? = (some (q29, .inl (g 0, 1404, .inl (fun _ => 0))) : Option (Nat × va_E)) ∧ u[151]? = (some (q36, .inl (g 0, 1404, .inl (fun _ => 0))) : Option (Nat × va_E)) ∧ u[152]? = (some (q43, .inl (g 0, 1600, .inl (fun _ => 0))) : Option (Nat × va_E)) ∧ u.length = 153) := by
  intro sz
  refine q_into (by decide) (Nat.le_of_ble_eq_true rfl) ?_
  intro p e s m below meth c ls hsz C0 V hl
  have hx := C0.1
  have hb := C0.2.1
  have hl : lv_has ls 1 [(0, .ref qO0)] := hl
  have hF : q_un ws ws [145, 146, 147, 148, 149, 150, 151, 152] := q_u0
  refine lv_aload_n hx hb d_17_1_0 rfl (lv_at hl 0 rfl) ?_
  refine q_obj C0 hl.1 rfl w_2073 w_44 w_45 ⟨by decide, by decide⟩ d_17_1_1 ?_
  refine lv_aload_n hx hb d_17_1_4 rfl (lv_at hl 0 rfl) ?_
  refine lv_sipush (v := 156) hx hb d_17_1_5 (by decide) ?_
  refine q_newI (N' := 156) C0 V hN w_107 (by decide) (by decide) (by decide) (Nat.le_of_ble_eq_true rfl) (Nat.le_of_ble_eq_true rfl) d_17_1_8 (fun q1 H w2 hu3 hn4 hN V => ?_)
  have hn0 : w2[146]? = (some (q1, .inl (g 0, 156, .inl (fun _ => 0))) : Option (Nat × va_E)) := hn4
  replace hF := q_us hF hu3 (.tail _ (.head _))
  replace hN : w2.length = 147 := hN
  replace hO0 := (hu3 _ (q_pd 145 146 rfl)).trans (hO0)
  have ho7 := hO0
  refine q_putF (ci := 15) (j := 1) (v := .ref q1) (ty := .array .int) C0 V i_FR o_FR n_FR rfl rfl rfl rfl rfl hO0 (by decide) w_2076 rfl rfl rfl (Nat.le_of_ble_eq_true rfl) d_17_1_10 (fun H locs w5 hu6 hO0 V => ?_)
  replace hO0 : w5[145]? = (some (qO0, .inr (15, [.int 0, .ref q1, .null, .null, .null, .null, .null, .null, .int 0, .int 0, .int 0, .long 0, .int 0, .int 0, .long 0, .int 0, .long 0, .int 0])) : Option (Nat × va_E)) := hO0
  replace hN : w5.length = 147 := (q_len1 hu6 hO0 ho7).trans hN
  replace hF := q_us hF hu6 (.head _)
  refine lv_aload_n hx hb d_17_1_13 rfl (lv_at hl 0 rfl) ?_
  refine lv_sipush (v := 156) hx hb d_17_1_14 (by decide) ?_
  refine q_newI (N' := 156) C0 V hN w_107 (by decide) (by decide) (by decide) (Nat.le_of_ble_eq_true rfl) (Nat.le_of_ble_eq_true rfl) d_17_1_17 (fun q8 H w9 hu10 hn11 hN V => ?_)
  have hn1 : w9[147]? = (some (q8, .inl (g 0, 156, .inl (fun _ => 0))) : Option (Nat × va_E)) := hn11
  replace hF := q_us hF hu10 (.tail _ (.tail _ (.head _)))
  replace hN : w9.length = 148 := hN
  replace hO0 := (hu10 _ (q_pd 145 147 rfl)).trans (hO0)
  have ho14 := hO0
  refine q_putF (ci := 15) (j := 2) (v := .ref q8) (ty := .array .int) C0 V i_FR o_FR n_FR rfl rfl rfl rfl rfl hO0 (by decide) w_2077 rfl rfl rfl (Nat.le_of_ble_eq_true rfl) d_17_1_19 (fun H locs w12 hu13 hO0 V => ?_)
  replace hO0 : w12[145]? = (some (qO0, .inr (15, [.int 0, .ref q1, .ref q8, .null, .null, .null, .null, .null, .int 0, .int 0, .int 0, .long 0, .int 0, .int 0, .long 0, .int 0, .long 0, .int 0])) : Option (Nat × va_E)) := hO0
  replace hN : w12.length = 148 := (q_len1 hu13 hO0 ho14).trans hN
  replace hF := q_us hF hu13 (.head _)
  refine lv_aload_n hx hb d_17_1_22 rfl (lv_at hl 0 rfl) ?_
  refine lv_sipush (v := 1404) hx hb d_17_1_23 (by decide) ?_
  refine q_newI (N' := 1404) C0 V hN w_107 (by decide) (by decide) (by decide) (Nat.le_of_ble_eq_true rfl) (Nat.le_of_ble_eq_true rfl) d_17_1_26 (fun q15 H w16 hu17 hn18 hN V => ?_)
  have hn2 : w16[148]? = (some (q15, .inl (g 0, 1404, .inl (fun _ => 0))) : Option (Nat × va_E)) := hn18
  replace hF := q_us hF hu17 (List.mem_of_getElem? (i := 3) rfl)
  replace hN : w16.length = 149 := hN
  replace hO0 := (hu17 _ (q_pd 145 148 rfl)).trans (hO0)
  have ho21 := hO0
  refine q_putF (ci := 15) (j := 3) (v := .ref q15) (ty := .array .int) C0 V i_FR o_FR n_FR rfl rfl rfl rfl rfl hO0 (by decide) w_2078 rfl rfl rfl (Nat.le_of_ble_eq_true rfl) d_17_1_28 (fun H locs w19 hu20 hO0 V => ?_)
  replace hO0 : w19[145]? = (some (qO0, .inr (15, [.int 0, .ref q1, .ref q8, .ref q15, .null, .null, .null, .null, .int 0, .int 0, .int 0, .long 0, .int 0, .int 0, .long 0, .int 0, .long 0, .int 0])) : Option (Nat × va_E)) := hO0
  replace hN : w19.length = 149 := (q_len1 hu20 hO0 ho21).trans hN
  replace hF := q_us hF hu20 (.head _)
  refine lv_aload_n hx hb d_17_1_31 rfl (lv_at hl 0 rfl) ?_
  refine lv_sipush (v := 1404) hx hb d_17_1_32 (by decide) ?_
  refine q_newI (N' := 1404) C0 V hN w_107 (by decide) (by decide) (by decide) (Nat.le_of_ble_eq_true rfl) (Nat.le_of_ble_eq_true rfl) d_17_1_35 (fun q22 H w23 hu24 hn25 hN V => ?_)
  have hn3 : w23[149]? = (some (q22, .inl (g 0, 1404, .inl (fun _ => 0))) : Option (Nat × va_E)) := hn25
  replace hF := q_us hF hu24 (List.mem_of_getElem? (i := 4) rfl)
  replace hN : w23.length = 150 := hN
  replace hO0 := (hu24 _ (q_pd 145 149 rfl)).trans (hO0)
  have ho28 := hO0
  refine q_putF (ci := 15) (j := 4) (v := .ref q22) (ty := .array .int) C0 V i_FR o_FR n_FR rfl rfl rfl rfl rfl hO0 (by decide) w_2079 rfl rfl rfl (Nat.le_of_ble_eq_true rfl) d_17_1_37 (fun H locs w26 hu27 hO0 V => ?_)
  replace hO0 : w26[145]? = (some (qO0, .inr (15, [.int 0, .ref q1, .ref q8, .ref q15, .ref q22, .null, .null, .null, .int 0, .int 0, .int 0, .long 0, .int 0, .int 0, .long 0, .int 0, .long 0, .int 0])) : Option (Nat × va_E)) := hO0
  replace hN : w26.length = 150 := (q_len1 hu27 hO0 ho28).trans hN
  replace hF := q_us hF hu27 (.head _)
  refine lv_aload_n hx hb d_17_1_40 rfl (lv_at hl 0 rfl) ?_
  refine lv_sipush (v := 1404) hx hb d_17_1_41 (by decide) ?_
  refine q_newI (N' := 1404) C0 V hN w_107 (by decide) (by decide) (by decide) (Nat.le_of_ble_eq_true rfl) (Nat.le_of_ble_eq_true rfl) d_17_1_44 (fun q29 H w30 hu31 hn32 hN V => ?_)
  have hn4 : w30[150]? = (some (q29, .inl (g 0, 1404, .inl (fun _ => 0))) : Option (Nat × va_E)) := hn32
  replace hF := q_us hF hu31 (List.mem_of_getElem? (i := 5) rfl)
  replace hN : w30.length = 151 := hN
  replace hO0 := (hu31 _ (q_pd 145 150 rfl)).trans (hO0)
  have ho35 := hO0
  refine q_putF (ci := 15) (j := 5) (v := .ref q29) (ty := .array .int) C0 V i_FR o_FR n_FR rfl rfl rfl rfl rfl hO0 (by decide) w_2080 rfl rfl rfl (Nat.le_of_ble_eq_true rfl) d_17_1_46 (fun H locs w33 hu34 hO0 V => ?_)
  replace hO0 : w33[145]? = (some (qO0, .inr (15, [.int 0, .ref q1, .ref q8, .ref q15, .ref q22, .ref q29, .null, .null, .int 0, .int 0, .int 0, .long 0, .int 0, .int 0, .long 0, .int 0, .long 0, .int 0])) : Option (Nat × va_E)) := hO0
  replace hN : w33.length = 151 := (q_len1 hu34 hO0 ho35).trans hN
  replace hF := q_us hF hu34 (.head _)
  refine lv_aload_n hx hb d_17_1_49 rfl (lv_at hl 0 rfl) ?_
  refine lv_sipush (v := 1404) hx hb d_17_1_50 (by decide) ?_
  refine q_newI (N' := 1404) C0 V hN w_107 (by decide) (by decide) (by decide) (Nat.le_of_ble_eq_true rfl) (Nat.le_of_ble_eq_true rfl) d_17_1_53 (fun q36 H w37 hu38 hn39 hN V => ?_)
  have hn5 : w37[151]? = (some (q36, .inl (g 0, 1404, .inl (fun _ => 0))) : Option (Nat × va_E)) := hn39
  replace hF := q_us hF hu38 (List.mem_of_getElem? (i := 6) rfl)
  replace hN : w37.length = 152 := hN
  replace hO0 := (hu38 _ (q_pd 145 151 rfl)).trans (hO0)
  have ho42 := hO0
  refine q_putF (ci := 15) (j := 6) (v := .ref q36) (ty := .array .int) C0 V i_FR o_FR n_FR rfl rfl rfl rfl rfl hO0 (by decide) w_2081 rfl rfl rfl (Nat.le_of_ble_eq_true rfl) d_17_1_55 (fun H locs w40 hu41 hO0 V => ?_)
  replace hO0 : w40[145]? = (some (qO0, .inr (15, [.int 0, .ref q1, .ref q8, .ref q15, .ref q22, .ref q29, .ref q36, .null, .int 0, .int 0, .int 0, .long 0, .int 0, .int 0, .long 0, .int 0, .long 0, .int 0])) : Option (Nat × va_E)) := hO0
  replace hN : w40.length = 152 := (q_len1 hu41 hO0 ho42).trans hN
  replace hF := q_us hF hu41 (.head _)
  refine lv_aload_n hx hb d_17_1_58 rfl (lv_at hl 0 rfl) ?_
  refine lv_sipush (v := 1600) hx hb d_17_1_59 (by decide) ?_
  refine q_newI (N' := 1600) C0 V hN w_107 (by decide) (by decide) (by decide) (Nat.le_of_ble_eq_true rfl) (Nat.le_of_ble_eq_true rfl) d_17_1_62 (fun q43 H w44 hu45 hn46 hN V => ?_)
  have hn6 : w44[152]? = (some (q43, .inl (g 0, 1600, .inl (fun _ => 0))) : Option (Nat × va_E)) := hn46
  replace hF := q_us hF hu45 (List.mem_of_getElem? (i := 7) rfl)
  replace hN : w44.length = 153 := hN
  replace hO0 := (hu45 _ (q_pd 145 152 rfl)).trans (hO0)
  have ho49 := hO0
  refine q_putF (ci := 15) (j := 7) (v := .ref q43) (ty := .array .int) C0 V i_FR o_FR n_FR rfl rfl rfl rfl rfl hO0 (by decide) w_2082 rfl rfl rfl (Nat.le_of_ble_eq_true rfl) d_17_1_64 (fun H locs w47 hu48 hO0 V => ?_)
  replace hO0 : w47[145]? = (some (qO0, .inr (15, [.int 0, .ref q1, .ref q8, .ref q15, .ref q22, .ref q29, .ref q36, .ref q43, .int 0, .int 0, .int 0, .long 0, .int 0, .int 0, .long 0, .int 0, .long 0, .int 0])) : Option (Nat × va_E)) := hO0
  replace hN : w47.length = 153 := (q_len1 hu48 hO0 ho49).trans hN
  replace hF := q_us hF hu48 (.head _)
  replace hn0 := (hu48 _ (q_pd 146 145 rfl)).trans ((hu45 _ (q_pd 146 152 rfl)).trans ((hu41 _ (q_pd 146 145 rfl)).trans ((hu38 _ (q_pd 146 151 rfl)).trans ((hu34 _ (q_pd 146 145 rfl)).trans ((hu31 _ (q_pd 146 150 rfl)).trans ((hu27 _ (q_pd 146 145 rfl)).trans ((hu24 _ (q_pd 146 149 rfl)).trans ((hu20 _ (q_pd 146 145 rfl)).trans ((hu17 _ (q_pd 146 148 rfl)).trans ((hu13 _ (q_pd 146 145 rfl)).trans ((hu10 _ (q_pd 146 147 rfl)).trans ((hu6 _ (q_pd 146 145 rfl)).trans (hn0)))))))))))))
  replace hn1 := (hu48 _ (q_pd 147 145 rfl)).trans ((hu45 _ (q_pd 147 152 rfl)).trans ((hu41 _ (q_pd 147 145 rfl)).trans ((hu38 _ (q_pd 147 151 rfl)).trans ((hu34 _ (q_pd 147 145 rfl)).trans ((hu31 _ (q_pd 147 150 rfl)).trans ((hu27 _ (q_pd 147 145 rfl)).trans ((hu24 _ (q_pd 147 149 rfl)).trans ((hu20 _ (q_pd 147 145 rfl)).trans ((hu17 _ (q_pd 147 148 rfl)).trans ((hu13 _ (q_pd 147 145 rfl)).trans (hn1)))))))))))
  replace hn2 := (hu48 _ (q_pd 148 145 rfl)).trans ((hu45 _ (q_pd 148 152 rfl)).trans ((hu41 _ (q_pd 148 145 rfl)).trans ((hu38 _ (q_pd 148 151 rfl)).trans ((hu34 _ (q_pd 148 145 rfl)).trans ((hu31 _ (q_pd 148 150 rfl)).trans ((hu27 _ (q_pd 148 145 rfl)).trans ((hu24 _ (q_pd 148 149 rfl)).trans ((hu20 _ (q_pd 148 145 rfl)).trans (hn2)))))))))
  replace hn3 := (hu48 _ (q_pd 149 145 rfl)).trans ((hu45 _ (q_pd 149 152 rfl)).trans ((hu41 _ (q_pd 149 145 rfl)).trans ((hu38 _ (q_pd 149 151 rfl)).trans ((hu34 _ (q_pd 149 145 rfl)).trans ((hu31 _ (q_pd 149 150 rfl)).trans ((hu27 _ (q_pd 149 145 rfl)).trans (hn3)))))))
  replace hn4 := (hu48 _ (q_pd 150 145 rfl)).trans ((hu45 _ (q_pd 150 152 rfl)).trans ((hu41 _ (q_pd 150 145 rfl)).trans ((hu38 _ (q_pd 150 151 rfl)).trans ((hu34 _ (q_pd 150 145 rfl)).trans (hn4)))))
  replace hn5 := (hu48 _ (q_pd 151 145 rfl)).trans ((hu45 _ (q_pd 151 152 rfl)).trans ((hu41 _ (q_pd 151 145 rfl)).trans (hn5)))
  replace hn6 := (hu48 _ (q_pd 152 145 rfl)).trans (hn6)
  exact q_retv C0 V (⟨q1, q8, q15, q22, q29, q36, q43, hF, hO0, hn0, hn1, hn2, hn3, hn4, hn5, hn6, hN⟩) d_17_1_67
theorem d_18_1_0 : decode prog_18_method_1_code 0 = .ok (.aload_n 0, 1) := by decide +kernel
theorem d_18_1_1 : decode prog_18_method_1_code 1 = .ok (.invokespecial 1, 3) := by decide +kernel
set_option maxRecDepth 100000 in
theorem w_2136 : (Cond.methodLink "NumberHouseModel$TextRows" (1 : Nat) ({ cls := "java/lang/Object", name := "<init>", desc := "()V" } : MethodName)) ∈ q_tbl := q_of9 216 rfl (by decide +kernel)
theorem d_18_1_4 : decode prog_18_method_1_code 4 = .ok (.aload_n 0, 1) := by decide +kernel
theorem d_18_1_5 : decode prog_18_method_1_code 5 = .ok (.sipush 4100, 3) := by decide +kernel
theorem d_18_1_8 : decode prog_18_method_1_code 8 = .ok (.newarray .int, 2) := by decide +kernel
theorem d_18_1_10 : decode prog_18_method_1_code 10 = .ok (.putfield 7, 3) := by decide +kernel
set_option maxRecDepth 100000 in
theorem w_2139 : (Cond.fieldLink "NumberHouseModel$TextRows" (7 : Nat) "NumberHouseModel$TextRows" "text" "[I") ∈ q_tbl := q_of9 219 rfl (by decide +kernel)
theorem d_18_1_13 : decode prog_18_method_1_code 13 = .ok (.aload_n 0, 1) := by decide +kernel
theorem d_18_1_14 : decode prog_18_method_1_code 14 = .ok (.sipush 4100, 3) := by decide +kernel
theorem d_18_1_17 : decode prog_18_method_1_code 17 = .ok (.newarray .int, 2) := by decide +kernel
theorem d_18_1_19 : decode prog_18_method_1_code 19 = .ok (.putfield 13, 3) := by decide +kernel
set_option maxRecDepth 100000 in
theorem w_2146 : (Cond.fieldLink "NumberHouseModel$TextRows" (13 : Nat) "NumberHouseModel$TextRows" "figures" "[I") ∈ q_tbl := q_of9 226 rfl (by decide +kernel)
theorem d_18_1_22 : decode prog_18_method_1_code 22 = .ok (.aload_n 0, 1) := by decide +kernel
theorem d_18_1_23 : decode prog_18_method_1_code 23 = .ok (.sipush 800, 3) := by decide +kernel
theorem d_18_1_26 : decode prog_18_method_1_code 26 = .ok (.newarray .int, 2) := by decide +kernel
theorem d_18_1_28 : decode prog_18_method_1_code 28 = .ok (.putfield 16, 3) := by decide +kernel
set_option maxRecDepth 100000 in
theorem w_2150 : (Cond.fieldLink "NumberHouseModel$TextRows" (16 : Nat) "NumberHouseModel$TextRows" "words" "[I") ∈ q_tbl := q_of9 230 rfl (by decide +kernel)
theorem d_18_1_31 : decode prog_18_method_1_code 31 = .ok (.return_, 1) := by decide +kernel
def y_TR_init : MethodName := ⟨"NumberHouseModel$TextRows", "<init>", "()V"⟩
set_option maxRecDepth 100000 in
set_option maxHeartbeats 4000000 in
theorem c_TR_init (l : Launch) (D : va_G) (g : Nat → ClassId) (ws : va_W) ( qO0 : Nat) (hN : ws.length = 154) (hO0 : ws[153]? = (some (qO0, .inr (16, [.int 0, .null, .int 0, .int 0, .int 0, .int 0, .null, .int 0, .int 0, .long 0, .null, .int 0, .int 0, .long 0, .long 0, .int 0, .int 0])) : Option (Nat × va_E))) : q_mV l y_TR_init prog_18_method_1_code 1 2 3 9000 D g [.ref qO0] ws (fun u => ∃ (q1 : Nat) (q8 : Nat) (q15 : Nat), q_un ws u [153, 154, 155, 156] ∧ u[153]? = (some (qO0, .inr (16, [.int 0, .ref q1, .int 0, .int 0, .int 0, .int 0, .ref q8, .int 0, .int 0, .long 0, .ref q15, .int 0, .int 0, .long 0, .long 0, .int 0, .int 0])) : Option (Nat × va_E)) ∧ u[154]? = (some (q1, .inl (g 0, 4100, .inl (fun _ => 0))) : Option (Nat × va_E)) ∧ u[155]? = (some (q8, .inl (g 0, 4100, .inl (fun _ => 0))) : Option (Nat × va_E)) ∧ u[156]? = (some (q15, .inl (g 0, 800, .inl (fun _ => 0))) : Option (Nat × va_E)) ∧ u.length = 157) := by
  intro sz
  refine q_into (by decide) (Nat.le_of_ble_eq_true rfl) ?_
  intro p e s m below meth c ls hsz C0 V hl
  have hx := C0.1
  have hb := C0.2.1
  have hl : lv_has ls 1 [(0, .ref qO0)] := hl
  have hF : q_un ws ws [153, 154, 155, 156] := q_u0
  refine lv_aload_n hx hb d_18_1_0 rfl (lv_at hl 0 rfl) ?_
  refine q_obj C0 hl.1 rfl w_2136 w_44 w_45 ⟨by decide, by decide⟩ d_18_1_1 ?_
  refine lv_aload_n hx hb d_18_1_4 rfl (lv_at hl 0 rfl) ?_
  refine lv_sipush (v := 4100) hx hb d_18_1_5 (by decide) ?_
  refine q_newI (N' := 4100) C0 V hN w_107 (by decide) (by decide) (by decide) (Nat.le_of_ble_eq_true rfl) (Nat.le_of_ble_eq_true rfl) d_18_1_8 (fun q1 H w2 hu3 hn4 hN V => ?_)
  have hn0 : w2[154]? = (some (q1, .inl (g 0, 4100, .inl (fun _ => 0))) : Option (Nat × va_E)) := hn4
  replace hF := q_us hF hu3 (.tail _ (.head _))
  replace hN : w2.length = 155 := hN
  replace hO0 := (hu3 _ (q_pd 153 154 rfl)).trans (hO0)
  have ho7 := hO0
  refine q_putF (ci := 16) (j := 1) (v := .ref q1) (ty := .array .int) C0 V i_TR o_TR n_TR rfl rfl rfl rfl rfl hO0 (by decide) w_2139 rfl rfl rfl (Nat.le_of_ble_eq_true rfl) d_18_1_10 (fun H locs w5 hu6 hO0 V => ?_)
  replace hO0 : w5[153]? = (some (qO0, .inr (16, [.int 0, .ref q1, .int 0, .int 0, .int 0, .int 0, .null, .int 0, .int 0, .long 0, .null, .int 0, .int 0, .long 0, .long 0, .int 0, .int 0])) : Option (Nat × va_E)) := hO0
  replace hN : w5.length = 155 := (q_len1 hu6 hO0 ho7).trans hN
  replace hF := q_us hF hu6 (.head _)
  refine lv_aload_n hx hb d_18_1_13 rfl (lv_at hl 0 rfl) ?_
  refine lv_sipush (v := 4100) hx hb d_18_1_14 (by decide) ?_
  refine q_newI (N' := 4100) C0 V hN w_107 (by decide) (by decide) (by decide) (Nat.le_of_ble_eq_true rfl) (Nat.le_of_ble_eq_true rfl) d_18_1_17 (fun q8 H w9 hu10 hn11 hN V => ?_)
  have hn1 : w9[155]? = (some (q8, .inl (g 0, 4100, .inl (fun _ => 0))) : Option (Nat × va_E)) := hn11
  replace hF := q_us hF hu10 (.tail _ (.tail _ (.head _)))
  replace hN : w9.length = 156 := hN
  replace hO0 := (hu10 _ (q_pd 153 155 rfl)).trans (hO0)
  have ho14 := hO0
  refine q_putF (ci := 16) (j := 6) (v := .ref q8) (ty := .array .int) C0 V i_TR o_TR n_TR rfl rfl rfl rfl rfl hO0 (by decide) w_2146 rfl rfl rfl (Nat.le_of_ble_eq_true rfl) d_18_1_19 (fun H locs w12 hu13 hO0 V => ?_)
  replace hO0 : w12[153]? = (some (qO0, .inr (16, [.int 0, .ref q1, .int 0, .int 0, .int 0, .int 0, .ref q8, .int 0, .int 0, .long 0, .null, .int 0, .int 0, .long 0, .long 0, .int 0, .int 0])) : Option (Nat × va_E)) := hO0
  replace hN : w12.length = 156 := (q_len1 hu13 hO0 ho14).trans hN
  replace hF := q_us hF hu13 (.head _)
  refine lv_aload_n hx hb d_18_1_22 rfl (lv_at hl 0 rfl) ?_
  refine lv_sipush (v := 800) hx hb d_18_1_23 (by decide) ?_
  refine q_newI (N' := 800) C0 V hN w_107 (by decide) (by decide) (by decide) (Nat.le_of_ble_eq_true rfl) (Nat.le_of_ble_eq_true rfl) d_18_1_26 (fun q15 H w16 hu17 hn18 hN V => ?_)
  have hn2 : w16[156]? = (some (q15, .inl (g 0, 800, .inl (fun _ => 0))) : Option (Nat × va_E)) := hn18
  replace hF := q_us hF hu17 (List.mem_of_getElem? (i := 3) rfl)
  replace hN : w16.length = 157 := hN
  replace hO0 := (hu17 _ (q_pd 153 156 rfl)).trans (hO0)
  have ho21 := hO0
  refine q_putF (ci := 16) (j := 10) (v := .ref q15) (ty := .array .int) C0 V i_TR o_TR n_TR rfl rfl rfl rfl rfl hO0 (by decide) w_2150 rfl rfl rfl (Nat.le_of_ble_eq_true rfl) d_18_1_28 (fun H locs w19 hu20 hO0 V => ?_)
  replace hO0 : w19[153]? = (some (qO0, .inr (16, [.int 0, .ref q1, .int 0, .int 0, .int 0, .int 0, .ref q8, .int 0, .int 0, .long 0, .ref q15, .int 0, .int 0, .long 0, .long 0, .int 0, .int 0])) : Option (Nat × va_E)) := hO0
  replace hN : w19.length = 157 := (q_len1 hu20 hO0 ho21).trans hN
  replace hF := q_us hF hu20 (.head _)
  replace hn0 := (hu20 _ (q_pd 154 153 rfl)).trans ((hu17 _ (q_pd 154 156 rfl)).trans ((hu13 _ (q_pd 154 153 rfl)).trans ((hu10 _ (q_pd 154 155 rfl)).trans ((hu6 _ (q_pd 154 153 rfl)).trans (hn0)))))
  replace hn1 := (hu20 _ (q_pd 155 153 rfl)).trans ((hu17 _ (q_pd 155 156 rfl)).trans ((hu13 _ (q_pd 155 153 rfl)).trans (hn1)))
  replace hn2 := (hu20 _ (q_pd 156 153 rfl)).trans (hn2)
  exact q_retv C0 V (⟨q1, q8, q15, hF, hO0, hn0, hn1, hn2, hN⟩) d_18_1_31
theorem d_16_1_0 : decode prog_16_method_1_code 0 = .ok (.aload_n 0, 1) := by decide +kernel
theorem d_16_1_1 : decode prog_16_method_1_code 1 = .ok (.invokespecial 1, 3) := by decide +kernel
set_option maxRecDepth 100000 in
theorem w_2197 : (Cond.methodLink "NumberHouseModel$DirectiveRows" (1 : Nat) ({ cls := "java/lang/Object", name := "<init>", desc := "()V" } : MethodName)) ∈ q_tbl := q_of10 37 rfl (by decide +kernel)
theorem d_16_1_4 : decode prog_16_method_1_code 4 = .ok (.aload_n 0, 1) := by decide +kernel
theorem d_16_1_5 : decode prog_16_method_1_code 5 = .ok (.sipush 256, 3) := by decide +kernel
theorem d_16_1_8 : decode prog_16_method_1_code 8 = .ok (.newarray .int, 2) := by decide +kernel
theorem d_16_1_10 : decode prog_16_method_1_code 10 = .ok (.putfield 7, 3) := by decide +kernel
set_option maxRecDepth 100000 in
theorem w_2199 : (Cond.fieldLink "NumberHouseModel$DirectiveRows" (7 : Nat) "NumberHouseModel$DirectiveRows" "format" "[I") ∈ q_tbl := q_of10 39 rfl (by decide +kernel)
theorem d_16_1_13 : decode prog_16_method_1_code 13 = .ok (.aload_n 0, 1) := by decide +kernel
theorem d_16_1_14 : decode prog_16_method_1_code 14 = .ok (.bipush 9, 2) := by decide +kernel
theorem d_16_1_16 : decode prog_16_method_1_code 16 = .ok (.newarray .int, 2) := by decide +kernel
theorem d_16_1_18 : decode prog_16_method_1_code 18 = .ok (.putfield 13, 3) := by decide +kernel
set_option maxRecDepth 100000 in
theorem w_2205 : (Cond.fieldLink "NumberHouseModel$DirectiveRows" (13 : Nat) "NumberHouseModel$DirectiveRows" "kinds" "[I") ∈ q_tbl := q_of10 45 rfl (by decide +kernel)
theorem d_16_1_21 : decode prog_16_method_1_code 21 = .ok (.aload_n 0, 1) := by decide +kernel
theorem d_16_1_22 : decode prog_16_method_1_code 22 = .ok (.bipush 9, 2) := by decide +kernel
theorem d_16_1_24 : decode prog_16_method_1_code 24 = .ok (.newarray .int, 2) := by decide +kernel
theorem d_16_1_26 : decode prog_16_method_1_code 26 = .ok (.putfield 16, 3) := by decide +kernel
set_option maxRecDepth 100000 in
theorem w_2206 : (Cond.fieldLink "NumberHouseModel$DirectiveRows" (16 : Nat) "NumberHouseModel$DirectiveRows" "sizes" "[I") ∈ q_tbl := q_of10 46 rfl (by decide +kernel)
theorem d_16_1_29 : decode prog_16_method_1_code 29 = .ok (.aload_n 0, 1) := by decide +kernel
theorem d_16_1_30 : decode prog_16_method_1_code 30 = .ok (.bipush 9, 2) := by decide +kernel
theorem d_16_1_32 : decode prog_16_method_1_code 32 = .ok (.newarray .long, 2) := by decide +kernel
theorem d_16_1_34 : decode prog_16_method_1_code 34 = .ok (.putfield 19, 3) := by decide +kernel
set_option maxRecDepth 100000 in
theorem w_2207 : (Cond.fieldLink "NumberHouseModel$DirectiveRows" (19 : Nat) "NumberHouseModel$DirectiveRows" "values" "[J") ∈ q_tbl := q_of10 47 rfl (by decide +kernel)
theorem d_16_1_37 : decode prog_16_method_1_code 37 = .ok (.aload_n 0, 1) := by decide +kernel
theorem d_16_1_38 : decode prog_16_method_1_code 38 = .ok (.sipush 576, 3) := by decide +kernel
theorem d_16_1_41 : decode prog_16_method_1_code 41 = .ok (.newarray .int, 2) := by decide +kernel
theorem d_16_1_43 : decode prog_16_method_1_code 43 = .ok (.putfield 23, 3) := by decide +kernel
set_option maxRecDepth 100000 in
theorem w_2208 : (Cond.fieldLink "NumberHouseModel$DirectiveRows" (23 : Nat) "NumberHouseModel$DirectiveRows" "texts" "[I") ∈ q_tbl := q_of10 48 rfl (by decide +kernel)
theorem d_16_1_46 : decode prog_16_method_1_code 46 = .ok (.aload_n 0, 1) := by decide +kernel
theorem d_16_1_47 : decode prog_16_method_1_code 47 = .ok (.sipush 4096, 3) := by decide +kernel
theorem d_16_1_50 : decode prog_16_method_1_code 50 = .ok (.newarray .int, 2) := by decide +kernel
theorem d_16_1_52 : decode prog_16_method_1_code 52 = .ok (.putfield 26, 3) := by decide +kernel
set_option maxRecDepth 100000 in
theorem w_2209 : (Cond.fieldLink "NumberHouseModel$DirectiveRows" (26 : Nat) "NumberHouseModel$DirectiveRows" "paper" "[I") ∈ q_tbl := q_of10 49 rfl (by decide +kernel)
theorem d_16_1_55 : decode prog_16_method_1_code 55 = .ok (.aload_n 0, 1) := by decide +kernel
theorem d_16_1_56 : decode prog_16_method_1_code 56 = .ok (.sipush 4096, 3) := by decide +kernel
theorem d_16_1_59 : decode prog_16_method_1_code 59 = .ok (.newarray .int, 2) := by decide +kernel
theorem d_16_1_61 : decode prog_16_method_1_code 61 = .ok (.putfield 29, 3) := by decide +kernel
set_option maxRecDepth 100000 in
theorem w_2212 : (Cond.fieldLink "NumberHouseModel$DirectiveRows" (29 : Nat) "NumberHouseModel$DirectiveRows" "draft" "[I") ∈ q_tbl := q_of10 52 rfl (by decide +kernel)
theorem d_16_1_64 : decode prog_16_method_1_code 64 = .ok (.aload_n 0, 1) := by decide +kernel
theorem d_16_1_65 : decode prog_16_method_1_code 65 = .ok (.iconst (-1), 1) := by decide +kernel
theorem d_16_1_66 : decode prog_16_method_1_code 66 = .ok (.putfield 32, 3) := by decide +kernel
set_option maxRecDepth 100000 in
theorem w_2216 : (Cond.fieldLink "NumberHouseModel$DirectiveRows" (32 : Nat) "NumberHouseModel$DirectiveRows" "place" "I") ∈ q_tbl := q_of10 56 rfl (by decide +kernel)
theorem d_16_1_69 : decode prog_16_method_1_code 69 = .ok (.aload_n 0, 1) := by decide +kernel
theorem d_16_1_70 : decode prog_16_method_1_code 70 = .ok (.sipush 20200, 3) := by decide +kernel
theorem d_16_1_73 : decode prog_16_method_1_code 73 = .ok (.newarray .int, 2) := by decide +kernel
theorem d_16_1_75 : decode prog_16_method_1_code 75 = .ok (.putfield 36, 3) := by decide +kernel
set_option maxRecDepth 100000 in
theorem w_2228 : (Cond.fieldLink "NumberHouseModel$DirectiveRows" (36 : Nat) "NumberHouseModel$DirectiveRows" "piece" "[I") ∈ q_tbl := q_of10 68 rfl (by decide +kernel)
theorem d_16_1_78 : decode prog_16_method_1_code 78 = .ok (.aload_n 0, 1) := by decide +kernel
theorem d_16_1_79 : decode prog_16_method_1_code 79 = .ok (.bipush 64, 2) := by decide +kernel
theorem d_16_1_81 : decode prog_16_method_1_code 81 = .ok (.newarray .int, 2) := by decide +kernel
theorem d_16_1_83 : decode prog_16_method_1_code 83 = .ok (.putfield 39, 3) := by decide +kernel
set_option maxRecDepth 100000 in
theorem w_2232 : (Cond.fieldLink "NumberHouseModel$DirectiveRows" (39 : Nat) "NumberHouseModel$DirectiveRows" "figures" "[I") ∈ q_tbl := q_of10 72 rfl (by decide +kernel)
theorem d_16_1_86 : decode prog_16_method_1_code 86 = .ok (.return_, 1) := by decide +kernel
def y_VR_init : MethodName := ⟨"NumberHouseModel$DirectiveRows", "<init>", "()V"⟩
set_option maxRecDepth 100000 in
set_option maxHeartbeats 4000000 in
theorem c_VR_init (l : Launch) (D : va_G) (g : Nat → ClassId) (ws : va_W) ( qO0 : Nat) (hN : ws.length = 158) (hO0 : ws[157]? = (some (qO0, .inr (17, [.int 0, .null, .int 0, .int 0, .null, .null, .null, .null, .null, .int 0, .null, .int 0, .int 0, .int 0, .int 0, .int 0, .int 0, .int 0, .int 0, .int 0, .int 0, .int 0, .int 0, .int 0, .null, .int 0, .int 0, .int 0, .null, .int 0, .int 0])) : Option (Nat × va_E))) : q_mV l y_VR_init prog_16_method_1_code 1 2 9 29315 D g [.ref qO0] ws (fun u => ∃ (q1 : Nat) (q8 : Nat) (q15 : Nat) (q22 : Nat) (q29 : Nat) (q36 : Nat) (q43 : Nat) (q53 : Nat) (q60 : Nat), q_un ws u [157, 158, 159, 160, 161, 162, 163, 164, 165, 166] ∧ u[157]? = (some (qO0, .inr (17, [.int 0, .ref q1, .int 0, .int 0, .ref q8, .ref q15, .ref q22, .ref q29, .ref q36, .int 0, .ref q43, .int 0, .int 0, .int (-1), .int 0, .int 0, .int 0, .int 0, .int 0, .int 0, .int 0, .int 0, .int 0, .int 0, .ref q53, .int 0, .int 0, .int 0, .ref q60, .int 0, .int 0])) : Option (Nat × va_E)) ∧ u[158]? = (some (q1, .inl (g 0, 256, .inl (fun _ => 0))) : Option (Nat × va_E)) ∧ u[159]? = (some (q8, .inl (g 0, 9, .inl (fun _ => 0))) : Option (Nat × va_E)) ∧ u[160]? = (some (q15, .inl (g 0, 9, .inl (fun _ => 0))) : Option (Nat × va_E)) ∧ u[161]? = (some (q22, .inl (g 1, 9, .inr (.inl (fun _ => 0)))) : Option (Nat × va_E)) ∧ u[162]? = (some (q29, .inl (g 0, 576, .inl (fun _ => 0))) : Option (Nat × va_E)) ∧ u[163]? = (some (q36, .inl (g 0, 4096, .inl (fun _ => 0))) : Option (Nat × va_E)) ∧ u[164]? = (some (q43, .inl (g 0, 4096, .inl (fun _ => 0))) : Option (Nat × va_E)) ∧ u[165]? = (some (q53, .inl (g 0, 20200, .inl (fun _ => 0))) : Option (Nat × va_E)) ∧ u[166]? = (some (q60, .inl (g 0, 64, .inl (fun _ => 0))) : Option (Nat × va_E)) ∧ u.length = 167) := by
  intro sz
  refine q_into (by decide) (Nat.le_of_ble_eq_true rfl) ?_
  intro p e s m below meth c ls hsz C0 V hl
  have hx := C0.1
  have hb := C0.2.1
  have hl : lv_has ls 1 [(0, .ref qO0)] := hl
  have hF : q_un ws ws [157, 158, 159, 160, 161, 162, 163, 164, 165, 166] := q_u0
  refine lv_aload_n hx hb d_16_1_0 rfl (lv_at hl 0 rfl) ?_
  refine q_obj C0 hl.1 rfl w_2197 w_44 w_45 ⟨by decide, by decide⟩ d_16_1_1 ?_
  refine lv_aload_n hx hb d_16_1_4 rfl (lv_at hl 0 rfl) ?_
  refine lv_sipush (v := 256) hx hb d_16_1_5 (by decide) ?_
  refine q_newI (N' := 256) C0 V hN w_107 (by decide) (by decide) (by decide) (Nat.le_of_ble_eq_true rfl) (Nat.le_of_ble_eq_true rfl) d_16_1_8 (fun q1 H w2 hu3 hn4 hN V => ?_)
  have hn0 : w2[158]? = (some (q1, .inl (g 0, 256, .inl (fun _ => 0))) : Option (Nat × va_E)) := hn4
  replace hF := q_us hF hu3 (.tail _ (.head _))
  replace hN : w2.length = 159 := hN
  replace hO0 := (hu3 _ (q_pd 157 158 rfl)).trans (hO0)
  have ho7 := hO0
  refine q_putF (ci := 17) (j := 1) (v := .ref q1) (ty := .array .int) C0 V i_VR o_VR n_VR rfl rfl rfl rfl rfl hO0 (by decide) w_2199 rfl rfl rfl (Nat.le_of_ble_eq_true rfl) d_16_1_10 (fun H locs w5 hu6 hO0 V => ?_)
  replace hO0 : w5[157]? = (some (qO0, .inr (17, [.int 0, .ref q1, .int 0, .int 0, .null, .null, .null, .null, .null, .int 0, .null, .int 0, .int 0, .int 0, .int 0, .int 0, .int 0, .int 0, .int 0, .int 0, .int 0, .int 0, .int 0, .int 0, .null, .int 0, .int 0, .int 0, .null, .int 0, .int 0])) : Option (Nat × va_E)) := hO0
  replace hN : w5.length = 159 := (q_len1 hu6 hO0 ho7).trans hN
  replace hF := q_us hF hu6 (.head _)
  refine lv_aload_n hx hb d_16_1_13 rfl (lv_at hl 0 rfl) ?_
  refine lv_bipush (v := 9) hx hb d_16_1_14 (by decide) ?_
  refine q_newI (N' := 9) C0 V hN w_107 (by decide) (by decide) (by decide) (Nat.le_of_ble_eq_true rfl) (Nat.le_of_ble_eq_true rfl) d_16_1_16 (fun q8 H w9 hu10 hn11 hN V => ?_)
  have hn1 : w9[159]? = (some (q8, .inl (g 0, 9, .inl (fun _ => 0))) : Option (Nat × va_E)) := hn11
  replace hF := q_us hF hu10 (.tail _ (.tail _ (.head _)))
  replace hN : w9.length = 160 := hN
  replace hO0 := (hu10 _ (q_pd 157 159 rfl)).trans (hO0)
  have ho14 := hO0
  refine q_putF (ci := 17) (j := 4) (v := .ref q8) (ty := .array .int) C0 V i_VR o_VR n_VR rfl rfl rfl rfl rfl hO0 (by decide) w_2205 rfl rfl rfl (Nat.le_of_ble_eq_true rfl) d_16_1_18 (fun H locs w12 hu13 hO0 V => ?_)
  replace hO0 : w12[157]? = (some (qO0, .inr (17, [.int 0, .ref q1, .int 0, .int 0, .ref q8, .null, .null, .null, .null, .int 0, .null, .int 0, .int 0, .int 0, .int 0, .int 0, .int 0, .int 0, .int 0, .int 0, .int 0, .int 0, .int 0, .int 0, .null, .int 0, .int 0, .int 0, .null, .int 0, .int 0])) : Option (Nat × va_E)) := hO0
  replace hN : w12.length = 160 := (q_len1 hu13 hO0 ho14).trans hN
  replace hF := q_us hF hu13 (.head _)
  refine lv_aload_n hx hb d_16_1_21 rfl (lv_at hl 0 rfl) ?_
  refine lv_bipush (v := 9) hx hb d_16_1_22 (by decide) ?_
  refine q_newI (N' := 9) C0 V hN w_107 (by decide) (by decide) (by decide) (Nat.le_of_ble_eq_true rfl) (Nat.le_of_ble_eq_true rfl) d_16_1_24 (fun q15 H w16 hu17 hn18 hN V => ?_)
  have hn2 : w16[160]? = (some (q15, .inl (g 0, 9, .inl (fun _ => 0))) : Option (Nat × va_E)) := hn18
  replace hF := q_us hF hu17 (List.mem_of_getElem? (i := 3) rfl)
  replace hN : w16.length = 161 := hN
  replace hO0 := (hu17 _ (q_pd 157 160 rfl)).trans (hO0)
  have ho21 := hO0
  refine q_putF (ci := 17) (j := 5) (v := .ref q15) (ty := .array .int) C0 V i_VR o_VR n_VR rfl rfl rfl rfl rfl hO0 (by decide) w_2206 rfl rfl rfl (Nat.le_of_ble_eq_true rfl) d_16_1_26 (fun H locs w19 hu20 hO0 V => ?_)
  replace hO0 : w19[157]? = (some (qO0, .inr (17, [.int 0, .ref q1, .int 0, .int 0, .ref q8, .ref q15, .null, .null, .null, .int 0, .null, .int 0, .int 0, .int 0, .int 0, .int 0, .int 0, .int 0, .int 0, .int 0, .int 0, .int 0, .int 0, .int 0, .null, .int 0, .int 0, .int 0, .null, .int 0, .int 0])) : Option (Nat × va_E)) := hO0
  replace hN : w19.length = 161 := (q_len1 hu20 hO0 ho21).trans hN
  replace hF := q_us hF hu20 (.head _)
  refine lv_aload_n hx hb d_16_1_29 rfl (lv_at hl 0 rfl) ?_
  refine lv_bipush (v := 9) hx hb d_16_1_30 (by decide) ?_
  refine q_newL (N' := 9) C0 V hN w_67 (by decide) (by decide) (by decide) (Nat.le_of_ble_eq_true rfl) (Nat.le_of_ble_eq_true rfl) d_16_1_32 (fun q22 H w23 hu24 hn25 hN V => ?_)
  have hn3 : w23[161]? = (some (q22, .inl (g 1, 9, .inr (.inl (fun _ => 0)))) : Option (Nat × va_E)) := hn25
  replace hF := q_us hF hu24 (List.mem_of_getElem? (i := 4) rfl)
  replace hN : w23.length = 162 := hN
  replace hO0 := (hu24 _ (q_pd 157 161 rfl)).trans (hO0)
  have ho28 := hO0
  refine q_putF (ci := 17) (j := 6) (v := .ref q22) (ty := .array .long) C0 V i_VR o_VR n_VR rfl rfl rfl rfl rfl hO0 (by decide) w_2207 rfl rfl rfl (Nat.le_of_ble_eq_true rfl) d_16_1_34 (fun H locs w26 hu27 hO0 V => ?_)
  replace hO0 : w26[157]? = (some (qO0, .inr (17, [.int 0, .ref q1, .int 0, .int 0, .ref q8, .ref q15, .ref q22, .null, .null, .int 0, .null, .int 0, .int 0, .int 0, .int 0, .int 0, .int 0, .int 0, .int 0, .int 0, .int 0, .int 0, .int 0, .int 0, .null, .int 0, .int 0, .int 0, .null, .int 0, .int 0])) : Option (Nat × va_E)) := hO0
  replace hN : w26.length = 162 := (q_len1 hu27 hO0 ho28).trans hN
  replace hF := q_us hF hu27 (.head _)
  refine lv_aload_n hx hb d_16_1_37 rfl (lv_at hl 0 rfl) ?_
  refine lv_sipush (v := 576) hx hb d_16_1_38 (by decide) ?_
  refine q_newI (N' := 576) C0 V hN w_107 (by decide) (by decide) (by decide) (Nat.le_of_ble_eq_true rfl) (Nat.le_of_ble_eq_true rfl) d_16_1_41 (fun q29 H w30 hu31 hn32 hN V => ?_)
  have hn4 : w30[162]? = (some (q29, .inl (g 0, 576, .inl (fun _ => 0))) : Option (Nat × va_E)) := hn32
  replace hF := q_us hF hu31 (List.mem_of_getElem? (i := 5) rfl)
  replace hN : w30.length = 163 := hN
  replace hO0 := (hu31 _ (q_pd 157 162 rfl)).trans (hO0)
  have ho35 := hO0
  refine q_putF (ci := 17) (j := 7) (v := .ref q29) (ty := .array .int) C0 V i_VR o_VR n_VR rfl rfl rfl rfl rfl hO0 (by decide) w_2208 rfl rfl rfl (Nat.le_of_ble_eq_true rfl) d_16_1_43 (fun H locs w33 hu34 hO0 V => ?_)
  replace hO0 : w33[157]? = (some (qO0, .inr (17, [.int 0, .ref q1, .int 0, .int 0, .ref q8, .ref q15, .ref q22, .ref q29, .null, .int 0, .null, .int 0, .int 0, .int 0, .int 0, .int 0, .int 0, .int 0, .int 0, .int 0, .int 0, .int 0, .int 0, .int 0, .null, .int 0, .int 0, .int 0, .null, .int 0, .int 0])) : Option (Nat × va_E)) := hO0
  replace hN : w33.length = 163 := (q_len1 hu34 hO0 ho35).trans hN
  replace hF := q_us hF hu34 (.head _)
  refine lv_aload_n hx hb d_16_1_46 rfl (lv_at hl 0 rfl) ?_
  refine lv_sipush (v := 4096) hx hb d_16_1_47 (by decide) ?_
  refine q_newI (N' := 4096) C0 V hN w_107 (by decide) (by decide) (by decide) (Nat.le_of_ble_eq_true rfl) (Nat.le_of_ble_eq_true rfl) d_16_1_50 (fun q36 H w37 hu38 hn39 hN V => ?_)
  have hn5 : w37[163]? = (some (q36, .inl (g 0, 4096, .inl (fun _ => 0))) : Option (Nat × va_E)) := hn39
  replace hF := q_us hF hu38 (List.mem_of_getElem? (i := 6) rfl)
  replace hN : w37.length = 164 := hN
  replace hO0 := (hu38 _ (q_pd 157 163 rfl)).trans (hO0)
  have ho42 := hO0
  refine q_putF (ci := 17) (j := 8) (v := .ref q36) (ty := .array .int) C0 V i_VR o_VR n_VR rfl rfl rfl rfl rfl hO0 (by decide) w_2209 rfl rfl rfl (Nat.le_of_ble_eq_true rfl) d_16_1_52 (fun H locs w40 hu41 hO0 V => ?_)
  replace hO0 : w40[157]? = (some (qO0, .inr (17, [.int 0, .ref q1, .int 0, .int 0, .ref q8, .ref q15, .ref q22, .ref q29, .ref q36, .int 0, .null, .int 0, .int 0, .int 0, .int 0, .int 0, .int 0, .int 0, .int 0, .int 0, .int 0, .int 0, .int 0, .int 0, .null, .int 0, .int 0, .int 0, .null, .int 0, .int 0])) : Option (Nat × va_E)) := hO0
  replace hN : w40.length = 164 := (q_len1 hu41 hO0 ho42).trans hN
  replace hF := q_us hF hu41 (.head _)
  refine lv_aload_n hx hb d_16_1_55 rfl (lv_at hl 0 rfl) ?_
  refine lv_sipush (v := 4096) hx hb d_16_1_56 (by decide) ?_
  refine q_newI (N' := 4096) C0 V hN w_107 (by decide) (by decide) (by decide) (Nat.le_of_ble_eq_true rfl) (Nat.le_of_ble_eq_true rfl) d_16_1_59 (fun q43 H w44 hu45 hn46 hN V => ?_)
  have hn6 : w44[164]? = (some (q43, .inl (g 0, 4096, .inl (fun _ => 0))) : Option (Nat × va_E)) := hn46
  replace hF := q_us hF hu45 (List.mem_of_getElem? (i := 7) rfl)
  replace hN : w44.length = 165 := hN
  replace hO0 := (hu45 _ (q_pd 157 164 rfl)).trans (hO0)
  have ho49 := hO0
  refine q_putF (ci := 17) (j := 10) (v := .ref q43) (ty := .array .int) C0 V i_VR o_VR n_VR rfl rfl rfl rfl rfl hO0 (by decide) w_2212 rfl rfl rfl (Nat.le_of_ble_eq_true rfl) d_16_1_61 (fun H locs w47 hu48 hO0 V => ?_)
  replace hO0 : w47[157]? = (some (qO0, .inr (17, [.int 0, .ref q1, .int 0, .int 0, .ref q8, .ref q15, .ref q22, .ref q29, .ref q36, .int 0, .ref q43, .int 0, .int 0, .int 0, .int 0, .int 0, .int 0, .int 0, .int 0, .int 0, .int 0, .int 0, .int 0, .int 0, .null, .int 0, .int 0, .int 0, .null, .int 0, .int 0])) : Option (Nat × va_E)) := hO0
  replace hN : w47.length = 165 := (q_len1 hu48 hO0 ho49).trans hN
  replace hF := q_us hF hu48 (.head _)
  refine lv_aload_n hx hb d_16_1_64 rfl (lv_at hl 0 rfl) ?_
  refine lv_iconst (v := (-1)) hx hb d_16_1_65 (by decide) ?_
  have ho52 := hO0
  refine q_put (ci := 17) (j := 13) (v := .int (-1)) (ty := .int) C0 V i_VR o_VR n_VR rfl rfl hO0 (by decide) w_2216 rfl rfl rfl rfl (Nat.le_of_ble_eq_true rfl) d_16_1_66 (fun H locs w50 hu51 hO0 V => ?_)
  replace hO0 : w50[157]? = (some (qO0, .inr (17, [.int 0, .ref q1, .int 0, .int 0, .ref q8, .ref q15, .ref q22, .ref q29, .ref q36, .int 0, .ref q43, .int 0, .int 0, .int (-1), .int 0, .int 0, .int 0, .int 0, .int 0, .int 0, .int 0, .int 0, .int 0, .int 0, .null, .int 0, .int 0, .int 0, .null, .int 0, .int 0])) : Option (Nat × va_E)) := hO0
  replace hN : w50.length = 165 := (q_len1 hu51 hO0 ho52).trans hN
  replace hF := q_us hF hu51 (.head _)
  refine lv_aload_n hx hb d_16_1_69 rfl (lv_at hl 0 rfl) ?_
  refine lv_sipush (v := 20200) hx hb d_16_1_70 (by decide) ?_
  refine q_newI (N' := 20200) C0 V hN w_107 (by decide) (by decide) (by decide) (Nat.le_of_ble_eq_true rfl) (Nat.le_of_ble_eq_true rfl) d_16_1_73 (fun q53 H w54 hu55 hn56 hN V => ?_)
  have hn7 : w54[165]? = (some (q53, .inl (g 0, 20200, .inl (fun _ => 0))) : Option (Nat × va_E)) := hn56
  replace hF := q_us hF hu55 (List.mem_of_getElem? (i := 8) rfl)
  replace hN : w54.length = 166 := hN
  replace hO0 := (hu55 _ (q_pd 157 165 rfl)).trans (hO0)
  have ho59 := hO0
  refine q_putF (ci := 17) (j := 24) (v := .ref q53) (ty := .array .int) C0 V i_VR o_VR n_VR rfl rfl rfl rfl rfl hO0 (by decide) w_2228 rfl rfl rfl (Nat.le_of_ble_eq_true rfl) d_16_1_75 (fun H locs w57 hu58 hO0 V => ?_)
  replace hO0 : w57[157]? = (some (qO0, .inr (17, [.int 0, .ref q1, .int 0, .int 0, .ref q8, .ref q15, .ref q22, .ref q29, .ref q36, .int 0, .ref q43, .int 0, .int 0, .int (-1), .int 0, .int 0, .int 0, .int 0, .int 0, .int 0, .int 0, .int 0, .int 0, .int 0, .ref q53, .int 0, .int 0, .int 0, .null, .int 0, .int 0])) : Option (Nat × va_E)) := hO0
  replace hN : w57.length = 166 := (q_len1 hu58 hO0 ho59).trans hN
  replace hF := q_us hF hu58 (.head _)
  refine lv_aload_n hx hb d_16_1_78 rfl (lv_at hl 0 rfl) ?_
  refine lv_bipush (v := 64) hx hb d_16_1_79 (by decide) ?_
  refine q_newI (N' := 64) C0 V hN w_107 (by decide) (by decide) (by decide) (Nat.le_of_ble_eq_true rfl) (Nat.le_of_ble_eq_true rfl) d_16_1_81 (fun q60 H w61 hu62 hn63 hN V => ?_)
  have hn8 : w61[166]? = (some (q60, .inl (g 0, 64, .inl (fun _ => 0))) : Option (Nat × va_E)) := hn63
  replace hF := q_us hF hu62 (List.mem_of_getElem? (i := 9) rfl)
  replace hN : w61.length = 167 := hN
  replace hO0 := (hu62 _ (q_pd 157 166 rfl)).trans (hO0)
  have ho66 := hO0
  refine q_putF (ci := 17) (j := 28) (v := .ref q60) (ty := .array .int) C0 V i_VR o_VR n_VR rfl rfl rfl rfl rfl hO0 (by decide) w_2232 rfl rfl rfl (Nat.le_of_ble_eq_true rfl) d_16_1_83 (fun H locs w64 hu65 hO0 V => ?_)
  replace hO0 : w64[157]? = (some (qO0, .inr (17, [.int 0, .ref q1, .int 0, .int 0, .ref q8, .ref q15, .ref q22, .ref q29, .ref q36, .int 0, .ref q43, .int 0, .int 0, .int (-1), .int 0, .int 0, .int 0, .int 0, .int 0, .int 0, .int 0, .int 0, .int 0, .int 0, .ref q53, .int 0, .int 0, .int 0, .ref q60, .int 0, .int 0])) : Option (Nat × va_E)) := hO0
  replace hN : w64.length = 167 := (q_len1 hu65 hO0 ho66).trans hN
  replace hF := q_us hF hu65 (.head _)
  replace hn0 := (hu65 _ (q_pd 158 157 rfl)).trans ((hu62 _ (q_pd 158 166 rfl)).trans ((hu58 _ (q_pd 158 157 rfl)).trans ((hu55 _ (q_pd 158 165 rfl)).trans ((hu51 _ (q_pd 158 157 rfl)).trans ((hu48 _ (q_pd 158 157 rfl)).trans ((hu45 _ (q_pd 158 164 rfl)).trans ((hu41 _ (q_pd 158 157 rfl)).trans ((hu38 _ (q_pd 158 163 rfl)).trans ((hu34 _ (q_pd 158 157 rfl)).trans ((hu31 _ (q_pd 158 162 rfl)).trans ((hu27 _ (q_pd 158 157 rfl)).trans ((hu24 _ (q_pd 158 161 rfl)).trans ((hu20 _ (q_pd 158 157 rfl)).trans ((hu17 _ (q_pd 158 160 rfl)).trans ((hu13 _ (q_pd 158 157 rfl)).trans ((hu10 _ (q_pd 158 159 rfl)).trans ((hu6 _ (q_pd 158 157 rfl)).trans (hn0))))))))))))))))))
  replace hn1 := (hu65 _ (q_pd 159 157 rfl)).trans ((hu62 _ (q_pd 159 166 rfl)).trans ((hu58 _ (q_pd 159 157 rfl)).trans ((hu55 _ (q_pd 159 165 rfl)).trans ((hu51 _ (q_pd 159 157 rfl)).trans ((hu48 _ (q_pd 159 157 rfl)).trans ((hu45 _ (q_pd 159 164 rfl)).trans ((hu41 _ (q_pd 159 157 rfl)).trans ((hu38 _ (q_pd 159 163 rfl)).trans ((hu34 _ (q_pd 159 157 rfl)).trans ((hu31 _ (q_pd 159 162 rfl)).trans ((hu27 _ (q_pd 159 157 rfl)).trans ((hu24 _ (q_pd 159 161 rfl)).trans ((hu20 _ (q_pd 159 157 rfl)).trans ((hu17 _ (q_pd 159 160 rfl)).trans ((hu13 _ (q_pd 159 157 rfl)).trans (hn1))))))))))))))))
  replace hn2 := (hu65 _ (q_pd 160 157 rfl)).trans ((hu62 _ (q_pd 160 166 rfl)).trans ((hu58 _ (q_pd 160 157 rfl)).trans ((hu55 _ (q_pd 160 165 rfl)).trans ((hu51 _ (q_pd 160 157 rfl)).trans ((hu48 _ (q_pd 160 157 rfl)).trans ((hu45 _ (q_pd 160 164 rfl)).trans ((hu41 _ (q_pd 160 157 rfl)).trans ((hu38 _ (q_pd 160 163 rfl)).trans ((hu34 _ (q_pd 160 157 rfl)).trans ((hu31 _ (q_pd 160 162 rfl)).trans ((hu27 _ (q_pd 160 157 rfl)).trans ((hu24 _ (q_pd 160 161 rfl)).trans ((hu20 _ (q_pd 160 157 rfl)).trans (hn2))))))))))))))
  replace hn3 := (hu65 _ (q_pd 161 157 rfl)).trans ((hu62 _ (q_pd 161 166 rfl)).trans ((hu58 _ (q_pd 161 157 rfl)).trans ((hu55 _ (q_pd 161 165 rfl)).trans ((hu51 _ (q_pd 161 157 rfl)).trans ((hu48 _ (q_pd 161 157 rfl)).trans ((hu45 _ (q_pd 161 164 rfl)).trans ((hu41 _ (q_pd 161 157 rfl)).trans ((hu38 _ (q_pd 161 163 rfl)).trans ((hu34 _ (q_pd 161 157 rfl)).trans ((hu31 _ (q_pd 161 162 rfl)).trans ((hu27 _ (q_pd 161 157 rfl)).trans (hn3))))))))))))
  replace hn4 := (hu65 _ (q_pd 162 157 rfl)).trans ((hu62 _ (q_pd 162 166 rfl)).trans ((hu58 _ (q_pd 162 157 rfl)).trans ((hu55 _ (q_pd 162 165 rfl)).trans ((hu51 _ (q_pd 162 157 rfl)).trans ((hu48 _ (q_pd 162 157 rfl)).trans ((hu45 _ (q_pd 162 164 rfl)).trans ((hu41 _ (q_pd 162 157 rfl)).trans ((hu38 _ (q_pd 162 163 rfl)).trans ((hu34 _ (q_pd 162 157 rfl)).trans (hn4))))))))))
  replace hn5 := (hu65 _ (q_pd 163 157 rfl)).trans ((hu62 _ (q_pd 163 166 rfl)).trans ((hu58 _ (q_pd 163 157 rfl)).trans ((hu55 _ (q_pd 163 165 rfl)).trans ((hu51 _ (q_pd 163 157 rfl)).trans ((hu48 _ (q_pd 163 157 rfl)).trans ((hu45 _ (q_pd 163 164 rfl)).trans ((hu41 _ (q_pd 163 157 rfl)).trans (hn5))))))))
  replace hn6 := (hu65 _ (q_pd 164 157 rfl)).trans ((hu62 _ (q_pd 164 166 rfl)).trans ((hu58 _ (q_pd 164 157 rfl)).trans ((hu55 _ (q_pd 164 165 rfl)).trans ((hu51 _ (q_pd 164 157 rfl)).trans ((hu48 _ (q_pd 164 157 rfl)).trans (hn6))))))
  replace hn7 := (hu65 _ (q_pd 165 157 rfl)).trans ((hu62 _ (q_pd 165 166 rfl)).trans ((hu58 _ (q_pd 165 157 rfl)).trans (hn7)))
  replace hn8 := (hu65 _ (q_pd 166 157 rfl)).trans (hn8)
  exact q_retv C0 V (⟨q1, q8, q15, q22, q29, q36, q43, q53, q60, hF, hO0, hn0, hn1, hn2, hn3, hn4, hn5, hn6, hn7, hn8, hN⟩) d_16_1_86
theorem d_14_1_0 : decode prog_14_method_1_code 0 = .ok (.aload_n 0, 1) := by decide +kernel
theorem d_14_1_1 : decode prog_14_method_1_code 1 = .ok (.invokespecial 1, 3) := by decide +kernel
set_option maxRecDepth 100000 in
theorem w_1914 : (Cond.methodLink "NumberHouseModel" (1 : Nat) ({ cls := "java/lang/Object", name := "<init>", desc := "()V" } : MethodName)) ∈ q_tbl := q_of8 234 rfl (by decide +kernel)
theorem d_14_1_4 : decode prog_14_method_1_code 4 = .ok (.aload_n 0, 1) := by decide +kernel
theorem d_14_1_5 : decode prog_14_method_1_code 5 = .ok (.sipush 4100, 3) := by decide +kernel
theorem d_14_1_8 : decode prog_14_method_1_code 8 = .ok (.newarray .int, 2) := by decide +kernel
theorem d_14_1_10 : decode prog_14_method_1_code 10 = .ok (.putfield 7, 3) := by decide +kernel
set_option maxRecDepth 100000 in
theorem w_2299 : (Cond.fieldLink "NumberHouseModel" (7 : Nat) "NumberHouseModel" "tape" "[I") ∈ q_tbl := q_of10 139 rfl (by decide +kernel)
theorem d_14_1_13 : decode prog_14_method_1_code 13 = .ok (.aload_n 0, 1) := by decide +kernel
theorem d_14_1_14 : decode prog_14_method_1_code 14 = .ok (.sipush 12200, 3) := by decide +kernel
theorem d_14_1_17 : decode prog_14_method_1_code 17 = .ok (.newarray .int, 2) := by decide +kernel
theorem d_14_1_19 : decode prog_14_method_1_code 19 = .ok (.putfield 13, 3) := by decide +kernel
set_option maxRecDepth 100000 in
theorem w_2301 : (Cond.fieldLink "NumberHouseModel" (13 : Nat) "NumberHouseModel" "paper" "[I") ∈ q_tbl := q_of10 141 rfl (by decide +kernel)
theorem d_14_1_22 : decode prog_14_method_1_code 22 = .ok (.aload_n 0, 1) := by decide +kernel
theorem d_14_1_23 : decode prog_14_method_1_code 23 = .ok (.new 16, 3) := by decide +kernel
set_option maxRecDepth 100000 in
theorem w_1915 : (Cond.classLink "NumberHouseModel" (16 : Nat) "NumberHouseModel$WholeRows") ∈ q_tbl := q_of8 235 rfl (by decide +kernel)
set_option maxRecDepth 100000 in
theorem w_1916 : (Cond.instantiable "NumberHouseModel$WholeRows" (21 : Nat)) ∈ q_tbl := q_of8 236 rfl (by decide +kernel)
set_option maxRecDepth 100000 in
theorem w_15 : (Cond.initialized "NumberHouseModel$WholeRows") ∈ q_tbl := q_of1 15 rfl (by decide +kernel)
theorem d_14_1_26 : decode prog_14_method_1_code 26 = .ok (.dup, 1) := by decide +kernel
theorem d_14_1_27 : decode prog_14_method_1_code 27 = .ok (.invokespecial 18, 3) := by decide +kernel
set_option maxRecDepth 100000 in
theorem w_1919 : (Cond.code ({ cls := "NumberHouseModel$WholeRows", name := "<init>", desc := "()V" } : MethodName) prog_19_method_1_code (1 : Nat) (none : Option ClassFile.FieldType)) ∈ q_tbl := q_of8 239 rfl (by decide +kernel)
set_option maxRecDepth 100000 in
theorem w_1917 : (Cond.methodLink "NumberHouseModel" (18 : Nat) ({ cls := "NumberHouseModel$WholeRows", name := "<init>", desc := "()V" } : MethodName)) ∈ q_tbl := q_of8 237 rfl (by decide +kernel)
set_option maxRecDepth 100000 in
theorem w_1918 : (Cond.instanceMethod ({ cls := "NumberHouseModel$WholeRows", name := "<init>", desc := "()V" } : MethodName)) ∈ q_tbl := q_of8 238 rfl (by decide +kernel)
theorem LI_NM_18 : q_LI "NumberHouseModel" 18 y_WR_init prog_19_method_1_code 1 0 := ⟨w_1919, w_15, w_1917, w_1918, rfl, ⟨by decide, by decide, by decide +kernel⟩⟩
theorem d_14_1_30 : decode prog_14_method_1_code 30 = .ok (.putfield 19, 3) := by decide +kernel
set_option maxRecDepth 100000 in
theorem w_2303 : (Cond.fieldLink "NumberHouseModel" (19 : Nat) "NumberHouseModel" "wholes" "LNumberHouseModel$WholeRows;") ∈ q_tbl := q_of10 143 rfl (by decide +kernel)
theorem d_14_1_33 : decode prog_14_method_1_code 33 = .ok (.aload_n 0, 1) := by decide +kernel
theorem d_14_1_34 : decode prog_14_method_1_code 34 = .ok (.new 23, 3) := by decide +kernel
set_option maxRecDepth 100000 in
theorem w_1990 : (Cond.classLink "NumberHouseModel" (23 : Nat) "NumberHouseModel$DecimalRows") ∈ q_tbl := q_of9 70 rfl (by decide +kernel)
set_option maxRecDepth 100000 in
theorem w_1991 : (Cond.instantiable "NumberHouseModel$DecimalRows" (21 : Nat)) ∈ q_tbl := q_of9 71 rfl (by decide +kernel)
set_option maxRecDepth 100000 in
theorem w_16 : (Cond.initialized "NumberHouseModel$DecimalRows") ∈ q_tbl := q_of1 16 rfl (by decide +kernel)
theorem d_14_1_37 : decode prog_14_method_1_code 37 = .ok (.dup, 1) := by decide +kernel
theorem d_14_1_38 : decode prog_14_method_1_code 38 = .ok (.invokespecial 25, 3) := by decide +kernel
set_option maxRecDepth 100000 in
theorem w_1994 : (Cond.code ({ cls := "NumberHouseModel$DecimalRows", name := "<init>", desc := "()V" } : MethodName) prog_15_method_1_code (2 : Nat) (none : Option ClassFile.FieldType)) ∈ q_tbl := q_of9 74 rfl (by decide +kernel)
set_option maxRecDepth 100000 in
theorem w_1992 : (Cond.methodLink "NumberHouseModel" (25 : Nat) ({ cls := "NumberHouseModel$DecimalRows", name := "<init>", desc := "()V" } : MethodName)) ∈ q_tbl := q_of9 72 rfl (by decide +kernel)
set_option maxRecDepth 100000 in
theorem w_1993 : (Cond.instanceMethod ({ cls := "NumberHouseModel$DecimalRows", name := "<init>", desc := "()V" } : MethodName)) ∈ q_tbl := q_of9 73 rfl (by decide +kernel)
theorem LI_NM_25 : q_LI "NumberHouseModel" 25 y_DR_init prog_15_method_1_code 2 0 := ⟨w_1994, w_16, w_1992, w_1993, rfl, ⟨by decide, by decide, by decide +kernel⟩⟩
theorem d_14_1_41 : decode prog_14_method_1_code 41 = .ok (.putfield 26, 3) := by decide +kernel
set_option maxRecDepth 100000 in
theorem w_2304 : (Cond.fieldLink "NumberHouseModel" (26 : Nat) "NumberHouseModel" "decimals" "LNumberHouseModel$DecimalRows;") ∈ q_tbl := q_of10 144 rfl (by decide +kernel)
theorem d_14_1_44 : decode prog_14_method_1_code 44 = .ok (.aload_n 0, 1) := by decide +kernel
theorem d_14_1_45 : decode prog_14_method_1_code 45 = .ok (.new 30, 3) := by decide +kernel
set_option maxRecDepth 100000 in
theorem w_2068 : (Cond.classLink "NumberHouseModel" (30 : Nat) "NumberHouseModel$FloatRows") ∈ q_tbl := q_of9 148 rfl (by decide +kernel)
set_option maxRecDepth 100000 in
theorem w_2069 : (Cond.instantiable "NumberHouseModel$FloatRows" (18 : Nat)) ∈ q_tbl := q_of9 149 rfl (by decide +kernel)
set_option maxRecDepth 100000 in
theorem w_17 : (Cond.initialized "NumberHouseModel$FloatRows") ∈ q_tbl := q_of1 17 rfl (by decide +kernel)
theorem d_14_1_48 : decode prog_14_method_1_code 48 = .ok (.dup, 1) := by decide +kernel
theorem d_14_1_49 : decode prog_14_method_1_code 49 = .ok (.invokespecial 32, 3) := by decide +kernel
set_option maxRecDepth 100000 in
theorem w_2072 : (Cond.code ({ cls := "NumberHouseModel$FloatRows", name := "<init>", desc := "()V" } : MethodName) prog_17_method_1_code (1 : Nat) (none : Option ClassFile.FieldType)) ∈ q_tbl := q_of9 152 rfl (by decide +kernel)
set_option maxRecDepth 100000 in
theorem w_2070 : (Cond.methodLink "NumberHouseModel" (32 : Nat) ({ cls := "NumberHouseModel$FloatRows", name := "<init>", desc := "()V" } : MethodName)) ∈ q_tbl := q_of9 150 rfl (by decide +kernel)
set_option maxRecDepth 100000 in
theorem w_2071 : (Cond.instanceMethod ({ cls := "NumberHouseModel$FloatRows", name := "<init>", desc := "()V" } : MethodName)) ∈ q_tbl := q_of9 151 rfl (by decide +kernel)
theorem LI_NM_32 : q_LI "NumberHouseModel" 32 y_FR_init prog_17_method_1_code 1 0 := ⟨w_2072, w_17, w_2070, w_2071, rfl, ⟨by decide, by decide, by decide +kernel⟩⟩
theorem d_14_1_52 : decode prog_14_method_1_code 52 = .ok (.putfield 33, 3) := by decide +kernel
set_option maxRecDepth 100000 in
theorem w_2305 : (Cond.fieldLink "NumberHouseModel" (33 : Nat) "NumberHouseModel" "floats" "LNumberHouseModel$FloatRows;") ∈ q_tbl := q_of10 145 rfl (by decide +kernel)
theorem d_14_1_55 : decode prog_14_method_1_code 55 = .ok (.aload_n 0, 1) := by decide +kernel
theorem d_14_1_56 : decode prog_14_method_1_code 56 = .ok (.new 37, 3) := by decide +kernel
set_option maxRecDepth 100000 in
theorem w_2131 : (Cond.classLink "NumberHouseModel" (37 : Nat) "NumberHouseModel$TextRows") ∈ q_tbl := q_of9 211 rfl (by decide +kernel)
set_option maxRecDepth 100000 in
theorem w_2132 : (Cond.instantiable "NumberHouseModel$TextRows" (17 : Nat)) ∈ q_tbl := q_of9 212 rfl (by decide +kernel)
set_option maxRecDepth 100000 in
theorem w_18 : (Cond.initialized "NumberHouseModel$TextRows") ∈ q_tbl := q_of1 18 rfl (by decide +kernel)
theorem d_14_1_59 : decode prog_14_method_1_code 59 = .ok (.dup, 1) := by decide +kernel
theorem d_14_1_60 : decode prog_14_method_1_code 60 = .ok (.invokespecial 39, 3) := by decide +kernel
set_option maxRecDepth 100000 in
theorem w_2135 : (Cond.code ({ cls := "NumberHouseModel$TextRows", name := "<init>", desc := "()V" } : MethodName) prog_18_method_1_code (1 : Nat) (none : Option ClassFile.FieldType)) ∈ q_tbl := q_of9 215 rfl (by decide +kernel)
set_option maxRecDepth 100000 in
theorem w_2133 : (Cond.methodLink "NumberHouseModel" (39 : Nat) ({ cls := "NumberHouseModel$TextRows", name := "<init>", desc := "()V" } : MethodName)) ∈ q_tbl := q_of9 213 rfl (by decide +kernel)
set_option maxRecDepth 100000 in
theorem w_2134 : (Cond.instanceMethod ({ cls := "NumberHouseModel$TextRows", name := "<init>", desc := "()V" } : MethodName)) ∈ q_tbl := q_of9 214 rfl (by decide +kernel)
theorem LI_NM_39 : q_LI "NumberHouseModel" 39 y_TR_init prog_18_method_1_code 1 0 := ⟨w_2135, w_18, w_2133, w_2134, rfl, ⟨by decide, by decide, by decide +kernel⟩⟩
theorem d_14_1_63 : decode prog_14_method_1_code 63 = .ok (.putfield 40, 3) := by decide +kernel
set_option maxRecDepth 100000 in
theorem w_2306 : (Cond.fieldLink "NumberHouseModel" (40 : Nat) "NumberHouseModel" "texts" "LNumberHouseModel$TextRows;") ∈ q_tbl := q_of10 146 rfl (by decide +kernel)
theorem d_14_1_66 : decode prog_14_method_1_code 66 = .ok (.aload_n 0, 1) := by decide +kernel
theorem d_14_1_67 : decode prog_14_method_1_code 67 = .ok (.new 44, 3) := by decide +kernel
set_option maxRecDepth 100000 in
theorem w_2192 : (Cond.classLink "NumberHouseModel" (44 : Nat) "NumberHouseModel$DirectiveRows") ∈ q_tbl := q_of10 32 rfl (by decide +kernel)
set_option maxRecDepth 100000 in
theorem w_2193 : (Cond.instantiable "NumberHouseModel$DirectiveRows" (31 : Nat)) ∈ q_tbl := q_of10 33 rfl (by decide +kernel)
set_option maxRecDepth 100000 in
theorem w_19 : (Cond.initialized "NumberHouseModel$DirectiveRows") ∈ q_tbl := q_of1 19 rfl (by decide +kernel)
theorem d_14_1_70 : decode prog_14_method_1_code 70 = .ok (.dup, 1) := by decide +kernel
theorem d_14_1_71 : decode prog_14_method_1_code 71 = .ok (.invokespecial 46, 3) := by decide +kernel
set_option maxRecDepth 100000 in
theorem w_2196 : (Cond.code ({ cls := "NumberHouseModel$DirectiveRows", name := "<init>", desc := "()V" } : MethodName) prog_16_method_1_code (1 : Nat) (none : Option ClassFile.FieldType)) ∈ q_tbl := q_of10 36 rfl (by decide +kernel)
set_option maxRecDepth 100000 in
theorem w_2194 : (Cond.methodLink "NumberHouseModel" (46 : Nat) ({ cls := "NumberHouseModel$DirectiveRows", name := "<init>", desc := "()V" } : MethodName)) ∈ q_tbl := q_of10 34 rfl (by decide +kernel)
set_option maxRecDepth 100000 in
theorem w_2195 : (Cond.instanceMethod ({ cls := "NumberHouseModel$DirectiveRows", name := "<init>", desc := "()V" } : MethodName)) ∈ q_tbl := q_of10 35 rfl (by decide +kernel)
theorem LI_NM_46 : q_LI "NumberHouseModel" 46 y_VR_init prog_16_method_1_code 1 0 := ⟨w_2196, w_19, w_2194, w_2195, rfl, ⟨by decide, by decide, by decide +kernel⟩⟩
theorem d_14_1_74 : decode prog_14_method_1_code 74 = .ok (.putfield 47, 3) := by decide +kernel
set_option maxRecDepth 100000 in
theorem w_2307 : (Cond.fieldLink "NumberHouseModel" (47 : Nat) "NumberHouseModel" "directives" "LNumberHouseModel$DirectiveRows;") ∈ q_tbl := q_of10 147 rfl (by decide +kernel)
theorem d_14_1_77 : decode prog_14_method_1_code 77 = .ok (.aload_n 0, 1) := by decide +kernel
theorem d_14_1_78 : decode prog_14_method_1_code 78 = .ok (.bipush 20, 2) := by decide +kernel
theorem d_14_1_80 : decode prog_14_method_1_code 80 = .ok (.newarray .long, 2) := by decide +kernel
theorem d_14_1_82 : decode prog_14_method_1_code 82 = .ok (.putfield 51, 3) := by decide +kernel
set_option maxRecDepth 100000 in
theorem w_2308 : (Cond.fieldLink "NumberHouseModel" (51 : Nat) "NumberHouseModel" "bits" "[J") ∈ q_tbl := q_of10 148 rfl (by decide +kernel)
theorem d_14_1_85 : decode prog_14_method_1_code 85 = .ok (.aload_n 0, 1) := by decide +kernel
theorem d_14_1_86 : decode prog_14_method_1_code 86 = .ok (.iconst 1, 1) := by decide +kernel
theorem d_14_1_87 : decode prog_14_method_1_code 87 = .ok (.newarray .long, 2) := by decide +kernel
theorem d_14_1_89 : decode prog_14_method_1_code 89 = .ok (.putfield 55, 3) := by decide +kernel
set_option maxRecDepth 100000 in
theorem w_2309 : (Cond.fieldLink "NumberHouseModel" (55 : Nat) "NumberHouseModel" "value" "[J") ∈ q_tbl := q_of10 149 rfl (by decide +kernel)
theorem d_14_1_92 : decode prog_14_method_1_code 92 = .ok (.return_, 1) := by decide +kernel
/-- the cells of a new object, in their order -/
abbrev nm_w (g : Nat → ClassId) (q : Nat → Nat) : va_W := [
  (q 0, .inr (12, [.int 0, .ref (q 1), .int 0, .ref (q 2), .int 0, .ref (q 3), .ref (q 18), .ref (q 29), .ref (q 37), .ref (q 41), .ref (q 51), .ref (q 52)])),
  (q 1, .inl (g 0, 4100, .inl (fun _ => 0))),
  (q 2, .inl (g 0, 12200, .inl (fun _ => 0))),
  (q 3, .inr (13, [.int 0, .int 0, .ref (q 4), .int 0, .ref (q 5), .ref (q 6), .ref (q 7), .int 0, .ref (q 8), .ref (q 9), .ref (q 10), .ref (q 11), .ref (q 12), .ref (q 13), .ref (q 14), .ref (q 15), .int 0, .int 0, .ref (q 16), .ref (q 17), .int 0])),
  (q 4, .inl (g 0, 4100, .inl (fun _ => 0))),
  (q 5, .inl (g 0, 1408, .inl (fun _ => 0))),
  (q 6, .inl (g 3, 11, .inl (fun _ => 0))),
  (q 7, .inl (g 0, 264, .inl (fun _ => 0))),
  (q 8, .inl (g 0, 264, .inl (fun _ => 0))),
  (q 9, .inl (g 0, 528, .inl (fun _ => 0))),
  (q 10, .inl (g 0, 264, .inl (fun _ => 0))),
  (q 11, .inl (g 0, 264, .inl (fun _ => 0))),
  (q 12, .inl (g 0, 264, .inl (fun _ => 0))),
  (q 13, .inl (g 0, 264, .inl (fun _ => 0))),
  (q 14, .inl (g 0, 264, .inl (fun _ => 0))),
  (q 15, .inl (g 0, 264, .inl (fun _ => 0))),
  (q 16, .inl (g 0, 264, .inl (fun _ => 0))),
  (q 17, .inl (g 0, 2100, .inl (fun _ => 0))),
  (q 18, .inr (14, [.int 0, .ref (q 19), .int 0, .ref (q 20), .ref (q 21), .ref (q 22), .ref (q 23), .ref (q 24), .int 0, .long 0, .int 0, .int 0, .ref (q 25), .int 0, .ref (q 26), .int 0, .ref (q 27), .int 0, .ref (q 28), .int 0, .int 0])),
  (q 19, .inl (g 0, 4100, .inl (fun _ => 0))),
  (q 20, .inl (g 0, 10000, .inl (fun _ => 0))),
  (q 21, .inl (g 0, 10, .inl (upd (upd (upd (upd (upd (upd (upd (upd (upd (upd (fun _ => 0) 0 1) 1 1) 2 1) 3 1) 4 1) 5 1) 6 1) 7 1) 8 1) 9 1))),
  (q 22, .inl (g 3, 10, .inl (fun _ => 0))),
  (q 23, .inl (g 0, 10, .inl (fun _ => 0))),
  (q 24, .inl (g 0, 4400, .inl (fun _ => 0))),
  (q 25, .inl (g 0, 4400, .inl (fun _ => 0))),
  (q 26, .inl (g 0, 2200, .inl (fun _ => 0))),
  (q 27, .inl (g 0, 2202, .inl (fun _ => 0))),
  (q 28, .inl (g 0, 12200, .inl (fun _ => 0))),
  (q 29, .inr (15, [.int 0, .ref (q 30), .ref (q 31), .ref (q 32), .ref (q 33), .ref (q 34), .ref (q 35), .ref (q 36), .int 0, .int 0, .int 0, .long 0, .int 0, .int 0, .long 0, .int 0, .long 0, .int 0])),
  (q 30, .inl (g 0, 156, .inl (fun _ => 0))),
  (q 31, .inl (g 0, 156, .inl (fun _ => 0))),
  (q 32, .inl (g 0, 1404, .inl (fun _ => 0))),
  (q 33, .inl (g 0, 1404, .inl (fun _ => 0))),
  (q 34, .inl (g 0, 1404, .inl (fun _ => 0))),
  (q 35, .inl (g 0, 1404, .inl (fun _ => 0))),
  (q 36, .inl (g 0, 1600, .inl (fun _ => 0))),
  (q 37, .inr (16, [.int 0, .ref (q 38), .int 0, .int 0, .int 0, .int 0, .ref (q 39), .int 0, .int 0, .long 0, .ref (q 40), .int 0, .int 0, .long 0, .long 0, .int 0, .int 0])),
  (q 38, .inl (g 0, 4100, .inl (fun _ => 0))),
  (q 39, .inl (g 0, 4100, .inl (fun _ => 0))),
  (q 40, .inl (g 0, 800, .inl (fun _ => 0))),
  (q 41, .inr (17, [.int 0, .ref (q 42), .int 0, .int 0, .ref (q 43), .ref (q 44), .ref (q 45), .ref (q 46), .ref (q 47), .int 0, .ref (q 48), .int 0, .int 0, .int (-1), .int 0, .int 0, .int 0, .int 0, .int 0, .int 0, .int 0, .int 0, .int 0, .int 0, .ref (q 49), .int 0, .int 0, .int 0, .ref (q 50), .int 0, .int 0])),
  (q 42, .inl (g 0, 256, .inl (fun _ => 0))),
  (q 43, .inl (g 0, 9, .inl (fun _ => 0))),
  (q 44, .inl (g 0, 9, .inl (fun _ => 0))),
  (q 45, .inl (g 1, 9, .inr (.inl (fun _ => 0)))),
  (q 46, .inl (g 0, 576, .inl (fun _ => 0))),
  (q 47, .inl (g 0, 4096, .inl (fun _ => 0))),
  (q 48, .inl (g 0, 4096, .inl (fun _ => 0))),
  (q 49, .inl (g 0, 20200, .inl (fun _ => 0))),
  (q 50, .inl (g 0, 64, .inl (fun _ => 0))),
  (q 51, .inl (g 1, 20, .inr (.inl (fun _ => 0)))),
  (q 52, .inl (g 1, 1, .inr (.inl (fun _ => 0))))]
def y_NM_init : MethodName := ⟨"NumberHouseModel", "<init>", "()V"⟩


set_option maxRecDepth 100000 in
set_option maxHeartbeats 4000000 in
/-- new NumberHouseModel() -/
theorem c_NM_init (l : Launch) (D : va_G) (g : Nat → ClassId) (ws : va_W) ( qO0 : Nat) (hN : ws.length = 117) (hO0 : ws[116]? = (some (qO0, .inr (12, [.int 0, .null, .int 0, .null, .int 0, .null, .null, .null, .null, .null, .null, .null])) : Option (Nat × va_E))) : q_mV l y_NM_init prog_14_method_1_code 1 3 52 112327 D g [.ref qO0] ws (fun u => ∃ q : Nat → Nat, q 0 = qO0 ∧ q_un ws u [116, 117, 118, 119, 120, 121, 122, 123, 124, 125, 126, 127, 128, 129, 130, 131, 132, 133, 134, 135, 136, 137, 138, 139, 140, 141, 142, 143, 144, 145, 146, 147, 148, 149, 150, 151, 152, 153, 154, 155, 156, 157, 158, 159, 160, 161, 162, 163, 164, 165, 166, 167, 168] ∧ q_fl u 116 (nm_w g q) ∧ u.length = 169) := by
  intro sz
  refine q_into (by decide) (Nat.le_of_ble_eq_true rfl) ?_
  intro p e s m below meth c ls hsz C0 V hl
  have hx := C0.1
  have hb := C0.2.1
  have hl : lv_has ls 1 [(0, .ref qO0)] := hl
  have hF : q_un ws ws [116, 117, 118, 119, 120, 121, 122, 123, 124, 125, 126, 127, 128, 129, 130, 131, 132, 133, 134, 135, 136, 137, 138, 139, 140, 141, 142, 143, 144, 145, 146, 147, 148, 149, 150, 151, 152, 153, 154, 155, 156, 157, 158, 159, 160, 161, 162, 163, 164, 165, 166, 167, 168] := q_u0
  refine lv_aload_n hx hb d_14_1_0 rfl (lv_at hl 0 rfl) ?_
  refine q_obj C0 hl.1 rfl w_1914 w_44 w_45 ⟨by decide, by decide⟩ d_14_1_1 ?_
  refine lv_aload_n hx hb d_14_1_4 rfl (lv_at hl 0 rfl) ?_
  refine lv_sipush (v := 4100) hx hb d_14_1_5 (by decide) ?_
  refine q_newI (N' := 4100) C0 V hN w_107 (by decide) (by decide) (by decide) (Nat.le_of_ble_eq_true rfl) (Nat.le_of_ble_eq_true rfl) d_14_1_8 (fun q1 H w2 hu3 hn4 hN V => ?_)
  have hn0 : w2[117]? = (some (q1, .inl (g 0, 4100, .inl (fun _ => 0))) : Option (Nat × va_E)) := hn4
  replace hF := q_us hF hu3 (.tail _ (.head _))
  replace hN : w2.length = 118 := hN
  replace hO0 := (hu3 _ (q_pd 116 117 rfl)).trans (hO0)
  have ho7 := hO0
  refine q_putF (ci := 12) (j := 1) (v := .ref q1) (ty := .array .int) C0 V i_NM o_NM n_NM rfl rfl rfl rfl rfl hO0 (by decide) w_2299 rfl rfl rfl (Nat.le_of_ble_eq_true rfl) d_14_1_10 (fun H locs w5 hu6 hO0 V => ?_)
  replace hO0 : w5[116]? = (some (qO0, .inr (12, [.int 0, .ref q1, .int 0, .null, .int 0, .null, .null, .null, .null, .null, .null, .null])) : Option (Nat × va_E)) := hO0
  replace hN : w5.length = 118 := (q_len1 hu6 hO0 ho7).trans hN
  replace hF := q_us hF hu6 (.head _)
  refine lv_aload_n hx hb d_14_1_13 rfl (lv_at hl 0 rfl) ?_
  refine lv_sipush (v := 12200) hx hb d_14_1_14 (by decide) ?_
  refine q_newI (N' := 12200) C0 V hN w_107 (by decide) (by decide) (by decide) (Nat.le_of_ble_eq_true rfl) (Nat.le_of_ble_eq_true rfl) d_14_1_17 (fun q8 H w9 hu10 hn11 hN V => ?_)
  have hn1 : w9[118]? = (some (q8, .inl (g 0, 12200, .inl (fun _ => 0))) : Option (Nat × va_E)) := hn11
  replace hF := q_us hF hu10 (.tail _ (.tail _ (.head _)))
  replace hN : w9.length = 119 := hN
  replace hO0 := (hu10 _ (q_pd 116 118 rfl)).trans (hO0)
  have ho14 := hO0
  refine q_putF (ci := 12) (j := 3) (v := .ref q8) (ty := .array .int) C0 V i_NM o_NM n_NM rfl rfl rfl rfl rfl hO0 (by decide) w_2301 rfl rfl rfl (Nat.le_of_ble_eq_true rfl) d_14_1_19 (fun H locs w12 hu13 hO0 V => ?_)
  replace hO0 : w12[116]? = (some (qO0, .inr (12, [.int 0, .ref q1, .int 0, .ref q8, .int 0, .null, .null, .null, .null, .null, .null, .null])) : Option (Nat × va_E)) := hO0
  replace hN : w12.length = 119 := (q_len1 hu13 hO0 ho14).trans hN
  replace hF := q_us hF hu13 (.head _)
  refine lv_aload_n hx hb d_14_1_22 rfl (lv_at hl 0 rfl) ?_
  refine q_new (ci := 13) (fs := [.int 0, .int 0, .null, .int 0, .null, .null, .null, .int 0, .null, .null, .null, .null, .null, .null, .null, .null, .int 0, .int 0, .null, .null, .int 0]) C0 V hN i_WR o_WR rfl w_1915 w_1916 w_15 rfl (fun j hj => by rcases (show j = 0 ∨ j = 1 ∨ j = 2 ∨ j = 3 ∨ j = 4 ∨ j = 5 ∨ j = 6 ∨ j = 7 ∨ j = 8 ∨ j = 9 ∨ j = 10 ∨ j = 11 ∨ j = 12 ∨ j = 13 ∨ j = 14 ∨ j = 15 ∨ j = 16 ∨ j = 17 ∨ j = 18 ∨ j = 19 ∨ j = 20 by omega) with rfl | rfl | rfl | rfl | rfl | rfl | rfl | rfl | rfl | rfl | rfl | rfl | rfl | rfl | rfl | rfl | rfl | rfl | rfl | rfl | rfl <;> rfl) (Nat.le_of_ble_eq_true rfl) (Nat.le_of_ble_eq_true rfl) d_14_1_23 (fun q15 H w16 hu17 hn18 hN V => ?_)
  have hn2 : w16[119]? = (some (q15, .inr (13, [.int 0, .int 0, .null, .int 0, .null, .null, .null, .int 0, .null, .null, .null, .null, .null, .null, .null, .null, .int 0, .int 0, .null, .null, .int 0])) : Option (Nat × va_E)) := hn18
  replace hF := q_us hF hu17 (List.mem_of_getElem? (i := 3) rfl)
  replace hN : w16.length = 120 := hN
  refine lv_dup hx hb d_14_1_26 rfl ?_
  refine q_gov V (q_runI (As := []) (rest := [.ref q15, .ref qO0]) (d := 2) (mc := 14) (ms := 10523) C0 V rfl LI_NM_18 (c_WR_init l D g w16 q15 hN hn2 _) rfl hl.1 rfl (Nat.le_of_ble_eq_true rfl) ⟨by decide, by decide⟩ ⟨Nat.le_of_ble_eq_true rfl, Nat.le_of_ble_eq_true rfl⟩ d_14_1_27) (fun u20 H locs hp19 V => ?_)
  obtain ⟨q21, q22, q23, q24, q25, q26, q27, q28, q29, q30, q31, q32, q33, q34, hg35, hn2, hq36, hq37, hq38, hq39, hq40, hq41, hq42, hq43, hq44, hq45, hq46, hq47, hq48, hq49, hN⟩ := hp19
  replace hF := q_uc hF hg35 (q_sc (List.mem_of_getElem? (i := 3) rfl) (q_sc (List.mem_of_getElem? (i := 4) rfl) (q_sc (List.mem_of_getElem? (i := 5) rfl) (q_sc (List.mem_of_getElem? (i := 6) rfl) (q_sc (List.mem_of_getElem? (i := 7) rfl) (q_sc (List.mem_of_getElem? (i := 8) rfl) (q_sc (List.mem_of_getElem? (i := 9) rfl) (q_sc (List.mem_of_getElem? (i := 10) rfl) (q_sc (List.mem_of_getElem? (i := 11) rfl) (q_sc (List.mem_of_getElem? (i := 12) rfl) (q_sc (List.mem_of_getElem? (i := 13) rfl) (q_sc (List.mem_of_getElem? (i := 14) rfl) (q_sc (List.mem_of_getElem? (i := 15) rfl) (q_sc (List.mem_of_getElem? (i := 16) rfl) (q_sc (List.mem_of_getElem? (i := 17) rfl) (fun _ h => absurd h List.not_mem_nil))))))))))))))))
  have hn3 : u20[120]? = (some (q21, .inl (g 0, 4100, .inl (fun _ => 0))) : Option (Nat × va_E)) := hq36
  have hn4 : u20[121]? = (some (q22, .inl (g 0, 1408, .inl (fun _ => 0))) : Option (Nat × va_E)) := hq37
  have hn5 : u20[122]? = (some (q23, .inl (g 3, 11, .inl (fun _ => 0))) : Option (Nat × va_E)) := hq38
  have hn6 : u20[123]? = (some (q24, .inl (g 0, 264, .inl (fun _ => 0))) : Option (Nat × va_E)) := hq39
  have hn7 : u20[124]? = (some (q25, .inl (g 0, 264, .inl (fun _ => 0))) : Option (Nat × va_E)) := hq40
  have hn8 : u20[125]? = (some (q26, .inl (g 0, 528, .inl (fun _ => 0))) : Option (Nat × va_E)) := hq41
  have hn9 : u20[126]? = (some (q27, .inl (g 0, 264, .inl (fun _ => 0))) : Option (Nat × va_E)) := hq42
  have hn10 : u20[127]? = (some (q28, .inl (g 0, 264, .inl (fun _ => 0))) : Option (Nat × va_E)) := hq43
  have hn11 : u20[128]? = (some (q29, .inl (g 0, 264, .inl (fun _ => 0))) : Option (Nat × va_E)) := hq44
  have hn12 : u20[129]? = (some (q30, .inl (g 0, 264, .inl (fun _ => 0))) : Option (Nat × va_E)) := hq45
  have hn13 : u20[130]? = (some (q31, .inl (g 0, 264, .inl (fun _ => 0))) : Option (Nat × va_E)) := hq46
  have hn14 : u20[131]? = (some (q32, .inl (g 0, 264, .inl (fun _ => 0))) : Option (Nat × va_E)) := hq47
  have hn15 : u20[132]? = (some (q33, .inl (g 0, 264, .inl (fun _ => 0))) : Option (Nat × va_E)) := hq48
  have hn16 : u20[133]? = (some (q34, .inl (g 0, 2100, .inl (fun _ => 0))) : Option (Nat × va_E)) := hq49
  replace hN : u20.length = 134 := hN
  replace hO0 := (hg35 _ (q_nc (q_pd 116 119 rfl) (q_nc (q_pd 116 120 rfl) (q_nc (q_pd 116 121 rfl) (q_nc (q_pd 116 122 rfl) (q_nc (q_pd 116 123 rfl) (q_nc (q_pd 116 124 rfl) (q_nc (q_pd 116 125 rfl) (q_nc (q_pd 116 126 rfl) (q_nc (q_pd 116 127 rfl) (q_nc (q_pd 116 128 rfl) (q_nc (q_pd 116 129 rfl) (q_nc (q_pd 116 130 rfl) (q_nc (q_pd 116 131 rfl) (q_nc (q_pd 116 132 rfl) (q_nc (q_pd 116 133 rfl) List.not_mem_nil)))))))))))))))).trans ((hu17 _ (q_pd 116 119 rfl)).trans (hO0))
  have ho52 := hO0
  refine q_putF (ci := 12) (j := 5) (v := .ref q15) (ty := .object "NumberHouseModel$WholeRows") C0 V i_NM o_NM n_NM rfl rfl rfl rfl rfl hO0 (by decide) w_2303 rfl rfl rfl (Nat.le_of_ble_eq_true rfl) d_14_1_30 (fun H locs w50 hu51 hO0 V => ?_)
  replace hO0 : w50[116]? = (some (qO0, .inr (12, [.int 0, .ref q1, .int 0, .ref q8, .int 0, .ref q15, .null, .null, .null, .null, .null, .null])) : Option (Nat × va_E)) := hO0
  replace hN : w50.length = 134 := (q_len1 hu51 hO0 ho52).trans hN
  replace hF := q_us hF hu51 (.head _)
  refine lv_aload_n hx hb d_14_1_33 rfl (lv_at hl 0 rfl) ?_
  refine q_new (ci := 14) (fs := [.int 0, .null, .int 0, .null, .null, .null, .null, .null, .int 0, .long 0, .int 0, .int 0, .null, .int 0, .null, .int 0, .null, .int 0, .null, .int 0, .int 0]) C0 V hN i_DR o_DR rfl w_1990 w_1991 w_16 rfl (fun j hj => by rcases (show j = 0 ∨ j = 1 ∨ j = 2 ∨ j = 3 ∨ j = 4 ∨ j = 5 ∨ j = 6 ∨ j = 7 ∨ j = 8 ∨ j = 9 ∨ j = 10 ∨ j = 11 ∨ j = 12 ∨ j = 13 ∨ j = 14 ∨ j = 15 ∨ j = 16 ∨ j = 17 ∨ j = 18 ∨ j = 19 ∨ j = 20 by omega) with rfl | rfl | rfl | rfl | rfl | rfl | rfl | rfl | rfl | rfl | rfl | rfl | rfl | rfl | rfl | rfl | rfl | rfl | rfl | rfl | rfl <;> rfl) (Nat.le_of_ble_eq_true rfl) (Nat.le_of_ble_eq_true rfl) d_14_1_34 (fun q53 H w54 hu55 hn56 hN V => ?_)
  have hn17 : w54[134]? = (some (q53, .inr (14, [.int 0, .null, .int 0, .null, .null, .null, .null, .null, .int 0, .long 0, .int 0, .int 0, .null, .int 0, .null, .int 0, .null, .int 0, .null, .int 0, .int 0])) : Option (Nat × va_E)) := hn56
  replace hF := q_us hF hu55 (List.mem_of_getElem? (i := 18) rfl)
  replace hN : w54.length = 135 := hN
  refine lv_dup hx hb d_14_1_37 rfl ?_
  refine q_gov V (q_runI (As := []) (rest := [.ref q53, .ref qO0]) (d := 2) (mc := 10) (ms := 39532) C0 V rfl LI_NM_25 (c_DR_init l D g w54 q53 hN hn17 _) rfl hl.1 rfl (Nat.le_of_ble_eq_true rfl) ⟨by decide, by decide⟩ ⟨Nat.le_of_ble_eq_true rfl, Nat.le_of_ble_eq_true rfl⟩ d_14_1_38) (fun u58 H locs hp57 V => ?_)
  obtain ⟨q59, q60, q61, q62, q63, q64, q65, q66, q67, q68, hg69, hn17, hq70, hq71, hq72, hq73, hq74, hq75, hq76, hq77, hq78, hq79, hN⟩ := hp57
  replace hF := q_uc hF hg69 (q_sc (List.mem_of_getElem? (i := 18) rfl) (q_sc (List.mem_of_getElem? (i := 19) rfl) (q_sc (List.mem_of_getElem? (i := 20) rfl) (q_sc (List.mem_of_getElem? (i := 21) rfl) (q_sc (List.mem_of_getElem? (i := 22) rfl) (q_sc (List.mem_of_getElem? (i := 23) rfl) (q_sc (List.mem_of_getElem? (i := 24) rfl) (q_sc (List.mem_of_getElem? (i := 25) rfl) (q_sc (List.mem_of_getElem? (i := 26) rfl) (q_sc (List.mem_of_getElem? (i := 27) rfl) (q_sc (List.mem_of_getElem? (i := 28) rfl) (fun _ h => absurd h List.not_mem_nil))))))))))))
  have hn18 : u58[135]? = (some (q59, .inl (g 0, 4100, .inl (fun _ => 0))) : Option (Nat × va_E)) := hq70
  have hn19 : u58[136]? = (some (q60, .inl (g 0, 10000, .inl (fun _ => 0))) : Option (Nat × va_E)) := hq71
  have hn20 : u58[137]? = (some (q61, .inl (g 0, 10, .inl (upd (upd (upd (upd (upd (upd (upd (upd (upd (upd (fun _ => 0) 0 1) 1 1) 2 1) 3 1) 4 1) 5 1) 6 1) 7 1) 8 1) 9 1))) : Option (Nat × va_E)) := hq72
  have hn21 : u58[138]? = (some (q62, .inl (g 3, 10, .inl (fun _ => 0))) : Option (Nat × va_E)) := hq73
  have hn22 : u58[139]? = (some (q63, .inl (g 0, 10, .inl (fun _ => 0))) : Option (Nat × va_E)) := hq74
  have hn23 : u58[140]? = (some (q64, .inl (g 0, 4400, .inl (fun _ => 0))) : Option (Nat × va_E)) := hq75
  have hn24 : u58[141]? = (some (q65, .inl (g 0, 4400, .inl (fun _ => 0))) : Option (Nat × va_E)) := hq76
  have hn25 : u58[142]? = (some (q66, .inl (g 0, 2200, .inl (fun _ => 0))) : Option (Nat × va_E)) := hq77
  have hn26 : u58[143]? = (some (q67, .inl (g 0, 2202, .inl (fun _ => 0))) : Option (Nat × va_E)) := hq78
  have hn27 : u58[144]? = (some (q68, .inl (g 0, 12200, .inl (fun _ => 0))) : Option (Nat × va_E)) := hq79
  replace hN : u58.length = 145 := hN
  replace hO0 := (hg69 _ (q_nc (q_pd 116 134 rfl) (q_nc (q_pd 116 135 rfl) (q_nc (q_pd 116 136 rfl) (q_nc (q_pd 116 137 rfl) (q_nc (q_pd 116 138 rfl) (q_nc (q_pd 116 139 rfl) (q_nc (q_pd 116 140 rfl) (q_nc (q_pd 116 141 rfl) (q_nc (q_pd 116 142 rfl) (q_nc (q_pd 116 143 rfl) (q_nc (q_pd 116 144 rfl) List.not_mem_nil)))))))))))).trans ((hu55 _ (q_pd 116 134 rfl)).trans (hO0))
  have ho82 := hO0
  refine q_putF (ci := 12) (j := 6) (v := .ref q53) (ty := .object "NumberHouseModel$DecimalRows") C0 V i_NM o_NM n_NM rfl rfl rfl rfl rfl hO0 (by decide) w_2304 rfl rfl rfl (Nat.le_of_ble_eq_true rfl) d_14_1_41 (fun H locs w80 hu81 hO0 V => ?_)
  replace hO0 : w80[116]? = (some (qO0, .inr (12, [.int 0, .ref q1, .int 0, .ref q8, .int 0, .ref q15, .ref q53, .null, .null, .null, .null, .null])) : Option (Nat × va_E)) := hO0
  replace hN : w80.length = 145 := (q_len1 hu81 hO0 ho82).trans hN
  replace hF := q_us hF hu81 (.head _)
  refine lv_aload_n hx hb d_14_1_44 rfl (lv_at hl 0 rfl) ?_
  refine q_new (ci := 15) (fs := [.int 0, .null, .null, .null, .null, .null, .null, .null, .int 0, .int 0, .int 0, .long 0, .int 0, .int 0, .long 0, .int 0, .long 0, .int 0]) C0 V hN i_FR o_FR rfl w_2068 w_2069 w_17 rfl (fun j hj => by rcases (show j = 0 ∨ j = 1 ∨ j = 2 ∨ j = 3 ∨ j = 4 ∨ j = 5 ∨ j = 6 ∨ j = 7 ∨ j = 8 ∨ j = 9 ∨ j = 10 ∨ j = 11 ∨ j = 12 ∨ j = 13 ∨ j = 14 ∨ j = 15 ∨ j = 16 ∨ j = 17 by omega) with rfl | rfl | rfl | rfl | rfl | rfl | rfl | rfl | rfl | rfl | rfl | rfl | rfl | rfl | rfl | rfl | rfl | rfl <;> rfl) (Nat.le_of_ble_eq_true rfl) (Nat.le_of_ble_eq_true rfl) d_14_1_45 (fun q83 H w84 hu85 hn86 hN V => ?_)
  have hn28 : w84[145]? = (some (q83, .inr (15, [.int 0, .null, .null, .null, .null, .null, .null, .null, .int 0, .int 0, .int 0, .long 0, .int 0, .int 0, .long 0, .int 0, .long 0, .int 0])) : Option (Nat × va_E)) := hn86
  replace hF := q_us hF hu85 (List.mem_of_getElem? (i := 29) rfl)
  replace hN : w84.length = 146 := hN
  refine lv_dup hx hb d_14_1_48 rfl ?_
  refine q_gov V (q_runI (As := []) (rest := [.ref q83, .ref qO0]) (d := 2) (mc := 7) (ms := 7528) C0 V rfl LI_NM_32 (c_FR_init l D g w84 q83 hN hn28 _) rfl hl.1 rfl (Nat.le_of_ble_eq_true rfl) ⟨by decide, by decide⟩ ⟨Nat.le_of_ble_eq_true rfl, Nat.le_of_ble_eq_true rfl⟩ d_14_1_49) (fun u88 H locs hp87 V => ?_)
  obtain ⟨q89, q90, q91, q92, q93, q94, q95, hg96, hn28, hq97, hq98, hq99, hq100, hq101, hq102, hq103, hN⟩ := hp87
  replace hF := q_uc hF hg96 (q_sc (List.mem_of_getElem? (i := 29) rfl) (q_sc (List.mem_of_getElem? (i := 30) rfl) (q_sc (List.mem_of_getElem? (i := 31) rfl) (q_sc (List.mem_of_getElem? (i := 32) rfl) (q_sc (List.mem_of_getElem? (i := 33) rfl) (q_sc (List.mem_of_getElem? (i := 34) rfl) (q_sc (List.mem_of_getElem? (i := 35) rfl) (q_sc (List.mem_of_getElem? (i := 36) rfl) (fun _ h => absurd h List.not_mem_nil)))))))))
  have hn29 : u88[146]? = (some (q89, .inl (g 0, 156, .inl (fun _ => 0))) : Option (Nat × va_E)) := hq97
  have hn30 : u88[147]? = (some (q90, .inl (g 0, 156, .inl (fun _ => 0))) : Option (Nat × va_E)) := hq98
  have hn31 : u88[148]? = (some (q91, .inl (g 0, 1404, .inl (fun _ => 0))) : Option (Nat × va_E)) := hq99
  have hn32 : u88[149]? = (some (q92, .inl (g 0, 1404, .inl (fun _ => 0))) : Option (Nat × va_E)) := hq100
  have hn33 : u88[150]? = (some (q93, .inl (g 0, 1404, .inl (fun _ => 0))) : Option (Nat × va_E)) := hq101
  have hn34 : u88[151]? = (some (q94, .inl (g 0, 1404, .inl (fun _ => 0))) : Option (Nat × va_E)) := hq102
  have hn35 : u88[152]? = (some (q95, .inl (g 0, 1600, .inl (fun _ => 0))) : Option (Nat × va_E)) := hq103
  replace hN : u88.length = 153 := hN
  replace hO0 := (hg96 _ (q_nc (q_pd 116 145 rfl) (q_nc (q_pd 116 146 rfl) (q_nc (q_pd 116 147 rfl) (q_nc (q_pd 116 148 rfl) (q_nc (q_pd 116 149 rfl) (q_nc (q_pd 116 150 rfl) (q_nc (q_pd 116 151 rfl) (q_nc (q_pd 116 152 rfl) List.not_mem_nil))))))))).trans ((hu85 _ (q_pd 116 145 rfl)).trans (hO0))
  have ho106 := hO0
  refine q_putF (ci := 12) (j := 7) (v := .ref q83) (ty := .object "NumberHouseModel$FloatRows") C0 V i_NM o_NM n_NM rfl rfl rfl rfl rfl hO0 (by decide) w_2305 rfl rfl rfl (Nat.le_of_ble_eq_true rfl) d_14_1_52 (fun H locs w104 hu105 hO0 V => ?_)
  replace hO0 : w104[116]? = (some (qO0, .inr (12, [.int 0, .ref q1, .int 0, .ref q8, .int 0, .ref q15, .ref q53, .ref q83, .null, .null, .null, .null])) : Option (Nat × va_E)) := hO0
  replace hN : w104.length = 153 := (q_len1 hu105 hO0 ho106).trans hN
  replace hF := q_us hF hu105 (.head _)
  refine lv_aload_n hx hb d_14_1_55 rfl (lv_at hl 0 rfl) ?_
  refine q_new (ci := 16) (fs := [.int 0, .null, .int 0, .int 0, .int 0, .int 0, .null, .int 0, .int 0, .long 0, .null, .int 0, .int 0, .long 0, .long 0, .int 0, .int 0]) C0 V hN i_TR o_TR rfl w_2131 w_2132 w_18 rfl (fun j hj => by rcases (show j = 0 ∨ j = 1 ∨ j = 2 ∨ j = 3 ∨ j = 4 ∨ j = 5 ∨ j = 6 ∨ j = 7 ∨ j = 8 ∨ j = 9 ∨ j = 10 ∨ j = 11 ∨ j = 12 ∨ j = 13 ∨ j = 14 ∨ j = 15 ∨ j = 16 by omega) with rfl | rfl | rfl | rfl | rfl | rfl | rfl | rfl | rfl | rfl | rfl | rfl | rfl | rfl | rfl | rfl | rfl <;> rfl) (Nat.le_of_ble_eq_true rfl) (Nat.le_of_ble_eq_true rfl) d_14_1_56 (fun q107 H w108 hu109 hn110 hN V => ?_)
  have hn36 : w108[153]? = (some (q107, .inr (16, [.int 0, .null, .int 0, .int 0, .int 0, .int 0, .null, .int 0, .int 0, .long 0, .null, .int 0, .int 0, .long 0, .long 0, .int 0, .int 0])) : Option (Nat × va_E)) := hn110
  replace hF := q_us hF hu109 (List.mem_of_getElem? (i := 37) rfl)
  replace hN : w108.length = 154 := hN
  refine lv_dup hx hb d_14_1_59 rfl ?_
  refine q_gov V (q_runI (As := []) (rest := [.ref q107, .ref qO0]) (d := 2) (mc := 3) (ms := 9000) C0 V rfl LI_NM_39 (c_TR_init l D g w108 q107 hN hn36 _) rfl hl.1 rfl (Nat.le_of_ble_eq_true rfl) ⟨by decide, by decide⟩ ⟨Nat.le_of_ble_eq_true rfl, Nat.le_of_ble_eq_true rfl⟩ d_14_1_60) (fun u112 H locs hp111 V => ?_)
  obtain ⟨q113, q114, q115, hg116, hn36, hq117, hq118, hq119, hN⟩ := hp111
  replace hF := q_uc hF hg116 (q_sc (List.mem_of_getElem? (i := 37) rfl) (q_sc (List.mem_of_getElem? (i := 38) rfl) (q_sc (List.mem_of_getElem? (i := 39) rfl) (q_sc (List.mem_of_getElem? (i := 40) rfl) (fun _ h => absurd h List.not_mem_nil)))))
  have hn37 : u112[154]? = (some (q113, .inl (g 0, 4100, .inl (fun _ => 0))) : Option (Nat × va_E)) := hq117
  have hn38 : u112[155]? = (some (q114, .inl (g 0, 4100, .inl (fun _ => 0))) : Option (Nat × va_E)) := hq118
  have hn39 : u112[156]? = (some (q115, .inl (g 0, 800, .inl (fun _ => 0))) : Option (Nat × va_E)) := hq119
  replace hN : u112.length = 157 := hN
  replace hO0 := (hg116 _ (q_nc (q_pd 116 153 rfl) (q_nc (q_pd 116 154 rfl) (q_nc (q_pd 116 155 rfl) (q_nc (q_pd 116 156 rfl) List.not_mem_nil))))).trans ((hu109 _ (q_pd 116 153 rfl)).trans (hO0))
  have ho122 := hO0
  refine q_putF (ci := 12) (j := 8) (v := .ref q107) (ty := .object "NumberHouseModel$TextRows") C0 V i_NM o_NM n_NM rfl rfl rfl rfl rfl hO0 (by decide) w_2306 rfl rfl rfl (Nat.le_of_ble_eq_true rfl) d_14_1_63 (fun H locs w120 hu121 hO0 V => ?_)
  replace hO0 : w120[116]? = (some (qO0, .inr (12, [.int 0, .ref q1, .int 0, .ref q8, .int 0, .ref q15, .ref q53, .ref q83, .ref q107, .null, .null, .null])) : Option (Nat × va_E)) := hO0
  replace hN : w120.length = 157 := (q_len1 hu121 hO0 ho122).trans hN
  replace hF := q_us hF hu121 (.head _)
  refine lv_aload_n hx hb d_14_1_66 rfl (lv_at hl 0 rfl) ?_
  refine q_new (ci := 17) (fs := [.int 0, .null, .int 0, .int 0, .null, .null, .null, .null, .null, .int 0, .null, .int 0, .int 0, .int 0, .int 0, .int 0, .int 0, .int 0, .int 0, .int 0, .int 0, .int 0, .int 0, .int 0, .null, .int 0, .int 0, .int 0, .null, .int 0, .int 0]) C0 V hN i_VR o_VR rfl w_2192 w_2193 w_19 rfl (fun j hj => by rcases (show j = 0 ∨ j = 1 ∨ j = 2 ∨ j = 3 ∨ j = 4 ∨ j = 5 ∨ j = 6 ∨ j = 7 ∨ j = 8 ∨ j = 9 ∨ j = 10 ∨ j = 11 ∨ j = 12 ∨ j = 13 ∨ j = 14 ∨ j = 15 ∨ j = 16 ∨ j = 17 ∨ j = 18 ∨ j = 19 ∨ j = 20 ∨ j = 21 ∨ j = 22 ∨ j = 23 ∨ j = 24 ∨ j = 25 ∨ j = 26 ∨ j = 27 ∨ j = 28 ∨ j = 29 ∨ j = 30 by omega) with rfl | rfl | rfl | rfl | rfl | rfl | rfl | rfl | rfl | rfl | rfl | rfl | rfl | rfl | rfl | rfl | rfl | rfl | rfl | rfl | rfl | rfl | rfl | rfl | rfl | rfl | rfl | rfl | rfl | rfl | rfl <;> rfl) (Nat.le_of_ble_eq_true rfl) (Nat.le_of_ble_eq_true rfl) d_14_1_67 (fun q123 H w124 hu125 hn126 hN V => ?_)
  have hn40 : w124[157]? = (some (q123, .inr (17, [.int 0, .null, .int 0, .int 0, .null, .null, .null, .null, .null, .int 0, .null, .int 0, .int 0, .int 0, .int 0, .int 0, .int 0, .int 0, .int 0, .int 0, .int 0, .int 0, .int 0, .int 0, .null, .int 0, .int 0, .int 0, .null, .int 0, .int 0])) : Option (Nat × va_E)) := hn126
  replace hF := q_us hF hu125 (List.mem_of_getElem? (i := 41) rfl)
  replace hN : w124.length = 158 := hN
  refine lv_dup hx hb d_14_1_70 rfl ?_
  refine q_gov V (q_runI (As := []) (rest := [.ref q123, .ref qO0]) (d := 2) (mc := 9) (ms := 29315) C0 V rfl LI_NM_46 (c_VR_init l D g w124 q123 hN hn40 _) rfl hl.1 rfl (Nat.le_of_ble_eq_true rfl) ⟨by decide, by decide⟩ ⟨Nat.le_of_ble_eq_true rfl, Nat.le_of_ble_eq_true rfl⟩ d_14_1_71) (fun u128 H locs hp127 V => ?_)
  obtain ⟨q129, q130, q131, q132, q133, q134, q135, q136, q137, hg138, hn40, hq139, hq140, hq141, hq142, hq143, hq144, hq145, hq146, hq147, hN⟩ := hp127
  replace hF := q_uc hF hg138 (q_sc (List.mem_of_getElem? (i := 41) rfl) (q_sc (List.mem_of_getElem? (i := 42) rfl) (q_sc (List.mem_of_getElem? (i := 43) rfl) (q_sc (List.mem_of_getElem? (i := 44) rfl) (q_sc (List.mem_of_getElem? (i := 45) rfl) (q_sc (List.mem_of_getElem? (i := 46) rfl) (q_sc (List.mem_of_getElem? (i := 47) rfl) (q_sc (List.mem_of_getElem? (i := 48) rfl) (q_sc (List.mem_of_getElem? (i := 49) rfl) (q_sc (List.mem_of_getElem? (i := 50) rfl) (fun _ h => absurd h List.not_mem_nil)))))))))))
  have hn41 : u128[158]? = (some (q129, .inl (g 0, 256, .inl (fun _ => 0))) : Option (Nat × va_E)) := hq139
  have hn42 : u128[159]? = (some (q130, .inl (g 0, 9, .inl (fun _ => 0))) : Option (Nat × va_E)) := hq140
  have hn43 : u128[160]? = (some (q131, .inl (g 0, 9, .inl (fun _ => 0))) : Option (Nat × va_E)) := hq141
  have hn44 : u128[161]? = (some (q132, .inl (g 1, 9, .inr (.inl (fun _ => 0)))) : Option (Nat × va_E)) := hq142
  have hn45 : u128[162]? = (some (q133, .inl (g 0, 576, .inl (fun _ => 0))) : Option (Nat × va_E)) := hq143
  have hn46 : u128[163]? = (some (q134, .inl (g 0, 4096, .inl (fun _ => 0))) : Option (Nat × va_E)) := hq144
  have hn47 : u128[164]? = (some (q135, .inl (g 0, 4096, .inl (fun _ => 0))) : Option (Nat × va_E)) := hq145
  have hn48 : u128[165]? = (some (q136, .inl (g 0, 20200, .inl (fun _ => 0))) : Option (Nat × va_E)) := hq146
  have hn49 : u128[166]? = (some (q137, .inl (g 0, 64, .inl (fun _ => 0))) : Option (Nat × va_E)) := hq147
  replace hN : u128.length = 167 := hN
  replace hO0 := (hg138 _ (q_nc (q_pd 116 157 rfl) (q_nc (q_pd 116 158 rfl) (q_nc (q_pd 116 159 rfl) (q_nc (q_pd 116 160 rfl) (q_nc (q_pd 116 161 rfl) (q_nc (q_pd 116 162 rfl) (q_nc (q_pd 116 163 rfl) (q_nc (q_pd 116 164 rfl) (q_nc (q_pd 116 165 rfl) (q_nc (q_pd 116 166 rfl) List.not_mem_nil))))))))))).trans ((hu125 _ (q_pd 116 157 rfl)).trans (hO0))
  have ho150 := hO0
  refine q_putF (ci := 12) (j := 9) (v := .ref q123) (ty := .object "NumberHouseModel$DirectiveRows") C0 V i_NM o_NM n_NM rfl rfl rfl rfl rfl hO0 (by decide) w_2307 rfl rfl rfl (Nat.le_of_ble_eq_true rfl) d_14_1_74 (fun H locs w148 hu149 hO0 V => ?_)
  replace hO0 : w148[116]? = (some (qO0, .inr (12, [.int 0, .ref q1, .int 0, .ref q8, .int 0, .ref q15, .ref q53, .ref q83, .ref q107, .ref q123, .null, .null])) : Option (Nat × va_E)) := hO0
  replace hN : w148.length = 167 := (q_len1 hu149 hO0 ho150).trans hN
  replace hF := q_us hF hu149 (.head _)
  refine lv_aload_n hx hb d_14_1_77 rfl (lv_at hl 0 rfl) ?_
  refine lv_bipush (v := 20) hx hb d_14_1_78 (by decide) ?_
  refine q_newL (N' := 20) C0 V hN w_67 (by decide) (by decide) (by decide) (Nat.le_of_ble_eq_true rfl) (Nat.le_of_ble_eq_true rfl) d_14_1_80 (fun q151 H w152 hu153 hn154 hN V => ?_)
  have hn50 : w152[167]? = (some (q151, .inl (g 1, 20, .inr (.inl (fun _ => 0)))) : Option (Nat × va_E)) := hn154
  replace hF := q_us hF hu153 (List.mem_of_getElem? (i := 51) rfl)
  replace hN : w152.length = 168 := hN
  replace hO0 := (hu153 _ (q_pd 116 167 rfl)).trans (hO0)
  have ho157 := hO0
  refine q_putF (ci := 12) (j := 10) (v := .ref q151) (ty := .array .long) C0 V i_NM o_NM n_NM rfl rfl rfl rfl rfl hO0 (by decide) w_2308 rfl rfl rfl (Nat.le_of_ble_eq_true rfl) d_14_1_82 (fun H locs w155 hu156 hO0 V => ?_)
  replace hO0 : w155[116]? = (some (qO0, .inr (12, [.int 0, .ref q1, .int 0, .ref q8, .int 0, .ref q15, .ref q53, .ref q83, .ref q107, .ref q123, .ref q151, .null])) : Option (Nat × va_E)) := hO0
  replace hN : w155.length = 168 := (q_len1 hu156 hO0 ho157).trans hN
  replace hF := q_us hF hu156 (.head _)
  refine lv_aload_n hx hb d_14_1_85 rfl (lv_at hl 0 rfl) ?_
  refine lv_iconst (v := 1) hx hb d_14_1_86 (by decide) ?_
  refine q_newL (N' := 1) C0 V hN w_67 (by decide) (by decide) (by decide) (Nat.le_of_ble_eq_true rfl) (Nat.le_of_ble_eq_true rfl) d_14_1_87 (fun q158 H w159 hu160 hn161 hN V => ?_)
  have hn51 : w159[168]? = (some (q158, .inl (g 1, 1, .inr (.inl (fun _ => 0)))) : Option (Nat × va_E)) := hn161
  replace hF := q_us hF hu160 (List.mem_of_getElem? (i := 52) rfl)
  replace hN : w159.length = 169 := hN
  replace hO0 := (hu160 _ (q_pd 116 168 rfl)).trans (hO0)
  have ho164 := hO0
  refine q_putF (ci := 12) (j := 11) (v := .ref q158) (ty := .array .long) C0 V i_NM o_NM n_NM rfl rfl rfl rfl rfl hO0 (by decide) w_2309 rfl rfl rfl (Nat.le_of_ble_eq_true rfl) d_14_1_89 (fun H locs w162 hu163 hO0 V => ?_)
  replace hO0 : w162[116]? = (some (qO0, .inr (12, [.int 0, .ref q1, .int 0, .ref q8, .int 0, .ref q15, .ref q53, .ref q83, .ref q107, .ref q123, .ref q151, .ref q158])) : Option (Nat × va_E)) := hO0
  replace hN : w162.length = 169 := (q_len1 hu163 hO0 ho164).trans hN
  replace hF := q_us hF hu163 (.head _)
  have RR : q_un w162 w162 [] := q_u0
  replace RR := q_ub hu163 RR
  replace hn51 := (RR 168 (by decide +kernel)).trans hn51
  replace RR := q_ub hu160 RR
  replace RR := q_ub hu156 RR
  replace hn50 := (RR 167 (by decide +kernel)).trans hn50
  replace RR := q_ub hu153 RR
  replace RR := q_ub hu149 RR
  replace hn40 := (RR 157 (by decide +kernel)).trans hn40
  replace hn41 := (RR 158 (by decide +kernel)).trans hn41
  replace hn42 := (RR 159 (by decide +kernel)).trans hn42
  replace hn43 := (RR 160 (by decide +kernel)).trans hn43
  replace hn44 := (RR 161 (by decide +kernel)).trans hn44
  replace hn45 := (RR 162 (by decide +kernel)).trans hn45
  replace hn46 := (RR 163 (by decide +kernel)).trans hn46
  replace hn47 := (RR 164 (by decide +kernel)).trans hn47
  replace hn48 := (RR 165 (by decide +kernel)).trans hn48
  replace hn49 := (RR 166 (by decide +kernel)).trans hn49
  replace RR := q_ubc hg138 RR
  replace RR := q_ub hu125 RR
  replace RR := q_ub hu121 RR
  replace hn36 := (RR 153 (by decide +kernel)).trans hn36
  replace hn37 := (RR 154 (by decide +kernel)).trans hn37
  replace hn38 := (RR 155 (by decide +kernel)).trans hn38
  replace hn39 := (RR 156 (by decide +kernel)).trans hn39
  replace RR := q_ubc hg116 RR
  replace RR := q_ub hu109 RR
  replace RR := q_ub hu105 RR
  replace hn28 := (RR 145 (by decide +kernel)).trans hn28
  replace hn29 := (RR 146 (by decide +kernel)).trans hn29
  replace hn30 := (RR 147 (by decide +kernel)).trans hn30
  replace hn31 := (RR 148 (by decide +kernel)).trans hn31
  replace hn32 := (RR 149 (by decide +kernel)).trans hn32
  replace hn33 := (RR 150 (by decide +kernel)).trans hn33
  replace hn34 := (RR 151 (by decide +kernel)).trans hn34
  replace hn35 := (RR 152 (by decide +kernel)).trans hn35
  replace RR := q_ubc hg96 RR
  replace RR := q_ub hu85 RR
  replace RR := q_ub hu81 RR
  replace hn17 := (RR 134 (by decide +kernel)).trans hn17
  replace hn18 := (RR 135 (by decide +kernel)).trans hn18
  replace hn19 := (RR 136 (by decide +kernel)).trans hn19
  replace hn20 := (RR 137 (by decide +kernel)).trans hn20
  replace hn21 := (RR 138 (by decide +kernel)).trans hn21
  replace hn22 := (RR 139 (by decide +kernel)).trans hn22
  replace hn23 := (RR 140 (by decide +kernel)).trans hn23
  replace hn24 := (RR 141 (by decide +kernel)).trans hn24
  replace hn25 := (RR 142 (by decide +kernel)).trans hn25
  replace hn26 := (RR 143 (by decide +kernel)).trans hn26
  replace hn27 := (RR 144 (by decide +kernel)).trans hn27
  replace RR := q_ubc hg69 RR
  replace RR := q_ub hu55 RR
  replace RR := q_ub hu51 RR
  replace hn2 := (RR 119 (by decide +kernel)).trans hn2
  replace hn3 := (RR 120 (by decide +kernel)).trans hn3
  replace hn4 := (RR 121 (by decide +kernel)).trans hn4
  replace hn5 := (RR 122 (by decide +kernel)).trans hn5
  replace hn6 := (RR 123 (by decide +kernel)).trans hn6
  replace hn7 := (RR 124 (by decide +kernel)).trans hn7
  replace hn8 := (RR 125 (by decide +kernel)).trans hn8
  replace hn9 := (RR 126 (by decide +kernel)).trans hn9
  replace hn10 := (RR 127 (by decide +kernel)).trans hn10
  replace hn11 := (RR 128 (by decide +kernel)).trans hn11
  replace hn12 := (RR 129 (by decide +kernel)).trans hn12
  replace hn13 := (RR 130 (by decide +kernel)).trans hn13
  replace hn14 := (RR 131 (by decide +kernel)).trans hn14
  replace hn15 := (RR 132 (by decide +kernel)).trans hn15
  replace hn16 := (RR 133 (by decide +kernel)).trans hn16
  replace RR := q_ubc hg35 RR
  replace RR := q_ub hu17 RR
  replace RR := q_ub hu13 RR
  replace hn1 := (RR 118 (by decide +kernel)).trans hn1
  replace RR := q_ub hu10 RR
  replace RR := q_ub hu6 RR
  replace hn0 := (RR 117 (by decide +kernel)).trans hn0
  exact q_retv C0 V (⟨(fun i => ([qO0, q1, q8, q15, q21, q22, q23, q24, q25, q26, q27, q28, q29, q30, q31, q32, q33, q34, q53, q59, q60, q61, q62, q63, q64, q65, q66, q67, q68, q83, q89, q90, q91, q92, q93, q94, q95, q107, q113, q114, q115, q123, q129, q130, q131, q132, q133, q134, q135, q136, q137, q151, q158] : List Nat).getD i 0), rfl, hF, (show q_fl w162 116 (nm_w g (fun i => ([qO0, q1, q8, q15, q21, q22, q23, q24, q25, q26, q27, q28, q29, q30, q31, q32, q33, q34, q53, q59, q60, q61, q62, q63, q64, q65, q66, q67, q68, q83, q89, q90, q91, q92, q93, q94, q95, q107, q113, q114, q115, q123, q129, q130, q131, q132, q133, q134, q135, q136, q137, q151, q158] : List Nat).getD i 0)) from (q_fc hO0 (q_fc hn0 (q_fc hn1 (q_fc hn2 (q_fc hn3 (q_fc hn4 (q_fc hn5 (q_fc hn6 (q_fc hn7 (q_fc hn8 (q_fc hn9 (q_fc hn10 (q_fc hn11 (q_fc hn12 (q_fc hn13 (q_fc hn14 (q_fc hn15 (q_fc hn16 (q_fc hn17 (q_fc hn18 (q_fc hn19 (q_fc hn20 (q_fc hn21 (q_fc hn22 (q_fc hn23 (q_fc hn24 (q_fc hn25 (q_fc hn26 (q_fc hn27 (q_fc hn28 (q_fc hn29 (q_fc hn30 (q_fc hn31 (q_fc hn32 (q_fc hn33 (q_fc hn34 (q_fc hn35 (q_fc hn36 (q_fc hn37 (q_fc hn38 (q_fc hn39 (q_fc hn40 (q_fc hn41 (q_fc hn42 (q_fc hn43 (q_fc hn44 (q_fc hn45 (q_fc hn46 (q_fc hn47 (q_fc hn48 (q_fc hn49 (q_fc hn50 (q_fc hn51 q_fn)))))))))))))))))))))))))))))))))))))))))))))))))))))), hN⟩) d_14_1_92

/-! methods of java/lang/Math that are bytecode -/
section QEF
variable {l : Launch} {D : va_G} {g : Nat → ClassId}
/-- the entry of a method of java/lang/Math that is bytecode -/
theorem q_intoF {y : MethodName} {b : ByteArray} {n : Nat} {r : Option FieldType} {d mc ms : Nat} {av : List Value} {ws : va_W} {sz : Nat} {Qc : Array Value → State → Outcome → State → Prop} (hy : plainFor y = true) (hn : (lg_sl av).length ≤ n)
    (body : ∀ (p : Program) (e : Env) (s : State) (m : MethodId) (below : List Frame) (meth : Method) (c : Code) (ls : Array Slot), s.heap.size = sz → q_At p s m av.toArray meth c y b n r → q_Wd D g (va_A ws sz) s ws s.heap [] → lv_has ls n (lv_args 0 av) →
      W p l e (q_rm d mc ms) s m av.toArray below meth c s.heap [] 0 0 (MQ below Qc av.toArray s mc ms (va_A ws sz)) (F0 m 0 ls [])) :
    Met l y (q_w y b n r) (q_rm d mc ms) (q_P D g av ws sz) Qc mc ms (va_A ws sz) := by
  refine MetFree.of_bodySF (code := b) (maxLocals := n) (ret := r) hy ?_ ?_
  · intro args s m h hnm
    obtain ⟨meth, c, h1, h2, h3, h4, h5, h6, -, -⟩ := Cond.code_spec hnm (atoms_spec (ws := q_w y b n r) h _ List.mem_cons_self)
    exact ⟨meth, c, h1, h2, h3, h4, h5, h6⟩
  · intro p e s m args below meth c s₁ B hml hv _
    obtain ⟨rfl, hsz, hP, hK, hD, hZ⟩ := hv
    have hts := atoms_spec (ws := q_w y b n r) B.pre
    have hh0 : s₁.heap = s.heap := by rw [B.state]; rfl
    have hl := lv_entry av (n := n) hn
    have K := body p e s m below meth c _ hsz ⟨B.exec, B.bytes, B.returns, hml, findClass_of_methodNamed B.named, fun w h => hts w (List.mem_cons_of_mem _ h), B.notSynchronized, (name_of_methodNamed B.named B.method).1⟩
      ⟨hP, hD.self, va_S.rf, hK, hZ, fun q h => Or.inr (by rw [← hsz]; exact h)⟩ hl
    rw [← lg_entry_eq] at K
    obtain ⟨t, a1, o, b1, b2, b3⟩ := K s₁ hh0 (Stand.of_body B)
    exact ⟨t, o, a1, b1, b2, ⟨b3.1, b3.2⟩⟩
end QEF

/-! a number that is 0 or 1, as a boolean -/
theorem q_b01 {y : Int32} (h0 : (0 : Int32) ≤ y) (h1 : y ≤ 1) : y = 0 ∨ y = 1 := by
  have a := q_leI h0
  have b := q_leI h1
  have e0 : (0 : Int32).toInt = 0 := rfl
  have e1 : (1 : Int32).toInt = 1 := rfl
  rcases (show y.toInt = 0 ∨ y.toInt = 1 by omega) with h | h
  · exact Or.inl (Int32.toInt_inj.mp (h.trans e0.symm))
  · exact Or.inr (Int32.toInt_inj.mp (h.trans e1.symm))
theorem q_nz01 {y : Int32} (h0 : (0 : Int32) ≤ y) (h1 : y ≤ 1) : narrow .boolean (.int y) = .int y := by rcases q_b01 h0 h1 with rfl | rfl <;> rfl
theorem q_fz01 {y : Int32} (h0 : (0 : Int32) ≤ y) (h1 : y ≤ 1) : fits .boolean (.int y) = true := by rcases q_b01 h0 h1 with rfl | rfl <;> rfl

/-! states that calls can reach: what may stand at each place -/
abbrev q_Ok : Type := va_E → Prop
/-- every place of the shape holds what it may, at its own address -/
def q_I (sh : List q_Ok) (q : Nat → Nat) (ws : va_W) : Prop := ∀ (k : Nat) (P : q_Ok), sh[k]? = some P → ∃ E, ws[k]? = some (q k, E) ∧ P E
theorem q_Iset {sh : List q_Ok} {q : Nat → Nat} {ws u : va_W} {k : Nat} {P : q_Ok} {E : va_E} (h : q_I sh q ws) (hu : ∀ i, i ≠ k → u[i]? = ws[i]?) (hk : sh[k]? = some P) (hx : u[k]? = some (q k, E)) (hP : P E) : q_I sh q u := fun j Pj hj => by
  by_cases e : j = k
  · subst e
    cases Option.some.inj (hk.symm.trans hj)
    exact ⟨E, hx, hP⟩
  · obtain ⟨E', h1, h2⟩ := h j Pj hj
    exact ⟨E', (hu j e).trans h1, h2⟩
/-- an int row whose elements lie between lo and hi -/
def k_ai (c : ClassId) (n : Nat) (lo hi : Int) : q_Ok := fun E => ∃ f : Nat → Int32, E = .inl (c, n, .inl f) ∧ ∀ i, lo ≤ (f i).toInt ∧ (f i).toInt ≤ hi
/-- a long row -/
def k_al (c : ClassId) (n : Nat) : q_Ok := fun E => ∃ f : Nat → Int64, E = .inl (c, n, .inr (.inl f))
/-- what never changes -/
def k_fix (E0 : va_E) : q_Ok := fun E => E = E0
/-- a Big at place k, its limbs at the place behind it -/
def k_Big (q : Nat → Nat) (k : Nat) (R : Int32) : q_Ok := fun E => ∃ y1 y2 : Int32, E = .inr (2, [.ref (q (k + 1)), .int y1, .int y2]) ∧ (0 ≤ y1.toInt ∧ y1.toInt ≤ R.toInt) ∧ (0 ≤ y2.toInt ∧ y2.toInt ≤ 1)
/-- a Sheet at place k, its row at the place behind it -/
def k_She (q : Nat → Nat) (k : Nat) (R : Int32) : q_Ok := fun E => ∃ y2 : Int32, E = .inr (1, [.ref (q (k + 1)), .int R, .int y2]) ∧ (0 ≤ y2.toInt ∧ y2.toInt ≤ R.toInt)
def q_isBig (sh : List q_Ok) (g : Nat → ClassId) (q : Nat → Nat) (k : Nat) (R : Int32) : Prop := sh[k]? = some (k_Big q k R) ∧ sh[k + 1]? = some (k_ai (g 0) R.toNatClampNeg (-2147483648) 2147483647) ∧ 0 ≤ R.toInt ∧ R.toInt ≤ 220
theorem q_bigO {sh : List q_Ok} {g : Nat → ClassId} {q : Nat → Nat} {ws : va_W} {k : Nat} {R : Int32} (h : q_I sh q ws) (b : q_isBig sh g q k R) : ∃ y1 y2 : Int32, ws[k]? = (some (q k, .inr (2, [.ref (q (k + 1)), .int y1, .int y2])) : Option (Nat × va_E)) ∧ (0 ≤ y1.toInt ∧ y1.toInt ≤ R.toInt) ∧ (0 ≤ y2.toInt ∧ y2.toInt ≤ 1) := by
  obtain ⟨E, h1, y1, y2, rfl, h2, h3⟩ := h k _ b.1
  exact ⟨y1, y2, h1, h2, h3⟩
theorem q_bigW {sh : List q_Ok} {g : Nat → ClassId} {q : Nat → Nat} {ws : va_W} {k : Nat} {R : Int32} (h : q_I sh q ws) (b : q_isBig sh g q k R) {y1 : Int32} {y2 : Int32} (hx9 : ws[k]? = (some (q k, .inr (2, [.ref (q (k + 1)), .int y1, .int y2])) : Option (Nat × va_E))) : (0 ≤ y1.toInt ∧ y1.toInt ≤ R.toInt) ∧ (0 ≤ y2.toInt ∧ y2.toInt ≤ 1) := by
  obtain ⟨z0, z1, hh9, bb9⟩ := q_bigO h b
  obtain ⟨rfl, rfl⟩ : y1 = z0 ∧ y2 = z1 := by have z := Option.some.inj (hx9.symm.trans hh9); simpa using z
  exact bb9
theorem q_bigA {sh : List q_Ok} {g : Nat → ClassId} {q : Nat → Nat} {ws : va_W} {k : Nat} {R : Int32} (h : q_I sh q ws) (b : q_isBig sh g q k R) : ∃ f : Nat → Int32, ws[k + 1]? = (some (q (k + 1), .inl (g 0, R.toNatClampNeg, .inl f)) : Option (Nat × va_E)) ∧ ∀ i, -2147483648 ≤ (f i).toInt ∧ (f i).toInt ≤ 2147483647 := by
  obtain ⟨E, h1, f, rfl, h2⟩ := h (k + 1) _ b.2.1
  exact ⟨f, h1, h2⟩
theorem q_bigO' {sh : List q_Ok} {g : Nat → ClassId} {q : Nat → Nat} {ws u : va_W} {k : Nat} {R y1 y2 : Int32} (h : q_I sh q ws) (b : q_isBig sh g q k R) (hu : ∀ i, i ≠ k → u[i]? = ws[i]?) (hx : u[k]? = (some (q k, .inr (2, [.ref (q (k + 1)), .int y1, .int y2])) : Option (Nat × va_E))) (h1 : 0 ≤ y1.toInt ∧ y1.toInt ≤ R.toInt) (h2 : 0 ≤ y2.toInt ∧ y2.toInt ≤ 1) : q_I sh q u :=
  q_Iset h hu b.1 hx ⟨y1, y2, rfl, h1, h2⟩
theorem q_bigA' {sh : List q_Ok} {g : Nat → ClassId} {q : Nat → Nat} {ws u : va_W} {k : Nat} {R : Int32} {f : Nat → Int32} (h : q_I sh q ws) (b : q_isBig sh g q k R) (hu : ∀ i, i ≠ k + 1 → u[i]? = ws[i]?) (hx : u[k + 1]? = (some (q (k + 1), .inl (g 0, R.toNatClampNeg, .inl f)) : Option (Nat × va_E))) (hf : ∀ i, -2147483648 ≤ (f i).toInt ∧ (f i).toInt ≤ 2147483647) : q_I sh q u :=
  q_Iset h hu b.2.1 hx ⟨f, rfl, hf⟩
theorem q_updB {f : Nat → Int32} {i : Nat} {v : Int32} {lo hi : Int} (hf : ∀ i, lo ≤ (f i).toInt ∧ (f i).toInt ≤ hi) (hv : lo ≤ v.toInt ∧ v.toInt ≤ hi) : ∀ j, lo ≤ (upd f i v j).toInt ∧ (upd f i v j).toInt ≤ hi := fun j => by
  unfold upd
  split
  · exact hv
  · exact hf j

/-! operations, as far as bounds go -/
def q_F (p : Prop) : Prop := p
theorem q_nm {α : Type} (t : α) : ∃ v, t = v := ⟨t, rfl⟩
theorem s_nn {x : Int32} (h : 0 ≤ x.toInt) : x.toInt = (x.toBitVec.toNat : Int) ∧ x.toBitVec.toNat < 2147483648 ∧ x.toBitVec.msb = false := by
  have h0 : x.toBitVec.msb = false := by
    rw [BitVec.msb_eq_toInt, decide_eq_false_iff_not]
    show ¬ x.toInt < 0
    omega
  have h1 : x.toInt = (x.toBitVec.toNat : Int) := BitVec.toInt_eq_toNat_of_msb h0
  have h2 := Int32.toInt_lt x
  exact ⟨h1, by omega, h0⟩
theorem s_of {x : Int32} {n : Nat} (h : x.toBitVec.toNat = n) (hn : n < 2147483648) : x.toInt = (n : Int) := by
  have h0 : x.toBitVec.msb = false := by
    rw [BitVec.msb_eq_decide]
    simp
    omega
  rw [← h]
  exact BitVec.toInt_eq_toNat_of_msb h0
theorem s_and {x m : Int32} (hm : 0 ≤ m.toInt) : 0 ≤ (x &&& m).toInt ∧ (x &&& m).toInt ≤ m.toInt := by
  obtain ⟨h1, h2, -⟩ := s_nn hm
  have h3 := Nat.and_le_right (n := x.toBitVec.toNat) (m := m.toBitVec.toNat)
  have h4 : (x &&& m).toBitVec.toNat = x.toBitVec.toNat &&& m.toBitVec.toNat := by rw [Int32.toBitVec_and, BitVec.toNat_and]
  have h5 := s_of h4 (by omega)
  omega
theorem s_andL {x m : Int32} (hm : 0 ≤ x.toInt) : 0 ≤ (x &&& m).toInt ∧ (x &&& m).toInt ≤ x.toInt := by
  obtain ⟨h1, h2, -⟩ := s_nn hm
  have h3 := Nat.and_le_left (n := x.toBitVec.toNat) (m := m.toBitVec.toNat)
  have h4 : (x &&& m).toBitVec.toNat = x.toBitVec.toNat &&& m.toBitVec.toNat := by rw [Int32.toBitVec_and, BitVec.toNat_and]
  have h5 := s_of h4 (by omega)
  omega
theorem s_or {x y : Int32} (k : Nat) (hk : k ≤ 31) (hx : 0 ≤ x.toInt ∧ x.toInt < 2 ^ k) (hy : 0 ≤ y.toInt ∧ y.toInt < 2 ^ k) : 0 ≤ (x ||| y).toInt ∧ (x ||| y).toInt < 2 ^ k := by
  obtain ⟨h1, h2, -⟩ := s_nn hx.1
  obtain ⟨h3, h4, -⟩ := s_nn hy.1
  have e : ((2 : Int) ^ k) = ((2 ^ k : Nat) : Int) := by norm_cast
  have h5 := Nat.or_lt_two_pow (x := x.toBitVec.toNat) (y := y.toBitVec.toNat) (n := k) (by omega) (by omega)
  have h6 : (x ||| y).toBitVec.toNat = x.toBitVec.toNat ||| y.toBitVec.toNat := by rw [Int32.toBitVec_or, BitVec.toNat_or]
  have h7 : 2 ^ k ≤ 2 ^ 31 := Nat.pow_le_pow_right (by omega) hk
  have h8 := s_of h6 (by omega)
  omega
theorem s_xor {x y : Int32} (k : Nat) (hk : k ≤ 31) (hx : 0 ≤ x.toInt ∧ x.toInt < 2 ^ k) (hy : 0 ≤ y.toInt ∧ y.toInt < 2 ^ k) : 0 ≤ (x ^^^ y).toInt ∧ (x ^^^ y).toInt < 2 ^ k := by
  obtain ⟨h1, h2, -⟩ := s_nn hx.1
  obtain ⟨h3, h4, -⟩ := s_nn hy.1
  have e : ((2 : Int) ^ k) = ((2 ^ k : Nat) : Int) := by norm_cast
  have h5 := Nat.xor_lt_two_pow (x := x.toBitVec.toNat) (y := y.toBitVec.toNat) (n := k) (by omega) (by omega)
  have h6 : (x ^^^ y).toBitVec.toNat = x.toBitVec.toNat ^^^ y.toBitVec.toNat := by rw [Int32.toBitVec_xor, BitVec.toNat_xor]
  have h7 : 2 ^ k ≤ 2 ^ 31 := Nat.pow_le_pow_right (by omega) hk
  have h8 := s_of h6 (by omega)
  omega
theorem s_ushr {x c : Int32} (k : Nat) (hc : ((c.toUInt32 &&& Int32.toUInt32 31).toBitVec % 32).toNat = k) (hk : 1 ≤ k) : 0 ≤ ((x.toUInt32 >>> (c.toUInt32 &&& Int32.toUInt32 31)).toInt32).toInt ∧ ((x.toUInt32 >>> (c.toUInt32 &&& Int32.toUInt32 31)).toInt32).toInt < 2 ^ (32 - k) ∧ (0 ≤ x.toInt → ((x.toUInt32 >>> (c.toUInt32 &&& Int32.toUInt32 31)).toInt32).toInt = x.toInt / 2 ^ k) := by
  have h1 : ((x.toUInt32 >>> (c.toUInt32 &&& Int32.toUInt32 31)).toInt32).toBitVec.toNat = x.toBitVec.toNat / 2 ^ k := by
    show (x.toUInt32 >>> (c.toUInt32 &&& Int32.toUInt32 31)).toBitVec.toNat = _
    rw [UInt32.toBitVec_shiftRight, BitVec.ushiftRight_eq', BitVec.toNat_ushiftRight, hc, Nat.shiftRight_eq_div_pow]
    rfl
  have h2 := x.toBitVec.isLt
  have h3 : x.toBitVec.toNat / 2 ^ k < 2 ^ (32 - k) := by
    rw [Nat.div_lt_iff_lt_mul (Nat.two_pow_pos k)]
    by_cases h : k ≤ 32
    · rw [← Nat.pow_add, Nat.sub_add_cancel h]; exact h2
    · have h9 := Nat.pow_le_pow_right (n := 2) (by omega) (show 32 ≤ k by omega); have h8 := Nat.two_pow_pos (32 - k)
      calc x.toBitVec.toNat < 2 ^ 32 := h2
        _ ≤ 2 ^ k := h9
        _ ≤ 2 ^ (32 - k) * 2 ^ k := Nat.le_mul_of_pos_left _ h8
  have h4 : 2 ^ (32 - k) ≤ 2 ^ 31 := Nat.pow_le_pow_right (by omega) (by omega)
  have h5 := s_of h1 (by omega)
  have e : ((2 : Int) ^ (32 - k)) = ((2 ^ (32 - k) : Nat) : Int) := by norm_cast
  refine ⟨by omega, by rw [e]; omega, fun h => ?_⟩
  obtain ⟨h6, -, -⟩ := s_nn h
  rw [h5, h6]
  norm_cast
theorem s_shr {x c : Int32} (k : Nat) (hc : (c &&& 31).toBitVec.smod 32 = BitVec.ofNat 32 k) (hk : k ≤ 31) (h0 : 0 ≤ x.toInt) : (x >>> (c &&& 31)).toInt = x.toInt / 2 ^ k := by
  obtain ⟨h1, h2, h3⟩ := s_nn h0
  have e : (x >>> (c &&& 31)).toBitVec.toNat = x.toBitVec.toNat / 2 ^ k := by
    rw [Int32.toBitVec_shiftRight, hc, BitVec.sshiftRight_eq', BitVec.sshiftRight_eq_of_msb_false h3, BitVec.toNat_ushiftRight, Nat.shiftRight_eq_div_pow, BitVec.toNat_ofNat, Nat.mod_eq_of_lt (by omega)]
  have h4 : x.toBitVec.toNat / 2 ^ k ≤ x.toBitVec.toNat := Nat.div_le_self _ _
  have h5 := s_of e (by omega)
  rw [h5, h1]
  norm_cast
theorem s_rem {x b : Int32} (hx : 0 ≤ x.toInt) (hb : 0 < b.toInt) : (x - x / b * b).toInt = x.toInt % b.toInt := by
  have h1 := q_divI (a := x) (b := b) rfl rfl hx hb
  have h2 := Int.mul_ediv_self_le (x := x.toInt) (k := b.toInt) (by omega)
  have h3 := Int.lt_mul_ediv_self_add (x := x.toInt) (k := b.toInt) hb
  have h4 := Int32.toInt_lt x
  have h5 := Int32.toInt_lt b
  have h6 : 0 ≤ x.toInt / b.toInt := Int.ediv_nonneg hx (by omega)
  have h7 : 0 ≤ x.toInt / b.toInt * b.toInt := Int.mul_nonneg h6 (by omega)
  have h8 : x.toInt / b.toInt * b.toInt = b.toInt * (x.toInt / b.toInt) := Int.mul_comm _ _
  have h9 := q_mulI h1 (rfl : b.toInt = b.toInt) (by omega) (by omega)
  have h10 := q_subI (a := x) rfl h9 (by omega) (by omega)
  rw [h10, Int.emod_def]
  omega
theorem s_rem' {x b : Int32} (hx : 0 ≤ x.toInt) (hb : 0 < b.toInt) : 0 ≤ (x - x / b * b).toInt ∧ (x - x / b * b).toInt < b.toInt ∧ (x - x / b * b).toInt ≤ x.toInt := by
  rw [s_rem hx hb]
  exact ⟨Int.emod_nonneg _ (by omega), Int.emod_lt_of_pos _ hb, by have := Int.emod_add_ediv_mul x.toInt b.toInt; have h6 : 0 ≤ x.toInt / b.toInt * b.toInt := Int.mul_nonneg (Int.ediv_nonneg hx (by omega)) (by omega); omega⟩
theorem s_l2i {x : Int64} (h1 : -2147483648 ≤ x.toInt) (h2 : x.toInt ≤ 2147483647) : x.toInt32.toInt = x.toInt := by
  rw [Int64.toInt_toInt32]
  simp only [Int.bmod_def]
  omega
theorem s_nnL {x : Int64} (h : 0 ≤ x.toInt) : x.toInt = (x.toBitVec.toNat : Int) ∧ x.toBitVec.toNat < 9223372036854775808 ∧ x.toBitVec.msb = false := by
  have h0 : x.toBitVec.msb = false := by
    rw [BitVec.msb_eq_toInt, decide_eq_false_iff_not]
    show ¬ x.toInt < 0
    omega
  have h1 : x.toInt = (x.toBitVec.toNat : Int) := BitVec.toInt_eq_toNat_of_msb h0
  have h2 := Int64.toInt_lt x
  exact ⟨h1, by omega, h0⟩
theorem s_ofL {x : Int64} {n : Nat} (h : x.toBitVec.toNat = n) (hn : n < 9223372036854775808) : x.toInt = (n : Int) := by
  have h0 : x.toBitVec.msb = false := by
    rw [BitVec.msb_eq_decide]
    simp
    omega
  rw [← h]
  exact BitVec.toInt_eq_toNat_of_msb h0
theorem s_andJ {x m : Int64} (hm : 0 ≤ m.toInt) : 0 ≤ (x &&& m).toInt ∧ (x &&& m).toInt ≤ m.toInt := by
  obtain ⟨h1, h2, -⟩ := s_nnL hm
  have h3 := Nat.and_le_right (n := x.toBitVec.toNat) (m := m.toBitVec.toNat)
  have h4 : (x &&& m).toBitVec.toNat = x.toBitVec.toNat &&& m.toBitVec.toNat := by rw [Int64.toBitVec_and, BitVec.toNat_and]
  have h5 := s_ofL h4 (by omega)
  omega
theorem s_orJ {x y : Int64} (k : Nat) (hk : k ≤ 63) (hx : 0 ≤ x.toInt ∧ x.toInt < 2 ^ k) (hy : 0 ≤ y.toInt ∧ y.toInt < 2 ^ k) : 0 ≤ (x ||| y).toInt ∧ (x ||| y).toInt < 2 ^ k := by
  obtain ⟨h1, h2, -⟩ := s_nnL hx.1
  obtain ⟨h3, h4, -⟩ := s_nnL hy.1
  have e : ((2 : Int) ^ k) = ((2 ^ k : Nat) : Int) := by norm_cast
  have h5 := Nat.or_lt_two_pow (x := x.toBitVec.toNat) (y := y.toBitVec.toNat) (n := k) (by omega) (by omega)
  have h6 : (x ||| y).toBitVec.toNat = x.toBitVec.toNat ||| y.toBitVec.toNat := by rw [Int64.toBitVec_or, BitVec.toNat_or]
  have h7 : 2 ^ k ≤ 2 ^ 63 := Nat.pow_le_pow_right (by omega) hk
  have h8 := s_ofL h6 (by omega)
  omega
theorem s_ushrJ {x : Int64} {c : Int32} (k : Nat) (hc : ((c.toInt64.toUInt64 &&& Int64.toUInt64 63).toBitVec % 64).toNat = k) (hk : 1 ≤ k) : 0 ≤ ((x.toUInt64 >>> (c.toInt64.toUInt64 &&& Int64.toUInt64 63)).toInt64).toInt ∧ ((x.toUInt64 >>> (c.toInt64.toUInt64 &&& Int64.toUInt64 63)).toInt64).toInt < 2 ^ (64 - k) ∧ (0 ≤ x.toInt → ((x.toUInt64 >>> (c.toInt64.toUInt64 &&& Int64.toUInt64 63)).toInt64).toInt = x.toInt / 2 ^ k) := by
  have h1 : ((x.toUInt64 >>> (c.toInt64.toUInt64 &&& Int64.toUInt64 63)).toInt64).toBitVec.toNat = x.toBitVec.toNat / 2 ^ k := by
    show (x.toUInt64 >>> (c.toInt64.toUInt64 &&& Int64.toUInt64 63)).toBitVec.toNat = _
    rw [UInt64.toBitVec_shiftRight, BitVec.ushiftRight_eq', BitVec.toNat_ushiftRight, hc, Nat.shiftRight_eq_div_pow]
    rfl
  have h2 := x.toBitVec.isLt
  have h3 : x.toBitVec.toNat / 2 ^ k < 2 ^ (64 - k) := by
    rw [Nat.div_lt_iff_lt_mul (Nat.two_pow_pos k)]
    by_cases h : k ≤ 64
    · rw [← Nat.pow_add, Nat.sub_add_cancel h]; exact h2
    · have h9 := Nat.pow_le_pow_right (n := 2) (by omega) (show 64 ≤ k by omega); have h8 := Nat.two_pow_pos (64 - k)
      calc x.toBitVec.toNat < 2 ^ 64 := h2
        _ ≤ 2 ^ k := h9
        _ ≤ 2 ^ (64 - k) * 2 ^ k := Nat.le_mul_of_pos_left _ h8
  have h4 : 2 ^ (64 - k) ≤ 2 ^ 63 := Nat.pow_le_pow_right (by omega) (by omega)
  have h5 := s_ofL h1 (by omega)
  have e : ((2 : Int) ^ (64 - k)) = ((2 ^ (64 - k) : Nat) : Int) := by norm_cast
  refine ⟨by omega, by rw [e]; omega, fun h => ?_⟩
  obtain ⟨h6, -, -⟩ := s_nnL h
  rw [h5, h6]
  norm_cast
theorem t_ushr : ((( (31 : Int32)).toUInt32 &&& Int32.toUInt32 31).toBitVec % 32).toNat = 31 := by decide
theorem t_ushrJ : (((31 : Int32).toInt64.toUInt64 &&& Int64.toUInt64 63).toBitVec % 64).toNat = 31 := by decide
theorem t_shr : ((16 : Int32) &&& 31).toBitVec.smod 32 = BitVec.ofNat 32 16 := by decide
theorem s_len {R : Int32} (h : 0 ≤ R.toInt) : Int32.ofNat R.toNatClampNeg = R := by
  have h1 := q_clI (i := R) rfl h
  have h2 := Int32.toInt_lt R
  refine Int32.toInt_inj.mp ?_
  rw [Int32.toInt_ofNat_of_lt (by omega)]
  exact h1
theorem s_max {a b : Int32} : a.toInt ≤ (if a < b then b else a).toInt ∧ b.toInt ≤ (if a < b then b else a).toInt ∧ ((if a < b then b else a).toInt = a.toInt ∨ (if a < b then b else a).toInt = b.toInt) := by
  split
  · have := q_ltI ‹a < b›; omega
  · have := q_nltI ‹¬ a < b›; omega
theorem s_min {a b : Int32} : (if b < a then b else a).toInt ≤ a.toInt ∧ (if b < a then b else a).toInt ≤ b.toInt ∧ ((if b < a then b else a).toInt = a.toInt ∨ (if b < a then b else a).toInt = b.toInt) := by
  split
  · have := q_ltI ‹b < a›; omega
  · have := q_nltI ‹¬ b < a›; omega
theorem s_lcmp {a b : Int64} : -1 ≤ (lg_cmp a b).toInt ∧ (lg_cmp a b).toInt ≤ 1 ∧ (((lg_cmp a b).toInt = -1 ∧ a.toInt < b.toInt) ∨ ((lg_cmp a b).toInt = 0 ∧ a.toInt = b.toInt) ∨ ((lg_cmp a b).toInt = 1 ∧ b.toInt < a.toInt)) := by
  rcases Int.lt_trichotomy a.toInt b.toInt with h | h | h
  · rw [q_cmL rfl rfl h]; exact ⟨by decide, by decide, Or.inl ⟨by decide, h⟩⟩
  · rw [q_cmE rfl rfl h]; exact ⟨by decide, by decide, Or.inr (Or.inl ⟨by decide, h⟩)⟩
  · rw [q_cmG rfl rfl h]; exact ⟨by decide, by decide, Or.inr (Or.inr ⟨by decide, h⟩)⟩
theorem s_ten {i : Nat} (h : i ≤ 9) : 1 ≤ (Int32.ofNat (10 ^ i)).toInt ∧ (Int32.ofNat (10 ^ i)).toInt ≤ 1000000000 := by
  rcases (show i = 0 ∨ i = 1 ∨ i = 2 ∨ i = 3 ∨ i = 4 ∨ i = 5 ∨ i = 6 ∨ i = 7 ∨ i = 8 ∨ i = 9 by omega) with rfl | rfl | rfl | rfl | rfl | rfl | rfl | rfl | rfl | rfl <;> decide
theorem s_five {i : Nat} (h : i ≤ 13) : 1 ≤ (Int32.ofNat (5 ^ i)).toInt ∧ (Int32.ofNat (5 ^ i)).toInt ≤ 1220703125 := by
  rcases (show i = 0 ∨ i = 1 ∨ i = 2 ∨ i = 3 ∨ i = 4 ∨ i = 5 ∨ i = 6 ∨ i = 7 ∨ i = 8 ∨ i = 9 ∨ i = 10 ∨ i = 11 ∨ i = 12 ∨ i = 13 by omega) with rfl | rfl | rfl | rfl | rfl | rfl | rfl | rfl | rfl | rfl | rfl | rfl | rfl | rfl <;> decide
theorem s_cpy {f f1 : Nat → Int32} {a b c : Nat} {lo hi : Int} (hf : ∀ i, lo ≤ (f i).toInt ∧ (f i).toInt ≤ hi) (hf1 : ∀ i, lo ≤ (f1 i).toInt ∧ (f1 i).toInt ≤ hi) : ∀ j, lo ≤ (va_cpy f f1 a b c j).toInt ∧ (va_cpy f f1 a b c j).toInt ≤ hi := fun j => by
  unfold va_cpy
  split
  · exact hf _
  · exact hf1 _
theorem s_nzL {b : Int64} (h : b.toInt ≠ 0) : b ≠ 0 := fun e => h (by rw [e]; rfl)
theorem s_nzI {b : Int32} (h : b.toInt ≠ 0) : b ≠ 0 := fun e => h (by rw [e]; rfl)
theorem s_bnd {x : Int32} : -2147483648 ≤ x.toInt ∧ x.toInt ≤ 2147483647 := ⟨q_lo32, by have := q_hi32 (x := x); omega⟩
theorem s_or' {x y : Int32} (k : Nat) (hk : k ≤ 31) (n : Int) (hn : n = 2 ^ k - 1) (hx : 0 ≤ x.toInt ∧ x.toInt ≤ n) (hy : 0 ≤ y.toInt ∧ y.toInt ≤ n) : 0 ≤ (x ||| y).toInt ∧ (x ||| y).toInt ≤ n := by
  have h := s_or (x := x) (y := y) k hk ⟨hx.1, by omega⟩ ⟨hy.1, by omega⟩
  omega
theorem s_xor' {x y : Int32} (k : Nat) (hk : k ≤ 31) (n : Int) (hn : n = 2 ^ k - 1) (hx : 0 ≤ x.toInt ∧ x.toInt ≤ n) (hy : 0 ≤ y.toInt ∧ y.toInt ≤ n) : 0 ≤ (x ^^^ y).toInt ∧ (x ^^^ y).toInt ≤ n := by
  have h := s_xor (x := x) (y := y) k hk ⟨hx.1, by omega⟩ ⟨hy.1, by omega⟩
  omega

