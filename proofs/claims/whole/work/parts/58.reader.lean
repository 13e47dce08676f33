/-! Reader -/
theorem d_10_9_0 : decode prog_10_method_9_code 0 = .ok (.aload_n 0, 1) := by decide +kernel
theorem d_10_9_1 : decode prog_10_method_9_code 1 = .ok (.iconst 0, 1) := by decide +kernel
theorem d_10_9_2 : decode prog_10_method_9_code 2 = .ok (.putfield 36, 3) := by decide +kernel
set_option maxRecDepth 100000 in
theorem w_290 : (Cond.fieldLink "NumberHouse$Reader" (36 : Nat) "NumberHouse$Reader" "place" "I") ∈ q_tbl := q_of2 50 rfl (by decide +kernel)
theorem d_10_9_5 : decode prog_10_method_9_code 5 = .ok (.aload_n 0, 1) := by decide +kernel
theorem d_10_9_6 : decode prog_10_method_9_code 6 = .ok (.aload_n 0, 1) := by decide +kernel
theorem d_10_9_7 : decode prog_10_method_9_code 7 = .ok (.getfield 9, 3) := by decide +kernel
theorem d_10_9_10 : decode prog_10_method_9_code 10 = .ok (.getfield 145, 3) := by decide +kernel
set_option maxRecDepth 100000 in
theorem w_59 : (Cond.fieldLink "NumberHouse$Reader" (145 : Nat) "NumberHouse$Sheet" "size" "I") ∈ q_tbl := q_of1 59 rfl (by decide +kernel)
theorem d_10_9_13 : decode prog_10_method_9_code 13 = .ok (.putfield 40, 3) := by decide +kernel
set_option maxRecDepth 100000 in
theorem w_291 : (Cond.fieldLink "NumberHouse$Reader" (40 : Nat) "NumberHouse$Reader" "end" "I") ∈ q_tbl := q_of2 51 rfl (by decide +kernel)
theorem d_10_9_16 : decode prog_10_method_9_code 16 = .ok (.return_, 1) := by decide +kernel
def y_Rea_begin : MethodName := ⟨"NumberHouse$Reader", "begin", "()V"⟩
set_option maxRecDepth 100000 in
set_option maxHeartbeats 4000000 in
theorem T_Rea_begin (l : Launch) (D : va_G) (g : Nat → ClassId) (q : Nat → Nat) (ws : va_W) (hI : q_I (nsh g q) q ws) (t0_0 : Int64) (t0_1 : Int64) (t0_2 : Int32) (t0_3 : Int32) (t0_4 : Int32) (t0_5 : Int32) (t0_6 : Int32) (t0_7 : Int32) (t0_8 : Int32) (t0_9 : Int64) (hT0 : ws[38]? = (some (q 38, .inr (8, [.long t0_0, .long t0_1, .ref (q 1), .ref (q 9), .int t0_2, .int t0_3, .int t0_4, .int t0_5, .int t0_6, .int t0_7, .int t0_8, .long t0_9])) : Option (Nat × va_E))) : q_mV l y_Rea_begin prog_10_method_9_code 1 1 0 0 D g [.ref (q 38)] ws (fun u => q_I (nsh g q) q u ∧ q_un ws u [38] ∧ ∃ (u0_0 : Int64) (u0_1 : Int64) (u0_2 : Int32) (u0_3 : Int32) (u0_4 : Int32) (u0_5 : Int32) (u0_6 : Int32) (u0_7 : Int32) (u0_8 : Int32) (u0_9 : Int64), u[38]? = (some (q 38, .inr (8, [.long u0_0, .long u0_1, .ref (q 1), .ref (q 9), .int u0_2, .int u0_3, .int u0_4, .int u0_5, .int u0_6, .int u0_7, .int u0_8, .long u0_9])) : Option (Nat × va_E)) ∧ (0 ≤ u0_2.toInt) ∧ (u0_2.toInt ≤ 0) ∧ (t0_0.toInt ≤ u0_0.toInt) ∧ (u0_0.toInt ≤ t0_0.toInt) ∧ (t0_1.toInt ≤ u0_1.toInt) ∧ (u0_1.toInt ≤ t0_1.toInt) ∧ (t0_4.toInt ≤ u0_4.toInt) ∧ (u0_4.toInt ≤ t0_4.toInt) ∧ (t0_5.toInt ≤ u0_5.toInt) ∧ (u0_5.toInt ≤ t0_5.toInt) ∧ (t0_6.toInt ≤ u0_6.toInt) ∧ (u0_6.toInt ≤ t0_6.toInt) ∧ (t0_7.toInt ≤ u0_7.toInt) ∧ (u0_7.toInt ≤ t0_7.toInt) ∧ (t0_8.toInt ≤ u0_8.toInt) ∧ (u0_8.toInt ≤ t0_8.toInt) ∧ (t0_9.toInt ≤ u0_9.toInt) ∧ (u0_9.toInt ≤ t0_9.toInt) ∧ (u0_3.toInt ≤ u0_2.toInt + 4100) ∧ (u0_2.toInt ≤ u0_3.toInt)) := by
  intro sz
  refine q_into (by decide) (Nat.le_of_ble_eq_true rfl) ?_
  intro p e s m below meth c ls hsz C0 V hl
  have hx := C0.1
  have hb := C0.2.1
  obtain ⟨yy0_0, yy0_1, yy0_2, yy0_3, yy0_4, yy0_5, yy0_6, yy0_7, yy0_8, yy0_9, hh0, btt0_4, btt0_8⟩ := n_o38 hI
  obtain ⟨rfl, rfl, rfl, rfl, rfl, rfl, rfl, rfl, rfl, rfl⟩ : t0_0 = yy0_0 ∧ t0_1 = yy0_1 ∧ t0_2 = yy0_2 ∧ t0_3 = yy0_3 ∧ t0_4 = yy0_4 ∧ t0_5 = yy0_5 ∧ t0_6 = yy0_6 ∧ t0_7 = yy0_7 ∧ t0_8 = yy0_8 ∧ t0_9 = yy0_9 := by have z := Option.some.inj (hT0.symm.trans hh0); simpa using z
  replace btt0_4 : q_F (0 ≤ t0_4.toInt ∧ t0_4.toInt ≤ 1) := btt0_4
  replace btt0_8 : q_F (0 ≤ t0_8.toInt ∧ t0_8.toInt ≤ 1) := btt0_8
  have hF : q_un ws ws [38] := q_u0
  have hl : lv_has ls 1 [(0, .ref (q 38))] := hl
  refine lv_aload_n hx hb d_10_9_0 rfl (lv_at hl 0 rfl) ?_
  refine lv_iconst (v := 0) hx hb d_10_9_1 (by decide) ?_
  refine q_put (ci := 8) (j := 4) (v := .int 0) (ty := .int) C0 V i_Rea o_Rea n_Rea rfl rfl hT0 (by decide) w_290 rfl rfl rfl rfl (Nat.le_of_ble_eq_true rfl) d_10_9_2 (fun H locs w14 hu15 hT0 V => ?_)
  replace hT0 : w14[38]? = (some (q 38, .inr (8, [.long t0_0, .long t0_1, .ref (q 1), .ref (q 9), .int 0, .int t0_3, .int t0_4, .int t0_5, .int t0_6, .int t0_7, .int t0_8, .long t0_9])) : Option (Nat × va_E)) := hT0
  replace hI := n_p38 hI hu15 hT0 ⟨(by have t1 : 0 ≤ t0_4.toInt ∧ t0_4.toInt ≤ 1 := btt0_4; omega), (by have t1 : 0 ≤ t0_4.toInt ∧ t0_4.toInt ≤ 1 := btt0_4; omega)⟩ ⟨(by have t1 : 0 ≤ t0_8.toInt ∧ t0_8.toInt ≤ 1 := btt0_8; omega), (by have t1 : 0 ≤ t0_8.toInt ∧ t0_8.toInt ≤ 1 := btt0_8; omega)⟩
  replace hF := q_us hF hu15 (by simp)
  refine lv_aload_n hx hb d_10_9_5 rfl (lv_at hl 0 rfl) ?_
  refine lv_aload_n hx hb d_10_9_6 rfl (lv_at hl 0 rfl) ?_
  refine q_get (ci := 8) (j := 2) (v := .ref (q 1)) C0 V i_Rea rfl rfl hT0 (by decide) w_288 rfl d_10_9_7 ?_
  obtain ⟨y17, hO16, b18⟩ := n_shO hI (n_h1 g q)
  replace b18 : q_F (0 ≤ y17.toInt ∧ y17.toInt ≤ 4100) := b18
  refine q_get (ci := 1) (j := 2) (v := .int y17) C0 V i_She rfl rfl hO16 (by decide) w_59 rfl d_10_9_10 ?_
  refine q_put (ci := 8) (j := 5) (v := .int y17) (ty := .int) C0 V i_Rea o_Rea n_Rea rfl rfl hT0 (by decide) w_291 rfl rfl rfl rfl (Nat.le_of_ble_eq_true rfl) d_10_9_13 (fun H locs w19 hu20 hT0 V => ?_)
  replace hT0 : w19[38]? = (some (q 38, .inr (8, [.long t0_0, .long t0_1, .ref (q 1), .ref (q 9), .int 0, .int y17, .int t0_4, .int t0_5, .int t0_6, .int t0_7, .int t0_8, .long t0_9])) : Option (Nat × va_E)) := hT0
  replace hI := n_p38 hI hu20 hT0 ⟨(by have t1 : 0 ≤ t0_4.toInt ∧ t0_4.toInt ≤ 1 := btt0_4; omega), (by have t1 : 0 ≤ t0_4.toInt ∧ t0_4.toInt ≤ 1 := btt0_4; omega)⟩ ⟨(by have t1 : 0 ≤ t0_8.toInt ∧ t0_8.toInt ≤ 1 := btt0_8; omega), (by have t1 : 0 ≤ t0_8.toInt ∧ t0_8.toInt ≤ 1 := btt0_8; omega)⟩
  replace hO16 := (hu20 _ (by decide)).trans hO16
  replace hF := q_us hF hu20 (by simp)
  exact q_retv C0 V (⟨hI, hF, t0_0, t0_1, 0, y17, t0_4, t0_5, t0_6, t0_7, t0_8, t0_9, hT0, (show 0 ≤ (0 : Int32).toInt from (by have z12 : (0 : Int32).toInt = 0 := rfl; omega)), (show (0 : Int32).toInt ≤ 0 from (by have z12 : (0 : Int32).toInt = 0 := rfl; omega)), (show t0_0.toInt ≤ t0_0.toInt from (by have z12 : (0 : Int32).toInt = 0 := rfl; omega)), (show t0_0.toInt ≤ t0_0.toInt from (by have z12 : (0 : Int32).toInt = 0 := rfl; omega)), (show t0_1.toInt ≤ t0_1.toInt from (by have z12 : (0 : Int32).toInt = 0 := rfl; omega)), (show t0_1.toInt ≤ t0_1.toInt from (by have z12 : (0 : Int32).toInt = 0 := rfl; omega)), (show t0_4.toInt ≤ t0_4.toInt from (by have z12 : (0 : Int32).toInt = 0 := rfl; omega)), (show t0_4.toInt ≤ t0_4.toInt from (by have z12 : (0 : Int32).toInt = 0 := rfl; omega)), (show t0_5.toInt ≤ t0_5.toInt from (by have z12 : (0 : Int32).toInt = 0 := rfl; omega)), (show t0_5.toInt ≤ t0_5.toInt from (by have z12 : (0 : Int32).toInt = 0 := rfl; omega)), (show t0_6.toInt ≤ t0_6.toInt from (by have z12 : (0 : Int32).toInt = 0 := rfl; omega)), (show t0_6.toInt ≤ t0_6.toInt from (by have z12 : (0 : Int32).toInt = 0 := rfl; omega)), (show t0_7.toInt ≤ t0_7.toInt from (by have z12 : (0 : Int32).toInt = 0 := rfl; omega)), (show t0_7.toInt ≤ t0_7.toInt from (by have z12 : (0 : Int32).toInt = 0 := rfl; omega)), (show t0_8.toInt ≤ t0_8.toInt from (by have z12 : (0 : Int32).toInt = 0 := rfl; omega)), (show t0_8.toInt ≤ t0_8.toInt from (by have z12 : (0 : Int32).toInt = 0 := rfl; omega)), (show t0_9.toInt ≤ t0_9.toInt from (by have z12 : (0 : Int32).toInt = 0 := rfl; omega)), (show t0_9.toInt ≤ t0_9.toInt from (by have z12 : (0 : Int32).toInt = 0 := rfl; omega)), (show y17.toInt ≤ (0 : Int32).toInt + 4100 from (by have z12 : (0 : Int32).toInt = 0 := rfl; have t1 : 0 ≤ y17.toInt ∧ y17.toInt ≤ 4100 := b18; omega)), (show (0 : Int32).toInt ≤ y17.toInt from (by have z12 : (0 : Int32).toInt = 0 := rfl; have t1 : 0 ≤ y17.toInt ∧ y17.toInt ≤ 4100 := b18; omega))⟩) d_10_9_16
theorem d_10_16_0 : decode prog_10_method_16_code 0 = .ok (.aload_n 0, 1) := by decide +kernel
theorem d_10_16_1 : decode prog_10_method_16_code 1 = .ok (.getfield 36, 3) := by decide +kernel
theorem d_10_16_4 : decode prog_10_method_16_code 4 = .ok (.aload_n 0, 1) := by decide +kernel
theorem d_10_16_5 : decode prog_10_method_16_code 5 = .ok (.getfield 40, 3) := by decide +kernel
theorem d_10_16_8 : decode prog_10_method_16_code 8 = .ok (.if_icmp .ge 18, 3) := by decide +kernel
theorem d_10_16_26 : decode prog_10_method_16_code 26 = .ok (.iconst (-1), 1) := by decide +kernel
theorem d_10_16_27 : decode prog_10_method_16_code 27 = .ok (.ireturn, 1) := by decide +kernel
theorem d_10_16_11 : decode prog_10_method_16_code 11 = .ok (.aload_n 0, 1) := by decide +kernel
theorem d_10_16_12 : decode prog_10_method_16_code 12 = .ok (.getfield 9, 3) := by decide +kernel
theorem d_10_16_15 : decode prog_10_method_16_code 15 = .ok (.aload_n 0, 1) := by decide +kernel
theorem d_10_16_16 : decode prog_10_method_16_code 16 = .ok (.getfield 36, 3) := by decide +kernel
theorem d_10_16_19 : decode prog_10_method_16_code 19 = .ok (.i2l, 1) := by decide +kernel
theorem d_10_16_20 : decode prog_10_method_16_code 20 = .ok (.invokevirtual 139, 3) := by decide +kernel
set_option maxRecDepth 100000 in
theorem w_597 : (Cond.methodLink "NumberHouse$Reader" (139 : Nat) ({ cls := "NumberHouse$Sheet", name := "at", desc := "(J)I" } : MethodName)) ∈ q_tbl := q_of3 117 rfl (by decide +kernel)
theorem LV_Rea_139 : q_LV "NumberHouse$Reader" 139 y_She_at prog_11_method_8_code 3 (some .int) 1 := ⟨w_482, w_2, w_597, w_480, w_481, ⟨by decide, by decide, by decide +kernel⟩⟩
theorem d_10_16_23 : decode prog_10_method_16_code 23 = .ok (.goto 4, 3) := by decide +kernel
def y_Rea_here : MethodName := ⟨"NumberHouse$Reader", "here", "()I"⟩
set_option maxRecDepth 100000 in
set_option maxHeartbeats 4000000 in
theorem T_Rea_here (l : Launch) (D : va_G) (g : Nat → ClassId) (q : Nat → Nat) (ws : va_W) (hI : q_I (nsh g q) q ws) : q_mI l y_Rea_here prog_10_method_16_code 1 (.int) 2 0 0 D g [.ref (q 38)] ws (fun r u => ws = u ∧ (0 ≤ r.toInt + 1) ∧ (r.toInt ≤ 255)) := by
  intro sz
  refine q_into (by decide) (Nat.le_of_ble_eq_true rfl) ?_
  intro p e s m below meth c ls hsz C0 V hl
  have hx := C0.1
  have hb := C0.2.1
  have hl : lv_has ls 1 [(0, .ref (q 38))] := hl
  refine lv_aload_n hx hb d_10_16_0 rfl (lv_at hl 0 rfl) ?_
  obtain ⟨y2, y3, y4, y5, y6, y8, y9, y10, y11, y13, hO1, b7, b12⟩ := n_o38 hI
  replace b7 : q_F (0 ≤ y6.toInt ∧ y6.toInt ≤ 1) := b7
  replace b12 : q_F (0 ≤ y11.toInt ∧ y11.toInt ≤ 1) := b12
  refine q_get (ci := 8) (j := 4) (v := .int y4) C0 V i_Rea rfl rfl hO1 (by decide) w_290 rfl d_10_16_1 ?_
  refine lv_aload_n hx hb d_10_16_4 rfl (lv_at hl 0 rfl) ?_
  refine q_get (ci := 8) (j := 5) (v := .int y5) C0 V i_Rea rfl rfl hO1 (by decide) w_291 rfl d_10_16_5 ?_
  refine lv_icmp_ge (tgt := 26) hx hb d_10_16_8 (by decide) (fun c14 => ?_) (fun c14 => ?_)
  ·
    have b15 : q_F (y5.toInt ≤ y4.toInt) := (q_leI c14)
    refine lv_iconst (v := (-1)) hx hb d_10_16_26 (by decide) ?_
    exact q_reti C0 V (⟨rfl, (show 0 ≤ (-1 : Int32).toInt + 1 from (by have z0 : (-1 : Int32).toInt = -1 := rfl; omega)), (show (-1 : Int32).toInt ≤ 255 from (by have z0 : (-1 : Int32).toInt = -1 := rfl; omega))⟩) d_10_16_27
  ·
    have b16 : q_F (y4.toInt < y5.toInt) := (q_nleI c14)
    refine lv_aload_n hx hb d_10_16_11 rfl (lv_at hl 0 rfl) ?_
    refine q_get (ci := 8) (j := 2) (v := .ref (q 1)) C0 V i_Rea rfl rfl hO1 (by decide) w_288 rfl d_10_16_12 ?_
    refine lv_aload_n hx hb d_10_16_15 rfl (lv_at hl 0 rfl) ?_
    refine q_get (ci := 8) (j := 4) (v := .int y4) C0 V i_Rea rfl rfl hO1 (by decide) w_290 rfl d_10_16_16 ?_
    refine lv_i2l hx hb d_10_16_19 rfl ?_
    obtain ⟨j17, e18⟩ := q_nm (y4.toInt64 : Int64)
    refine q_tl (v := j17) e18 ?_
    have b19 : q_F (j17.toInt = y4.toInt) := (by rw [← e18]; show (y4.toInt64 : Int64).toInt = y4.toInt; exact q_i2l rfl)
    obtain ⟨y21, hO20, b22⟩ := n_shO hI (n_h1 g q)
    replace b22 : q_F (0 ≤ y21.toInt ∧ y21.toInt ≤ 4100) := b22
    refine q_goi V (q_runV (As := [.long j17]) (rest := []) (d := 1) (mc := 0) (ms := 0) (ci := 1) C0 V rfl LV_Rea_139 (T_She_at l D g q ws 1 4100 513 4100 (n_h1 g q) j17 hI   _) rfl rfl hO20 rfl hl.1 rfl (Nat.le_of_ble_eq_true rfl) ⟨by decide, by decide⟩ ⟨Nat.le_of_ble_eq_true rfl, Nat.le_of_ble_eq_true rfl⟩ d_10_16_20) (fun a25 u23 H locs hp24 V => ?_)
    obtain ⟨rfl, b26, b27, pu28⟩ := hp24
    replace b26 : q_F (0 ≤ a25.toInt) := b26
    replace b27 : q_F (a25.toInt ≤ 255) := b27
    refine lv_goto (tgt := 27) hx hb d_10_16_23 (by decide) ?_
    exact q_reti C0 V (⟨rfl, (show 0 ≤ a25.toInt + 1 from (by have t1 : 0 ≤ a25.toInt := b26; omega)), (show a25.toInt ≤ 255 from (by have t1 : a25.toInt ≤ 255 := b27; omega))⟩) d_10_16_27
theorem d_10_17_0 : decode prog_10_method_17_code 0 = .ok (.aload_n 0, 1) := by decide +kernel
theorem d_10_17_1 : decode prog_10_method_17_code 1 = .ok (.invokevirtual 70, 3) := by decide +kernel
set_option maxRecDepth 100000 in
theorem w_596 : (Cond.code ({ cls := "NumberHouse$Reader", name := "here", desc := "()I" } : MethodName) prog_10_method_16_code (1 : Nat) (some .int)) ∈ q_tbl := q_of3 116 rfl (by decide +kernel)
set_option maxRecDepth 100000 in
theorem w_593 : (Cond.methodLink "NumberHouse$Reader" (70 : Nat) ({ cls := "NumberHouse$Reader", name := "here", desc := "()I" } : MethodName)) ∈ q_tbl := q_of3 113 rfl (by decide +kernel)
set_option maxRecDepth 100000 in
theorem w_595 : (Cond.instanceMethod ({ cls := "NumberHouse$Reader", name := "here", desc := "()I" } : MethodName)) ∈ q_tbl := q_of3 115 rfl (by decide +kernel)
theorem ws_3 : Cond.selects "NumberHouse$Reader" (⟨"NumberHouse$Reader", "here", "()I"⟩ : MethodName) (⟨"NumberHouse$Reader", "here", "()I"⟩ : MethodName) ∈ q_tbl := q_ofs 3 (by decide +kernel) (by decide +kernel)
theorem LV_Rea_70 : q_LV "NumberHouse$Reader" 70 y_Rea_here prog_10_method_16_code 1 (some .int) 0 := ⟨w_596, w_10, w_593, w_595, ws_3, ⟨by decide, by decide, by decide +kernel⟩⟩
theorem d_10_17_4 : decode prog_10_method_17_code 4 = .ok (.istore_n 1, 1) := by decide +kernel
theorem d_10_17_5 : decode prog_10_method_17_code 5 = .ok (.iload_n 1, 1) := by decide +kernel
theorem d_10_17_6 : decode prog_10_method_17_code 6 = .ok (.bipush 48, 2) := by decide +kernel
theorem d_10_17_22 : decode prog_10_method_17_code 22 = .ok (.iload_n 1, 1) := by decide +kernel
theorem d_10_17_23 : decode prog_10_method_17_code 23 = .ok (.bipush 32, 2) := by decide +kernel
theorem d_10_17_25 : decode prog_10_method_17_code 25 = .ok (.ior, 1) := by decide +kernel
theorem d_10_17_26 : decode prog_10_method_17_code 26 = .ok (.istore_n 2, 1) := by decide +kernel
theorem d_10_17_27 : decode prog_10_method_17_code 27 = .ok (.iload_n 2, 1) := by decide +kernel
theorem d_10_17_28 : decode prog_10_method_17_code 28 = .ok (.bipush 97, 2) := by decide +kernel
theorem d_10_17_30 : decode prog_10_method_17_code 30 = .ok (.if_icmp .lt 19, 3) := by decide +kernel
theorem d_10_17_49 : decode prog_10_method_17_code 49 = .ok (.bipush 99, 2) := by decide +kernel
theorem d_10_17_51 : decode prog_10_method_17_code 51 = .ok (.ireturn, 1) := by decide +kernel
theorem d_10_17_33 : decode prog_10_method_17_code 33 = .ok (.iload_n 2, 1) := by decide +kernel
theorem d_10_17_34 : decode prog_10_method_17_code 34 = .ok (.bipush 122, 2) := by decide +kernel
theorem d_10_17_36 : decode prog_10_method_17_code 36 = .ok (.if_icmp .gt 13, 3) := by decide +kernel
theorem d_10_17_39 : decode prog_10_method_17_code 39 = .ok (.iload_n 2, 1) := by decide +kernel
theorem d_10_17_40 : decode prog_10_method_17_code 40 = .ok (.bipush 97, 2) := by decide +kernel
theorem d_10_17_42 : decode prog_10_method_17_code 42 = .ok (.isub, 1) := by decide +kernel
theorem d_10_17_43 : decode prog_10_method_17_code 43 = .ok (.bipush 10, 2) := by decide +kernel
theorem d_10_17_45 : decode prog_10_method_17_code 45 = .ok (.iadd, 1) := by decide +kernel
theorem d_10_17_46 : decode prog_10_method_17_code 46 = .ok (.goto 5, 3) := by decide +kernel
theorem d_10_17_8 : decode prog_10_method_17_code 8 = .ok (.if_icmp .lt 14, 3) := by decide +kernel
theorem d_10_17_11 : decode prog_10_method_17_code 11 = .ok (.iload_n 1, 1) := by decide +kernel
theorem d_10_17_12 : decode prog_10_method_17_code 12 = .ok (.bipush 57, 2) := by decide +kernel
theorem d_10_17_14 : decode prog_10_method_17_code 14 = .ok (.if_icmp .gt 8, 3) := by decide +kernel
theorem d_10_17_17 : decode prog_10_method_17_code 17 = .ok (.iload_n 1, 1) := by decide +kernel
theorem d_10_17_18 : decode prog_10_method_17_code 18 = .ok (.bipush 48, 2) := by decide +kernel
theorem d_10_17_20 : decode prog_10_method_17_code 20 = .ok (.isub, 1) := by decide +kernel
theorem d_10_17_21 : decode prog_10_method_17_code 21 = .ok (.ireturn, 1) := by decide +kernel
def y_Rea_digitHere : MethodName := ⟨"NumberHouse$Reader", "digitHere", "()I"⟩
set_option maxRecDepth 100000 in
set_option maxHeartbeats 4000000 in
theorem T_Rea_digitHere (l : Launch) (D : va_G) (g : Nat → ClassId) (q : Nat → Nat) (ws : va_W) (hI : q_I (nsh g q) q ws) : q_mI l y_Rea_digitHere prog_10_method_17_code 3 (.int) 3 0 0 D g [.ref (q 38)] ws (fun r u => ws = u ∧ (0 ≤ r.toInt) ∧ (r.toInt ≤ 99)) := by
  intro sz
  refine q_into (by decide) (Nat.le_of_ble_eq_true rfl) ?_
  intro p e s m below meth c ls hsz C0 V hl
  have hx := C0.1
  have hb := C0.2.1
  have hl : lv_has ls 3 [(0, .ref (q 38))] := hl
  refine lv_aload_n hx hb d_10_17_0 rfl (lv_at hl 0 rfl) ?_
  obtain ⟨y2, y3, y4, y5, y6, y8, y9, y10, y11, y13, hO1, b7, b12⟩ := n_o38 hI
  replace b7 : q_F (0 ≤ y6.toInt ∧ y6.toInt ≤ 1) := b7
  replace b12 : q_F (0 ≤ y11.toInt ∧ y11.toInt ≤ 1) := b12
  refine q_goi V (q_runV (As := []) (rest := []) (d := 2) (mc := 0) (ms := 0) (ci := 8) C0 V rfl LV_Rea_70 (T_Rea_here l D g q ws   hI   _) rfl rfl hO1 rfl hl.1 rfl (Nat.le_of_ble_eq_true rfl) ⟨by decide, by decide⟩ ⟨Nat.le_of_ble_eq_true rfl, Nat.le_of_ble_eq_true rfl⟩ d_10_17_1) (fun a16 u14 H locs hp15 V => ?_)
  obtain ⟨rfl, b17, b18⟩ := hp15
  replace b17 : q_F (0 ≤ a16.toInt + 1) := b17
  replace b18 : q_F (a16.toInt ≤ 255) := b18
  refine lv_istore_n (lv' := [(1, .int a16), (0, .ref (q 38))]) hx hb d_10_17_4 rfl hl (by decide) rfl (fun ls hl => ?_)
  refine lv_iload_n hx hb d_10_17_5 rfl (lv_at hl 0 rfl) ?_
  refine lv_bipush (v := 48) hx hb d_10_17_6 (by decide) ?_
  refine q_join (X := Unit) (fun z H locs ls _ => q_Wd D g (va_A ws sz) s ws H locs ∧ lv_has ls 3 [(1, .int a16)]) (fun z => []) 22 0 0 ?_ ?_
  ·
    rintro _ H locs ls _ ⟨V, hl⟩
    replace hl : lv_has ls 3 [(1, .int a16)] := hl
    refine lv_iload_n hx hb d_10_17_22 rfl (lv_at hl 0 rfl) ?_
    refine lv_bipush (v := 32) hx hb d_10_17_23 (by decide) ?_
    refine lv_ior hx hb d_10_17_25 ?_
    obtain ⟨a20, e21⟩ := q_nm (a16 ||| 32 : Int32)
    refine q_ti (v := a20) e21 ?_
    refine lv_istore_n (lv' := [(2, .int a20), (1, .int a16)]) hx hb d_10_17_26 rfl hl (by decide) rfl (fun ls hl => ?_)
    refine lv_iload_n hx hb d_10_17_27 rfl (lv_at hl 0 rfl) ?_
    refine lv_bipush (v := 97) hx hb d_10_17_28 (by decide) ?_
    refine lv_icmp_lt (tgt := 49) hx hb d_10_17_30 (by decide) (fun c22 => ?_) (fun c22 => ?_)
    ·
      have b23 : q_F (a20.toInt < 97) := (q_ltI c22)
      refine lv_bipush (v := 99) hx hb d_10_17_49 (by decide) ?_
      exact q_reti C0 V (⟨rfl, (show 0 ≤ (99 : Int32).toInt from (by have z0 : (99 : Int32).toInt = 99 := rfl; omega)), (show (99 : Int32).toInt ≤ 99 from (by have z0 : (99 : Int32).toInt = 99 := rfl; omega))⟩) d_10_17_51
    ·
      have b24 : q_F (97 ≤ a20.toInt) := (q_nltI c22)
      refine lv_iload_n hx hb d_10_17_33 rfl (lv_at hl 0 rfl) ?_
      refine lv_bipush (v := 122) hx hb d_10_17_34 (by decide) ?_
      refine lv_icmp_gt (tgt := 49) hx hb d_10_17_36 (by decide) (fun c25 => ?_) (fun c25 => ?_)
      ·
        have b26 : q_F (122 < a20.toInt) := (q_ltI c25)
        refine lv_bipush (v := 99) hx hb d_10_17_49 (by decide) ?_
        exact q_reti C0 V (⟨rfl, (show 0 ≤ (99 : Int32).toInt from (by have z0 : (99 : Int32).toInt = 99 := rfl; omega)), (show (99 : Int32).toInt ≤ 99 from (by have z0 : (99 : Int32).toInt = 99 := rfl; omega))⟩) d_10_17_51
      ·
        have b27 : q_F (a20.toInt ≤ 122) := (q_nltI c25)
        refine lv_iload_n hx hb d_10_17_39 rfl (lv_at hl 0 rfl) ?_
        refine lv_bipush (v := 97) hx hb d_10_17_40 (by decide) ?_
        refine lv_isub hx hb d_10_17_42 ?_
        obtain ⟨a28, e29⟩ := q_nm (a20 - 97 : Int32)
        refine q_ti (v := a28) e29 ?_
        have b30 : q_F (a28.toInt = a20.toInt - 97) := (by rw [← e29]; show (a20 - 97 : Int32).toInt = a20.toInt - 97; exact q_subI (x := a20.toInt) (y := 97) rfl (by decide) (by have t1 : 97 ≤ a20.toInt := b24; have t2 : a20.toInt ≤ 122 := b27; omega) (by have t1 : 97 ≤ a20.toInt := b24; have t2 : a20.toInt ≤ 122 := b27; omega))
        refine lv_bipush (v := 10) hx hb d_10_17_43 (by decide) ?_
        refine lv_iadd hx hb d_10_17_45 ?_
        obtain ⟨a31, e32⟩ := q_nm (a28 + 10 : Int32)
        refine q_ti (v := a31) e32 ?_
        have b33 : q_F (a31.toInt = a28.toInt + 10) := (by rw [← e32]; show (a28 + 10 : Int32).toInt = a28.toInt + 10; exact q_addI (x := a28.toInt) (y := 10) rfl (by decide) (by have _ := q_lo32 (x := a28); have _ := q_hi32 (x := a28); have t1 : a28.toInt = a20.toInt - 97 := b30; have _ := q_lo32 (x := a20); have _ := q_hi32 (x := a20); omega) (by have _ := q_lo32 (x := a28); have _ := q_hi32 (x := a28); have t1 : a28.toInt = a20.toInt - 97 := b30; have _ := q_lo32 (x := a20); have _ := q_hi32 (x := a20); omega))
        refine lv_goto (tgt := 51) hx hb d_10_17_46 (by decide) ?_
        exact q_reti C0 V (⟨rfl, (show 0 ≤ a31.toInt from (by have t1 : 97 ≤ a20.toInt := b24; have t2 : a28.toInt = a20.toInt - 97 := b30; have t3 : a31.toInt = a28.toInt + 10 := b33; omega)), (show a31.toInt ≤ 99 from (by have t1 : a20.toInt ≤ 122 := b27; have t2 : a28.toInt = a20.toInt - 97 := b30; have t3 : a31.toInt = a28.toInt + 10 := b33; omega))⟩) d_10_17_51
  ·
    intro J19
    refine lv_icmp_lt (tgt := 22) hx hb d_10_17_8 (by decide) (fun c34 => ?_) (fun c34 => ?_)
    ·
      have b35 : q_F (a16.toInt < 48) := (q_ltI c34)
      exact J19 (()) _ _ _ ws ⟨V, q_lw hl (q_lw1 0 rfl q_lw0)⟩
    ·
      have b36 : q_F (48 ≤ a16.toInt) := (q_nltI c34)
      refine lv_iload_n hx hb d_10_17_11 rfl (lv_at hl 0 rfl) ?_
      refine lv_bipush (v := 57) hx hb d_10_17_12 (by decide) ?_
      refine lv_icmp_gt (tgt := 22) hx hb d_10_17_14 (by decide) (fun c37 => ?_) (fun c37 => ?_)
      ·
        have b38 : q_F (57 < a16.toInt) := (q_ltI c37)
        exact J19 (()) _ _ _ ws ⟨V, q_lw hl (q_lw1 0 rfl q_lw0)⟩
      ·
        have b39 : q_F (a16.toInt ≤ 57) := (q_nltI c37)
        refine lv_iload_n hx hb d_10_17_17 rfl (lv_at hl 0 rfl) ?_
        refine lv_bipush (v := 48) hx hb d_10_17_18 (by decide) ?_
        refine lv_isub hx hb d_10_17_20 ?_
        obtain ⟨a40, e41⟩ := q_nm (a16 - 48 : Int32)
        refine q_ti (v := a40) e41 ?_
        have b42 : q_F (a40.toInt = a16.toInt - 48) := (by rw [← e41]; show (a16 - 48 : Int32).toInt = a16.toInt - 48; exact q_subI (x := a16.toInt) (y := 48) rfl (by decide) (by have t1 : 0 ≤ a16.toInt + 1 := b17; have t2 : a16.toInt ≤ 255 := b18; omega) (by have t1 : 0 ≤ a16.toInt + 1 := b17; have t2 : a16.toInt ≤ 255 := b18; omega))
        exact q_reti C0 V (⟨rfl, (show 0 ≤ a40.toInt from (by have t1 : 48 ≤ a16.toInt := b36; have t2 : a40.toInt = a16.toInt - 48 := b42; omega)), (show a40.toInt ≤ 99 from (by have t1 : a16.toInt ≤ 57 := b39; have t2 : a40.toInt = a16.toInt - 48 := b42; omega))⟩) d_10_17_21
theorem d_10_11_0 : decode prog_10_method_11_code 0 = .ok (.aload_n 0, 1) := by decide +kernel
theorem d_10_11_1 : decode prog_10_method_11_code 1 = .ok (.invokevirtual 70, 3) := by decide +kernel
theorem d_10_11_4 : decode prog_10_method_11_code 4 = .ok (.istore_n 1, 1) := by decide +kernel
theorem d_10_11_5 : decode prog_10_method_11_code 5 = .ok (.aload_n 0, 1) := by decide +kernel
theorem d_10_11_6 : decode prog_10_method_11_code 6 = .ok (.iload_n 1, 1) := by decide +kernel
theorem d_10_11_7 : decode prog_10_method_11_code 7 = .ok (.bipush 45, 2) := by decide +kernel
theorem d_10_11_17 : decode prog_10_method_11_code 17 = .ok (.putfield 54, 3) := by decide +kernel
set_option maxRecDepth 100000 in
theorem w_292 : (Cond.fieldLink "NumberHouse$Reader" (54 : Nat) "NumberHouse$Reader" "negative" "Z") ∈ q_tbl := q_of2 52 rfl (by decide +kernel)
theorem d_10_11_20 : decode prog_10_method_11_code 20 = .ok (.iload_n 1, 1) := by decide +kernel
theorem d_10_11_21 : decode prog_10_method_11_code 21 = .ok (.bipush 45, 2) := by decide +kernel
theorem d_10_11_23 : decode prog_10_method_11_code 23 = .ok (.if_icmp .eq 9, 3) := by decide +kernel
theorem d_10_11_32 : decode prog_10_method_11_code 32 = .ok (.aload_n 0, 1) := by decide +kernel
theorem d_10_11_33 : decode prog_10_method_11_code 33 = .ok (.dup, 1) := by decide +kernel
theorem d_10_11_34 : decode prog_10_method_11_code 34 = .ok (.getfield 36, 3) := by decide +kernel
theorem d_10_11_37 : decode prog_10_method_11_code 37 = .ok (.iconst 1, 1) := by decide +kernel
theorem d_10_11_38 : decode prog_10_method_11_code 38 = .ok (.iadd, 1) := by decide +kernel
theorem d_10_11_39 : decode prog_10_method_11_code 39 = .ok (.putfield 36, 3) := by decide +kernel
theorem d_10_11_42 : decode prog_10_method_11_code 42 = .ok (.return_, 1) := by decide +kernel
theorem d_10_11_26 : decode prog_10_method_11_code 26 = .ok (.iload_n 1, 1) := by decide +kernel
theorem d_10_11_27 : decode prog_10_method_11_code 27 = .ok (.bipush 43, 2) := by decide +kernel
theorem d_10_11_29 : decode prog_10_method_11_code 29 = .ok (.if_icmp .ne 13, 3) := by decide +kernel
theorem d_10_11_9 : decode prog_10_method_11_code 9 = .ok (.if_icmp .ne 7, 3) := by decide +kernel
theorem d_10_11_16 : decode prog_10_method_11_code 16 = .ok (.iconst 0, 1) := by decide +kernel
theorem d_10_11_12 : decode prog_10_method_11_code 12 = .ok (.iconst 1, 1) := by decide +kernel
theorem d_10_11_13 : decode prog_10_method_11_code 13 = .ok (.goto 4, 3) := by decide +kernel
def y_Rea_takeSign : MethodName := ⟨"NumberHouse$Reader", "takeSign", "()V"⟩
set_option maxRecDepth 100000 in
set_option maxHeartbeats 4000000 in
theorem T_Rea_takeSign (l : Launch) (D : va_G) (g : Nat → ClassId) (q : Nat → Nat) (ws : va_W) (hI : q_I (nsh g q) q ws) (t0_0 : Int64) (t0_1 : Int64) (t0_2 : Int32) (t0_3 : Int32) (t0_4 : Int32) (t0_5 : Int32) (t0_6 : Int32) (t0_7 : Int32) (t0_8 : Int32) (t0_9 : Int64) (hT0 : ws[38]? = (some (q 38, .inr (8, [.long t0_0, .long t0_1, .ref (q 1), .ref (q 9), .int t0_2, .int t0_3, .int t0_4, .int t0_5, .int t0_6, .int t0_7, .int t0_8, .long t0_9])) : Option (Nat × va_E))) : q_mV l y_Rea_takeSign prog_10_method_11_code 2 3 0 0 D g [.ref (q 38)] ws (fun u => q_I (nsh g q) q u ∧ q_un ws u [38] ∧ ∃ (u0_0 : Int64) (u0_1 : Int64) (u0_2 : Int32) (u0_3 : Int32) (u0_4 : Int32) (u0_5 : Int32) (u0_6 : Int32) (u0_7 : Int32) (u0_8 : Int32) (u0_9 : Int64), u[38]? = (some (q 38, .inr (8, [.long u0_0, .long u0_1, .ref (q 1), .ref (q 9), .int u0_2, .int u0_3, .int u0_4, .int u0_5, .int u0_6, .int u0_7, .int u0_8, .long u0_9])) : Option (Nat × va_E)) ∧ (0 ≤ u0_4.toInt) ∧ (u0_4.toInt ≤ 1) ∧ (t0_0.toInt ≤ u0_0.toInt) ∧ (u0_0.toInt ≤ t0_0.toInt) ∧ (t0_1.toInt ≤ u0_1.toInt) ∧ (u0_1.toInt ≤ t0_1.toInt) ∧ (t0_3.toInt ≤ u0_3.toInt) ∧ (u0_3.toInt ≤ t0_3.toInt) ∧ (t0_5.toInt ≤ u0_5.toInt) ∧ (u0_5.toInt ≤ t0_5.toInt) ∧ (t0_6.toInt ≤ u0_6.toInt) ∧ (u0_6.toInt ≤ t0_6.toInt) ∧ (t0_7.toInt ≤ u0_7.toInt) ∧ (u0_7.toInt ≤ t0_7.toInt) ∧ (t0_8.toInt ≤ u0_8.toInt) ∧ (u0_8.toInt ≤ t0_8.toInt) ∧ (t0_9.toInt ≤ u0_9.toInt) ∧ (u0_9.toInt ≤ t0_9.toInt)) := by
  intro sz
  refine q_into (by decide) (Nat.le_of_ble_eq_true rfl) ?_
  intro p e s m below meth c ls hsz C0 V hl
  have hx := C0.1
  have hb := C0.2.1
  obtain ⟨yy0_0, yy0_1, yy0_2, yy0_3, yy0_4, yy0_5, yy0_6, yy0_7, yy0_8, yy0_9, hh0, btt0_4, btt0_8⟩ := n_o38 hI
  obtain ⟨rfl, rfl, rfl, rfl, rfl, rfl, rfl, rfl, rfl, rfl⟩ : t0_0 = yy0_0 ∧ t0_1 = yy0_1 ∧ t0_2 = yy0_2 ∧ t0_3 = yy0_3 ∧ t0_4 = yy0_4 ∧ t0_5 = yy0_5 ∧ t0_6 = yy0_6 ∧ t0_7 = yy0_7 ∧ t0_8 = yy0_8 ∧ t0_9 = yy0_9 := by have z := Option.some.inj (hT0.symm.trans hh0); simpa using z
  replace btt0_4 : q_F (0 ≤ t0_4.toInt ∧ t0_4.toInt ≤ 1) := btt0_4
  replace btt0_8 : q_F (0 ≤ t0_8.toInt ∧ t0_8.toInt ≤ 1) := btt0_8
  have hF : q_un ws ws [38] := q_u0
  have hl : lv_has ls 2 [(0, .ref (q 38))] := hl
  refine lv_aload_n hx hb d_10_11_0 rfl (lv_at hl 0 rfl) ?_
  refine q_goi V (q_runV (As := []) (rest := []) (d := 2) (mc := 0) (ms := 0) (ci := 8) C0 V rfl LV_Rea_70 (T_Rea_here l D g q ws   hI   _) rfl rfl hT0 rfl hl.1 rfl (Nat.le_of_ble_eq_true rfl) ⟨by decide, by decide⟩ ⟨Nat.le_of_ble_eq_true rfl, Nat.le_of_ble_eq_true rfl⟩ d_10_11_1) (fun a16 u14 H locs hp15 V => ?_)
  obtain ⟨rfl, b17, b18⟩ := hp15
  replace b17 : q_F (0 ≤ a16.toInt + 1) := b17
  replace b18 : q_F (a16.toInt ≤ 255) := b18
  refine lv_istore_n (lv' := [(1, .int a16), (0, .ref (q 38))]) hx hb d_10_11_4 rfl hl (by decide) rfl (fun ls hl => ?_)
  refine lv_aload_n hx hb d_10_11_5 rfl (lv_at hl 1 rfl) ?_
  refine lv_iload_n hx hb d_10_11_6 rfl (lv_at hl 0 rfl) ?_
  refine lv_bipush (v := 45) hx hb d_10_11_7 (by decide) ?_
  refine q_join (X := Int32) (fun z H locs ls _ => q_F (0 ≤ z.toInt) ∧ q_F (z.toInt ≤ 1) ∧ q_F (z.toInt ≤ a16.toInt + 1) ∧ q_Wd D g (va_A ws sz) s ws H locs ∧ lv_has ls 2 [(1, .int a16), (0, .ref (q 38))]) (fun z => [.int z, .ref (q 38)]) 17 0 0 ?_ ?_
  ·
    rintro lx19 H locs ls _ ⟨i22, i23, i24, V, hl⟩
    replace i22 : q_F (0 ≤ lx19.toInt) := i22
    replace i23 : q_F (lx19.toInt ≤ 1) := i23
    replace i24 : q_F (lx19.toInt ≤ a16.toInt + 1) := i24
    replace hl : lv_has ls 2 [(1, .int a16), (0, .ref (q 38))] := hl
    refine q_put (ci := 8) (j := 6) (v := .int lx19) (ty := .boolean) C0 V i_Rea o_Rea n_Rea rfl rfl hT0 (by decide) w_292 rfl rfl (q_nz01 (q_Ile (x := 0) (y := lx19.toInt) (by decide) rfl (by have t1 : 0 ≤ lx19.toInt := i22; omega)) (q_Ile (x := lx19.toInt) (y := 1) rfl (by decide) (by have t1 : lx19.toInt ≤ 1 := i23; omega))) (q_fz01 (q_Ile (x := 0) (y := lx19.toInt) (by decide) rfl (by have t1 : 0 ≤ lx19.toInt := i22; omega)) (q_Ile (x := lx19.toInt) (y := 1) rfl (by decide) (by have t1 : lx19.toInt ≤ 1 := i23; omega))) (Nat.le_of_ble_eq_true rfl) d_10_11_17 (fun H locs w25 hu26 hT0 V => ?_)
    replace hT0 : w25[38]? = (some (q 38, .inr (8, [.long t0_0, .long t0_1, .ref (q 1), .ref (q 9), .int t0_2, .int t0_3, .int lx19, .int t0_5, .int t0_6, .int t0_7, .int t0_8, .long t0_9])) : Option (Nat × va_E)) := hT0
    replace hI := n_p38 hI hu26 hT0 ⟨(by have t1 : 0 ≤ lx19.toInt := i22; omega), (by have t1 : lx19.toInt ≤ 1 := i23; omega)⟩ ⟨(by have t1 : 0 ≤ t0_8.toInt ∧ t0_8.toInt ≤ 1 := btt0_8; omega), (by have t1 : 0 ≤ t0_8.toInt ∧ t0_8.toInt ≤ 1 := btt0_8; omega)⟩
    replace hF := q_us hF hu26 (by simp)
    refine lv_iload_n hx hb d_10_11_20 rfl (lv_at hl 0 rfl) ?_
    refine lv_bipush (v := 45) hx hb d_10_11_21 (by decide) ?_
    refine lv_icmp_eq (tgt := 32) hx hb d_10_11_23 (by decide) (fun c27 => ?_) (fun c27 => ?_)
    ·
      have b28 : q_F (a16.toInt = 45) := (q_eqI c27)
      refine lv_aload_n hx hb d_10_11_32 rfl (lv_at hl 1 rfl) ?_
      refine lv_dup hx hb d_10_11_33 rfl ?_
      refine q_get (ci := 8) (j := 4) (v := .int t0_2) C0 V i_Rea rfl rfl hT0 (by decide) w_290 rfl d_10_11_34 ?_
      refine lv_iconst (v := 1) hx hb d_10_11_37 (by decide) ?_
      refine lv_iadd hx hb d_10_11_38 ?_
      obtain ⟨a29, e30⟩ := q_nm (t0_2 + 1 : Int32)
      refine q_ti (v := a29) e30 ?_
      refine q_put (ci := 8) (j := 4) (v := .int a29) (ty := .int) C0 V i_Rea o_Rea n_Rea rfl rfl hT0 (by decide) w_290 rfl rfl rfl rfl (Nat.le_of_ble_eq_true rfl) d_10_11_39 (fun H locs w31 hu32 hT0 V => ?_)
      replace hT0 : w31[38]? = (some (q 38, .inr (8, [.long t0_0, .long t0_1, .ref (q 1), .ref (q 9), .int a29, .int t0_3, .int lx19, .int t0_5, .int t0_6, .int t0_7, .int t0_8, .long t0_9])) : Option (Nat × va_E)) := hT0
      replace hI := n_p38 hI hu32 hT0 ⟨(by have t1 : 0 ≤ lx19.toInt := i22; omega), (by have t1 : lx19.toInt ≤ 1 := i23; omega)⟩ ⟨(by have t1 : 0 ≤ t0_8.toInt ∧ t0_8.toInt ≤ 1 := btt0_8; omega), (by have t1 : 0 ≤ t0_8.toInt ∧ t0_8.toInt ≤ 1 := btt0_8; omega)⟩
      replace hF := q_us hF hu32 (by simp)
      exact q_retv C0 V (⟨hI, hF, t0_0, t0_1, a29, t0_3, lx19, t0_5, t0_6, t0_7, t0_8, t0_9, hT0, (show 0 ≤ lx19.toInt from (by have t1 : 0 ≤ lx19.toInt := i22; omega)), (show lx19.toInt ≤ 1 from (by have t1 : lx19.toInt ≤ 1 := i23; omega)), (show t0_0.toInt ≤ t0_0.toInt from (by omega)), (show t0_0.toInt ≤ t0_0.toInt from (by omega)), (show t0_1.toInt ≤ t0_1.toInt from (by omega)), (show t0_1.toInt ≤ t0_1.toInt from (by omega)), (show t0_3.toInt ≤ t0_3.toInt from (by omega)), (show t0_3.toInt ≤ t0_3.toInt from (by omega)), (show t0_5.toInt ≤ t0_5.toInt from (by omega)), (show t0_5.toInt ≤ t0_5.toInt from (by omega)), (show t0_6.toInt ≤ t0_6.toInt from (by omega)), (show t0_6.toInt ≤ t0_6.toInt from (by omega)), (show t0_7.toInt ≤ t0_7.toInt from (by omega)), (show t0_7.toInt ≤ t0_7.toInt from (by omega)), (show t0_8.toInt ≤ t0_8.toInt from (by omega)), (show t0_8.toInt ≤ t0_8.toInt from (by omega)), (show t0_9.toInt ≤ t0_9.toInt from (by omega)), (show t0_9.toInt ≤ t0_9.toInt from (by omega))⟩) d_10_11_42
    ·
      have b33 : q_F (a16.toInt ≠ 45) := (q_neI c27)
      refine lv_iload_n hx hb d_10_11_26 rfl (lv_at hl 0 rfl) ?_
      refine lv_bipush (v := 43) hx hb d_10_11_27 (by decide) ?_
      refine lv_icmp_ne (tgt := 42) hx hb d_10_11_29 (by decide) (fun c34 => ?_) (fun c34 => ?_)
      ·
        have b35 : q_F (a16.toInt ≠ 43) := (q_neI c34)
        exact q_retv C0 V (⟨hI, hF, t0_0, t0_1, t0_2, t0_3, lx19, t0_5, t0_6, t0_7, t0_8, t0_9, hT0, (show 0 ≤ lx19.toInt from (by have t1 : 0 ≤ lx19.toInt := i22; omega)), (show lx19.toInt ≤ 1 from (by have t1 : lx19.toInt ≤ 1 := i23; omega)), (show t0_0.toInt ≤ t0_0.toInt from (by omega)), (show t0_0.toInt ≤ t0_0.toInt from (by omega)), (show t0_1.toInt ≤ t0_1.toInt from (by omega)), (show t0_1.toInt ≤ t0_1.toInt from (by omega)), (show t0_3.toInt ≤ t0_3.toInt from (by omega)), (show t0_3.toInt ≤ t0_3.toInt from (by omega)), (show t0_5.toInt ≤ t0_5.toInt from (by omega)), (show t0_5.toInt ≤ t0_5.toInt from (by omega)), (show t0_6.toInt ≤ t0_6.toInt from (by omega)), (show t0_6.toInt ≤ t0_6.toInt from (by omega)), (show t0_7.toInt ≤ t0_7.toInt from (by omega)), (show t0_7.toInt ≤ t0_7.toInt from (by omega)), (show t0_8.toInt ≤ t0_8.toInt from (by omega)), (show t0_8.toInt ≤ t0_8.toInt from (by omega)), (show t0_9.toInt ≤ t0_9.toInt from (by omega)), (show t0_9.toInt ≤ t0_9.toInt from (by omega))⟩) d_10_11_42
      ·
        have b36 : q_F (a16.toInt = 43) := (q_eqI c34)
        refine lv_aload_n hx hb d_10_11_32 rfl (lv_at hl 1 rfl) ?_
        refine lv_dup hx hb d_10_11_33 rfl ?_
        refine q_get (ci := 8) (j := 4) (v := .int t0_2) C0 V i_Rea rfl rfl hT0 (by decide) w_290 rfl d_10_11_34 ?_
        refine lv_iconst (v := 1) hx hb d_10_11_37 (by decide) ?_
        refine lv_iadd hx hb d_10_11_38 ?_
        obtain ⟨a37, e38⟩ := q_nm (t0_2 + 1 : Int32)
        refine q_ti (v := a37) e38 ?_
        refine q_put (ci := 8) (j := 4) (v := .int a37) (ty := .int) C0 V i_Rea o_Rea n_Rea rfl rfl hT0 (by decide) w_290 rfl rfl rfl rfl (Nat.le_of_ble_eq_true rfl) d_10_11_39 (fun H locs w39 hu40 hT0 V => ?_)
        replace hT0 : w39[38]? = (some (q 38, .inr (8, [.long t0_0, .long t0_1, .ref (q 1), .ref (q 9), .int a37, .int t0_3, .int lx19, .int t0_5, .int t0_6, .int t0_7, .int t0_8, .long t0_9])) : Option (Nat × va_E)) := hT0
        replace hI := n_p38 hI hu40 hT0 ⟨(by have t1 : 0 ≤ lx19.toInt := i22; omega), (by have t1 : lx19.toInt ≤ 1 := i23; omega)⟩ ⟨(by have t1 : 0 ≤ t0_8.toInt ∧ t0_8.toInt ≤ 1 := btt0_8; omega), (by have t1 : 0 ≤ t0_8.toInt ∧ t0_8.toInt ≤ 1 := btt0_8; omega)⟩
        replace hF := q_us hF hu40 (by simp)
        exact q_retv C0 V (⟨hI, hF, t0_0, t0_1, a37, t0_3, lx19, t0_5, t0_6, t0_7, t0_8, t0_9, hT0, (show 0 ≤ lx19.toInt from (by have t1 : 0 ≤ lx19.toInt := i22; omega)), (show lx19.toInt ≤ 1 from (by have t1 : lx19.toInt ≤ 1 := i23; omega)), (show t0_0.toInt ≤ t0_0.toInt from (by omega)), (show t0_0.toInt ≤ t0_0.toInt from (by omega)), (show t0_1.toInt ≤ t0_1.toInt from (by omega)), (show t0_1.toInt ≤ t0_1.toInt from (by omega)), (show t0_3.toInt ≤ t0_3.toInt from (by omega)), (show t0_3.toInt ≤ t0_3.toInt from (by omega)), (show t0_5.toInt ≤ t0_5.toInt from (by omega)), (show t0_5.toInt ≤ t0_5.toInt from (by omega)), (show t0_6.toInt ≤ t0_6.toInt from (by omega)), (show t0_6.toInt ≤ t0_6.toInt from (by omega)), (show t0_7.toInt ≤ t0_7.toInt from (by omega)), (show t0_7.toInt ≤ t0_7.toInt from (by omega)), (show t0_8.toInt ≤ t0_8.toInt from (by omega)), (show t0_8.toInt ≤ t0_8.toInt from (by omega)), (show t0_9.toInt ≤ t0_9.toInt from (by omega)), (show t0_9.toInt ≤ t0_9.toInt from (by omega))⟩) d_10_11_42
  ·
    intro J21
    refine lv_icmp_ne (tgt := 16) hx hb d_10_11_9 (by decide) (fun c41 => ?_) (fun c41 => ?_)
    ·
      have b42 : q_F (a16.toInt ≠ 45) := (q_neI c41)
      refine lv_iconst (v := 0) hx hb d_10_11_16 (by decide) ?_
      exact J21 ((0 : Int32)) _ _ _ ws ⟨(show q_F (0 ≤ 0) from (show 0 ≤ 0 from by omega)), (show q_F (0 ≤ 1) from (show 0 ≤ 1 from by omega)), (show q_F (0 ≤ a16.toInt + 1) from (show 0 ≤ a16.toInt + 1 from by have t1 : 0 ≤ a16.toInt + 1 := b17; omega)), V, q_lw hl (q_lw1 0 rfl (q_lw1 1 rfl q_lw0))⟩
    ·
      have b43 : q_F (a16.toInt = 45) := (q_eqI c41)
      refine lv_iconst (v := 1) hx hb d_10_11_12 (by decide) ?_
      refine lv_goto (tgt := 17) hx hb d_10_11_13 (by decide) ?_
      exact J21 ((1 : Int32)) _ _ _ ws ⟨(show q_F (0 ≤ 1) from (show 0 ≤ 1 from by omega)), (show q_F (1 ≤ 1) from (show 1 ≤ 1 from by omega)), (show q_F (1 ≤ a16.toInt + 1) from (show 1 ≤ a16.toInt + 1 from by have t1 : a16.toInt = 45 := b43; omega)), V, q_lw hl (q_lw1 0 rfl (q_lw1 1 rfl q_lw0))⟩
theorem d_10_10_0 : decode prog_10_method_10_code 0 = .ok (.aload_n 0, 1) := by decide +kernel
theorem d_10_10_1 : decode prog_10_method_10_code 1 = .ok (.getfield 36, 3) := by decide +kernel
theorem d_10_10_4 : decode prog_10_method_10_code 4 = .ok (.aload_n 0, 1) := by decide +kernel
theorem d_10_10_5 : decode prog_10_method_10_code 5 = .ok (.getfield 40, 3) := by decide +kernel
theorem d_10_10_41 : decode prog_10_method_10_code 41 = .ok (.aload_n 0, 1) := by decide +kernel
theorem d_10_10_42 : decode prog_10_method_10_code 42 = .ok (.getfield 40, 3) := by decide +kernel
theorem d_10_10_45 : decode prog_10_method_10_code 45 = .ok (.aload_n 0, 1) := by decide +kernel
theorem d_10_10_46 : decode prog_10_method_10_code 46 = .ok (.getfield 36, 3) := by decide +kernel
theorem d_10_10_49 : decode prog_10_method_10_code 49 = .ok (.if_icmp .le 35, 3) := by decide +kernel
theorem d_10_10_84 : decode prog_10_method_10_code 84 = .ok (.return_, 1) := by decide +kernel
theorem d_10_10_52 : decode prog_10_method_10_code 52 = .ok (.aload_n 0, 1) := by decide +kernel
theorem d_10_10_53 : decode prog_10_method_10_code 53 = .ok (.getfield 9, 3) := by decide +kernel
theorem d_10_10_56 : decode prog_10_method_10_code 56 = .ok (.aload_n 0, 1) := by decide +kernel
theorem d_10_10_57 : decode prog_10_method_10_code 57 = .ok (.getfield 40, 3) := by decide +kernel
theorem d_10_10_60 : decode prog_10_method_10_code 60 = .ok (.iconst 1, 1) := by decide +kernel
theorem d_10_10_61 : decode prog_10_method_10_code 61 = .ok (.isub, 1) := by decide +kernel
theorem d_10_10_62 : decode prog_10_method_10_code 62 = .ok (.i2l, 1) := by decide +kernel
theorem d_10_10_63 : decode prog_10_method_10_code 63 = .ok (.invokevirtual 139, 3) := by decide +kernel
theorem d_10_10_66 : decode prog_10_method_10_code 66 = .ok (.bipush 32, 2) := by decide +kernel
theorem d_10_10_68 : decode prog_10_method_10_code 68 = .ok (.if_icmp .gt 16, 3) := by decide +kernel
theorem d_10_10_71 : decode prog_10_method_10_code 71 = .ok (.aload_n 0, 1) := by decide +kernel
theorem d_10_10_72 : decode prog_10_method_10_code 72 = .ok (.dup, 1) := by decide +kernel
theorem d_10_10_73 : decode prog_10_method_10_code 73 = .ok (.getfield 40, 3) := by decide +kernel
theorem d_10_10_76 : decode prog_10_method_10_code 76 = .ok (.iconst 1, 1) := by decide +kernel
theorem d_10_10_77 : decode prog_10_method_10_code 77 = .ok (.isub, 1) := by decide +kernel
theorem d_10_10_78 : decode prog_10_method_10_code 78 = .ok (.putfield 40, 3) := by decide +kernel
theorem d_10_10_81 : decode prog_10_method_10_code 81 = .ok (.goto (-40), 3) := by decide +kernel
theorem d_10_10_8 : decode prog_10_method_10_code 8 = .ok (.if_icmp .ge 33, 3) := by decide +kernel
theorem d_10_10_11 : decode prog_10_method_10_code 11 = .ok (.aload_n 0, 1) := by decide +kernel
theorem d_10_10_12 : decode prog_10_method_10_code 12 = .ok (.getfield 9, 3) := by decide +kernel
theorem d_10_10_15 : decode prog_10_method_10_code 15 = .ok (.aload_n 0, 1) := by decide +kernel
theorem d_10_10_16 : decode prog_10_method_10_code 16 = .ok (.getfield 36, 3) := by decide +kernel
theorem d_10_10_19 : decode prog_10_method_10_code 19 = .ok (.i2l, 1) := by decide +kernel
theorem d_10_10_20 : decode prog_10_method_10_code 20 = .ok (.invokevirtual 139, 3) := by decide +kernel
theorem d_10_10_23 : decode prog_10_method_10_code 23 = .ok (.bipush 32, 2) := by decide +kernel
theorem d_10_10_25 : decode prog_10_method_10_code 25 = .ok (.if_icmp .gt 16, 3) := by decide +kernel
theorem d_10_10_28 : decode prog_10_method_10_code 28 = .ok (.aload_n 0, 1) := by decide +kernel
theorem d_10_10_29 : decode prog_10_method_10_code 29 = .ok (.dup, 1) := by decide +kernel
theorem d_10_10_30 : decode prog_10_method_10_code 30 = .ok (.getfield 36, 3) := by decide +kernel
theorem d_10_10_33 : decode prog_10_method_10_code 33 = .ok (.iconst 1, 1) := by decide +kernel
theorem d_10_10_34 : decode prog_10_method_10_code 34 = .ok (.iadd, 1) := by decide +kernel
theorem d_10_10_35 : decode prog_10_method_10_code 35 = .ok (.putfield 36, 3) := by decide +kernel
theorem d_10_10_38 : decode prog_10_method_10_code 38 = .ok (.goto (-38), 3) := by decide +kernel
def y_Rea_trimBlanks : MethodName := ⟨"NumberHouse$Reader", "trimBlanks", "()V"⟩
set_option maxRecDepth 100000 in
set_option maxHeartbeats 4000000 in
theorem T_Rea_trimBlanks (l : Launch) (D : va_G) (g : Nat → ClassId) (q : Nat → Nat) (ws : va_W) (hI : q_I (nsh g q) q ws) (t0_0 : Int64) (t0_1 : Int64) (t0_2 : Int32) (t0_3 : Int32) (t0_4 : Int32) (t0_5 : Int32) (t0_6 : Int32) (t0_7 : Int32) (t0_8 : Int32) (t0_9 : Int64) (hT0 : ws[38]? = (some (q 38, .inr (8, [.long t0_0, .long t0_1, .ref (q 1), .ref (q 9), .int t0_2, .int t0_3, .int t0_4, .int t0_5, .int t0_6, .int t0_7, .int t0_8, .long t0_9])) : Option (Nat × va_E))) : q_mV l y_Rea_trimBlanks prog_10_method_10_code 1 2 0 0 D g [.ref (q 38)] ws (fun u => q_I (nsh g q) q u ∧ q_un ws u [38] ∧ ∃ (u0_0 : Int64) (u0_1 : Int64) (u0_2 : Int32) (u0_3 : Int32) (u0_4 : Int32) (u0_5 : Int32) (u0_6 : Int32) (u0_7 : Int32) (u0_8 : Int32) (u0_9 : Int64), u[38]? = (some (q 38, .inr (8, [.long u0_0, .long u0_1, .ref (q 1), .ref (q 9), .int u0_2, .int u0_3, .int u0_4, .int u0_5, .int u0_6, .int u0_7, .int u0_8, .long u0_9])) : Option (Nat × va_E)) ∧ (t0_0.toInt ≤ u0_0.toInt) ∧ (u0_0.toInt ≤ t0_0.toInt) ∧ (t0_1.toInt ≤ u0_1.toInt) ∧ (u0_1.toInt ≤ t0_1.toInt) ∧ (t0_2.toInt ≤ u0_2.toInt) ∧ (u0_3.toInt ≤ t0_3.toInt) ∧ (t0_4.toInt ≤ u0_4.toInt) ∧ (u0_4.toInt ≤ t0_4.toInt) ∧ (t0_5.toInt ≤ u0_5.toInt) ∧ (u0_5.toInt ≤ t0_5.toInt) ∧ (t0_6.toInt ≤ u0_6.toInt) ∧ (u0_6.toInt ≤ t0_6.toInt) ∧ (t0_7.toInt ≤ u0_7.toInt) ∧ (u0_7.toInt ≤ t0_7.toInt) ∧ (t0_8.toInt ≤ u0_8.toInt) ∧ (u0_8.toInt ≤ t0_8.toInt) ∧ (t0_9.toInt ≤ u0_9.toInt) ∧ (u0_9.toInt ≤ t0_9.toInt)) := by
  intro sz
  refine q_into (by decide) (Nat.le_of_ble_eq_true rfl) ?_
  intro p e s m below meth c ls hsz C0 V hl
  have hx := C0.1
  have hb := C0.2.1
  obtain ⟨yy0_0, yy0_1, yy0_2, yy0_3, yy0_4, yy0_5, yy0_6, yy0_7, yy0_8, yy0_9, hh0, btt0_4, btt0_8⟩ := n_o38 hI
  obtain ⟨rfl, rfl, rfl, rfl, rfl, rfl, rfl, rfl, rfl, rfl⟩ : t0_0 = yy0_0 ∧ t0_1 = yy0_1 ∧ t0_2 = yy0_2 ∧ t0_3 = yy0_3 ∧ t0_4 = yy0_4 ∧ t0_5 = yy0_5 ∧ t0_6 = yy0_6 ∧ t0_7 = yy0_7 ∧ t0_8 = yy0_8 ∧ t0_9 = yy0_9 := by have z := Option.some.inj (hT0.symm.trans hh0); simpa using z
  replace btt0_4 : q_F (0 ≤ t0_4.toInt ∧ t0_4.toInt ≤ 1) := btt0_4
  replace btt0_8 : q_F (0 ≤ t0_8.toInt ∧ t0_8.toInt ≤ 1) := btt0_8
  have hF : q_un ws ws [38] := q_u0
  have hl : lv_has ls 1 [(0, .ref (q 38))] := hl
  refine q_loop (X := Int32) (fun z H locs ls w17 => q_F (t0_2.toInt ≤ z.toInt) ∧ q_Wd D g (va_A ws sz) s w17 H locs ∧ lv_has ls 1 [(0, .ref (q 38))] ∧ q_I (nsh g q) q w17 ∧ q_un ws w17 [38] ∧ w17[38]? = (some (q 38, .inr (8, [.long t0_0, .long t0_1, .ref (q 1), .ref (q 9), .int z, .int t0_3, .int t0_4, .int t0_5, .int t0_6, .int t0_7, .int t0_8, .long t0_9])) : Option (Nat × va_E))) (fun z => (t0_3.toInt - z.toInt).toNat) ?_ ((t0_2 : Int32)) _ _ _ ws ⟨(show q_F (t0_2.toInt ≤ t0_2.toInt) from (show t0_2.toInt ≤ t0_2.toInt from by omega)), V, q_lw hl (q_lw1 0 rfl q_lw0), hI, hF, hT0⟩
  rintro lx14 H locs ls w17 ⟨i15, V, hl, hI, hF, hO18⟩ ih16
  replace i15 : q_F (t0_2.toInt ≤ lx14.toInt) := i15
  replace hl : lv_has ls 1 [(0, .ref (q 38))] := hl
  replace hO18 : w17[38]? = (some (q 38, .inr (8, [.long t0_0, .long t0_1, .ref (q 1), .ref (q 9), .int lx14, .int t0_3, .int t0_4, .int t0_5, .int t0_6, .int t0_7, .int t0_8, .long t0_9])) : Option (Nat × va_E)) := hO18
  refine lv_aload_n hx hb d_10_10_0 rfl (lv_at hl 0 rfl) ?_
  refine q_get (ci := 8) (j := 4) (v := .int lx14) C0 V i_Rea rfl rfl hO18 (by decide) w_290 rfl d_10_10_1 ?_
  refine lv_aload_n hx hb d_10_10_4 rfl (lv_at hl 0 rfl) ?_
  refine q_get (ci := 8) (j := 5) (v := .int t0_3) C0 V i_Rea rfl rfl hO18 (by decide) w_291 rfl d_10_10_5 ?_
  refine q_join (X := Unit) (fun z H locs ls _ => q_Wd D g (va_A ws sz) s w17 H locs ∧ lv_has ls 1 [(0, .ref (q 38))]) (fun z => []) 41 0 0 ?_ ?_
  ·
    rintro _ H locs ls _ ⟨V, hl⟩
    replace hl : lv_has ls 1 [(0, .ref (q 38))] := hl
    refine q_loop (X := Int32) (fun z H locs ls w24 => q_F (z.toInt ≤ t0_3.toInt) ∧ q_Wd D g (va_A ws sz) s w24 H locs ∧ lv_has ls 1 [(0, .ref (q 38))] ∧ q_I (nsh g q) q w24 ∧ q_un ws w24 [38] ∧ w24[38]? = (some (q 38, .inr (8, [.long t0_0, .long t0_1, .ref (q 1), .ref (q 9), .int lx14, .int z, .int t0_4, .int t0_5, .int t0_6, .int t0_7, .int t0_8, .long t0_9])) : Option (Nat × va_E))) (fun z => (z.toInt - (lx14.toInt)).toNat) ?_ ((t0_3 : Int32)) _ _ _ w17 ⟨(show q_F (t0_3.toInt ≤ t0_3.toInt) from (show t0_3.toInt ≤ t0_3.toInt from by omega)), V, q_lw hl (q_lw1 0 rfl q_lw0), hI, hF, hO18⟩
    rintro lx21 H locs ls w24 ⟨i22, V, hl, hI, hF, hO25⟩ ih23
    replace i22 : q_F (lx21.toInt ≤ t0_3.toInt) := i22
    replace hl : lv_has ls 1 [(0, .ref (q 38))] := hl
    replace hO25 : w24[38]? = (some (q 38, .inr (8, [.long t0_0, .long t0_1, .ref (q 1), .ref (q 9), .int lx14, .int lx21, .int t0_4, .int t0_5, .int t0_6, .int t0_7, .int t0_8, .long t0_9])) : Option (Nat × va_E)) := hO25
    refine lv_aload_n hx hb d_10_10_41 rfl (lv_at hl 0 rfl) ?_
    refine q_get (ci := 8) (j := 5) (v := .int lx21) C0 V i_Rea rfl rfl hO25 (by decide) w_291 rfl d_10_10_42 ?_
    refine lv_aload_n hx hb d_10_10_45 rfl (lv_at hl 0 rfl) ?_
    refine q_get (ci := 8) (j := 4) (v := .int lx14) C0 V i_Rea rfl rfl hO25 (by decide) w_290 rfl d_10_10_46 ?_
    refine lv_icmp_le (tgt := 84) hx hb d_10_10_49 (by decide) (fun c26 => ?_) (fun c26 => ?_)
    ·
      have b27 : q_F (lx21.toInt ≤ lx14.toInt) := (q_leI c26)
      exact q_retv C0 V (⟨hI, hF, t0_0, t0_1, lx14, lx21, t0_4, t0_5, t0_6, t0_7, t0_8, t0_9, hO25, (show t0_0.toInt ≤ t0_0.toInt from (by omega)), (show t0_0.toInt ≤ t0_0.toInt from (by omega)), (show t0_1.toInt ≤ t0_1.toInt from (by omega)), (show t0_1.toInt ≤ t0_1.toInt from (by omega)), (show t0_2.toInt ≤ lx14.toInt from (by have t1 : t0_2.toInt ≤ lx14.toInt := i15; omega)), (show lx21.toInt ≤ t0_3.toInt from (by have t1 : lx21.toInt ≤ t0_3.toInt := i22; omega)), (show t0_4.toInt ≤ t0_4.toInt from (by omega)), (show t0_4.toInt ≤ t0_4.toInt from (by omega)), (show t0_5.toInt ≤ t0_5.toInt from (by omega)), (show t0_5.toInt ≤ t0_5.toInt from (by omega)), (show t0_6.toInt ≤ t0_6.toInt from (by omega)), (show t0_6.toInt ≤ t0_6.toInt from (by omega)), (show t0_7.toInt ≤ t0_7.toInt from (by omega)), (show t0_7.toInt ≤ t0_7.toInt from (by omega)), (show t0_8.toInt ≤ t0_8.toInt from (by omega)), (show t0_8.toInt ≤ t0_8.toInt from (by omega)), (show t0_9.toInt ≤ t0_9.toInt from (by omega)), (show t0_9.toInt ≤ t0_9.toInt from (by omega))⟩) d_10_10_84
    ·
      have b28 : q_F (lx14.toInt < lx21.toInt) := (q_nleI c26)
      refine lv_aload_n hx hb d_10_10_52 rfl (lv_at hl 0 rfl) ?_
      refine q_get (ci := 8) (j := 2) (v := .ref (q 1)) C0 V i_Rea rfl rfl hO25 (by decide) w_288 rfl d_10_10_53 ?_
      refine lv_aload_n hx hb d_10_10_56 rfl (lv_at hl 0 rfl) ?_
      refine q_get (ci := 8) (j := 5) (v := .int lx21) C0 V i_Rea rfl rfl hO25 (by decide) w_291 rfl d_10_10_57 ?_
      refine lv_iconst (v := 1) hx hb d_10_10_60 (by decide) ?_
      refine lv_isub hx hb d_10_10_61 ?_
      obtain ⟨a29, e30⟩ := q_nm (lx21 - 1 : Int32)
      refine q_ti (v := a29) e30 ?_
      have b31 : q_F (a29.toInt = lx21.toInt - 1) := (by rw [← e30]; show (lx21 - 1 : Int32).toInt = lx21.toInt - 1; exact q_subI (x := lx21.toInt) (y := 1) rfl (by decide) (by have t1 : lx14.toInt < lx21.toInt := b28; have _ := q_lo32 (x := lx14); have _ := q_hi32 (x := lx14); have _ := q_lo32 (x := lx21); have _ := q_hi32 (x := lx21); omega) (by have t1 : lx14.toInt < lx21.toInt := b28; have _ := q_lo32 (x := lx14); have _ := q_hi32 (x := lx14); have _ := q_lo32 (x := lx21); have _ := q_hi32 (x := lx21); omega))
      refine lv_i2l hx hb d_10_10_62 rfl ?_
      obtain ⟨j32, e33⟩ := q_nm (a29.toInt64 : Int64)
      refine q_tl (v := j32) e33 ?_
      have b34 : q_F (j32.toInt = a29.toInt) := (by rw [← e33]; show (a29.toInt64 : Int64).toInt = a29.toInt; exact q_i2l rfl)
      obtain ⟨y36, hO35, b37⟩ := n_shO hI (n_h1 g q)
      replace b37 : q_F (0 ≤ y36.toInt ∧ y36.toInt ≤ 4100) := b37
      refine q_goi V (q_runV (As := [.long j32]) (rest := []) (d := 1) (mc := 0) (ms := 0) (ci := 1) C0 V rfl LV_Rea_139 (T_She_at l D g q w24 1 4100 513 4100 (n_h1 g q) j32 hI   _) rfl rfl hO35 rfl hl.1 rfl (Nat.le_of_ble_eq_true rfl) ⟨by decide, by decide⟩ ⟨Nat.le_of_ble_eq_true rfl, Nat.le_of_ble_eq_true rfl⟩ d_10_10_63) (fun a40 u38 H locs hp39 V => ?_)
      obtain ⟨rfl, b41, b42, pu43⟩ := hp39
      replace b41 : q_F (0 ≤ a40.toInt) := b41
      replace b42 : q_F (a40.toInt ≤ 255) := b42
      refine lv_bipush (v := 32) hx hb d_10_10_66 (by decide) ?_
      refine lv_icmp_gt (tgt := 84) hx hb d_10_10_68 (by decide) (fun c44 => ?_) (fun c44 => ?_)
      ·
        have b45 : q_F (32 < a40.toInt) := (q_ltI c44)
        exact q_retv C0 V (⟨hI, hF, t0_0, t0_1, lx14, lx21, t0_4, t0_5, t0_6, t0_7, t0_8, t0_9, hO25, (show t0_0.toInt ≤ t0_0.toInt from (by omega)), (show t0_0.toInt ≤ t0_0.toInt from (by omega)), (show t0_1.toInt ≤ t0_1.toInt from (by omega)), (show t0_1.toInt ≤ t0_1.toInt from (by omega)), (show t0_2.toInt ≤ lx14.toInt from (by have t1 : t0_2.toInt ≤ lx14.toInt := i15; omega)), (show lx21.toInt ≤ t0_3.toInt from (by have t1 : lx21.toInt ≤ t0_3.toInt := i22; omega)), (show t0_4.toInt ≤ t0_4.toInt from (by omega)), (show t0_4.toInt ≤ t0_4.toInt from (by omega)), (show t0_5.toInt ≤ t0_5.toInt from (by omega)), (show t0_5.toInt ≤ t0_5.toInt from (by omega)), (show t0_6.toInt ≤ t0_6.toInt from (by omega)), (show t0_6.toInt ≤ t0_6.toInt from (by omega)), (show t0_7.toInt ≤ t0_7.toInt from (by omega)), (show t0_7.toInt ≤ t0_7.toInt from (by omega)), (show t0_8.toInt ≤ t0_8.toInt from (by omega)), (show t0_8.toInt ≤ t0_8.toInt from (by omega)), (show t0_9.toInt ≤ t0_9.toInt from (by omega)), (show t0_9.toInt ≤ t0_9.toInt from (by omega))⟩) d_10_10_84
      ·
        have b46 : q_F (a40.toInt ≤ 32) := (q_nltI c44)
        refine lv_aload_n hx hb d_10_10_71 rfl (lv_at hl 0 rfl) ?_
        refine lv_dup hx hb d_10_10_72 rfl ?_
        refine q_get (ci := 8) (j := 5) (v := .int lx21) C0 V i_Rea rfl rfl hO25 (by decide) w_291 rfl d_10_10_73 ?_
        refine lv_iconst (v := 1) hx hb d_10_10_76 (by decide) ?_
        refine lv_isub hx hb d_10_10_77 ?_
        obtain ⟨a47, e48⟩ := q_nm (lx21 - 1 : Int32)
        refine q_ti (v := a47) e48 ?_
        have b49 : q_F (a47.toInt = lx21.toInt - 1) := (by rw [← e48]; show (lx21 - 1 : Int32).toInt = lx21.toInt - 1; exact q_subI (x := lx21.toInt) (y := 1) rfl (by decide) (by have t1 : a29.toInt = lx21.toInt - 1 := b31; have _ := q_lo32 (x := a29); have _ := q_hi32 (x := a29); omega) (by have t1 : a29.toInt = lx21.toInt - 1 := b31; have _ := q_lo32 (x := a29); have _ := q_hi32 (x := a29); omega))
        refine q_put (ci := 8) (j := 5) (v := .int a47) (ty := .int) C0 V i_Rea o_Rea n_Rea rfl rfl hO25 (by decide) w_291 rfl rfl rfl rfl (Nat.le_of_ble_eq_true rfl) d_10_10_78 (fun H locs w50 hu51 hO25 V => ?_)
        replace hO25 : w50[38]? = (some (q 38, .inr (8, [.long t0_0, .long t0_1, .ref (q 1), .ref (q 9), .int lx14, .int a47, .int t0_4, .int t0_5, .int t0_6, .int t0_7, .int t0_8, .long t0_9])) : Option (Nat × va_E)) := hO25
        replace hI := n_p38 hI hu51 hO25 ⟨(by have t1 : 0 ≤ t0_4.toInt ∧ t0_4.toInt ≤ 1 := btt0_4; omega), (by have t1 : 0 ≤ t0_4.toInt ∧ t0_4.toInt ≤ 1 := btt0_4; omega)⟩ ⟨(by have t1 : 0 ≤ t0_8.toInt ∧ t0_8.toInt ≤ 1 := btt0_8; omega), (by have t1 : 0 ≤ t0_8.toInt ∧ t0_8.toInt ≤ 1 := btt0_8; omega)⟩
        replace hO35 := (hu51 _ (by decide)).trans hO35
        replace hF := q_us hF hu51 (by simp)
        refine lv_goto (tgt := 41) hx hb d_10_10_81 (by decide) ?_
        exact ih23 ((a47 : Int32)) _ _ _ _ (show (a47.toInt - (lx14.toInt)).toNat < (lx21.toInt - (lx14.toInt)).toNat from by have t1 : a47.toInt = lx21.toInt - 1 := b49; have t2 : lx14.toInt < lx21.toInt := b28; omega) ⟨(show q_F (a47.toInt ≤ t0_3.toInt) from (show a47.toInt ≤ t0_3.toInt from by have t1 : lx21.toInt ≤ t0_3.toInt := i22; have t2 : a47.toInt = lx21.toInt - 1 := b49; omega)), V, q_lw hl (q_lw1 0 rfl q_lw0), hI, hF, hO25⟩
  ·
    intro J20
    refine lv_icmp_ge (tgt := 41) hx hb d_10_10_8 (by decide) (fun c52 => ?_) (fun c52 => ?_)
    ·
      have b53 : q_F (t0_3.toInt ≤ lx14.toInt) := (q_leI c52)
      exact J20 (()) _ _ _ w17 ⟨V, q_lw hl (q_lw1 0 rfl q_lw0)⟩
    ·
      have b54 : q_F (lx14.toInt < t0_3.toInt) := (q_nleI c52)
      refine lv_aload_n hx hb d_10_10_11 rfl (lv_at hl 0 rfl) ?_
      refine q_get (ci := 8) (j := 2) (v := .ref (q 1)) C0 V i_Rea rfl rfl hO18 (by decide) w_288 rfl d_10_10_12 ?_
      refine lv_aload_n hx hb d_10_10_15 rfl (lv_at hl 0 rfl) ?_
      refine q_get (ci := 8) (j := 4) (v := .int lx14) C0 V i_Rea rfl rfl hO18 (by decide) w_290 rfl d_10_10_16 ?_
      refine lv_i2l hx hb d_10_10_19 rfl ?_
      obtain ⟨j55, e56⟩ := q_nm (lx14.toInt64 : Int64)
      refine q_tl (v := j55) e56 ?_
      have b57 : q_F (j55.toInt = lx14.toInt) := (by rw [← e56]; show (lx14.toInt64 : Int64).toInt = lx14.toInt; exact q_i2l rfl)
      obtain ⟨y59, hO58, b60⟩ := n_shO hI (n_h1 g q)
      replace b60 : q_F (0 ≤ y59.toInt ∧ y59.toInt ≤ 4100) := b60
      refine q_goi V (q_runV (As := [.long j55]) (rest := []) (d := 1) (mc := 0) (ms := 0) (ci := 1) C0 V rfl LV_Rea_139 (T_She_at l D g q w17 1 4100 513 4100 (n_h1 g q) j55 hI   _) rfl rfl hO58 rfl hl.1 rfl (Nat.le_of_ble_eq_true rfl) ⟨by decide, by decide⟩ ⟨Nat.le_of_ble_eq_true rfl, Nat.le_of_ble_eq_true rfl⟩ d_10_10_20) (fun a63 u61 H locs hp62 V => ?_)
      obtain ⟨rfl, b64, b65, pu66⟩ := hp62
      replace b64 : q_F (0 ≤ a63.toInt) := b64
      replace b65 : q_F (a63.toInt ≤ 255) := b65
      refine lv_bipush (v := 32) hx hb d_10_10_23 (by decide) ?_
      refine lv_icmp_gt (tgt := 41) hx hb d_10_10_25 (by decide) (fun c67 => ?_) (fun c67 => ?_)
      ·
        have b68 : q_F (32 < a63.toInt) := (q_ltI c67)
        exact J20 (()) _ _ _ w17 ⟨V, q_lw hl (q_lw1 0 rfl q_lw0)⟩
      ·
        have b69 : q_F (a63.toInt ≤ 32) := (q_nltI c67)
        refine lv_aload_n hx hb d_10_10_28 rfl (lv_at hl 0 rfl) ?_
        refine lv_dup hx hb d_10_10_29 rfl ?_
        refine q_get (ci := 8) (j := 4) (v := .int lx14) C0 V i_Rea rfl rfl hO18 (by decide) w_290 rfl d_10_10_30 ?_
        refine lv_iconst (v := 1) hx hb d_10_10_33 (by decide) ?_
        refine lv_iadd hx hb d_10_10_34 ?_
        obtain ⟨a70, e71⟩ := q_nm (lx14 + 1 : Int32)
        refine q_ti (v := a70) e71 ?_
        have b72 : q_F (a70.toInt = lx14.toInt + 1) := (by rw [← e71]; show (lx14 + 1 : Int32).toInt = lx14.toInt + 1; exact q_addI (x := lx14.toInt) (y := 1) rfl (by decide) (by have _ := q_lo32 (x := lx14); have _ := q_hi32 (x := lx14); have t1 : lx14.toInt < t0_3.toInt := b54; have _ := q_lo32 (x := t0_3); have _ := q_hi32 (x := t0_3); omega) (by have _ := q_lo32 (x := lx14); have _ := q_hi32 (x := lx14); have t1 : lx14.toInt < t0_3.toInt := b54; have _ := q_lo32 (x := t0_3); have _ := q_hi32 (x := t0_3); omega))
        refine q_put (ci := 8) (j := 4) (v := .int a70) (ty := .int) C0 V i_Rea o_Rea n_Rea rfl rfl hO18 (by decide) w_290 rfl rfl rfl rfl (Nat.le_of_ble_eq_true rfl) d_10_10_35 (fun H locs w73 hu74 hO18 V => ?_)
        replace hO18 : w73[38]? = (some (q 38, .inr (8, [.long t0_0, .long t0_1, .ref (q 1), .ref (q 9), .int a70, .int t0_3, .int t0_4, .int t0_5, .int t0_6, .int t0_7, .int t0_8, .long t0_9])) : Option (Nat × va_E)) := hO18
        replace hI := n_p38 hI hu74 hO18 ⟨(by have t1 : 0 ≤ t0_4.toInt ∧ t0_4.toInt ≤ 1 := btt0_4; omega), (by have t1 : 0 ≤ t0_4.toInt ∧ t0_4.toInt ≤ 1 := btt0_4; omega)⟩ ⟨(by have t1 : 0 ≤ t0_8.toInt ∧ t0_8.toInt ≤ 1 := btt0_8; omega), (by have t1 : 0 ≤ t0_8.toInt ∧ t0_8.toInt ≤ 1 := btt0_8; omega)⟩
        replace hO58 := (hu74 _ (by decide)).trans hO58
        replace hF := q_us hF hu74 (by simp)
        refine lv_goto (tgt := 0) hx hb d_10_10_38 (by decide) ?_
        exact ih16 ((a70 : Int32)) _ _ _ _ (show (t0_3.toInt - a70.toInt).toNat < (t0_3.toInt - lx14.toInt).toNat from by have t1 : a70.toInt = lx14.toInt + 1 := b72; have t2 : lx14.toInt < t0_3.toInt := b54; omega) ⟨(show q_F (t0_2.toInt ≤ a70.toInt) from (show t0_2.toInt ≤ a70.toInt from by have t1 : t0_2.toInt ≤ lx14.toInt := i15; have t2 : a70.toInt = lx14.toInt + 1 := b72; omega)), V, q_lw hl (q_lw1 0 rfl q_lw0), hI, hF, hO18⟩
theorem d_10_8_0 : decode prog_10_method_8_code 0 = .ok (.aload_n 0, 1) := by decide +kernel
theorem d_10_8_1 : decode prog_10_method_8_code 1 = .ok (.invokevirtual 70, 3) := by decide +kernel
theorem d_10_8_4 : decode prog_10_method_8_code 4 = .ok (.bipush 32, 2) := by decide +kernel
theorem d_10_8_6 : decode prog_10_method_8_code 6 = .ok (.ior, 1) := by decide +kernel
theorem d_10_8_7 : decode prog_10_method_8_code 7 = .ok (.istore_n 1, 1) := by decide +kernel
theorem d_10_8_8 : decode prog_10_method_8_code 8 = .ok (.iload_n 1, 1) := by decide +kernel
theorem d_10_8_9 : decode prog_10_method_8_code 9 = .ok (.bipush 100, 2) := by decide +kernel
theorem d_10_8_20 : decode prog_10_method_8_code 20 = .ok (.aload_n 0, 1) := by decide +kernel
theorem d_10_8_21 : decode prog_10_method_8_code 21 = .ok (.dup, 1) := by decide +kernel
theorem d_10_8_22 : decode prog_10_method_8_code 22 = .ok (.getfield 36, 3) := by decide +kernel
theorem d_10_8_25 : decode prog_10_method_8_code 25 = .ok (.iconst 1, 1) := by decide +kernel
theorem d_10_8_26 : decode prog_10_method_8_code 26 = .ok (.iadd, 1) := by decide +kernel
theorem d_10_8_27 : decode prog_10_method_8_code 27 = .ok (.putfield 36, 3) := by decide +kernel
theorem d_10_8_30 : decode prog_10_method_8_code 30 = .ok (.aload_n 0, 1) := by decide +kernel
theorem d_10_8_31 : decode prog_10_method_8_code 31 = .ok (.getfield 36, 3) := by decide +kernel
theorem d_10_8_34 : decode prog_10_method_8_code 34 = .ok (.aload_n 0, 1) := by decide +kernel
theorem d_10_8_35 : decode prog_10_method_8_code 35 = .ok (.getfield 40, 3) := by decide +kernel
theorem d_10_8_38 : decode prog_10_method_8_code 38 = .ok (.if_icmp .lt 7, 3) := by decide +kernel
theorem d_10_8_45 : decode prog_10_method_8_code 45 = .ok (.iconst 0, 1) := by decide +kernel
theorem d_10_8_46 : decode prog_10_method_8_code 46 = .ok (.ireturn, 1) := by decide +kernel
theorem d_10_8_41 : decode prog_10_method_8_code 41 = .ok (.iconst 1, 1) := by decide +kernel
theorem d_10_8_42 : decode prog_10_method_8_code 42 = .ok (.goto 4, 3) := by decide +kernel
theorem d_10_8_11 : decode prog_10_method_8_code 11 = .ok (.if_icmp .eq 9, 3) := by decide +kernel
theorem d_10_8_14 : decode prog_10_method_8_code 14 = .ok (.iload_n 1, 1) := by decide +kernel
theorem d_10_8_15 : decode prog_10_method_8_code 15 = .ok (.bipush 102, 2) := by decide +kernel
theorem d_10_8_17 : decode prog_10_method_8_code 17 = .ok (.if_icmp .ne 13, 3) := by decide +kernel
def y_Rea_takeEnding : MethodName := ⟨"NumberHouse$Reader", "takeEnding", "()Z"⟩
set_option maxRecDepth 100000 in
set_option maxHeartbeats 4000000 in
theorem T_Rea_takeEnding (l : Launch) (D : va_G) (g : Nat → ClassId) (q : Nat → Nat) (ws : va_W) (hI : q_I (nsh g q) q ws) (t0_0 : Int64) (t0_1 : Int64) (t0_2 : Int32) (t0_3 : Int32) (t0_4 : Int32) (t0_5 : Int32) (t0_6 : Int32) (t0_7 : Int32) (t0_8 : Int32) (t0_9 : Int64) (hT0 : ws[38]? = (some (q 38, .inr (8, [.long t0_0, .long t0_1, .ref (q 1), .ref (q 9), .int t0_2, .int t0_3, .int t0_4, .int t0_5, .int t0_6, .int t0_7, .int t0_8, .long t0_9])) : Option (Nat × va_E))) : q_mI l y_Rea_takeEnding prog_10_method_8_code 2 (.boolean) 3 0 0 D g [.ref (q 38)] ws (fun r u => q_I (nsh g q) q u ∧ q_un ws u [38] ∧ ∃ (u0_0 : Int64) (u0_1 : Int64) (u0_2 : Int32) (u0_3 : Int32) (u0_4 : Int32) (u0_5 : Int32) (u0_6 : Int32) (u0_7 : Int32) (u0_8 : Int32) (u0_9 : Int64), u[38]? = (some (q 38, .inr (8, [.long u0_0, .long u0_1, .ref (q 1), .ref (q 9), .int u0_2, .int u0_3, .int u0_4, .int u0_5, .int u0_6, .int u0_7, .int u0_8, .long u0_9])) : Option (Nat × va_E)) ∧ (0 ≤ r.toInt) ∧ (r.toInt ≤ 1) ∧ (t0_0.toInt ≤ u0_0.toInt) ∧ (u0_0.toInt ≤ t0_0.toInt) ∧ (t0_1.toInt ≤ u0_1.toInt) ∧ (u0_1.toInt ≤ t0_1.toInt) ∧ (t0_3.toInt ≤ u0_3.toInt) ∧ (u0_3.toInt ≤ t0_3.toInt) ∧ (t0_4.toInt ≤ u0_4.toInt) ∧ (u0_4.toInt ≤ t0_4.toInt) ∧ (t0_5.toInt ≤ u0_5.toInt) ∧ (u0_5.toInt ≤ t0_5.toInt) ∧ (t0_6.toInt ≤ u0_6.toInt) ∧ (u0_6.toInt ≤ t0_6.toInt) ∧ (t0_7.toInt ≤ u0_7.toInt) ∧ (u0_7.toInt ≤ t0_7.toInt) ∧ (t0_8.toInt ≤ u0_8.toInt) ∧ (u0_8.toInt ≤ t0_8.toInt) ∧ (t0_9.toInt ≤ u0_9.toInt) ∧ (u0_9.toInt ≤ t0_9.toInt)) := by
  intro sz
  refine q_into (by decide) (Nat.le_of_ble_eq_true rfl) ?_
  intro p e s m below meth c ls hsz C0 V hl
  have hx := C0.1
  have hb := C0.2.1
  obtain ⟨yy0_0, yy0_1, yy0_2, yy0_3, yy0_4, yy0_5, yy0_6, yy0_7, yy0_8, yy0_9, hh0, btt0_4, btt0_8⟩ := n_o38 hI
  obtain ⟨rfl, rfl, rfl, rfl, rfl, rfl, rfl, rfl, rfl, rfl⟩ : t0_0 = yy0_0 ∧ t0_1 = yy0_1 ∧ t0_2 = yy0_2 ∧ t0_3 = yy0_3 ∧ t0_4 = yy0_4 ∧ t0_5 = yy0_5 ∧ t0_6 = yy0_6 ∧ t0_7 = yy0_7 ∧ t0_8 = yy0_8 ∧ t0_9 = yy0_9 := by have z := Option.some.inj (hT0.symm.trans hh0); simpa using z
  replace btt0_4 : q_F (0 ≤ t0_4.toInt ∧ t0_4.toInt ≤ 1) := btt0_4
  replace btt0_8 : q_F (0 ≤ t0_8.toInt ∧ t0_8.toInt ≤ 1) := btt0_8
  have hF : q_un ws ws [38] := q_u0
  have hl : lv_has ls 2 [(0, .ref (q 38))] := hl
  refine lv_aload_n hx hb d_10_8_0 rfl (lv_at hl 0 rfl) ?_
  refine q_goi V (q_runV (As := []) (rest := []) (d := 2) (mc := 0) (ms := 0) (ci := 8) C0 V rfl LV_Rea_70 (T_Rea_here l D g q ws   hI   _) rfl rfl hT0 rfl hl.1 rfl (Nat.le_of_ble_eq_true rfl) ⟨by decide, by decide⟩ ⟨Nat.le_of_ble_eq_true rfl, Nat.le_of_ble_eq_true rfl⟩ d_10_8_1) (fun a16 u14 H locs hp15 V => ?_)
  obtain ⟨rfl, b17, b18⟩ := hp15
  replace b17 : q_F (0 ≤ a16.toInt + 1) := b17
  replace b18 : q_F (a16.toInt ≤ 255) := b18
  refine lv_bipush (v := 32) hx hb d_10_8_4 (by decide) ?_
  refine lv_ior hx hb d_10_8_6 ?_
  obtain ⟨a19, e20⟩ := q_nm (a16 ||| 32 : Int32)
  refine q_ti (v := a19) e20 ?_
  refine lv_istore_n (lv' := [(1, .int a19), (0, .ref (q 38))]) hx hb d_10_8_7 rfl hl (by decide) rfl (fun ls hl => ?_)
  refine lv_iload_n hx hb d_10_8_8 rfl (lv_at hl 0 rfl) ?_
  refine lv_bipush (v := 100) hx hb d_10_8_9 (by decide) ?_
  refine q_join (X := Unit) (fun z H locs ls _ => q_Wd D g (va_A ws sz) s ws H locs ∧ lv_has ls 2 [(0, .ref (q 38))]) (fun z => []) 20 0 0 ?_ ?_
  ·
    rintro _ H locs ls _ ⟨V, hl⟩
    replace hl : lv_has ls 2 [(0, .ref (q 38))] := hl
    refine lv_aload_n hx hb d_10_8_20 rfl (lv_at hl 0 rfl) ?_
    refine lv_dup hx hb d_10_8_21 rfl ?_
    refine q_get (ci := 8) (j := 4) (v := .int t0_2) C0 V i_Rea rfl rfl hT0 (by decide) w_290 rfl d_10_8_22 ?_
    refine lv_iconst (v := 1) hx hb d_10_8_25 (by decide) ?_
    refine lv_iadd hx hb d_10_8_26 ?_
    obtain ⟨a23, e24⟩ := q_nm (t0_2 + 1 : Int32)
    refine q_ti (v := a23) e24 ?_
    refine q_put (ci := 8) (j := 4) (v := .int a23) (ty := .int) C0 V i_Rea o_Rea n_Rea rfl rfl hT0 (by decide) w_290 rfl rfl rfl rfl (Nat.le_of_ble_eq_true rfl) d_10_8_27 (fun H locs w25 hu26 hT0 V => ?_)
    replace hT0 : w25[38]? = (some (q 38, .inr (8, [.long t0_0, .long t0_1, .ref (q 1), .ref (q 9), .int a23, .int t0_3, .int t0_4, .int t0_5, .int t0_6, .int t0_7, .int t0_8, .long t0_9])) : Option (Nat × va_E)) := hT0
    replace hI := n_p38 hI hu26 hT0 ⟨(by have t1 : 0 ≤ t0_4.toInt ∧ t0_4.toInt ≤ 1 := btt0_4; omega), (by have t1 : 0 ≤ t0_4.toInt ∧ t0_4.toInt ≤ 1 := btt0_4; omega)⟩ ⟨(by have t1 : 0 ≤ t0_8.toInt ∧ t0_8.toInt ≤ 1 := btt0_8; omega), (by have t1 : 0 ≤ t0_8.toInt ∧ t0_8.toInt ≤ 1 := btt0_8; omega)⟩
    replace hF := q_us hF hu26 (by simp)
    refine lv_aload_n hx hb d_10_8_30 rfl (lv_at hl 0 rfl) ?_
    refine q_get (ci := 8) (j := 4) (v := .int a23) C0 V i_Rea rfl rfl hT0 (by decide) w_290 rfl d_10_8_31 ?_
    refine lv_aload_n hx hb d_10_8_34 rfl (lv_at hl 0 rfl) ?_
    refine q_get (ci := 8) (j := 5) (v := .int t0_3) C0 V i_Rea rfl rfl hT0 (by decide) w_291 rfl d_10_8_35 ?_
    refine lv_icmp_lt (tgt := 45) hx hb d_10_8_38 (by decide) (fun c27 => ?_) (fun c27 => ?_)
    ·
      have b28 : q_F (a23.toInt < t0_3.toInt) := (q_ltI c27)
      refine lv_iconst (v := 0) hx hb d_10_8_45 (by decide) ?_
      exact q_retz C0 V (by decide) (⟨hI, hF, t0_0, t0_1, a23, t0_3, t0_4, t0_5, t0_6, t0_7, t0_8, t0_9, hT0, (show 0 ≤ (0 : Int32).toInt from (by have z10 : (0 : Int32).toInt = 0 := rfl; omega)), (show (0 : Int32).toInt ≤ 1 from (by have z10 : (0 : Int32).toInt = 0 := rfl; omega)), (show t0_0.toInt ≤ t0_0.toInt from (by have z10 : (0 : Int32).toInt = 0 := rfl; omega)), (show t0_0.toInt ≤ t0_0.toInt from (by have z10 : (0 : Int32).toInt = 0 := rfl; omega)), (show t0_1.toInt ≤ t0_1.toInt from (by have z10 : (0 : Int32).toInt = 0 := rfl; omega)), (show t0_1.toInt ≤ t0_1.toInt from (by have z10 : (0 : Int32).toInt = 0 := rfl; omega)), (show t0_3.toInt ≤ t0_3.toInt from (by have z10 : (0 : Int32).toInt = 0 := rfl; omega)), (show t0_3.toInt ≤ t0_3.toInt from (by have z10 : (0 : Int32).toInt = 0 := rfl; omega)), (show t0_4.toInt ≤ t0_4.toInt from (by have z10 : (0 : Int32).toInt = 0 := rfl; omega)), (show t0_4.toInt ≤ t0_4.toInt from (by have z10 : (0 : Int32).toInt = 0 := rfl; omega)), (show t0_5.toInt ≤ t0_5.toInt from (by have z10 : (0 : Int32).toInt = 0 := rfl; omega)), (show t0_5.toInt ≤ t0_5.toInt from (by have z10 : (0 : Int32).toInt = 0 := rfl; omega)), (show t0_6.toInt ≤ t0_6.toInt from (by have z10 : (0 : Int32).toInt = 0 := rfl; omega)), (show t0_6.toInt ≤ t0_6.toInt from (by have z10 : (0 : Int32).toInt = 0 := rfl; omega)), (show t0_7.toInt ≤ t0_7.toInt from (by have z10 : (0 : Int32).toInt = 0 := rfl; omega)), (show t0_7.toInt ≤ t0_7.toInt from (by have z10 : (0 : Int32).toInt = 0 := rfl; omega)), (show t0_8.toInt ≤ t0_8.toInt from (by have z10 : (0 : Int32).toInt = 0 := rfl; omega)), (show t0_8.toInt ≤ t0_8.toInt from (by have z10 : (0 : Int32).toInt = 0 := rfl; omega)), (show t0_9.toInt ≤ t0_9.toInt from (by have z10 : (0 : Int32).toInt = 0 := rfl; omega)), (show t0_9.toInt ≤ t0_9.toInt from (by have z10 : (0 : Int32).toInt = 0 := rfl; omega))⟩) d_10_8_46
    ·
      have b29 : q_F (t0_3.toInt ≤ a23.toInt) := (q_nltI c27)
      refine lv_iconst (v := 1) hx hb d_10_8_41 (by decide) ?_
      refine lv_goto (tgt := 46) hx hb d_10_8_42 (by decide) ?_
      exact q_retz C0 V (by decide) (⟨hI, hF, t0_0, t0_1, a23, t0_3, t0_4, t0_5, t0_6, t0_7, t0_8, t0_9, hT0, (show 0 ≤ (1 : Int32).toInt from (by have z10 : (1 : Int32).toInt = 1 := rfl; omega)), (show (1 : Int32).toInt ≤ 1 from (by have z10 : (1 : Int32).toInt = 1 := rfl; omega)), (show t0_0.toInt ≤ t0_0.toInt from (by have z10 : (1 : Int32).toInt = 1 := rfl; omega)), (show t0_0.toInt ≤ t0_0.toInt from (by have z10 : (1 : Int32).toInt = 1 := rfl; omega)), (show t0_1.toInt ≤ t0_1.toInt from (by have z10 : (1 : Int32).toInt = 1 := rfl; omega)), (show t0_1.toInt ≤ t0_1.toInt from (by have z10 : (1 : Int32).toInt = 1 := rfl; omega)), (show t0_3.toInt ≤ t0_3.toInt from (by have z10 : (1 : Int32).toInt = 1 := rfl; omega)), (show t0_3.toInt ≤ t0_3.toInt from (by have z10 : (1 : Int32).toInt = 1 := rfl; omega)), (show t0_4.toInt ≤ t0_4.toInt from (by have z10 : (1 : Int32).toInt = 1 := rfl; omega)), (show t0_4.toInt ≤ t0_4.toInt from (by have z10 : (1 : Int32).toInt = 1 := rfl; omega)), (show t0_5.toInt ≤ t0_5.toInt from (by have z10 : (1 : Int32).toInt = 1 := rfl; omega)), (show t0_5.toInt ≤ t0_5.toInt from (by have z10 : (1 : Int32).toInt = 1 := rfl; omega)), (show t0_6.toInt ≤ t0_6.toInt from (by have z10 : (1 : Int32).toInt = 1 := rfl; omega)), (show t0_6.toInt ≤ t0_6.toInt from (by have z10 : (1 : Int32).toInt = 1 := rfl; omega)), (show t0_7.toInt ≤ t0_7.toInt from (by have z10 : (1 : Int32).toInt = 1 := rfl; omega)), (show t0_7.toInt ≤ t0_7.toInt from (by have z10 : (1 : Int32).toInt = 1 := rfl; omega)), (show t0_8.toInt ≤ t0_8.toInt from (by have z10 : (1 : Int32).toInt = 1 := rfl; omega)), (show t0_8.toInt ≤ t0_8.toInt from (by have z10 : (1 : Int32).toInt = 1 := rfl; omega)), (show t0_9.toInt ≤ t0_9.toInt from (by have z10 : (1 : Int32).toInt = 1 := rfl; omega)), (show t0_9.toInt ≤ t0_9.toInt from (by have z10 : (1 : Int32).toInt = 1 := rfl; omega))⟩) d_10_8_46
  ·
    intro J22
    refine lv_icmp_eq (tgt := 20) hx hb d_10_8_11 (by decide) (fun c30 => ?_) (fun c30 => ?_)
    ·
      have b31 : q_F (a19.toInt = 100) := (q_eqI c30)
      exact J22 (()) _ _ _ ws ⟨V, q_lw hl (q_lw1 1 rfl q_lw0)⟩
    ·
      have b32 : q_F (a19.toInt ≠ 100) := (q_neI c30)
      refine lv_iload_n hx hb d_10_8_14 rfl (lv_at hl 0 rfl) ?_
      refine lv_bipush (v := 102) hx hb d_10_8_15 (by decide) ?_
      refine lv_icmp_ne (tgt := 30) hx hb d_10_8_17 (by decide) (fun c33 => ?_) (fun c33 => ?_)
      ·
        have b34 : q_F (a19.toInt ≠ 102) := (q_neI c33)
        refine lv_aload_n hx hb d_10_8_30 rfl (lv_at hl 1 rfl) ?_
        refine q_get (ci := 8) (j := 4) (v := .int t0_2) C0 V i_Rea rfl rfl hT0 (by decide) w_290 rfl d_10_8_31 ?_
        refine lv_aload_n hx hb d_10_8_34 rfl (lv_at hl 1 rfl) ?_
        refine q_get (ci := 8) (j := 5) (v := .int t0_3) C0 V i_Rea rfl rfl hT0 (by decide) w_291 rfl d_10_8_35 ?_
        refine lv_icmp_lt (tgt := 45) hx hb d_10_8_38 (by decide) (fun c35 => ?_) (fun c35 => ?_)
        ·
          have b36 : q_F (t0_2.toInt < t0_3.toInt) := (q_ltI c35)
          refine lv_iconst (v := 0) hx hb d_10_8_45 (by decide) ?_
          exact q_retz C0 V (by decide) (⟨hI, hF, t0_0, t0_1, t0_2, t0_3, t0_4, t0_5, t0_6, t0_7, t0_8, t0_9, hT0, (show 0 ≤ (0 : Int32).toInt from (by have z10 : (0 : Int32).toInt = 0 := rfl; omega)), (show (0 : Int32).toInt ≤ 1 from (by have z10 : (0 : Int32).toInt = 0 := rfl; omega)), (show t0_0.toInt ≤ t0_0.toInt from (by have z10 : (0 : Int32).toInt = 0 := rfl; omega)), (show t0_0.toInt ≤ t0_0.toInt from (by have z10 : (0 : Int32).toInt = 0 := rfl; omega)), (show t0_1.toInt ≤ t0_1.toInt from (by have z10 : (0 : Int32).toInt = 0 := rfl; omega)), (show t0_1.toInt ≤ t0_1.toInt from (by have z10 : (0 : Int32).toInt = 0 := rfl; omega)), (show t0_3.toInt ≤ t0_3.toInt from (by have z10 : (0 : Int32).toInt = 0 := rfl; omega)), (show t0_3.toInt ≤ t0_3.toInt from (by have z10 : (0 : Int32).toInt = 0 := rfl; omega)), (show t0_4.toInt ≤ t0_4.toInt from (by have z10 : (0 : Int32).toInt = 0 := rfl; omega)), (show t0_4.toInt ≤ t0_4.toInt from (by have z10 : (0 : Int32).toInt = 0 := rfl; omega)), (show t0_5.toInt ≤ t0_5.toInt from (by have z10 : (0 : Int32).toInt = 0 := rfl; omega)), (show t0_5.toInt ≤ t0_5.toInt from (by have z10 : (0 : Int32).toInt = 0 := rfl; omega)), (show t0_6.toInt ≤ t0_6.toInt from (by have z10 : (0 : Int32).toInt = 0 := rfl; omega)), (show t0_6.toInt ≤ t0_6.toInt from (by have z10 : (0 : Int32).toInt = 0 := rfl; omega)), (show t0_7.toInt ≤ t0_7.toInt from (by have z10 : (0 : Int32).toInt = 0 := rfl; omega)), (show t0_7.toInt ≤ t0_7.toInt from (by have z10 : (0 : Int32).toInt = 0 := rfl; omega)), (show t0_8.toInt ≤ t0_8.toInt from (by have z10 : (0 : Int32).toInt = 0 := rfl; omega)), (show t0_8.toInt ≤ t0_8.toInt from (by have z10 : (0 : Int32).toInt = 0 := rfl; omega)), (show t0_9.toInt ≤ t0_9.toInt from (by have z10 : (0 : Int32).toInt = 0 := rfl; omega)), (show t0_9.toInt ≤ t0_9.toInt from (by have z10 : (0 : Int32).toInt = 0 := rfl; omega))⟩) d_10_8_46
        ·
          have b37 : q_F (t0_3.toInt ≤ t0_2.toInt) := (q_nltI c35)
          refine lv_iconst (v := 1) hx hb d_10_8_41 (by decide) ?_
          refine lv_goto (tgt := 46) hx hb d_10_8_42 (by decide) ?_
          exact q_retz C0 V (by decide) (⟨hI, hF, t0_0, t0_1, t0_2, t0_3, t0_4, t0_5, t0_6, t0_7, t0_8, t0_9, hT0, (show 0 ≤ (1 : Int32).toInt from (by have z10 : (1 : Int32).toInt = 1 := rfl; omega)), (show (1 : Int32).toInt ≤ 1 from (by have z10 : (1 : Int32).toInt = 1 := rfl; omega)), (show t0_0.toInt ≤ t0_0.toInt from (by have z10 : (1 : Int32).toInt = 1 := rfl; omega)), (show t0_0.toInt ≤ t0_0.toInt from (by have z10 : (1 : Int32).toInt = 1 := rfl; omega)), (show t0_1.toInt ≤ t0_1.toInt from (by have z10 : (1 : Int32).toInt = 1 := rfl; omega)), (show t0_1.toInt ≤ t0_1.toInt from (by have z10 : (1 : Int32).toInt = 1 := rfl; omega)), (show t0_3.toInt ≤ t0_3.toInt from (by have z10 : (1 : Int32).toInt = 1 := rfl; omega)), (show t0_3.toInt ≤ t0_3.toInt from (by have z10 : (1 : Int32).toInt = 1 := rfl; omega)), (show t0_4.toInt ≤ t0_4.toInt from (by have z10 : (1 : Int32).toInt = 1 := rfl; omega)), (show t0_4.toInt ≤ t0_4.toInt from (by have z10 : (1 : Int32).toInt = 1 := rfl; omega)), (show t0_5.toInt ≤ t0_5.toInt from (by have z10 : (1 : Int32).toInt = 1 := rfl; omega)), (show t0_5.toInt ≤ t0_5.toInt from (by have z10 : (1 : Int32).toInt = 1 := rfl; omega)), (show t0_6.toInt ≤ t0_6.toInt from (by have z10 : (1 : Int32).toInt = 1 := rfl; omega)), (show t0_6.toInt ≤ t0_6.toInt from (by have z10 : (1 : Int32).toInt = 1 := rfl; omega)), (show t0_7.toInt ≤ t0_7.toInt from (by have z10 : (1 : Int32).toInt = 1 := rfl; omega)), (show t0_7.toInt ≤ t0_7.toInt from (by have z10 : (1 : Int32).toInt = 1 := rfl; omega)), (show t0_8.toInt ≤ t0_8.toInt from (by have z10 : (1 : Int32).toInt = 1 := rfl; omega)), (show t0_8.toInt ≤ t0_8.toInt from (by have z10 : (1 : Int32).toInt = 1 := rfl; omega)), (show t0_9.toInt ≤ t0_9.toInt from (by have z10 : (1 : Int32).toInt = 1 := rfl; omega)), (show t0_9.toInt ≤ t0_9.toInt from (by have z10 : (1 : Int32).toInt = 1 := rfl; omega))⟩) d_10_8_46
      ·
        have b38 : q_F (a19.toInt = 102) := (q_eqI c33)
        exact J22 (()) _ _ _ ws ⟨V, q_lw hl (q_lw1 1 rfl q_lw0)⟩
theorem d_10_13_0 : decode prog_10_method_13_code 0 = .ok (.aload_n 0, 1) := by decide +kernel
theorem d_10_13_1 : decode prog_10_method_13_code 1 = .ok (.getfield 146, 3) := by decide +kernel
set_option maxRecDepth 100000 in
theorem w_294 : (Cond.fieldLink "NumberHouse$Reader" (146 : Nat) "NumberHouse$Reader" "kept" "I") ∈ q_tbl := q_of2 54 rfl (by decide +kernel)
theorem d_10_13_4 : decode prog_10_method_13_code 4 = .ok (.iload_n 3, 1) := by decide +kernel
theorem d_10_13_5 : decode prog_10_method_13_code 5 = .ok (.if_icmp .ge 45, 3) := by decide +kernel
theorem d_10_13_50 : decode prog_10_method_13_code 50 = .ok (.aload_n 0, 1) := by decide +kernel
theorem d_10_13_51 : decode prog_10_method_13_code 51 = .ok (.dup, 1) := by decide +kernel
theorem d_10_13_52 : decode prog_10_method_13_code 52 = .ok (.getfield 83, 3) := by decide +kernel
set_option maxRecDepth 100000 in
theorem w_295 : (Cond.fieldLink "NumberHouse$Reader" (83 : Nat) "NumberHouse$Reader" "dropped" "I") ∈ q_tbl := q_of2 55 rfl (by decide +kernel)
theorem d_10_13_55 : decode prog_10_method_13_code 55 = .ok (.iconst 1, 1) := by decide +kernel
theorem d_10_13_56 : decode prog_10_method_13_code 56 = .ok (.iadd, 1) := by decide +kernel
theorem d_10_13_57 : decode prog_10_method_13_code 57 = .ok (.putfield 83, 3) := by decide +kernel
theorem d_10_13_60 : decode prog_10_method_13_code 60 = .ok (.aload_n 0, 1) := by decide +kernel
theorem d_10_13_61 : decode prog_10_method_13_code 61 = .ok (.dup, 1) := by decide +kernel
theorem d_10_13_62 : decode prog_10_method_13_code 62 = .ok (.getfield 128, 3) := by decide +kernel
set_option maxRecDepth 100000 in
theorem w_296 : (Cond.fieldLink "NumberHouse$Reader" (128 : Nat) "NumberHouse$Reader" "droppedSome" "Z") ∈ q_tbl := q_of2 56 rfl (by decide +kernel)
theorem d_10_13_65 : decode prog_10_method_13_code 65 = .ok (.iload_n 2, 1) := by decide +kernel
theorem d_10_13_66 : decode prog_10_method_13_code 66 = .ok (.ifCond .eq 7, 3) := by decide +kernel
theorem d_10_13_73 : decode prog_10_method_13_code 73 = .ok (.iconst 0, 1) := by decide +kernel
theorem d_10_13_74 : decode prog_10_method_13_code 74 = .ok (.ior, 1) := by decide +kernel
theorem d_10_13_75 : decode prog_10_method_13_code 75 = .ok (.putfield 128, 3) := by decide +kernel
theorem d_10_13_78 : decode prog_10_method_13_code 78 = .ok (.return_, 1) := by decide +kernel
theorem d_10_13_69 : decode prog_10_method_13_code 69 = .ok (.iconst 1, 1) := by decide +kernel
theorem d_10_13_70 : decode prog_10_method_13_code 70 = .ok (.goto 4, 3) := by decide +kernel
theorem d_10_13_8 : decode prog_10_method_13_code 8 = .ok (.aload_n 0, 1) := by decide +kernel
theorem d_10_13_9 : decode prog_10_method_13_code 9 = .ok (.getfield 15, 3) := by decide +kernel
theorem d_10_13_12 : decode prog_10_method_13_code 12 = .ok (.getfield 25, 3) := by decide +kernel
set_option maxRecDepth 100000 in
theorem w_109 : (Cond.fieldLink "NumberHouse$Reader" (25 : Nat) "NumberHouse$Mill" "number" "LNumberHouse$Big;") ∈ q_tbl := q_of1 109 rfl (by decide +kernel)
theorem d_10_13_15 : decode prog_10_method_13_code 15 = .ok (.iload_n 1, 1) := by decide +kernel
theorem d_10_13_16 : decode prog_10_method_13_code 16 = .ok (.iload_n 2, 1) := by decide +kernel
theorem d_10_13_17 : decode prog_10_method_13_code 17 = .ok (.invokevirtual 47, 3) := by decide +kernel
set_option maxRecDepth 100000 in
theorem w_603 : (Cond.methodLink "NumberHouse$Reader" (47 : Nat) ({ cls := "NumberHouse$Big", name := "multiplySmall", desc := "(II)V" } : MethodName)) ∈ q_tbl := q_of3 123 rfl (by decide +kernel)
theorem LV_Rea_47 : q_LV "NumberHouse$Reader" 47 y_Big_multiplySmall prog_2_method_26_code 8 none 2 := ⟨w_606, w_4, w_603, w_604, w_605, ⟨by decide, by decide, by decide +kernel⟩⟩
theorem d_10_13_20 : decode prog_10_method_13_code 20 = .ok (.aload_n 0, 1) := by decide +kernel
theorem d_10_13_21 : decode prog_10_method_13_code 21 = .ok (.dup, 1) := by decide +kernel
theorem d_10_13_22 : decode prog_10_method_13_code 22 = .ok (.getfield 146, 3) := by decide +kernel
theorem d_10_13_25 : decode prog_10_method_13_code 25 = .ok (.aload_n 0, 1) := by decide +kernel
theorem d_10_13_26 : decode prog_10_method_13_code 26 = .ok (.getfield 15, 3) := by decide +kernel
theorem d_10_13_29 : decode prog_10_method_13_code 29 = .ok (.getfield 25, 3) := by decide +kernel
theorem d_10_13_32 : decode prog_10_method_13_code 32 = .ok (.getfield 58, 3) := by decide +kernel
set_option maxRecDepth 100000 in
theorem w_88 : (Cond.fieldLink "NumberHouse$Reader" (58 : Nat) "NumberHouse$Big" "size" "I") ∈ q_tbl := q_of1 88 rfl (by decide +kernel)
theorem d_10_13_35 : decode prog_10_method_13_code 35 = .ok (.ifCond .le 7, 3) := by decide +kernel
theorem d_10_13_42 : decode prog_10_method_13_code 42 = .ok (.iconst 0, 1) := by decide +kernel
theorem d_10_13_43 : decode prog_10_method_13_code 43 = .ok (.iadd, 1) := by decide +kernel
theorem d_10_13_44 : decode prog_10_method_13_code 44 = .ok (.putfield 146, 3) := by decide +kernel
theorem d_10_13_47 : decode prog_10_method_13_code 47 = .ok (.goto 31, 3) := by decide +kernel
theorem d_10_13_38 : decode prog_10_method_13_code 38 = .ok (.iconst 1, 1) := by decide +kernel
theorem d_10_13_39 : decode prog_10_method_13_code 39 = .ok (.goto 4, 3) := by decide +kernel
def y_Rea_keepFigure : MethodName := ⟨"NumberHouse$Reader", "keepFigure", "(III)V"⟩
set_option maxRecDepth 100000 in
set_option maxHeartbeats 4000000 in
theorem T_Rea_keepFigure (l : Launch) (D : va_G) (g : Nat → ClassId) (q : Nat → Nat) (ws : va_W) (x2 : Int32) (x3 : Int32) (x4 : Int32) (hI : q_I (nsh g q) q ws) (t0_0 : Int64) (t0_1 : Int64) (t0_2 : Int32) (t0_3 : Int32) (t0_4 : Int32) (t0_5 : Int32) (t0_6 : Int32) (t0_7 : Int32) (t0_8 : Int32) (t0_9 : Int64) (hT0 : ws[38]? = (some (q 38, .inr (8, [.long t0_0, .long t0_1, .ref (q 1), .ref (q 9), .int t0_2, .int t0_3, .int t0_4, .int t0_5, .int t0_6, .int t0_7, .int t0_8, .long t0_9])) : Option (Nat × va_E))) : q_mV l y_Rea_keepFigure prog_10_method_13_code 4 2 0 0 D g [.ref (q 38), .int x2, .int x3, .int x4] ws (fun u => q_I (nsh g q) q u ∧ q_un ws u [10, 11, 38] ∧ ∃ (u0_0 : Int64) (u0_1 : Int64) (u0_2 : Int32) (u0_3 : Int32) (u0_4 : Int32) (u0_5 : Int32) (u0_6 : Int32) (u0_7 : Int32) (u0_8 : Int32) (u0_9 : Int64), u[38]? = (some (q 38, .inr (8, [.long u0_0, .long u0_1, .ref (q 1), .ref (q 9), .int u0_2, .int u0_3, .int u0_4, .int u0_5, .int u0_6, .int u0_7, .int u0_8, .long u0_9])) : Option (Nat × va_E)) ∧ (0 ≤ u0_8.toInt) ∧ (u0_8.toInt ≤ 1) ∧ (t0_0.toInt ≤ u0_0.toInt) ∧ (u0_0.toInt ≤ t0_0.toInt) ∧ (t0_1.toInt ≤ u0_1.toInt) ∧ (u0_1.toInt ≤ t0_1.toInt) ∧ (t0_2.toInt ≤ u0_2.toInt) ∧ (u0_2.toInt ≤ t0_2.toInt) ∧ (t0_3.toInt ≤ u0_3.toInt) ∧ (u0_3.toInt ≤ t0_3.toInt) ∧ (t0_4.toInt ≤ u0_4.toInt) ∧ (u0_4.toInt ≤ t0_4.toInt) ∧ (t0_5.toInt ≤ u0_5.toInt) ∧ (u0_5.toInt ≤ t0_5.toInt) ∧ (t0_6.toInt ≤ u0_6.toInt) ∧ (u0_6.toInt ≤ t0_6.toInt + 1) ∧ (t0_9.toInt ≤ u0_9.toInt) ∧ (u0_9.toInt ≤ t0_9.toInt)) := by
  intro sz
  refine q_into (by decide) (Nat.le_of_ble_eq_true rfl) ?_
  intro p e s m below meth c ls hsz C0 V hl
  have hx := C0.1
  have hb := C0.2.1
  obtain ⟨yy0_0, yy0_1, yy0_2, yy0_3, yy0_4, yy0_5, yy0_6, yy0_7, yy0_8, yy0_9, hh0, btt0_4, btt0_8⟩ := n_o38 hI
  obtain ⟨rfl, rfl, rfl, rfl, rfl, rfl, rfl, rfl, rfl, rfl⟩ : t0_0 = yy0_0 ∧ t0_1 = yy0_1 ∧ t0_2 = yy0_2 ∧ t0_3 = yy0_3 ∧ t0_4 = yy0_4 ∧ t0_5 = yy0_5 ∧ t0_6 = yy0_6 ∧ t0_7 = yy0_7 ∧ t0_8 = yy0_8 ∧ t0_9 = yy0_9 := by have z := Option.some.inj (hT0.symm.trans hh0); simpa using z
  replace btt0_4 : q_F (0 ≤ t0_4.toInt ∧ t0_4.toInt ≤ 1) := btt0_4
  replace btt0_8 : q_F (0 ≤ t0_8.toInt ∧ t0_8.toInt ≤ 1) := btt0_8
  have hF : q_un ws ws [10, 11, 38] := q_u0
  have hl : lv_has ls 4 [(0, .ref (q 38)), (1, .int x2), (2, .int x3), (3, .int x4)] := hl
  refine lv_aload_n hx hb d_10_13_0 rfl (lv_at hl 0 rfl) ?_
  refine q_get (ci := 8) (j := 8) (v := .int t0_6) C0 V i_Rea rfl rfl hT0 (by decide) w_294 rfl d_10_13_1 ?_
  refine lv_iload_n hx hb d_10_13_4 rfl (lv_at hl 3 rfl) ?_
  refine lv_icmp_ge (tgt := 50) hx hb d_10_13_5 (by decide) (fun c14 => ?_) (fun c14 => ?_)
  ·
    have b15 : q_F (x4.toInt ≤ t0_6.toInt) := (q_leI c14)
    refine lv_aload_n hx hb d_10_13_50 rfl (lv_at hl 0 rfl) ?_
    refine lv_dup hx hb d_10_13_51 rfl ?_
    refine q_get (ci := 8) (j := 9) (v := .int t0_7) C0 V i_Rea rfl rfl hT0 (by decide) w_295 rfl d_10_13_52 ?_
    refine lv_iconst (v := 1) hx hb d_10_13_55 (by decide) ?_
    refine lv_iadd hx hb d_10_13_56 ?_
    obtain ⟨a16, e17⟩ := q_nm (t0_7 + 1 : Int32)
    refine q_ti (v := a16) e17 ?_
    refine q_put (ci := 8) (j := 9) (v := .int a16) (ty := .int) C0 V i_Rea o_Rea n_Rea rfl rfl hT0 (by decide) w_295 rfl rfl rfl rfl (Nat.le_of_ble_eq_true rfl) d_10_13_57 (fun H locs w18 hu19 hT0 V => ?_)
    replace hT0 : w18[38]? = (some (q 38, .inr (8, [.long t0_0, .long t0_1, .ref (q 1), .ref (q 9), .int t0_2, .int t0_3, .int t0_4, .int t0_5, .int t0_6, .int a16, .int t0_8, .long t0_9])) : Option (Nat × va_E)) := hT0
    replace hI := n_p38 hI hu19 hT0 ⟨(by have t1 : 0 ≤ t0_4.toInt ∧ t0_4.toInt ≤ 1 := btt0_4; omega), (by have t1 : 0 ≤ t0_4.toInt ∧ t0_4.toInt ≤ 1 := btt0_4; omega)⟩ ⟨(by have t1 : 0 ≤ t0_8.toInt ∧ t0_8.toInt ≤ 1 := btt0_8; omega), (by have t1 : 0 ≤ t0_8.toInt ∧ t0_8.toInt ≤ 1 := btt0_8; omega)⟩
    replace hF := q_us hF hu19 (by simp)
    refine lv_aload_n hx hb d_10_13_60 rfl (lv_at hl 0 rfl) ?_
    refine lv_dup hx hb d_10_13_61 rfl ?_
    refine q_get (ci := 8) (j := 10) (v := .int t0_8) C0 V i_Rea rfl rfl hT0 (by decide) w_296 rfl d_10_13_62 ?_
    refine lv_iload_n hx hb d_10_13_65 rfl (lv_at hl 2 rfl) ?_
    refine lv_if_eq (tgt := 73) hx hb d_10_13_66 (by decide) (fun c20 => ?_) (fun c20 => ?_)
    ·
      have b21 : q_F (x3.toInt = 0) := (q_eqI c20)
      refine lv_iconst (v := 0) hx hb d_10_13_73 (by decide) ?_
      refine lv_ior hx hb d_10_13_74 ?_
      obtain ⟨a22, e23⟩ := q_nm (t0_8 ||| 0 : Int32)
      refine q_ti (v := a22) e23 ?_
      have b24 : q_F (0 ≤ a22.toInt ∧ a22.toInt ≤ 1) := (by rw [← e23]; show 0 ≤ (t0_8 ||| 0 : Int32).toInt ∧ (t0_8 ||| 0 : Int32).toInt ≤ 1; exact s_or' (x := t0_8) (y := 0) 1 (by decide) 1 (by decide) ⟨(by have t1 : 0 ≤ t0_8.toInt ∧ t0_8.toInt ≤ 1 := btt0_8; omega), (by have t1 : 0 ≤ t0_8.toInt ∧ t0_8.toInt ≤ 1 := btt0_8; omega)⟩ ⟨(by have z7 : (0 : Int32).toInt = 0 := rfl; omega), (by have z7 : (0 : Int32).toInt = 0 := rfl; omega)⟩)
      refine q_put (ci := 8) (j := 10) (v := .int a22) (ty := .boolean) C0 V i_Rea o_Rea n_Rea rfl rfl hT0 (by decide) w_296 rfl rfl (q_nz01 (q_Ile (x := 0) (y := a22.toInt) (by decide) rfl (by have t1 : 0 ≤ a22.toInt ∧ a22.toInt ≤ 1 := b24; omega)) (q_Ile (x := a22.toInt) (y := 1) rfl (by decide) (by have t1 : 0 ≤ a22.toInt ∧ a22.toInt ≤ 1 := b24; omega))) (q_fz01 (q_Ile (x := 0) (y := a22.toInt) (by decide) rfl (by have t1 : 0 ≤ a22.toInt ∧ a22.toInt ≤ 1 := b24; omega)) (q_Ile (x := a22.toInt) (y := 1) rfl (by decide) (by have t1 : 0 ≤ a22.toInt ∧ a22.toInt ≤ 1 := b24; omega))) (Nat.le_of_ble_eq_true rfl) d_10_13_75 (fun H locs w25 hu26 hT0 V => ?_)
      replace hT0 : w25[38]? = (some (q 38, .inr (8, [.long t0_0, .long t0_1, .ref (q 1), .ref (q 9), .int t0_2, .int t0_3, .int t0_4, .int t0_5, .int t0_6, .int a16, .int a22, .long t0_9])) : Option (Nat × va_E)) := hT0
      replace hI := n_p38 hI hu26 hT0 ⟨(by have t1 : 0 ≤ t0_4.toInt ∧ t0_4.toInt ≤ 1 := btt0_4; omega), (by have t1 : 0 ≤ t0_4.toInt ∧ t0_4.toInt ≤ 1 := btt0_4; omega)⟩ ⟨(by have t1 : 0 ≤ a22.toInt ∧ a22.toInt ≤ 1 := b24; omega), (by have t1 : 0 ≤ a22.toInt ∧ a22.toInt ≤ 1 := b24; omega)⟩
      replace hF := q_us hF hu26 (by simp)
      exact q_retv C0 V (⟨hI, hF, t0_0, t0_1, t0_2, t0_3, t0_4, t0_5, t0_6, a16, a22, t0_9, hT0, (show 0 ≤ a22.toInt from (by have t1 : 0 ≤ a22.toInt ∧ a22.toInt ≤ 1 := b24; omega)), (show a22.toInt ≤ 1 from (by have t1 : 0 ≤ a22.toInt ∧ a22.toInt ≤ 1 := b24; omega)), (show t0_0.toInt ≤ t0_0.toInt from (by omega)), (show t0_0.toInt ≤ t0_0.toInt from (by omega)), (show t0_1.toInt ≤ t0_1.toInt from (by omega)), (show t0_1.toInt ≤ t0_1.toInt from (by omega)), (show t0_2.toInt ≤ t0_2.toInt from (by omega)), (show t0_2.toInt ≤ t0_2.toInt from (by omega)), (show t0_3.toInt ≤ t0_3.toInt from (by omega)), (show t0_3.toInt ≤ t0_3.toInt from (by omega)), (show t0_4.toInt ≤ t0_4.toInt from (by omega)), (show t0_4.toInt ≤ t0_4.toInt from (by omega)), (show t0_5.toInt ≤ t0_5.toInt from (by omega)), (show t0_5.toInt ≤ t0_5.toInt from (by omega)), (show t0_6.toInt ≤ t0_6.toInt from (by omega)), (show t0_6.toInt ≤ t0_6.toInt + 1 from (by omega)), (show t0_9.toInt ≤ t0_9.toInt from (by omega)), (show t0_9.toInt ≤ t0_9.toInt from (by omega))⟩) d_10_13_78
    ·
      have b27 : q_F (x3.toInt ≠ 0) := (q_neI c20)
      refine lv_iconst (v := 1) hx hb d_10_13_69 (by decide) ?_
      refine lv_goto (tgt := 74) hx hb d_10_13_70 (by decide) ?_
      refine lv_ior hx hb d_10_13_74 ?_
      obtain ⟨a28, e29⟩ := q_nm (t0_8 ||| 1 : Int32)
      refine q_ti (v := a28) e29 ?_
      have b30 : q_F (0 ≤ a28.toInt ∧ a28.toInt ≤ 1) := (by rw [← e29]; show 0 ≤ (t0_8 ||| 1 : Int32).toInt ∧ (t0_8 ||| 1 : Int32).toInt ≤ 1; exact s_or' (x := t0_8) (y := 1) 1 (by decide) 1 (by decide) ⟨(by have t1 : 0 ≤ t0_8.toInt ∧ t0_8.toInt ≤ 1 := btt0_8; omega), (by have t1 : 0 ≤ t0_8.toInt ∧ t0_8.toInt ≤ 1 := btt0_8; omega)⟩ ⟨(by have z7 : (1 : Int32).toInt = 1 := rfl; omega), (by have z7 : (1 : Int32).toInt = 1 := rfl; omega)⟩)
      refine q_put (ci := 8) (j := 10) (v := .int a28) (ty := .boolean) C0 V i_Rea o_Rea n_Rea rfl rfl hT0 (by decide) w_296 rfl rfl (q_nz01 (q_Ile (x := 0) (y := a28.toInt) (by decide) rfl (by have t1 : 0 ≤ a28.toInt ∧ a28.toInt ≤ 1 := b30; omega)) (q_Ile (x := a28.toInt) (y := 1) rfl (by decide) (by have t1 : 0 ≤ a28.toInt ∧ a28.toInt ≤ 1 := b30; omega))) (q_fz01 (q_Ile (x := 0) (y := a28.toInt) (by decide) rfl (by have t1 : 0 ≤ a28.toInt ∧ a28.toInt ≤ 1 := b30; omega)) (q_Ile (x := a28.toInt) (y := 1) rfl (by decide) (by have t1 : 0 ≤ a28.toInt ∧ a28.toInt ≤ 1 := b30; omega))) (Nat.le_of_ble_eq_true rfl) d_10_13_75 (fun H locs w31 hu32 hT0 V => ?_)
      replace hT0 : w31[38]? = (some (q 38, .inr (8, [.long t0_0, .long t0_1, .ref (q 1), .ref (q 9), .int t0_2, .int t0_3, .int t0_4, .int t0_5, .int t0_6, .int a16, .int a28, .long t0_9])) : Option (Nat × va_E)) := hT0
      replace hI := n_p38 hI hu32 hT0 ⟨(by have t1 : 0 ≤ t0_4.toInt ∧ t0_4.toInt ≤ 1 := btt0_4; omega), (by have t1 : 0 ≤ t0_4.toInt ∧ t0_4.toInt ≤ 1 := btt0_4; omega)⟩ ⟨(by have t1 : 0 ≤ a28.toInt ∧ a28.toInt ≤ 1 := b30; omega), (by have t1 : 0 ≤ a28.toInt ∧ a28.toInt ≤ 1 := b30; omega)⟩
      replace hF := q_us hF hu32 (by simp)
      exact q_retv C0 V (⟨hI, hF, t0_0, t0_1, t0_2, t0_3, t0_4, t0_5, t0_6, a16, a28, t0_9, hT0, (show 0 ≤ a28.toInt from (by have t1 : 0 ≤ a28.toInt ∧ a28.toInt ≤ 1 := b30; omega)), (show a28.toInt ≤ 1 from (by have t1 : 0 ≤ a28.toInt ∧ a28.toInt ≤ 1 := b30; omega)), (show t0_0.toInt ≤ t0_0.toInt from (by omega)), (show t0_0.toInt ≤ t0_0.toInt from (by omega)), (show t0_1.toInt ≤ t0_1.toInt from (by omega)), (show t0_1.toInt ≤ t0_1.toInt from (by omega)), (show t0_2.toInt ≤ t0_2.toInt from (by omega)), (show t0_2.toInt ≤ t0_2.toInt from (by omega)), (show t0_3.toInt ≤ t0_3.toInt from (by omega)), (show t0_3.toInt ≤ t0_3.toInt from (by omega)), (show t0_4.toInt ≤ t0_4.toInt from (by omega)), (show t0_4.toInt ≤ t0_4.toInt from (by omega)), (show t0_5.toInt ≤ t0_5.toInt from (by omega)), (show t0_5.toInt ≤ t0_5.toInt from (by omega)), (show t0_6.toInt ≤ t0_6.toInt from (by omega)), (show t0_6.toInt ≤ t0_6.toInt + 1 from (by omega)), (show t0_9.toInt ≤ t0_9.toInt from (by omega)), (show t0_9.toInt ≤ t0_9.toInt from (by omega))⟩) d_10_13_78
  ·
    have b33 : q_F (t0_6.toInt < x4.toInt) := (q_nleI c14)
    refine lv_aload_n hx hb d_10_13_8 rfl (lv_at hl 0 rfl) ?_
    refine q_get (ci := 8) (j := 3) (v := .ref (q 9)) C0 V i_Rea rfl rfl hT0 (by decide) w_289 rfl d_10_13_9 ?_
    have hO34 := n_o9 hI
    refine q_get (ci := 4) (j := 0) (v := .ref (q 10)) C0 V i_Mil rfl rfl hO34 (by decide) w_109 rfl d_10_13_12 ?_
    refine lv_iload_n hx hb d_10_13_15 rfl (lv_at hl 1 rfl) ?_
    refine lv_iload_n hx hb d_10_13_16 rfl (lv_at hl 2 rfl) ?_
    obtain ⟨y36, y37, hO35, b38, b39⟩ := q_bigO hI (n_b10 g q)
    replace b38 : q_F (0 ≤ y36.toInt ∧ y36.toInt ≤ 220) := b38
    replace b39 : q_F (0 ≤ y37.toInt ∧ y37.toInt ≤ 1) := b39
    refine q_gov V (q_runV (As := [.int x2, .int x3]) (rest := []) (d := 1) (mc := 0) (ms := 0) (ci := 2) C0 V rfl LV_Rea_47 (S_Big_multiplySmall l D g (nsh g q) q ws 10 220 (n_b10 g q) x2 x3 hI   _) rfl rfl hO35 rfl hl.1 rfl (Nat.le_of_ble_eq_true rfl) ⟨by decide, by decide⟩ ⟨Nat.le_of_ble_eq_true rfl, Nat.le_of_ble_eq_true rfl⟩ d_10_13_17) (fun u40 H locs hp41 V => ?_)
    obtain ⟨_, hI, hu42⟩ := hp41
    replace hT0 := (hu42 _ (by decide)).trans hT0
    replace hO34 := (hu42 _ (by decide)).trans hO34
    replace hF := q_uc hF hu42 (by simp)
    refine lv_aload_n hx hb d_10_13_20 rfl (lv_at hl 0 rfl) ?_
    refine lv_dup hx hb d_10_13_21 rfl ?_
    refine q_get (ci := 8) (j := 8) (v := .int t0_6) C0 V i_Rea rfl rfl hT0 (by decide) w_294 rfl d_10_13_22 ?_
    refine lv_aload_n hx hb d_10_13_25 rfl (lv_at hl 0 rfl) ?_
    refine q_get (ci := 8) (j := 3) (v := .ref (q 9)) C0 V i_Rea rfl rfl hT0 (by decide) w_289 rfl d_10_13_26 ?_
    refine q_get (ci := 4) (j := 0) (v := .ref (q 10)) C0 V i_Mil rfl rfl hO34 (by decide) w_109 rfl d_10_13_29 ?_
    obtain ⟨y44, y45, hO43, b46, b47⟩ := q_bigO hI (n_b10 g q)
    replace b46 : q_F (0 ≤ y44.toInt ∧ y44.toInt ≤ 220) := b46
    replace b47 : q_F (0 ≤ y45.toInt ∧ y45.toInt ≤ 1) := b47
    refine q_get (ci := 2) (j := 1) (v := .int y44) C0 V i_Big rfl rfl hO43 (by decide) w_88 rfl d_10_13_32 ?_
    refine lv_if_le (tgt := 42) hx hb d_10_13_35 (by decide) (fun c48 => ?_) (fun c48 => ?_)
    ·
      have b49 : q_F (y44.toInt ≤ 0) := (q_leI c48)
      refine lv_iconst (v := 0) hx hb d_10_13_42 (by decide) ?_
      refine lv_iadd hx hb d_10_13_43 ?_
      obtain ⟨a50, e51⟩ := q_nm (t0_6 + 0 : Int32)
      refine q_ti (v := a50) e51 ?_
      have b52 : q_F (a50.toInt = t0_6.toInt + 0) := (by rw [← e51]; show (t0_6 + 0 : Int32).toInt = t0_6.toInt + 0; exact q_addI (x := t0_6.toInt) (y := 0) rfl (by decide) (by have _ := q_lo32 (x := t0_6); have _ := q_hi32 (x := t0_6); omega) (by have _ := q_lo32 (x := t0_6); have _ := q_hi32 (x := t0_6); omega))
      refine q_put (ci := 8) (j := 8) (v := .int a50) (ty := .int) C0 V i_Rea o_Rea n_Rea rfl rfl hT0 (by decide) w_294 rfl rfl rfl rfl (Nat.le_of_ble_eq_true rfl) d_10_13_44 (fun H locs w53 hu54 hT0 V => ?_)
      replace hT0 : w53[38]? = (some (q 38, .inr (8, [.long t0_0, .long t0_1, .ref (q 1), .ref (q 9), .int t0_2, .int t0_3, .int t0_4, .int t0_5, .int a50, .int t0_7, .int t0_8, .long t0_9])) : Option (Nat × va_E)) := hT0
      replace hI := n_p38 hI hu54 hT0 ⟨(by have t1 : 0 ≤ t0_4.toInt ∧ t0_4.toInt ≤ 1 := btt0_4; omega), (by have t1 : 0 ≤ t0_4.toInt ∧ t0_4.toInt ≤ 1 := btt0_4; omega)⟩ ⟨(by have t1 : 0 ≤ t0_8.toInt ∧ t0_8.toInt ≤ 1 := btt0_8; omega), (by have t1 : 0 ≤ t0_8.toInt ∧ t0_8.toInt ≤ 1 := btt0_8; omega)⟩
      replace hO34 := (hu54 _ (by decide)).trans hO34
      replace hO43 := (hu54 _ (by decide)).trans hO43
      replace hF := q_us hF hu54 (by simp)
      refine lv_goto (tgt := 78) hx hb d_10_13_47 (by decide) ?_
      exact q_retv C0 V (⟨hI, hF, t0_0, t0_1, t0_2, t0_3, t0_4, t0_5, a50, t0_7, t0_8, t0_9, hT0, (show 0 ≤ t0_8.toInt from (by have t1 : 0 ≤ t0_8.toInt ∧ t0_8.toInt ≤ 1 := btt0_8; omega)), (show t0_8.toInt ≤ 1 from (by have t1 : 0 ≤ t0_8.toInt ∧ t0_8.toInt ≤ 1 := btt0_8; omega)), (show t0_0.toInt ≤ t0_0.toInt from (by omega)), (show t0_0.toInt ≤ t0_0.toInt from (by omega)), (show t0_1.toInt ≤ t0_1.toInt from (by omega)), (show t0_1.toInt ≤ t0_1.toInt from (by omega)), (show t0_2.toInt ≤ t0_2.toInt from (by omega)), (show t0_2.toInt ≤ t0_2.toInt from (by omega)), (show t0_3.toInt ≤ t0_3.toInt from (by omega)), (show t0_3.toInt ≤ t0_3.toInt from (by omega)), (show t0_4.toInt ≤ t0_4.toInt from (by omega)), (show t0_4.toInt ≤ t0_4.toInt from (by omega)), (show t0_5.toInt ≤ t0_5.toInt from (by omega)), (show t0_5.toInt ≤ t0_5.toInt from (by omega)), (show t0_6.toInt ≤ a50.toInt from (by have t1 : a50.toInt = t0_6.toInt + 0 := b52; omega)), (show a50.toInt ≤ t0_6.toInt + 1 from (by have t1 : a50.toInt = t0_6.toInt + 0 := b52; omega)), (show t0_9.toInt ≤ t0_9.toInt from (by omega)), (show t0_9.toInt ≤ t0_9.toInt from (by omega))⟩) d_10_13_78
    ·
      have b55 : q_F (0 < y44.toInt) := (q_nleI c48)
      refine lv_iconst (v := 1) hx hb d_10_13_38 (by decide) ?_
      refine lv_goto (tgt := 43) hx hb d_10_13_39 (by decide) ?_
      refine lv_iadd hx hb d_10_13_43 ?_
      obtain ⟨a56, e57⟩ := q_nm (t0_6 + 1 : Int32)
      refine q_ti (v := a56) e57 ?_
      have b58 : q_F (a56.toInt = t0_6.toInt + 1) := (by rw [← e57]; show (t0_6 + 1 : Int32).toInt = t0_6.toInt + 1; exact q_addI (x := t0_6.toInt) (y := 1) rfl (by decide) (by have _ := q_lo32 (x := t0_6); have _ := q_hi32 (x := t0_6); have t1 : t0_6.toInt < x4.toInt := b33; have _ := q_lo32 (x := x4); have _ := q_hi32 (x := x4); omega) (by have _ := q_lo32 (x := t0_6); have _ := q_hi32 (x := t0_6); have t1 : t0_6.toInt < x4.toInt := b33; have _ := q_lo32 (x := x4); have _ := q_hi32 (x := x4); omega))
      refine q_put (ci := 8) (j := 8) (v := .int a56) (ty := .int) C0 V i_Rea o_Rea n_Rea rfl rfl hT0 (by decide) w_294 rfl rfl rfl rfl (Nat.le_of_ble_eq_true rfl) d_10_13_44 (fun H locs w59 hu60 hT0 V => ?_)
      replace hT0 : w59[38]? = (some (q 38, .inr (8, [.long t0_0, .long t0_1, .ref (q 1), .ref (q 9), .int t0_2, .int t0_3, .int t0_4, .int t0_5, .int a56, .int t0_7, .int t0_8, .long t0_9])) : Option (Nat × va_E)) := hT0
      replace hI := n_p38 hI hu60 hT0 ⟨(by have t1 : 0 ≤ t0_4.toInt ∧ t0_4.toInt ≤ 1 := btt0_4; omega), (by have t1 : 0 ≤ t0_4.toInt ∧ t0_4.toInt ≤ 1 := btt0_4; omega)⟩ ⟨(by have t1 : 0 ≤ t0_8.toInt ∧ t0_8.toInt ≤ 1 := btt0_8; omega), (by have t1 : 0 ≤ t0_8.toInt ∧ t0_8.toInt ≤ 1 := btt0_8; omega)⟩
      replace hO34 := (hu60 _ (by decide)).trans hO34
      replace hO43 := (hu60 _ (by decide)).trans hO43
      replace hF := q_us hF hu60 (by simp)
      refine lv_goto (tgt := 78) hx hb d_10_13_47 (by decide) ?_
      exact q_retv C0 V (⟨hI, hF, t0_0, t0_1, t0_2, t0_3, t0_4, t0_5, a56, t0_7, t0_8, t0_9, hT0, (show 0 ≤ t0_8.toInt from (by have t1 : 0 ≤ t0_8.toInt ∧ t0_8.toInt ≤ 1 := btt0_8; omega)), (show t0_8.toInt ≤ 1 from (by have t1 : 0 ≤ t0_8.toInt ∧ t0_8.toInt ≤ 1 := btt0_8; omega)), (show t0_0.toInt ≤ t0_0.toInt from (by omega)), (show t0_0.toInt ≤ t0_0.toInt from (by omega)), (show t0_1.toInt ≤ t0_1.toInt from (by omega)), (show t0_1.toInt ≤ t0_1.toInt from (by omega)), (show t0_2.toInt ≤ t0_2.toInt from (by omega)), (show t0_2.toInt ≤ t0_2.toInt from (by omega)), (show t0_3.toInt ≤ t0_3.toInt from (by omega)), (show t0_3.toInt ≤ t0_3.toInt from (by omega)), (show t0_4.toInt ≤ t0_4.toInt from (by omega)), (show t0_4.toInt ≤ t0_4.toInt from (by omega)), (show t0_5.toInt ≤ t0_5.toInt from (by omega)), (show t0_5.toInt ≤ t0_5.toInt from (by omega)), (show t0_6.toInt ≤ a56.toInt from (by have t1 : a56.toInt = t0_6.toInt + 1 := b58; omega)), (show a56.toInt ≤ t0_6.toInt + 1 from (by have t1 : a56.toInt = t0_6.toInt + 1 := b58; omega)), (show t0_9.toInt ≤ t0_9.toInt from (by omega)), (show t0_9.toInt ≤ t0_9.toInt from (by omega))⟩) d_10_13_78
theorem d_10_12_0 : decode prog_10_method_12_code 0 = .ok (.iconst 0, 1) := by decide +kernel
theorem d_10_12_1 : decode prog_10_method_12_code 1 = .ok (.istore_n 3, 1) := by decide +kernel
theorem d_10_12_2 : decode prog_10_method_12_code 2 = .ok (.iconst 0, 1) := by decide +kernel
theorem d_10_12_3 : decode prog_10_method_12_code 3 = .ok (.istore 4, 2) := by decide +kernel
theorem d_10_12_5 : decode prog_10_method_12_code 5 = .ok (.aload_n 0, 1) := by decide +kernel
theorem d_10_12_6 : decode prog_10_method_12_code 6 = .ok (.iconst 0, 1) := by decide +kernel
theorem d_10_12_7 : decode prog_10_method_12_code 7 = .ok (.putfield 77, 3) := by decide +kernel
set_option maxRecDepth 100000 in
theorem w_293 : (Cond.fieldLink "NumberHouse$Reader" (77 : Nat) "NumberHouse$Reader" "behindPoint" "I") ∈ q_tbl := q_of2 53 rfl (by decide +kernel)
theorem d_10_12_10 : decode prog_10_method_12_code 10 = .ok (.aload_n 0, 1) := by decide +kernel
theorem d_10_12_11 : decode prog_10_method_12_code 11 = .ok (.iconst 0, 1) := by decide +kernel
theorem d_10_12_12 : decode prog_10_method_12_code 12 = .ok (.putfield 146, 3) := by decide +kernel
theorem d_10_12_15 : decode prog_10_method_12_code 15 = .ok (.aload_n 0, 1) := by decide +kernel
theorem d_10_12_16 : decode prog_10_method_12_code 16 = .ok (.iconst 0, 1) := by decide +kernel
theorem d_10_12_17 : decode prog_10_method_12_code 17 = .ok (.putfield 83, 3) := by decide +kernel
theorem d_10_12_20 : decode prog_10_method_12_code 20 = .ok (.aload_n 0, 1) := by decide +kernel
theorem d_10_12_21 : decode prog_10_method_12_code 21 = .ok (.iconst 0, 1) := by decide +kernel
theorem d_10_12_22 : decode prog_10_method_12_code 22 = .ok (.putfield 128, 3) := by decide +kernel
theorem d_10_12_25 : decode prog_10_method_12_code 25 = .ok (.aload_n 0, 1) := by decide +kernel
theorem d_10_12_26 : decode prog_10_method_12_code 26 = .ok (.getfield 15, 3) := by decide +kernel
theorem d_10_12_29 : decode prog_10_method_12_code 29 = .ok (.getfield 25, 3) := by decide +kernel
theorem d_10_12_32 : decode prog_10_method_12_code 32 = .ok (.invokevirtual 31, 3) := by decide +kernel
set_option maxRecDepth 100000 in
theorem w_598 : (Cond.methodLink "NumberHouse$Reader" (31 : Nat) ({ cls := "NumberHouse$Big", name := "clear", desc := "()V" } : MethodName)) ∈ q_tbl := q_of3 118 rfl (by decide +kernel)
theorem LV_Rea_31 : q_LV "NumberHouse$Reader" 31 y_Big_clear prog_2_method_2_code 1 none 0 := ⟨w_197, w_4, w_598, w_195, w_196, ⟨by decide, by decide, by decide +kernel⟩⟩
theorem d_10_12_35 : decode prog_10_method_12_code 35 = .ok (.aload_n 0, 1) := by decide +kernel
theorem d_10_12_36 : decode prog_10_method_12_code 36 = .ok (.getfield 36, 3) := by decide +kernel
theorem d_10_12_39 : decode prog_10_method_12_code 39 = .ok (.aload_n 0, 1) := by decide +kernel
theorem d_10_12_40 : decode prog_10_method_12_code 40 = .ok (.getfield 40, 3) := by decide +kernel
theorem d_10_12_43 : decode prog_10_method_12_code 43 = .ok (.if_icmp .ge 75, 3) := by decide +kernel
theorem d_10_12_118 : decode prog_10_method_12_code 118 = .ok (.iload 4, 2) := by decide +kernel
theorem d_10_12_120 : decode prog_10_method_12_code 120 = .ok (.ifCond .le 7, 3) := by decide +kernel
theorem d_10_12_127 : decode prog_10_method_12_code 127 = .ok (.iconst 0, 1) := by decide +kernel
theorem d_10_12_128 : decode prog_10_method_12_code 128 = .ok (.ireturn, 1) := by decide +kernel
theorem d_10_12_123 : decode prog_10_method_12_code 123 = .ok (.iconst 1, 1) := by decide +kernel
theorem d_10_12_124 : decode prog_10_method_12_code 124 = .ok (.goto 4, 3) := by decide +kernel
theorem d_10_12_46 : decode prog_10_method_12_code 46 = .ok (.aload_n 0, 1) := by decide +kernel
theorem d_10_12_47 : decode prog_10_method_12_code 47 = .ok (.invokevirtual 43, 3) := by decide +kernel
set_option maxRecDepth 100000 in
theorem w_602 : (Cond.code ({ cls := "NumberHouse$Reader", name := "digitHere", desc := "()I" } : MethodName) prog_10_method_17_code (3 : Nat) (some .int)) ∈ q_tbl := q_of3 122 rfl (by decide +kernel)
set_option maxRecDepth 100000 in
theorem w_599 : (Cond.methodLink "NumberHouse$Reader" (43 : Nat) ({ cls := "NumberHouse$Reader", name := "digitHere", desc := "()I" } : MethodName)) ∈ q_tbl := q_of3 119 rfl (by decide +kernel)
set_option maxRecDepth 100000 in
theorem w_601 : (Cond.instanceMethod ({ cls := "NumberHouse$Reader", name := "digitHere", desc := "()I" } : MethodName)) ∈ q_tbl := q_of3 121 rfl (by decide +kernel)
theorem ws_4 : Cond.selects "NumberHouse$Reader" (⟨"NumberHouse$Reader", "digitHere", "()I"⟩ : MethodName) (⟨"NumberHouse$Reader", "digitHere", "()I"⟩ : MethodName) ∈ q_tbl := q_ofs 4 (by decide +kernel) (by decide +kernel)
theorem LV_Rea_43 : q_LV "NumberHouse$Reader" 43 y_Rea_digitHere prog_10_method_17_code 3 (some .int) 0 := ⟨w_602, w_10, w_599, w_601, ws_4, ⟨by decide, by decide, by decide +kernel⟩⟩
theorem d_10_12_50 : decode prog_10_method_12_code 50 = .ok (.istore 5, 2) := by decide +kernel
theorem d_10_12_52 : decode prog_10_method_12_code 52 = .ok (.iload 5, 2) := by decide +kernel
theorem d_10_12_54 : decode prog_10_method_12_code 54 = .ok (.iload_n 1, 1) := by decide +kernel
theorem d_10_12_55 : decode prog_10_method_12_code 55 = .ok (.if_icmp .ge 35, 3) := by decide +kernel
theorem d_10_12_90 : decode prog_10_method_12_code 90 = .ok (.aload_n 0, 1) := by decide +kernel
theorem d_10_12_91 : decode prog_10_method_12_code 91 = .ok (.invokevirtual 70, 3) := by decide +kernel
theorem d_10_12_94 : decode prog_10_method_12_code 94 = .ok (.bipush 46, 2) := by decide +kernel
theorem d_10_12_96 : decode prog_10_method_12_code 96 = .ok (.if_icmp .ne 22, 3) := by decide +kernel
theorem d_10_12_99 : decode prog_10_method_12_code 99 = .ok (.iload_n 3, 1) := by decide +kernel
theorem d_10_12_100 : decode prog_10_method_12_code 100 = .ok (.ifCond .ne 18, 3) := by decide +kernel
theorem d_10_12_103 : decode prog_10_method_12_code 103 = .ok (.iconst 1, 1) := by decide +kernel
theorem d_10_12_104 : decode prog_10_method_12_code 104 = .ok (.istore_n 3, 1) := by decide +kernel
theorem d_10_12_105 : decode prog_10_method_12_code 105 = .ok (.aload_n 0, 1) := by decide +kernel
theorem d_10_12_106 : decode prog_10_method_12_code 106 = .ok (.dup, 1) := by decide +kernel
theorem d_10_12_107 : decode prog_10_method_12_code 107 = .ok (.getfield 36, 3) := by decide +kernel
theorem d_10_12_110 : decode prog_10_method_12_code 110 = .ok (.iconst 1, 1) := by decide +kernel
theorem d_10_12_111 : decode prog_10_method_12_code 111 = .ok (.iadd, 1) := by decide +kernel
theorem d_10_12_112 : decode prog_10_method_12_code 112 = .ok (.putfield 36, 3) := by decide +kernel
theorem d_10_12_115 : decode prog_10_method_12_code 115 = .ok (.goto (-80), 3) := by decide +kernel
theorem d_10_12_58 : decode prog_10_method_12_code 58 = .ok (.aload_n 0, 1) := by decide +kernel
theorem d_10_12_59 : decode prog_10_method_12_code 59 = .ok (.iload_n 1, 1) := by decide +kernel
theorem d_10_12_60 : decode prog_10_method_12_code 60 = .ok (.iload 5, 2) := by decide +kernel
theorem d_10_12_62 : decode prog_10_method_12_code 62 = .ok (.iload_n 2, 1) := by decide +kernel
theorem d_10_12_63 : decode prog_10_method_12_code 63 = .ok (.invokevirtual 149, 3) := by decide +kernel
set_option maxRecDepth 100000 in
theorem w_631 : (Cond.code ({ cls := "NumberHouse$Reader", name := "keepFigure", desc := "(III)V" } : MethodName) prog_10_method_13_code (4 : Nat) (none : Option ClassFile.FieldType)) ∈ q_tbl := q_of3 151 rfl (by decide +kernel)
set_option maxRecDepth 100000 in
theorem w_628 : (Cond.methodLink "NumberHouse$Reader" (149 : Nat) ({ cls := "NumberHouse$Reader", name := "keepFigure", desc := "(III)V" } : MethodName)) ∈ q_tbl := q_of3 148 rfl (by decide +kernel)
set_option maxRecDepth 100000 in
theorem w_630 : (Cond.instanceMethod ({ cls := "NumberHouse$Reader", name := "keepFigure", desc := "(III)V" } : MethodName)) ∈ q_tbl := q_of3 150 rfl (by decide +kernel)
theorem ws_6 : Cond.selects "NumberHouse$Reader" (⟨"NumberHouse$Reader", "keepFigure", "(III)V"⟩ : MethodName) (⟨"NumberHouse$Reader", "keepFigure", "(III)V"⟩ : MethodName) ∈ q_tbl := q_ofs 6 (by decide +kernel) (by decide +kernel)
theorem LV_Rea_149 : q_LV "NumberHouse$Reader" 149 y_Rea_keepFigure prog_10_method_13_code 4 none 3 := ⟨w_631, w_10, w_628, w_630, ws_6, ⟨by decide, by decide, by decide +kernel⟩⟩
theorem d_10_12_66 : decode prog_10_method_12_code 66 = .ok (.iinc 4 1, 3) := by decide +kernel
theorem d_10_12_69 : decode prog_10_method_12_code 69 = .ok (.aload_n 0, 1) := by decide +kernel
theorem d_10_12_70 : decode prog_10_method_12_code 70 = .ok (.dup, 1) := by decide +kernel
theorem d_10_12_71 : decode prog_10_method_12_code 71 = .ok (.getfield 77, 3) := by decide +kernel
theorem d_10_12_74 : decode prog_10_method_12_code 74 = .ok (.iload_n 3, 1) := by decide +kernel
theorem d_10_12_75 : decode prog_10_method_12_code 75 = .ok (.ifCond .eq 7, 3) := by decide +kernel
theorem d_10_12_82 : decode prog_10_method_12_code 82 = .ok (.iconst 0, 1) := by decide +kernel
theorem d_10_12_83 : decode prog_10_method_12_code 83 = .ok (.iadd, 1) := by decide +kernel
theorem d_10_12_84 : decode prog_10_method_12_code 84 = .ok (.putfield 77, 3) := by decide +kernel
theorem d_10_12_87 : decode prog_10_method_12_code 87 = .ok (.goto 18, 3) := by decide +kernel
theorem d_10_12_78 : decode prog_10_method_12_code 78 = .ok (.iconst 1, 1) := by decide +kernel
theorem d_10_12_79 : decode prog_10_method_12_code 79 = .ok (.goto 4, 3) := by decide +kernel
def y_Rea_takeFigures : MethodName := ⟨"NumberHouse$Reader", "takeFigures", "(II)Z"⟩
set_option maxRecDepth 100000 in
set_option maxHeartbeats 4000000 in
theorem T_Rea_takeFigures (l : Launch) (D : va_G) (g : Nat → ClassId) (q : Nat → Nat) (ws : va_W) (x2 : Int32) (x3 : Int32) (hI : q_I (nsh g q) q ws) (t0_0 : Int64) (t0_1 : Int64) (t0_2 : Int32) (t0_3 : Int32) (t0_4 : Int32) (t0_5 : Int32) (t0_6 : Int32) (t0_7 : Int32) (t0_8 : Int32) (t0_9 : Int64) (hT0 : ws[38]? = (some (q 38, .inr (8, [.long t0_0, .long t0_1, .ref (q 1), .ref (q 9), .int t0_2, .int t0_3, .int t0_4, .int t0_5, .int t0_6, .int t0_7, .int t0_8, .long t0_9])) : Option (Nat × va_E))) : q_mI l y_Rea_takeFigures prog_10_method_12_code 6 (.boolean) 4 0 0 D g [.ref (q 38), .int x2, .int x3] ws (fun r u => q_I (nsh g q) q u ∧ q_un ws u [10, 11, 38] ∧ ∃ (u0_0 : Int64) (u0_1 : Int64) (u0_2 : Int32) (u0_3 : Int32) (u0_4 : Int32) (u0_5 : Int32) (u0_6 : Int32) (u0_7 : Int32) (u0_8 : Int32) (u0_9 : Int64), u[38]? = (some (q 38, .inr (8, [.long u0_0, .long u0_1, .ref (q 1), .ref (q 9), .int u0_2, .int u0_3, .int u0_4, .int u0_5, .int u0_6, .int u0_7, .int u0_8, .long u0_9])) : Option (Nat × va_E)) ∧ (0 ≤ r.toInt) ∧ (r.toInt ≤ 1) ∧ (0 ≤ u0_6.toInt) ∧ (0 ≤ u0_8.toInt) ∧ (u0_8.toInt ≤ 1) ∧ (t0_0.toInt ≤ u0_0.toInt) ∧ (u0_0.toInt ≤ t0_0.toInt) ∧ (t0_1.toInt ≤ u0_1.toInt) ∧ (u0_1.toInt ≤ t0_1.toInt) ∧ (t0_2.toInt ≤ u0_2.toInt) ∧ (t0_3.toInt ≤ u0_3.toInt) ∧ (u0_3.toInt ≤ t0_3.toInt) ∧ (t0_4.toInt ≤ u0_4.toInt) ∧ (u0_4.toInt ≤ t0_4.toInt) ∧ (t0_9.toInt ≤ u0_9.toInt) ∧ (u0_9.toInt ≤ t0_9.toInt)) := by
  intro sz
  refine q_into (by decide) (Nat.le_of_ble_eq_true rfl) ?_
  intro p e s m below meth c ls hsz C0 V hl
  have hx := C0.1
  have hb := C0.2.1
  obtain ⟨yy0_0, yy0_1, yy0_2, yy0_3, yy0_4, yy0_5, yy0_6, yy0_7, yy0_8, yy0_9, hh0, btt0_4, btt0_8⟩ := n_o38 hI
  obtain ⟨rfl, rfl, rfl, rfl, rfl, rfl, rfl, rfl, rfl, rfl⟩ : t0_0 = yy0_0 ∧ t0_1 = yy0_1 ∧ t0_2 = yy0_2 ∧ t0_3 = yy0_3 ∧ t0_4 = yy0_4 ∧ t0_5 = yy0_5 ∧ t0_6 = yy0_6 ∧ t0_7 = yy0_7 ∧ t0_8 = yy0_8 ∧ t0_9 = yy0_9 := by have z := Option.some.inj (hT0.symm.trans hh0); simpa using z
  replace btt0_4 : q_F (0 ≤ t0_4.toInt ∧ t0_4.toInt ≤ 1) := btt0_4
  replace btt0_8 : q_F (0 ≤ t0_8.toInt ∧ t0_8.toInt ≤ 1) := btt0_8
  have hF : q_un ws ws [10, 11, 38] := q_u0
  have hl : lv_has ls 6 [(0, .ref (q 38)), (1, .int x2), (2, .int x3)] := hl
  refine lv_iconst (v := 0) hx hb d_10_12_0 (by decide) ?_
  refine lv_istore_n (lv' := [(3, .int 0), (0, .ref (q 38)), (1, .int x2), (2, .int x3)]) hx hb d_10_12_1 rfl hl (by decide) rfl (fun ls hl => ?_)
  refine lv_iconst (v := 0) hx hb d_10_12_2 (by decide) ?_
  refine lv_istore (lv' := [(4, .int 0), (3, .int 0), (0, .ref (q 38)), (1, .int x2), (2, .int x3)]) hx hb d_10_12_3 hl (by decide) rfl (fun ls hl => ?_)
  refine lv_aload_n hx hb d_10_12_5 rfl (lv_at hl 2 rfl) ?_
  refine lv_iconst (v := 0) hx hb d_10_12_6 (by decide) ?_
  refine q_put (ci := 8) (j := 7) (v := .int 0) (ty := .int) C0 V i_Rea o_Rea n_Rea rfl rfl hT0 (by decide) w_293 rfl rfl rfl rfl (Nat.le_of_ble_eq_true rfl) d_10_12_7 (fun H locs w14 hu15 hT0 V => ?_)
  replace hT0 : w14[38]? = (some (q 38, .inr (8, [.long t0_0, .long t0_1, .ref (q 1), .ref (q 9), .int t0_2, .int t0_3, .int t0_4, .int 0, .int t0_6, .int t0_7, .int t0_8, .long t0_9])) : Option (Nat × va_E)) := hT0
  replace hI := n_p38 hI hu15 hT0 ⟨(by have t1 : 0 ≤ t0_4.toInt ∧ t0_4.toInt ≤ 1 := btt0_4; omega), (by have t1 : 0 ≤ t0_4.toInt ∧ t0_4.toInt ≤ 1 := btt0_4; omega)⟩ ⟨(by have t1 : 0 ≤ t0_8.toInt ∧ t0_8.toInt ≤ 1 := btt0_8; omega), (by have t1 : 0 ≤ t0_8.toInt ∧ t0_8.toInt ≤ 1 := btt0_8; omega)⟩
  replace hF := q_us hF hu15 (by simp)
  refine lv_aload_n hx hb d_10_12_10 rfl (lv_at hl 2 rfl) ?_
  refine lv_iconst (v := 0) hx hb d_10_12_11 (by decide) ?_
  refine q_put (ci := 8) (j := 8) (v := .int 0) (ty := .int) C0 V i_Rea o_Rea n_Rea rfl rfl hT0 (by decide) w_294 rfl rfl rfl rfl (Nat.le_of_ble_eq_true rfl) d_10_12_12 (fun H locs w16 hu17 hT0 V => ?_)
  replace hT0 : w16[38]? = (some (q 38, .inr (8, [.long t0_0, .long t0_1, .ref (q 1), .ref (q 9), .int t0_2, .int t0_3, .int t0_4, .int 0, .int 0, .int t0_7, .int t0_8, .long t0_9])) : Option (Nat × va_E)) := hT0
  replace hI := n_p38 hI hu17 hT0 ⟨(by have t1 : 0 ≤ t0_4.toInt ∧ t0_4.toInt ≤ 1 := btt0_4; omega), (by have t1 : 0 ≤ t0_4.toInt ∧ t0_4.toInt ≤ 1 := btt0_4; omega)⟩ ⟨(by have t1 : 0 ≤ t0_8.toInt ∧ t0_8.toInt ≤ 1 := btt0_8; omega), (by have t1 : 0 ≤ t0_8.toInt ∧ t0_8.toInt ≤ 1 := btt0_8; omega)⟩
  replace hF := q_us hF hu17 (by simp)
  refine lv_aload_n hx hb d_10_12_15 rfl (lv_at hl 2 rfl) ?_
  refine lv_iconst (v := 0) hx hb d_10_12_16 (by decide) ?_
  refine q_put (ci := 8) (j := 9) (v := .int 0) (ty := .int) C0 V i_Rea o_Rea n_Rea rfl rfl hT0 (by decide) w_295 rfl rfl rfl rfl (Nat.le_of_ble_eq_true rfl) d_10_12_17 (fun H locs w18 hu19 hT0 V => ?_)
  replace hT0 : w18[38]? = (some (q 38, .inr (8, [.long t0_0, .long t0_1, .ref (q 1), .ref (q 9), .int t0_2, .int t0_3, .int t0_4, .int 0, .int 0, .int 0, .int t0_8, .long t0_9])) : Option (Nat × va_E)) := hT0
  replace hI := n_p38 hI hu19 hT0 ⟨(by have t1 : 0 ≤ t0_4.toInt ∧ t0_4.toInt ≤ 1 := btt0_4; omega), (by have t1 : 0 ≤ t0_4.toInt ∧ t0_4.toInt ≤ 1 := btt0_4; omega)⟩ ⟨(by have t1 : 0 ≤ t0_8.toInt ∧ t0_8.toInt ≤ 1 := btt0_8; omega), (by have t1 : 0 ≤ t0_8.toInt ∧ t0_8.toInt ≤ 1 := btt0_8; omega)⟩
  replace hF := q_us hF hu19 (by simp)
  refine lv_aload_n hx hb d_10_12_20 rfl (lv_at hl 2 rfl) ?_
  refine lv_iconst (v := 0) hx hb d_10_12_21 (by decide) ?_
  refine q_put (ci := 8) (j := 10) (v := .int 0) (ty := .boolean) C0 V i_Rea o_Rea n_Rea rfl rfl hT0 (by decide) w_296 rfl rfl rfl rfl (Nat.le_of_ble_eq_true rfl) d_10_12_22 (fun H locs w20 hu21 hT0 V => ?_)
  replace hT0 : w20[38]? = (some (q 38, .inr (8, [.long t0_0, .long t0_1, .ref (q 1), .ref (q 9), .int t0_2, .int t0_3, .int t0_4, .int 0, .int 0, .int 0, .int 0, .long t0_9])) : Option (Nat × va_E)) := hT0
  replace hI := n_p38 hI hu21 hT0 ⟨(by have t1 : 0 ≤ t0_4.toInt ∧ t0_4.toInt ≤ 1 := btt0_4; omega), (by have t1 : 0 ≤ t0_4.toInt ∧ t0_4.toInt ≤ 1 := btt0_4; omega)⟩ ⟨(by have z9 : (0 : Int32).toInt = 0 := rfl; omega), (by have z9 : (0 : Int32).toInt = 0 := rfl; omega)⟩
  replace hF := q_us hF hu21 (by simp)
  refine lv_aload_n hx hb d_10_12_25 rfl (lv_at hl 2 rfl) ?_
  refine q_get (ci := 8) (j := 3) (v := .ref (q 9)) C0 V i_Rea rfl rfl hT0 (by decide) w_289 rfl d_10_12_26 ?_
  have hO22 := n_o9 hI
  refine q_get (ci := 4) (j := 0) (v := .ref (q 10)) C0 V i_Mil rfl rfl hO22 (by decide) w_109 rfl d_10_12_29 ?_
  obtain ⟨y24, y25, hO23, b26, b27⟩ := q_bigO hI (n_b10 g q)
  replace b26 : q_F (0 ≤ y24.toInt ∧ y24.toInt ≤ 220) := b26
  replace b27 : q_F (0 ≤ y25.toInt ∧ y25.toInt ≤ 1) := b27
  refine q_gov V (q_runV (As := []) (rest := []) (d := 1) (mc := 0) (ms := 0) (ci := 2) C0 V rfl LV_Rea_31 (S_Big_clear l D g (nsh g q) q w20 10 220 (n_b10 g q)  hI   _) rfl rfl hO23 rfl hl.1 rfl (Nat.le_of_ble_eq_true rfl) ⟨by decide, by decide⟩ ⟨Nat.le_of_ble_eq_true rfl, Nat.le_of_ble_eq_true rfl⟩ d_10_12_32) (fun u28 H locs hp29 V => ?_)
  obtain ⟨_, hI, hu30⟩ := hp29
  replace hT0 := (hu30 _ (by decide)).trans hT0
  replace hO22 := (hu30 _ (by decide)).trans hO22
  replace hF := q_uc hF hu30 (by simp)
  refine q_loop (X := Int32 × Int32 × Int32 × Int64 × Int64 × Int32 × Int32 × Int32 × Int32 × Int32 × Int32 × Int64) (fun z H locs ls w62 => q_F (z.2.1.toInt ≤ 1) ∧ q_F (0 ≤ z.2.2.2.2.2.2.2.2.1.toInt) ∧ q_F (0 ≤ z.2.2.2.2.2.2.2.2.2.2.1.toInt) ∧ q_F (z.2.2.2.2.2.2.2.2.2.2.1.toInt ≤ 1) ∧ q_F (t0_0.toInt ≤ z.2.2.2.1.toInt) ∧ q_F (z.2.2.2.1.toInt ≤ t0_0.toInt) ∧ q_F (t0_1.toInt ≤ z.2.2.2.2.1.toInt) ∧ q_F (z.2.2.2.2.1.toInt ≤ t0_1.toInt) ∧ q_F (t0_3.toInt ≤ z.2.2.2.2.2.1.toInt) ∧ q_F (z.2.2.2.2.2.1.toInt ≤ t0_3.toInt) ∧ q_F (t0_4.toInt ≤ z.2.2.2.2.2.2.1.toInt) ∧ q_F (z.2.2.2.2.2.2.1.toInt ≤ t0_4.toInt) ∧ q_F (t0_9.toInt ≤ z.2.2.2.2.2.2.2.2.2.2.2.toInt) ∧ q_F (z.2.2.2.2.2.2.2.2.2.2.2.toInt ≤ t0_9.toInt) ∧ q_F (z.2.1.toInt + t0_2.toInt ≤ z.2.2.1.toInt) ∧ q_F (z.2.2.2.2.2.2.2.2.2.2.2.toInt ≤ z.2.1.toInt + t0_9.toInt) ∧ q_Wd D g (va_A ws sz) s w62 H locs ∧ lv_has ls 6 [(4, .int z.1), (3, .int z.2.1), (0, .ref (q 38)), (1, .int x2), (2, .int x3)] ∧ q_I (nsh g q) q w62 ∧ q_un ws w62 [10, 11, 38] ∧ w62[38]? = (some (q 38, .inr (8, [.long z.2.2.2.1, .long z.2.2.2.2.1, .ref (q 1), .ref (q 9), .int z.2.2.1, .int z.2.2.2.2.2.1, .int z.2.2.2.2.2.2.1, .int z.2.2.2.2.2.2.2.1, .int z.2.2.2.2.2.2.2.2.1, .int z.2.2.2.2.2.2.2.2.2.1, .int z.2.2.2.2.2.2.2.2.2.2.1, .long z.2.2.2.2.2.2.2.2.2.2.2])) : Option (Nat × va_E))) (fun z => (t0_3.toInt - z.2.2.1.toInt).toNat) ?_ ((0 : Int32), (0 : Int32), (t0_2 : Int32), (t0_0 : Int64), (t0_1 : Int64), (t0_3 : Int32), (t0_4 : Int32), (0 : Int32), (0 : Int32), (0 : Int32), (0 : Int32), (t0_9 : Int64)) _ _ _ u28 ⟨(show q_F (0 ≤ 1) from (show 0 ≤ 1 from by omega)), (show q_F (0 ≤ 0) from (show 0 ≤ 0 from by omega)), (show q_F (0 ≤ 0) from (show 0 ≤ 0 from by omega)), (show q_F (0 ≤ 1) from (show 0 ≤ 1 from by omega)), (show q_F (t0_0.toInt ≤ t0_0.toInt) from (show t0_0.toInt ≤ t0_0.toInt from by omega)), (show q_F (t0_0.toInt ≤ t0_0.toInt) from (show t0_0.toInt ≤ t0_0.toInt from by omega)), (show q_F (t0_1.toInt ≤ t0_1.toInt) from (show t0_1.toInt ≤ t0_1.toInt from by omega)), (show q_F (t0_1.toInt ≤ t0_1.toInt) from (show t0_1.toInt ≤ t0_1.toInt from by omega)), (show q_F (t0_3.toInt ≤ t0_3.toInt) from (show t0_3.toInt ≤ t0_3.toInt from by omega)), (show q_F (t0_3.toInt ≤ t0_3.toInt) from (show t0_3.toInt ≤ t0_3.toInt from by omega)), (show q_F (t0_4.toInt ≤ t0_4.toInt) from (show t0_4.toInt ≤ t0_4.toInt from by omega)), (show q_F (t0_4.toInt ≤ t0_4.toInt) from (show t0_4.toInt ≤ t0_4.toInt from by omega)), (show q_F (t0_9.toInt ≤ t0_9.toInt) from (show t0_9.toInt ≤ t0_9.toInt from by omega)), (show q_F (t0_9.toInt ≤ t0_9.toInt) from (show t0_9.toInt ≤ t0_9.toInt from by omega)), (show q_F (0 + t0_2.toInt ≤ t0_2.toInt) from (show 0 + t0_2.toInt ≤ t0_2.toInt from by omega)), (show q_F (t0_9.toInt ≤ 0 + t0_9.toInt) from (show t0_9.toInt ≤ 0 + t0_9.toInt from by omega)), V, q_lw hl (q_lw1 0 rfl (q_lw1 1 rfl (q_lw1 2 rfl (q_lw1 3 rfl (q_lw1 4 rfl q_lw0))))), hI, hF, hT0⟩
  rintro ⟨lx33, lx34, lx35, lx36, lx37, lx38, lx39, lx40, lx41, lx42, lx43, lx44⟩ H locs ls w62 ⟨i45, i46, i47, i48, i49, i50, i51, i52, i53, i54, i55, i56, i57, i58, i59, i60, V, hl, hI, hF, hO63⟩ ih61
  replace i45 : q_F (lx34.toInt ≤ 1) := i45
  replace i46 : q_F (0 ≤ lx41.toInt) := i46
  replace i47 : q_F (0 ≤ lx43.toInt) := i47
  replace i48 : q_F (lx43.toInt ≤ 1) := i48
  replace i49 : q_F (t0_0.toInt ≤ lx36.toInt) := i49
  replace i50 : q_F (lx36.toInt ≤ t0_0.toInt) := i50
  replace i51 : q_F (t0_1.toInt ≤ lx37.toInt) := i51
  replace i52 : q_F (lx37.toInt ≤ t0_1.toInt) := i52
  replace i53 : q_F (t0_3.toInt ≤ lx38.toInt) := i53
  replace i54 : q_F (lx38.toInt ≤ t0_3.toInt) := i54
  replace i55 : q_F (t0_4.toInt ≤ lx39.toInt) := i55
  replace i56 : q_F (lx39.toInt ≤ t0_4.toInt) := i56
  replace i57 : q_F (t0_9.toInt ≤ lx44.toInt) := i57
  replace i58 : q_F (lx44.toInt ≤ t0_9.toInt) := i58
  replace i59 : q_F (lx34.toInt + t0_2.toInt ≤ lx35.toInt) := i59
  replace i60 : q_F (lx44.toInt ≤ lx34.toInt + t0_9.toInt) := i60
  replace hl : lv_has ls 6 [(4, .int lx33), (3, .int lx34), (0, .ref (q 38)), (1, .int x2), (2, .int x3)] := hl
  replace hO63 : w62[38]? = (some (q 38, .inr (8, [.long lx36, .long lx37, .ref (q 1), .ref (q 9), .int lx35, .int lx38, .int lx39, .int lx40, .int lx41, .int lx42, .int lx43, .long lx44])) : Option (Nat × va_E)) := hO63
  refine lv_aload_n hx hb d_10_12_35 rfl (lv_at hl 2 rfl) ?_
  refine q_get (ci := 8) (j := 4) (v := .int lx35) C0 V i_Rea rfl rfl hO63 (by decide) w_290 rfl d_10_12_36 ?_
  refine lv_aload_n hx hb d_10_12_39 rfl (lv_at hl 2 rfl) ?_
  refine q_get (ci := 8) (j := 5) (v := .int lx38) C0 V i_Rea rfl rfl hO63 (by decide) w_291 rfl d_10_12_40 ?_
  refine lv_icmp_ge (tgt := 118) hx hb d_10_12_43 (by decide) (fun c64 => ?_) (fun c64 => ?_)
  ·
    have b65 : q_F (lx38.toInt ≤ lx35.toInt) := (q_leI c64)
    refine lv_iload hx hb d_10_12_118 (lv_at hl 0 rfl) ?_
    refine lv_if_le (tgt := 127) hx hb d_10_12_120 (by decide) (fun c66 => ?_) (fun c66 => ?_)
    ·
      have b67 : q_F (lx33.toInt ≤ 0) := (q_leI c66)
      refine lv_iconst (v := 0) hx hb d_10_12_127 (by decide) ?_
      exact q_retz C0 V (by decide) (⟨hI, hF, lx36, lx37, lx35, lx38, lx39, lx40, lx41, lx42, lx43, lx44, hO63, (show 0 ≤ (0 : Int32).toInt from (by have z12 : (0 : Int32).toInt = 0 := rfl; omega)), (show (0 : Int32).toInt ≤ 1 from (by have z12 : (0 : Int32).toInt = 0 := rfl; omega)), (show 0 ≤ lx41.toInt from (by have z12 : (0 : Int32).toInt = 0 := rfl; have t1 : 0 ≤ lx41.toInt := i46; omega)), (show 0 ≤ lx43.toInt from (by have z12 : (0 : Int32).toInt = 0 := rfl; have t1 : 0 ≤ lx43.toInt := i47; omega)), (show lx43.toInt ≤ 1 from (by have z12 : (0 : Int32).toInt = 0 := rfl; have t1 : lx43.toInt ≤ 1 := i48; omega)), (show t0_0.toInt ≤ lx36.toInt from (by have z12 : (0 : Int32).toInt = 0 := rfl; have t1 : t0_0.toInt ≤ lx36.toInt := i49; omega)), (show lx36.toInt ≤ t0_0.toInt from (by have z12 : (0 : Int32).toInt = 0 := rfl; have t1 : lx36.toInt ≤ t0_0.toInt := i50; omega)), (show t0_1.toInt ≤ lx37.toInt from (by have z12 : (0 : Int32).toInt = 0 := rfl; have t1 : t0_1.toInt ≤ lx37.toInt := i51; omega)), (show lx37.toInt ≤ t0_1.toInt from (by have z12 : (0 : Int32).toInt = 0 := rfl; have t1 : lx37.toInt ≤ t0_1.toInt := i52; omega)), (show t0_2.toInt ≤ lx35.toInt from (by have z12 : (0 : Int32).toInt = 0 := rfl; have t1 : t0_9.toInt ≤ lx44.toInt := i57; have t2 : lx34.toInt + t0_2.toInt ≤ lx35.toInt := i59; have t3 : lx44.toInt ≤ lx34.toInt + t0_9.toInt := i60; omega)), (show t0_3.toInt ≤ lx38.toInt from (by have z12 : (0 : Int32).toInt = 0 := rfl; have t1 : t0_3.toInt ≤ lx38.toInt := i53; omega)), (show lx38.toInt ≤ t0_3.toInt from (by have z12 : (0 : Int32).toInt = 0 := rfl; have t1 : lx38.toInt ≤ t0_3.toInt := i54; omega)), (show t0_4.toInt ≤ lx39.toInt from (by have z12 : (0 : Int32).toInt = 0 := rfl; have t1 : t0_4.toInt ≤ lx39.toInt := i55; omega)), (show lx39.toInt ≤ t0_4.toInt from (by have z12 : (0 : Int32).toInt = 0 := rfl; have t1 : lx39.toInt ≤ t0_4.toInt := i56; omega)), (show t0_9.toInt ≤ lx44.toInt from (by have z12 : (0 : Int32).toInt = 0 := rfl; have t1 : t0_9.toInt ≤ lx44.toInt := i57; omega)), (show lx44.toInt ≤ t0_9.toInt from (by have z12 : (0 : Int32).toInt = 0 := rfl; have t1 : lx44.toInt ≤ t0_9.toInt := i58; omega))⟩) d_10_12_128
    ·
      have b68 : q_F (0 < lx33.toInt) := (q_nleI c66)
      refine lv_iconst (v := 1) hx hb d_10_12_123 (by decide) ?_
      refine lv_goto (tgt := 128) hx hb d_10_12_124 (by decide) ?_
      exact q_retz C0 V (by decide) (⟨hI, hF, lx36, lx37, lx35, lx38, lx39, lx40, lx41, lx42, lx43, lx44, hO63, (show 0 ≤ (1 : Int32).toInt from (by have z12 : (1 : Int32).toInt = 1 := rfl; omega)), (show (1 : Int32).toInt ≤ 1 from (by have z12 : (1 : Int32).toInt = 1 := rfl; omega)), (show 0 ≤ lx41.toInt from (by have z12 : (1 : Int32).toInt = 1 := rfl; have t1 : 0 ≤ lx41.toInt := i46; omega)), (show 0 ≤ lx43.toInt from (by have z12 : (1 : Int32).toInt = 1 := rfl; have t1 : 0 ≤ lx43.toInt := i47; omega)), (show lx43.toInt ≤ 1 from (by have z12 : (1 : Int32).toInt = 1 := rfl; have t1 : lx43.toInt ≤ 1 := i48; omega)), (show t0_0.toInt ≤ lx36.toInt from (by have z12 : (1 : Int32).toInt = 1 := rfl; have t1 : t0_0.toInt ≤ lx36.toInt := i49; omega)), (show lx36.toInt ≤ t0_0.toInt from (by have z12 : (1 : Int32).toInt = 1 := rfl; have t1 : lx36.toInt ≤ t0_0.toInt := i50; omega)), (show t0_1.toInt ≤ lx37.toInt from (by have z12 : (1 : Int32).toInt = 1 := rfl; have t1 : t0_1.toInt ≤ lx37.toInt := i51; omega)), (show lx37.toInt ≤ t0_1.toInt from (by have z12 : (1 : Int32).toInt = 1 := rfl; have t1 : lx37.toInt ≤ t0_1.toInt := i52; omega)), (show t0_2.toInt ≤ lx35.toInt from (by have z12 : (1 : Int32).toInt = 1 := rfl; have t1 : t0_9.toInt ≤ lx44.toInt := i57; have t2 : lx34.toInt + t0_2.toInt ≤ lx35.toInt := i59; have t3 : lx44.toInt ≤ lx34.toInt + t0_9.toInt := i60; omega)), (show t0_3.toInt ≤ lx38.toInt from (by have z12 : (1 : Int32).toInt = 1 := rfl; have t1 : t0_3.toInt ≤ lx38.toInt := i53; omega)), (show lx38.toInt ≤ t0_3.toInt from (by have z12 : (1 : Int32).toInt = 1 := rfl; have t1 : lx38.toInt ≤ t0_3.toInt := i54; omega)), (show t0_4.toInt ≤ lx39.toInt from (by have z12 : (1 : Int32).toInt = 1 := rfl; have t1 : t0_4.toInt ≤ lx39.toInt := i55; omega)), (show lx39.toInt ≤ t0_4.toInt from (by have z12 : (1 : Int32).toInt = 1 := rfl; have t1 : lx39.toInt ≤ t0_4.toInt := i56; omega)), (show t0_9.toInt ≤ lx44.toInt from (by have z12 : (1 : Int32).toInt = 1 := rfl; have t1 : t0_9.toInt ≤ lx44.toInt := i57; omega)), (show lx44.toInt ≤ t0_9.toInt from (by have z12 : (1 : Int32).toInt = 1 := rfl; have t1 : lx44.toInt ≤ t0_9.toInt := i58; omega))⟩) d_10_12_128
  ·
    have b69 : q_F (lx35.toInt < lx38.toInt) := (q_nleI c64)
    refine lv_aload_n hx hb d_10_12_46 rfl (lv_at hl 2 rfl) ?_
    refine q_goi V (q_runV (As := []) (rest := []) (d := 3) (mc := 0) (ms := 0) (ci := 8) C0 V rfl LV_Rea_43 (T_Rea_digitHere l D g q w62   hI   _) rfl rfl hO63 rfl hl.1 rfl (Nat.le_of_ble_eq_true rfl) ⟨by decide, by decide⟩ ⟨Nat.le_of_ble_eq_true rfl, Nat.le_of_ble_eq_true rfl⟩ d_10_12_47) (fun a72 u70 H locs hp71 V => ?_)
    obtain ⟨rfl, b73, b74⟩ := hp71
    replace b73 : q_F (0 ≤ a72.toInt) := b73
    replace b74 : q_F (a72.toInt ≤ 99) := b74
    refine lv_istore (lv' := [(5, .int a72), (4, .int lx33), (3, .int lx34), (0, .ref (q 38)), (1, .int x2), (2, .int x3)]) hx hb d_10_12_50 hl (by decide) rfl (fun ls hl => ?_)
    refine lv_iload hx hb d_10_12_52 (lv_at hl 0 rfl) ?_
    refine lv_iload_n hx hb d_10_12_54 rfl (lv_at hl 4 rfl) ?_
    refine lv_icmp_ge (tgt := 90) hx hb d_10_12_55 (by decide) (fun c75 => ?_) (fun c75 => ?_)
    ·
      have b76 : q_F (x2.toInt ≤ a72.toInt) := (q_leI c75)
      refine lv_aload_n hx hb d_10_12_90 rfl (lv_at hl 3 rfl) ?_
      refine q_goi V (q_runV (As := []) (rest := []) (d := 2) (mc := 0) (ms := 0) (ci := 8) C0 V rfl LV_Rea_70 (T_Rea_here l D g q w62   hI   _) rfl rfl hO63 rfl hl.1 rfl (Nat.le_of_ble_eq_true rfl) ⟨by decide, by decide⟩ ⟨Nat.le_of_ble_eq_true rfl, Nat.le_of_ble_eq_true rfl⟩ d_10_12_91) (fun a79 u77 H locs hp78 V => ?_)
      obtain ⟨rfl, b80, b81⟩ := hp78
      replace b80 : q_F (0 ≤ a79.toInt + 1) := b80
      replace b81 : q_F (a79.toInt ≤ 255) := b81
      refine lv_bipush (v := 46) hx hb d_10_12_94 (by decide) ?_
      refine lv_icmp_ne (tgt := 118) hx hb d_10_12_96 (by decide) (fun c82 => ?_) (fun c82 => ?_)
      ·
        have b83 : q_F (a79.toInt ≠ 46) := (q_neI c82)
        refine lv_iload hx hb d_10_12_118 (lv_at hl 1 rfl) ?_
        refine lv_if_le (tgt := 127) hx hb d_10_12_120 (by decide) (fun c84 => ?_) (fun c84 => ?_)
        ·
          have b85 : q_F (lx33.toInt ≤ 0) := (q_leI c84)
          refine lv_iconst (v := 0) hx hb d_10_12_127 (by decide) ?_
          exact q_retz C0 V (by decide) (⟨hI, hF, lx36, lx37, lx35, lx38, lx39, lx40, lx41, lx42, lx43, lx44, hO63, (show 0 ≤ (0 : Int32).toInt from (by have z12 : (0 : Int32).toInt = 0 := rfl; omega)), (show (0 : Int32).toInt ≤ 1 from (by have z12 : (0 : Int32).toInt = 0 := rfl; omega)), (show 0 ≤ lx41.toInt from (by have z12 : (0 : Int32).toInt = 0 := rfl; have t1 : 0 ≤ lx41.toInt := i46; omega)), (show 0 ≤ lx43.toInt from (by have z12 : (0 : Int32).toInt = 0 := rfl; have t1 : 0 ≤ lx43.toInt := i47; omega)), (show lx43.toInt ≤ 1 from (by have z12 : (0 : Int32).toInt = 0 := rfl; have t1 : lx43.toInt ≤ 1 := i48; omega)), (show t0_0.toInt ≤ lx36.toInt from (by have z12 : (0 : Int32).toInt = 0 := rfl; have t1 : t0_0.toInt ≤ lx36.toInt := i49; omega)), (show lx36.toInt ≤ t0_0.toInt from (by have z12 : (0 : Int32).toInt = 0 := rfl; have t1 : lx36.toInt ≤ t0_0.toInt := i50; omega)), (show t0_1.toInt ≤ lx37.toInt from (by have z12 : (0 : Int32).toInt = 0 := rfl; have t1 : t0_1.toInt ≤ lx37.toInt := i51; omega)), (show lx37.toInt ≤ t0_1.toInt from (by have z12 : (0 : Int32).toInt = 0 := rfl; have t1 : lx37.toInt ≤ t0_1.toInt := i52; omega)), (show t0_2.toInt ≤ lx35.toInt from (by have z12 : (0 : Int32).toInt = 0 := rfl; have t1 : t0_9.toInt ≤ lx44.toInt := i57; have t2 : lx34.toInt + t0_2.toInt ≤ lx35.toInt := i59; have t3 : lx44.toInt ≤ lx34.toInt + t0_9.toInt := i60; omega)), (show t0_3.toInt ≤ lx38.toInt from (by have z12 : (0 : Int32).toInt = 0 := rfl; have t1 : t0_3.toInt ≤ lx38.toInt := i53; omega)), (show lx38.toInt ≤ t0_3.toInt from (by have z12 : (0 : Int32).toInt = 0 := rfl; have t1 : lx38.toInt ≤ t0_3.toInt := i54; omega)), (show t0_4.toInt ≤ lx39.toInt from (by have z12 : (0 : Int32).toInt = 0 := rfl; have t1 : t0_4.toInt ≤ lx39.toInt := i55; omega)), (show lx39.toInt ≤ t0_4.toInt from (by have z12 : (0 : Int32).toInt = 0 := rfl; have t1 : lx39.toInt ≤ t0_4.toInt := i56; omega)), (show t0_9.toInt ≤ lx44.toInt from (by have z12 : (0 : Int32).toInt = 0 := rfl; have t1 : t0_9.toInt ≤ lx44.toInt := i57; omega)), (show lx44.toInt ≤ t0_9.toInt from (by have z12 : (0 : Int32).toInt = 0 := rfl; have t1 : lx44.toInt ≤ t0_9.toInt := i58; omega))⟩) d_10_12_128
        ·
          have b86 : q_F (0 < lx33.toInt) := (q_nleI c84)
          refine lv_iconst (v := 1) hx hb d_10_12_123 (by decide) ?_
          refine lv_goto (tgt := 128) hx hb d_10_12_124 (by decide) ?_
          exact q_retz C0 V (by decide) (⟨hI, hF, lx36, lx37, lx35, lx38, lx39, lx40, lx41, lx42, lx43, lx44, hO63, (show 0 ≤ (1 : Int32).toInt from (by have z12 : (1 : Int32).toInt = 1 := rfl; omega)), (show (1 : Int32).toInt ≤ 1 from (by have z12 : (1 : Int32).toInt = 1 := rfl; omega)), (show 0 ≤ lx41.toInt from (by have z12 : (1 : Int32).toInt = 1 := rfl; have t1 : 0 ≤ lx41.toInt := i46; omega)), (show 0 ≤ lx43.toInt from (by have z12 : (1 : Int32).toInt = 1 := rfl; have t1 : 0 ≤ lx43.toInt := i47; omega)), (show lx43.toInt ≤ 1 from (by have z12 : (1 : Int32).toInt = 1 := rfl; have t1 : lx43.toInt ≤ 1 := i48; omega)), (show t0_0.toInt ≤ lx36.toInt from (by have z12 : (1 : Int32).toInt = 1 := rfl; have t1 : t0_0.toInt ≤ lx36.toInt := i49; omega)), (show lx36.toInt ≤ t0_0.toInt from (by have z12 : (1 : Int32).toInt = 1 := rfl; have t1 : lx36.toInt ≤ t0_0.toInt := i50; omega)), (show t0_1.toInt ≤ lx37.toInt from (by have z12 : (1 : Int32).toInt = 1 := rfl; have t1 : t0_1.toInt ≤ lx37.toInt := i51; omega)), (show lx37.toInt ≤ t0_1.toInt from (by have z12 : (1 : Int32).toInt = 1 := rfl; have t1 : lx37.toInt ≤ t0_1.toInt := i52; omega)), (show t0_2.toInt ≤ lx35.toInt from (by have z12 : (1 : Int32).toInt = 1 := rfl; have t1 : t0_9.toInt ≤ lx44.toInt := i57; have t2 : lx34.toInt + t0_2.toInt ≤ lx35.toInt := i59; have t3 : lx44.toInt ≤ lx34.toInt + t0_9.toInt := i60; omega)), (show t0_3.toInt ≤ lx38.toInt from (by have z12 : (1 : Int32).toInt = 1 := rfl; have t1 : t0_3.toInt ≤ lx38.toInt := i53; omega)), (show lx38.toInt ≤ t0_3.toInt from (by have z12 : (1 : Int32).toInt = 1 := rfl; have t1 : lx38.toInt ≤ t0_3.toInt := i54; omega)), (show t0_4.toInt ≤ lx39.toInt from (by have z12 : (1 : Int32).toInt = 1 := rfl; have t1 : t0_4.toInt ≤ lx39.toInt := i55; omega)), (show lx39.toInt ≤ t0_4.toInt from (by have z12 : (1 : Int32).toInt = 1 := rfl; have t1 : lx39.toInt ≤ t0_4.toInt := i56; omega)), (show t0_9.toInt ≤ lx44.toInt from (by have z12 : (1 : Int32).toInt = 1 := rfl; have t1 : t0_9.toInt ≤ lx44.toInt := i57; omega)), (show lx44.toInt ≤ t0_9.toInt from (by have z12 : (1 : Int32).toInt = 1 := rfl; have t1 : lx44.toInt ≤ t0_9.toInt := i58; omega))⟩) d_10_12_128
      ·
        have b87 : q_F (a79.toInt = 46) := (q_eqI c82)
        refine lv_iload_n hx hb d_10_12_99 rfl (lv_at hl 2 rfl) ?_
        refine lv_if_ne (tgt := 118) hx hb d_10_12_100 (by decide) (fun c88 => ?_) (fun c88 => ?_)
        ·
          have b89 : q_F (lx34.toInt ≠ 0) := (q_neI c88)
          refine lv_iload hx hb d_10_12_118 (lv_at hl 1 rfl) ?_
          refine lv_if_le (tgt := 127) hx hb d_10_12_120 (by decide) (fun c90 => ?_) (fun c90 => ?_)
          ·
            have b91 : q_F (lx33.toInt ≤ 0) := (q_leI c90)
            refine lv_iconst (v := 0) hx hb d_10_12_127 (by decide) ?_
            exact q_retz C0 V (by decide) (⟨hI, hF, lx36, lx37, lx35, lx38, lx39, lx40, lx41, lx42, lx43, lx44, hO63, (show 0 ≤ (0 : Int32).toInt from (by have z12 : (0 : Int32).toInt = 0 := rfl; omega)), (show (0 : Int32).toInt ≤ 1 from (by have z12 : (0 : Int32).toInt = 0 := rfl; omega)), (show 0 ≤ lx41.toInt from (by have z12 : (0 : Int32).toInt = 0 := rfl; have t1 : 0 ≤ lx41.toInt := i46; omega)), (show 0 ≤ lx43.toInt from (by have z12 : (0 : Int32).toInt = 0 := rfl; have t1 : 0 ≤ lx43.toInt := i47; omega)), (show lx43.toInt ≤ 1 from (by have z12 : (0 : Int32).toInt = 0 := rfl; have t1 : lx43.toInt ≤ 1 := i48; omega)), (show t0_0.toInt ≤ lx36.toInt from (by have z12 : (0 : Int32).toInt = 0 := rfl; have t1 : t0_0.toInt ≤ lx36.toInt := i49; omega)), (show lx36.toInt ≤ t0_0.toInt from (by have z12 : (0 : Int32).toInt = 0 := rfl; have t1 : lx36.toInt ≤ t0_0.toInt := i50; omega)), (show t0_1.toInt ≤ lx37.toInt from (by have z12 : (0 : Int32).toInt = 0 := rfl; have t1 : t0_1.toInt ≤ lx37.toInt := i51; omega)), (show lx37.toInt ≤ t0_1.toInt from (by have z12 : (0 : Int32).toInt = 0 := rfl; have t1 : lx37.toInt ≤ t0_1.toInt := i52; omega)), (show t0_2.toInt ≤ lx35.toInt from (by have z12 : (0 : Int32).toInt = 0 := rfl; have t1 : t0_9.toInt ≤ lx44.toInt := i57; have t2 : lx34.toInt + t0_2.toInt ≤ lx35.toInt := i59; have t3 : lx44.toInt ≤ lx34.toInt + t0_9.toInt := i60; omega)), (show t0_3.toInt ≤ lx38.toInt from (by have z12 : (0 : Int32).toInt = 0 := rfl; have t1 : t0_3.toInt ≤ lx38.toInt := i53; omega)), (show lx38.toInt ≤ t0_3.toInt from (by have z12 : (0 : Int32).toInt = 0 := rfl; have t1 : lx38.toInt ≤ t0_3.toInt := i54; omega)), (show t0_4.toInt ≤ lx39.toInt from (by have z12 : (0 : Int32).toInt = 0 := rfl; have t1 : t0_4.toInt ≤ lx39.toInt := i55; omega)), (show lx39.toInt ≤ t0_4.toInt from (by have z12 : (0 : Int32).toInt = 0 := rfl; have t1 : lx39.toInt ≤ t0_4.toInt := i56; omega)), (show t0_9.toInt ≤ lx44.toInt from (by have z12 : (0 : Int32).toInt = 0 := rfl; have t1 : t0_9.toInt ≤ lx44.toInt := i57; omega)), (show lx44.toInt ≤ t0_9.toInt from (by have z12 : (0 : Int32).toInt = 0 := rfl; have t1 : lx44.toInt ≤ t0_9.toInt := i58; omega))⟩) d_10_12_128
          ·
            have b92 : q_F (0 < lx33.toInt) := (q_nleI c90)
            refine lv_iconst (v := 1) hx hb d_10_12_123 (by decide) ?_
            refine lv_goto (tgt := 128) hx hb d_10_12_124 (by decide) ?_
            exact q_retz C0 V (by decide) (⟨hI, hF, lx36, lx37, lx35, lx38, lx39, lx40, lx41, lx42, lx43, lx44, hO63, (show 0 ≤ (1 : Int32).toInt from (by have z12 : (1 : Int32).toInt = 1 := rfl; omega)), (show (1 : Int32).toInt ≤ 1 from (by have z12 : (1 : Int32).toInt = 1 := rfl; omega)), (show 0 ≤ lx41.toInt from (by have z12 : (1 : Int32).toInt = 1 := rfl; have t1 : 0 ≤ lx41.toInt := i46; omega)), (show 0 ≤ lx43.toInt from (by have z12 : (1 : Int32).toInt = 1 := rfl; have t1 : 0 ≤ lx43.toInt := i47; omega)), (show lx43.toInt ≤ 1 from (by have z12 : (1 : Int32).toInt = 1 := rfl; have t1 : lx43.toInt ≤ 1 := i48; omega)), (show t0_0.toInt ≤ lx36.toInt from (by have z12 : (1 : Int32).toInt = 1 := rfl; have t1 : t0_0.toInt ≤ lx36.toInt := i49; omega)), (show lx36.toInt ≤ t0_0.toInt from (by have z12 : (1 : Int32).toInt = 1 := rfl; have t1 : lx36.toInt ≤ t0_0.toInt := i50; omega)), (show t0_1.toInt ≤ lx37.toInt from (by have z12 : (1 : Int32).toInt = 1 := rfl; have t1 : t0_1.toInt ≤ lx37.toInt := i51; omega)), (show lx37.toInt ≤ t0_1.toInt from (by have z12 : (1 : Int32).toInt = 1 := rfl; have t1 : lx37.toInt ≤ t0_1.toInt := i52; omega)), (show t0_2.toInt ≤ lx35.toInt from (by have z12 : (1 : Int32).toInt = 1 := rfl; have t1 : t0_9.toInt ≤ lx44.toInt := i57; have t2 : lx34.toInt + t0_2.toInt ≤ lx35.toInt := i59; have t3 : lx44.toInt ≤ lx34.toInt + t0_9.toInt := i60; omega)), (show t0_3.toInt ≤ lx38.toInt from (by have z12 : (1 : Int32).toInt = 1 := rfl; have t1 : t0_3.toInt ≤ lx38.toInt := i53; omega)), (show lx38.toInt ≤ t0_3.toInt from (by have z12 : (1 : Int32).toInt = 1 := rfl; have t1 : lx38.toInt ≤ t0_3.toInt := i54; omega)), (show t0_4.toInt ≤ lx39.toInt from (by have z12 : (1 : Int32).toInt = 1 := rfl; have t1 : t0_4.toInt ≤ lx39.toInt := i55; omega)), (show lx39.toInt ≤ t0_4.toInt from (by have z12 : (1 : Int32).toInt = 1 := rfl; have t1 : lx39.toInt ≤ t0_4.toInt := i56; omega)), (show t0_9.toInt ≤ lx44.toInt from (by have z12 : (1 : Int32).toInt = 1 := rfl; have t1 : t0_9.toInt ≤ lx44.toInt := i57; omega)), (show lx44.toInt ≤ t0_9.toInt from (by have z12 : (1 : Int32).toInt = 1 := rfl; have t1 : lx44.toInt ≤ t0_9.toInt := i58; omega))⟩) d_10_12_128
        ·
          have b93 : q_F (lx34.toInt = 0) := (q_eqI c88)
          refine lv_iconst (v := 1) hx hb d_10_12_103 (by decide) ?_
          refine lv_istore_n (lv' := [(3, .int 1), (5, .int a72), (4, .int lx33), (0, .ref (q 38)), (1, .int x2), (2, .int x3)]) hx hb d_10_12_104 rfl hl (by decide) rfl (fun ls hl => ?_)
          refine lv_aload_n hx hb d_10_12_105 rfl (lv_at hl 3 rfl) ?_
          refine lv_dup hx hb d_10_12_106 rfl ?_
          refine q_get (ci := 8) (j := 4) (v := .int lx35) C0 V i_Rea rfl rfl hO63 (by decide) w_290 rfl d_10_12_107 ?_
          refine lv_iconst (v := 1) hx hb d_10_12_110 (by decide) ?_
          refine lv_iadd hx hb d_10_12_111 ?_
          obtain ⟨a94, e95⟩ := q_nm (lx35 + 1 : Int32)
          refine q_ti (v := a94) e95 ?_
          have b96 : q_F (a94.toInt = lx35.toInt + 1) := (by rw [← e95]; show (lx35 + 1 : Int32).toInt = lx35.toInt + 1; exact q_addI (x := lx35.toInt) (y := 1) rfl (by decide) (by have _ := q_lo32 (x := lx35); have _ := q_hi32 (x := lx35); have t1 : lx35.toInt < lx38.toInt := b69; have _ := q_lo32 (x := lx38); have _ := q_hi32 (x := lx38); omega) (by have _ := q_lo32 (x := lx35); have _ := q_hi32 (x := lx35); have t1 : lx35.toInt < lx38.toInt := b69; have _ := q_lo32 (x := lx38); have _ := q_hi32 (x := lx38); omega))
          refine q_put (ci := 8) (j := 4) (v := .int a94) (ty := .int) C0 V i_Rea o_Rea n_Rea rfl rfl hO63 (by decide) w_290 rfl rfl rfl rfl (Nat.le_of_ble_eq_true rfl) d_10_12_112 (fun H locs w97 hu98 hO63 V => ?_)
          replace hO63 : w97[38]? = (some (q 38, .inr (8, [.long lx36, .long lx37, .ref (q 1), .ref (q 9), .int a94, .int lx38, .int lx39, .int lx40, .int lx41, .int lx42, .int lx43, .long lx44])) : Option (Nat × va_E)) := hO63
          replace hI := n_p38 hI hu98 hO63 ⟨(by have t1 : 0 ≤ t0_4.toInt ∧ t0_4.toInt ≤ 1 := btt0_4; have t2 : t0_4.toInt ≤ lx39.toInt := i55; omega), (by have t1 : 0 ≤ t0_4.toInt ∧ t0_4.toInt ≤ 1 := btt0_4; have t2 : lx39.toInt ≤ t0_4.toInt := i56; omega)⟩ ⟨(by have t1 : 0 ≤ lx43.toInt := i47; omega), (by have t1 : lx43.toInt ≤ 1 := i48; omega)⟩
          replace hF := q_us hF hu98 (by simp)
          refine lv_goto (tgt := 35) hx hb d_10_12_115 (by decide) ?_
          exact ih61 ((lx33 : Int32), (1 : Int32), (a94 : Int32), (lx36 : Int64), (lx37 : Int64), (lx38 : Int32), (lx39 : Int32), (lx40 : Int32), (lx41 : Int32), (lx42 : Int32), (lx43 : Int32), (lx44 : Int64)) _ _ _ _ (show (t0_3.toInt - a94.toInt).toNat < (t0_3.toInt - lx35.toInt).toNat from by have t1 : a94.toInt = lx35.toInt + 1 := b96; have t2 : lx38.toInt ≤ t0_3.toInt := i54; have t3 : lx35.toInt < lx38.toInt := b69; omega) ⟨(show q_F (1 ≤ 1) from (show 1 ≤ 1 from by omega)), (show q_F (0 ≤ lx41.toInt) from (show 0 ≤ lx41.toInt from by have t1 : 0 ≤ lx41.toInt := i46; omega)), (show q_F (0 ≤ lx43.toInt) from (show 0 ≤ lx43.toInt from by have t1 : 0 ≤ lx43.toInt := i47; omega)), (show q_F (lx43.toInt ≤ 1) from (show lx43.toInt ≤ 1 from by have t1 : lx43.toInt ≤ 1 := i48; omega)), (show q_F (t0_0.toInt ≤ lx36.toInt) from (show t0_0.toInt ≤ lx36.toInt from by have t1 : t0_0.toInt ≤ lx36.toInt := i49; omega)), (show q_F (lx36.toInt ≤ t0_0.toInt) from (show lx36.toInt ≤ t0_0.toInt from by have t1 : lx36.toInt ≤ t0_0.toInt := i50; omega)), (show q_F (t0_1.toInt ≤ lx37.toInt) from (show t0_1.toInt ≤ lx37.toInt from by have t1 : t0_1.toInt ≤ lx37.toInt := i51; omega)), (show q_F (lx37.toInt ≤ t0_1.toInt) from (show lx37.toInt ≤ t0_1.toInt from by have t1 : lx37.toInt ≤ t0_1.toInt := i52; omega)), (show q_F (t0_3.toInt ≤ lx38.toInt) from (show t0_3.toInt ≤ lx38.toInt from by have t1 : t0_3.toInt ≤ lx38.toInt := i53; omega)), (show q_F (lx38.toInt ≤ t0_3.toInt) from (show lx38.toInt ≤ t0_3.toInt from by have t1 : lx38.toInt ≤ t0_3.toInt := i54; omega)), (show q_F (t0_4.toInt ≤ lx39.toInt) from (show t0_4.toInt ≤ lx39.toInt from by have t1 : t0_4.toInt ≤ lx39.toInt := i55; omega)), (show q_F (lx39.toInt ≤ t0_4.toInt) from (show lx39.toInt ≤ t0_4.toInt from by have t1 : lx39.toInt ≤ t0_4.toInt := i56; omega)), (show q_F (t0_9.toInt ≤ lx44.toInt) from (show t0_9.toInt ≤ lx44.toInt from by have t1 : t0_9.toInt ≤ lx44.toInt := i57; omega)), (show q_F (lx44.toInt ≤ t0_9.toInt) from (show lx44.toInt ≤ t0_9.toInt from by have t1 : lx44.toInt ≤ t0_9.toInt := i58; omega)), (show q_F (1 + t0_2.toInt ≤ a94.toInt) from (show 1 + t0_2.toInt ≤ a94.toInt from by have t1 : lx34.toInt + t0_2.toInt ≤ lx35.toInt := i59; have t2 : lx34.toInt = 0 := b93; have t3 : a94.toInt = lx35.toInt + 1 := b96; omega)), (show q_F (lx44.toInt ≤ 1 + t0_9.toInt) from (show lx44.toInt ≤ 1 + t0_9.toInt from by have t1 : lx44.toInt ≤ t0_9.toInt := i58; omega)), V, q_lw hl (q_lw1 2 rfl (q_lw1 0 rfl (q_lw1 3 rfl (q_lw1 4 rfl (q_lw1 5 rfl q_lw0))))), hI, hF, hO63⟩
    ·
      have b99 : q_F (a72.toInt < x2.toInt) := (q_nleI c75)
      refine lv_aload_n hx hb d_10_12_58 rfl (lv_at hl 3 rfl) ?_
      refine lv_iload_n hx hb d_10_12_59 rfl (lv_at hl 4 rfl) ?_
      refine lv_iload hx hb d_10_12_60 (lv_at hl 0 rfl) ?_
      refine lv_iload_n hx hb d_10_12_62 rfl (lv_at hl 5 rfl) ?_
      refine q_gov V (q_runV (As := [.int x2, .int a72, .int x3]) (rest := []) (d := 2) (mc := 0) (ms := 0) (ci := 8) C0 V rfl LV_Rea_149 (T_Rea_keepFigure l D g q w62  x2 a72 x3 hI lx36 lx37 lx35 lx38 lx39 lx40 lx41 lx42 lx43 lx44 hO63  _) rfl rfl hO63 rfl hl.1 rfl (Nat.le_of_ble_eq_true rfl) ⟨by decide, by decide⟩ ⟨Nat.le_of_ble_eq_true rfl, Nat.le_of_ble_eq_true rfl⟩ d_10_12_63) (fun u100 H locs hp101 V => ?_)
      obtain ⟨hI, hu131, y103, y104, y105, y106, y107, y108, y109, y110, y111, y112, hO102, b113, b114, b115, b116, b117, b118, b119, b120, b121, b122, b123, b124, b125, b126, b127, b128, b129, b130⟩ := hp101
      replace hO102 : u100[38]? = (some (q 38, .inr (8, [.long y103, .long y104, .ref (q 1), .ref (q 9), .int y105, .int y106, .int y107, .int y108, .int y109, .int y110, .int y111, .long y112])) : Option (Nat × va_E)) := hO102
      replace b113 : q_F (0 ≤ y111.toInt) := b113
      replace b114 : q_F (y111.toInt ≤ 1) := b114
      replace b115 : q_F (lx36.toInt ≤ y103.toInt) := b115
      replace b116 : q_F (y103.toInt ≤ lx36.toInt) := b116
      replace b117 : q_F (lx37.toInt ≤ y104.toInt) := b117
      replace b118 : q_F (y104.toInt ≤ lx37.toInt) := b118
      replace b119 : q_F (lx35.toInt ≤ y105.toInt) := b119
      replace b120 : q_F (y105.toInt ≤ lx35.toInt) := b120
      replace b121 : q_F (lx38.toInt ≤ y106.toInt) := b121
      replace b122 : q_F (y106.toInt ≤ lx38.toInt) := b122
      replace b123 : q_F (lx39.toInt ≤ y107.toInt) := b123
      replace b124 : q_F (y107.toInt ≤ lx39.toInt) := b124
      replace b125 : q_F (lx40.toInt ≤ y108.toInt) := b125
      replace b126 : q_F (y108.toInt ≤ lx40.toInt) := b126
      replace b127 : q_F (lx41.toInt ≤ y109.toInt) := b127
      replace b128 : q_F (y109.toInt ≤ lx41.toInt + 1) := b128
      replace b129 : q_F (lx44.toInt ≤ y112.toInt) := b129
      replace b130 : q_F (y112.toInt ≤ lx44.toInt) := b130
      replace hF := q_uc hF hu131 (by simp)
      obtain ⟨a132, e133⟩ := q_nm (lx33 + 1 : Int32)
      refine lv_iinc (v := a132) (lv' := [(4, .int a132), (5, .int a72), (3, .int lx34), (0, .ref (q 38)), (1, .int x2), (2, .int x3)]) hx hb d_10_12_66 hl (k := 1) rfl (e133) (by decide) rfl (fun ls hl => ?_)
      refine lv_aload_n hx hb d_10_12_69 rfl (lv_at hl 3 rfl) ?_
      refine lv_dup hx hb d_10_12_70 rfl ?_
      refine q_get (ci := 8) (j := 7) (v := .int y108) C0 V i_Rea rfl rfl hO102 (by decide) w_293 rfl d_10_12_71 ?_
      refine lv_iload_n hx hb d_10_12_74 rfl (lv_at hl 2 rfl) ?_
      refine lv_if_eq (tgt := 82) hx hb d_10_12_75 (by decide) (fun c134 => ?_) (fun c134 => ?_)
      ·
        have b135 : q_F (lx34.toInt = 0) := (q_eqI c134)
        refine lv_iconst (v := 0) hx hb d_10_12_82 (by decide) ?_
        refine lv_iadd hx hb d_10_12_83 ?_
        obtain ⟨a136, e137⟩ := q_nm (y108 + 0 : Int32)
        refine q_ti (v := a136) e137 ?_
        have b138 : q_F (a136.toInt = y108.toInt + 0) := (by rw [← e137]; show (y108 + 0 : Int32).toInt = y108.toInt + 0; exact q_addI (x := y108.toInt) (y := 0) rfl (by decide) (by have t1 : lx40.toInt ≤ y108.toInt := b125; have _ := q_lo32 (x := lx40); have _ := q_hi32 (x := lx40); have t2 : y108.toInt ≤ lx40.toInt := b126; omega) (by have t1 : lx40.toInt ≤ y108.toInt := b125; have _ := q_lo32 (x := lx40); have _ := q_hi32 (x := lx40); have t2 : y108.toInt ≤ lx40.toInt := b126; omega))
        refine q_put (ci := 8) (j := 7) (v := .int a136) (ty := .int) C0 V i_Rea o_Rea n_Rea rfl rfl hO102 (by decide) w_293 rfl rfl rfl rfl (Nat.le_of_ble_eq_true rfl) d_10_12_84 (fun H locs w139 hu140 hO102 V => ?_)
        replace hO102 : w139[38]? = (some (q 38, .inr (8, [.long y103, .long y104, .ref (q 1), .ref (q 9), .int y105, .int y106, .int y107, .int a136, .int y109, .int y110, .int y111, .long y112])) : Option (Nat × va_E)) := hO102
        replace hI := n_p38 hI hu140 hO102 ⟨(by have t1 : 0 ≤ t0_4.toInt ∧ t0_4.toInt ≤ 1 := btt0_4; have t2 : t0_4.toInt ≤ lx39.toInt := i55; have t3 : lx39.toInt ≤ y107.toInt := b123; omega), (by have t1 : 0 ≤ t0_4.toInt ∧ t0_4.toInt ≤ 1 := btt0_4; have t2 : lx39.toInt ≤ t0_4.toInt := i56; have t3 : y107.toInt ≤ lx39.toInt := b124; omega)⟩ ⟨(by have t1 : 0 ≤ y111.toInt := b113; omega), (by have t1 : y111.toInt ≤ 1 := b114; omega)⟩
        replace hF := q_us hF hu140 (by simp)
        refine lv_goto (tgt := 105) hx hb d_10_12_87 (by decide) ?_
        refine lv_aload_n hx hb d_10_12_105 rfl (lv_at hl 3 rfl) ?_
        refine lv_dup hx hb d_10_12_106 rfl ?_
        refine q_get (ci := 8) (j := 4) (v := .int y105) C0 V i_Rea rfl rfl hO102 (by decide) w_290 rfl d_10_12_107 ?_
        refine lv_iconst (v := 1) hx hb d_10_12_110 (by decide) ?_
        refine lv_iadd hx hb d_10_12_111 ?_
        obtain ⟨a141, e142⟩ := q_nm (y105 + 1 : Int32)
        refine q_ti (v := a141) e142 ?_
        have b143 : q_F (a141.toInt = y105.toInt + 1) := (by rw [← e142]; show (y105 + 1 : Int32).toInt = y105.toInt + 1; exact q_addI (x := y105.toInt) (y := 1) rfl (by decide) (by have t1 : lx35.toInt ≤ y105.toInt := b119; have _ := q_lo32 (x := lx35); have _ := q_hi32 (x := lx35); have t2 : lx35.toInt < lx38.toInt := b69; have t3 : y105.toInt ≤ lx35.toInt := b120; have _ := q_lo32 (x := lx38); have _ := q_hi32 (x := lx38); omega) (by have t1 : lx35.toInt ≤ y105.toInt := b119; have _ := q_lo32 (x := lx35); have _ := q_hi32 (x := lx35); have t2 : lx35.toInt < lx38.toInt := b69; have t3 : y105.toInt ≤ lx35.toInt := b120; have _ := q_lo32 (x := lx38); have _ := q_hi32 (x := lx38); omega))
        refine q_put (ci := 8) (j := 4) (v := .int a141) (ty := .int) C0 V i_Rea o_Rea n_Rea rfl rfl hO102 (by decide) w_290 rfl rfl rfl rfl (Nat.le_of_ble_eq_true rfl) d_10_12_112 (fun H locs w144 hu145 hO102 V => ?_)
        replace hO102 : w144[38]? = (some (q 38, .inr (8, [.long y103, .long y104, .ref (q 1), .ref (q 9), .int a141, .int y106, .int y107, .int a136, .int y109, .int y110, .int y111, .long y112])) : Option (Nat × va_E)) := hO102
        replace hI := n_p38 hI hu145 hO102 ⟨(by have t1 : 0 ≤ t0_4.toInt ∧ t0_4.toInt ≤ 1 := btt0_4; have t2 : t0_4.toInt ≤ lx39.toInt := i55; have t3 : lx39.toInt ≤ y107.toInt := b123; omega), (by have t1 : 0 ≤ t0_4.toInt ∧ t0_4.toInt ≤ 1 := btt0_4; have t2 : lx39.toInt ≤ t0_4.toInt := i56; have t3 : y107.toInt ≤ lx39.toInt := b124; omega)⟩ ⟨(by have t1 : 0 ≤ y111.toInt := b113; omega), (by have t1 : y111.toInt ≤ 1 := b114; omega)⟩
        replace hF := q_us hF hu145 (by simp)
        refine lv_goto (tgt := 35) hx hb d_10_12_115 (by decide) ?_
        exact ih61 ((a132 : Int32), (lx34 : Int32), (a141 : Int32), (y103 : Int64), (y104 : Int64), (y106 : Int32), (y107 : Int32), (a136 : Int32), (y109 : Int32), (y110 : Int32), (y111 : Int32), (y112 : Int64)) _ _ _ _ (show (t0_3.toInt - a141.toInt).toNat < (t0_3.toInt - lx35.toInt).toNat from by have t1 : lx35.toInt ≤ y105.toInt := b119; have t2 : a141.toInt = y105.toInt + 1 := b143; have t3 : lx38.toInt ≤ t0_3.toInt := i54; have t4 : lx35.toInt < lx38.toInt := b69; omega) ⟨(show q_F (lx34.toInt ≤ 1) from (show lx34.toInt ≤ 1 from by have t1 : lx34.toInt ≤ 1 := i45; omega)), (show q_F (0 ≤ y109.toInt) from (show 0 ≤ y109.toInt from by have t1 : 0 ≤ lx41.toInt := i46; have t2 : lx41.toInt ≤ y109.toInt := b127; omega)), (show q_F (0 ≤ y111.toInt) from (show 0 ≤ y111.toInt from by have t1 : 0 ≤ y111.toInt := b113; omega)), (show q_F (y111.toInt ≤ 1) from (show y111.toInt ≤ 1 from by have t1 : y111.toInt ≤ 1 := b114; omega)), (show q_F (t0_0.toInt ≤ y103.toInt) from (show t0_0.toInt ≤ y103.toInt from by have t1 : t0_0.toInt ≤ lx36.toInt := i49; have t2 : lx36.toInt ≤ y103.toInt := b115; omega)), (show q_F (y103.toInt ≤ t0_0.toInt) from (show y103.toInt ≤ t0_0.toInt from by have t1 : lx36.toInt ≤ t0_0.toInt := i50; have t2 : y103.toInt ≤ lx36.toInt := b116; omega)), (show q_F (t0_1.toInt ≤ y104.toInt) from (show t0_1.toInt ≤ y104.toInt from by have t1 : t0_1.toInt ≤ lx37.toInt := i51; have t2 : lx37.toInt ≤ y104.toInt := b117; omega)), (show q_F (y104.toInt ≤ t0_1.toInt) from (show y104.toInt ≤ t0_1.toInt from by have t1 : lx37.toInt ≤ t0_1.toInt := i52; have t2 : y104.toInt ≤ lx37.toInt := b118; omega)), (show q_F (t0_3.toInt ≤ y106.toInt) from (show t0_3.toInt ≤ y106.toInt from by have t1 : t0_3.toInt ≤ lx38.toInt := i53; have t2 : lx38.toInt ≤ y106.toInt := b121; omega)), (show q_F (y106.toInt ≤ t0_3.toInt) from (show y106.toInt ≤ t0_3.toInt from by have t1 : lx38.toInt ≤ t0_3.toInt := i54; have t2 : y106.toInt ≤ lx38.toInt := b122; omega)), (show q_F (t0_4.toInt ≤ y107.toInt) from (show t0_4.toInt ≤ y107.toInt from by have t1 : t0_4.toInt ≤ lx39.toInt := i55; have t2 : lx39.toInt ≤ y107.toInt := b123; omega)), (show q_F (y107.toInt ≤ t0_4.toInt) from (show y107.toInt ≤ t0_4.toInt from by have t1 : lx39.toInt ≤ t0_4.toInt := i56; have t2 : y107.toInt ≤ lx39.toInt := b124; omega)), (show q_F (t0_9.toInt ≤ y112.toInt) from (show t0_9.toInt ≤ y112.toInt from by have t1 : t0_9.toInt ≤ lx44.toInt := i57; have t2 : lx44.toInt ≤ y112.toInt := b129; omega)), (show q_F (y112.toInt ≤ t0_9.toInt) from (show y112.toInt ≤ t0_9.toInt from by have t1 : lx44.toInt ≤ t0_9.toInt := i58; have t2 : y112.toInt ≤ lx44.toInt := b130; omega)), (show q_F (lx34.toInt + t0_2.toInt ≤ a141.toInt) from (show lx34.toInt + t0_2.toInt ≤ a141.toInt from by have t1 : lx34.toInt + t0_2.toInt ≤ lx35.toInt := i59; have t2 : lx35.toInt ≤ y105.toInt := b119; have t3 : a141.toInt = y105.toInt + 1 := b143; omega)), (show q_F (y112.toInt ≤ lx34.toInt + t0_9.toInt) from (show y112.toInt ≤ lx34.toInt + t0_9.toInt from by have t1 : lx44.toInt ≤ lx34.toInt + t0_9.toInt := i60; have t2 : y112.toInt ≤ lx44.toInt := b130; omega)), V, q_lw hl (q_lw1 0 rfl (q_lw1 2 rfl (q_lw1 3 rfl (q_lw1 4 rfl (q_lw1 5 rfl q_lw0))))), hI, hF, hO102⟩
      ·
        have b146 : q_F (lx34.toInt ≠ 0) := (q_neI c134)
        refine lv_iconst (v := 1) hx hb d_10_12_78 (by decide) ?_
        refine lv_goto (tgt := 83) hx hb d_10_12_79 (by decide) ?_
        refine lv_iadd hx hb d_10_12_83 ?_
        obtain ⟨a147, e148⟩ := q_nm (y108 + 1 : Int32)
        refine q_ti (v := a147) e148 ?_
        refine q_put (ci := 8) (j := 7) (v := .int a147) (ty := .int) C0 V i_Rea o_Rea n_Rea rfl rfl hO102 (by decide) w_293 rfl rfl rfl rfl (Nat.le_of_ble_eq_true rfl) d_10_12_84 (fun H locs w149 hu150 hO102 V => ?_)
        replace hO102 : w149[38]? = (some (q 38, .inr (8, [.long y103, .long y104, .ref (q 1), .ref (q 9), .int y105, .int y106, .int y107, .int a147, .int y109, .int y110, .int y111, .long y112])) : Option (Nat × va_E)) := hO102
        replace hI := n_p38 hI hu150 hO102 ⟨(by have t1 : 0 ≤ t0_4.toInt ∧ t0_4.toInt ≤ 1 := btt0_4; have t2 : t0_4.toInt ≤ lx39.toInt := i55; have t3 : lx39.toInt ≤ y107.toInt := b123; omega), (by have t1 : 0 ≤ t0_4.toInt ∧ t0_4.toInt ≤ 1 := btt0_4; have t2 : lx39.toInt ≤ t0_4.toInt := i56; have t3 : y107.toInt ≤ lx39.toInt := b124; omega)⟩ ⟨(by have t1 : 0 ≤ y111.toInt := b113; omega), (by have t1 : y111.toInt ≤ 1 := b114; omega)⟩
        replace hF := q_us hF hu150 (by simp)
        refine lv_goto (tgt := 105) hx hb d_10_12_87 (by decide) ?_
        refine lv_aload_n hx hb d_10_12_105 rfl (lv_at hl 3 rfl) ?_
        refine lv_dup hx hb d_10_12_106 rfl ?_
        refine q_get (ci := 8) (j := 4) (v := .int y105) C0 V i_Rea rfl rfl hO102 (by decide) w_290 rfl d_10_12_107 ?_
        refine lv_iconst (v := 1) hx hb d_10_12_110 (by decide) ?_
        refine lv_iadd hx hb d_10_12_111 ?_
        obtain ⟨a151, e152⟩ := q_nm (y105 + 1 : Int32)
        refine q_ti (v := a151) e152 ?_
        have b153 : q_F (a151.toInt = y105.toInt + 1) := (by rw [← e152]; show (y105 + 1 : Int32).toInt = y105.toInt + 1; exact q_addI (x := y105.toInt) (y := 1) rfl (by decide) (by have t1 : lx35.toInt ≤ y105.toInt := b119; have _ := q_lo32 (x := lx35); have _ := q_hi32 (x := lx35); have t2 : lx35.toInt < lx38.toInt := b69; have t3 : y105.toInt ≤ lx35.toInt := b120; have _ := q_lo32 (x := lx38); have _ := q_hi32 (x := lx38); omega) (by have t1 : lx35.toInt ≤ y105.toInt := b119; have _ := q_lo32 (x := lx35); have _ := q_hi32 (x := lx35); have t2 : lx35.toInt < lx38.toInt := b69; have t3 : y105.toInt ≤ lx35.toInt := b120; have _ := q_lo32 (x := lx38); have _ := q_hi32 (x := lx38); omega))
        refine q_put (ci := 8) (j := 4) (v := .int a151) (ty := .int) C0 V i_Rea o_Rea n_Rea rfl rfl hO102 (by decide) w_290 rfl rfl rfl rfl (Nat.le_of_ble_eq_true rfl) d_10_12_112 (fun H locs w154 hu155 hO102 V => ?_)
        replace hO102 : w154[38]? = (some (q 38, .inr (8, [.long y103, .long y104, .ref (q 1), .ref (q 9), .int a151, .int y106, .int y107, .int a147, .int y109, .int y110, .int y111, .long y112])) : Option (Nat × va_E)) := hO102
        replace hI := n_p38 hI hu155 hO102 ⟨(by have t1 : 0 ≤ t0_4.toInt ∧ t0_4.toInt ≤ 1 := btt0_4; have t2 : t0_4.toInt ≤ lx39.toInt := i55; have t3 : lx39.toInt ≤ y107.toInt := b123; omega), (by have t1 : 0 ≤ t0_4.toInt ∧ t0_4.toInt ≤ 1 := btt0_4; have t2 : lx39.toInt ≤ t0_4.toInt := i56; have t3 : y107.toInt ≤ lx39.toInt := b124; omega)⟩ ⟨(by have t1 : 0 ≤ y111.toInt := b113; omega), (by have t1 : y111.toInt ≤ 1 := b114; omega)⟩
        replace hF := q_us hF hu155 (by simp)
        refine lv_goto (tgt := 35) hx hb d_10_12_115 (by decide) ?_
        exact ih61 ((a132 : Int32), (lx34 : Int32), (a151 : Int32), (y103 : Int64), (y104 : Int64), (y106 : Int32), (y107 : Int32), (a147 : Int32), (y109 : Int32), (y110 : Int32), (y111 : Int32), (y112 : Int64)) _ _ _ _ (show (t0_3.toInt - a151.toInt).toNat < (t0_3.toInt - lx35.toInt).toNat from by have t1 : lx35.toInt ≤ y105.toInt := b119; have t2 : a151.toInt = y105.toInt + 1 := b153; have t3 : lx38.toInt ≤ t0_3.toInt := i54; have t4 : lx35.toInt < lx38.toInt := b69; omega) ⟨(show q_F (lx34.toInt ≤ 1) from (show lx34.toInt ≤ 1 from by have t1 : lx34.toInt ≤ 1 := i45; omega)), (show q_F (0 ≤ y109.toInt) from (show 0 ≤ y109.toInt from by have t1 : 0 ≤ lx41.toInt := i46; have t2 : lx41.toInt ≤ y109.toInt := b127; omega)), (show q_F (0 ≤ y111.toInt) from (show 0 ≤ y111.toInt from by have t1 : 0 ≤ y111.toInt := b113; omega)), (show q_F (y111.toInt ≤ 1) from (show y111.toInt ≤ 1 from by have t1 : y111.toInt ≤ 1 := b114; omega)), (show q_F (t0_0.toInt ≤ y103.toInt) from (show t0_0.toInt ≤ y103.toInt from by have t1 : t0_0.toInt ≤ lx36.toInt := i49; have t2 : lx36.toInt ≤ y103.toInt := b115; omega)), (show q_F (y103.toInt ≤ t0_0.toInt) from (show y103.toInt ≤ t0_0.toInt from by have t1 : lx36.toInt ≤ t0_0.toInt := i50; have t2 : y103.toInt ≤ lx36.toInt := b116; omega)), (show q_F (t0_1.toInt ≤ y104.toInt) from (show t0_1.toInt ≤ y104.toInt from by have t1 : t0_1.toInt ≤ lx37.toInt := i51; have t2 : lx37.toInt ≤ y104.toInt := b117; omega)), (show q_F (y104.toInt ≤ t0_1.toInt) from (show y104.toInt ≤ t0_1.toInt from by have t1 : lx37.toInt ≤ t0_1.toInt := i52; have t2 : y104.toInt ≤ lx37.toInt := b118; omega)), (show q_F (t0_3.toInt ≤ y106.toInt) from (show t0_3.toInt ≤ y106.toInt from by have t1 : t0_3.toInt ≤ lx38.toInt := i53; have t2 : lx38.toInt ≤ y106.toInt := b121; omega)), (show q_F (y106.toInt ≤ t0_3.toInt) from (show y106.toInt ≤ t0_3.toInt from by have t1 : lx38.toInt ≤ t0_3.toInt := i54; have t2 : y106.toInt ≤ lx38.toInt := b122; omega)), (show q_F (t0_4.toInt ≤ y107.toInt) from (show t0_4.toInt ≤ y107.toInt from by have t1 : t0_4.toInt ≤ lx39.toInt := i55; have t2 : lx39.toInt ≤ y107.toInt := b123; omega)), (show q_F (y107.toInt ≤ t0_4.toInt) from (show y107.toInt ≤ t0_4.toInt from by have t1 : lx39.toInt ≤ t0_4.toInt := i56; have t2 : y107.toInt ≤ lx39.toInt := b124; omega)), (show q_F (t0_9.toInt ≤ y112.toInt) from (show t0_9.toInt ≤ y112.toInt from by have t1 : t0_9.toInt ≤ lx44.toInt := i57; have t2 : lx44.toInt ≤ y112.toInt := b129; omega)), (show q_F (y112.toInt ≤ t0_9.toInt) from (show y112.toInt ≤ t0_9.toInt from by have t1 : lx44.toInt ≤ t0_9.toInt := i58; have t2 : y112.toInt ≤ lx44.toInt := b130; omega)), (show q_F (lx34.toInt + t0_2.toInt ≤ a151.toInt) from (show lx34.toInt + t0_2.toInt ≤ a151.toInt from by have t1 : lx34.toInt + t0_2.toInt ≤ lx35.toInt := i59; have t2 : lx35.toInt ≤ y105.toInt := b119; have t3 : a151.toInt = y105.toInt + 1 := b153; omega)), (show q_F (y112.toInt ≤ lx34.toInt + t0_9.toInt) from (show y112.toInt ≤ lx34.toInt + t0_9.toInt from by have t1 : lx44.toInt ≤ lx34.toInt + t0_9.toInt := i60; have t2 : y112.toInt ≤ lx44.toInt := b130; omega)), V, q_lw hl (q_lw1 0 rfl (q_lw1 2 rfl (q_lw1 3 rfl (q_lw1 4 rfl (q_lw1 5 rfl q_lw0))))), hI, hF, hO102⟩
theorem d_10_14_0 : decode prog_10_method_14_code 0 = .ok (.aload_n 0, 1) := by decide +kernel
theorem d_10_14_1 : decode prog_10_method_14_code 1 = .ok (.dup, 1) := by decide +kernel
theorem d_10_14_2 : decode prog_10_method_14_code 2 = .ok (.getfield 36, 3) := by decide +kernel
theorem d_10_14_5 : decode prog_10_method_14_code 5 = .ok (.iconst 1, 1) := by decide +kernel
theorem d_10_14_6 : decode prog_10_method_14_code 6 = .ok (.iadd, 1) := by decide +kernel
theorem d_10_14_7 : decode prog_10_method_14_code 7 = .ok (.putfield 36, 3) := by decide +kernel
theorem d_10_14_10 : decode prog_10_method_14_code 10 = .ok (.aload_n 0, 1) := by decide +kernel
theorem d_10_14_11 : decode prog_10_method_14_code 11 = .ok (.invokevirtual 70, 3) := by decide +kernel
theorem d_10_14_14 : decode prog_10_method_14_code 14 = .ok (.bipush 45, 2) := by decide +kernel
theorem d_10_14_24 : decode prog_10_method_14_code 24 = .ok (.istore_n 2, 1) := by decide +kernel
theorem d_10_14_25 : decode prog_10_method_14_code 25 = .ok (.aload_n 0, 1) := by decide +kernel
theorem d_10_14_26 : decode prog_10_method_14_code 26 = .ok (.invokevirtual 70, 3) := by decide +kernel
theorem d_10_14_29 : decode prog_10_method_14_code 29 = .ok (.bipush 45, 2) := by decide +kernel
theorem d_10_14_53 : decode prog_10_method_14_code 53 = .ok (.aload_n 0, 1) := by decide +kernel
theorem d_10_14_54 : decode prog_10_method_14_code 54 = .ok (.getfield 36, 3) := by decide +kernel
theorem d_10_14_57 : decode prog_10_method_14_code 57 = .ok (.istore_n 3, 1) := by decide +kernel
theorem d_10_14_58 : decode prog_10_method_14_code 58 = .ok (.lconst 0, 1) := by decide +kernel
theorem d_10_14_59 : decode prog_10_method_14_code 59 = .ok (.lstore 4, 2) := by decide +kernel
theorem d_10_14_61 : decode prog_10_method_14_code 61 = .ok (.aload_n 0, 1) := by decide +kernel
theorem d_10_14_62 : decode prog_10_method_14_code 62 = .ok (.getfield 36, 3) := by decide +kernel
theorem d_10_14_65 : decode prog_10_method_14_code 65 = .ok (.aload_n 0, 1) := by decide +kernel
theorem d_10_14_66 : decode prog_10_method_14_code 66 = .ok (.getfield 40, 3) := by decide +kernel
theorem d_10_14_117 : decode prog_10_method_14_code 117 = .ok (.aload_n 0, 1) := by decide +kernel
theorem d_10_14_118 : decode prog_10_method_14_code 118 = .ok (.iload_n 2, 1) := by decide +kernel
theorem d_10_14_119 : decode prog_10_method_14_code 119 = .ok (.i2l, 1) := by decide +kernel
theorem d_10_14_120 : decode prog_10_method_14_code 120 = .ok (.lload 4, 2) := by decide +kernel
theorem d_10_14_122 : decode prog_10_method_14_code 122 = .ok (.lmul, 1) := by decide +kernel
theorem d_10_14_123 : decode prog_10_method_14_code 123 = .ok (.putfield 66, 3) := by decide +kernel
set_option maxRecDepth 100000 in
theorem w_297 : (Cond.fieldLink "NumberHouse$Reader" (66 : Nat) "NumberHouse$Reader" "exponent" "J") ∈ q_tbl := q_of2 57 rfl (by decide +kernel)
theorem d_10_14_126 : decode prog_10_method_14_code 126 = .ok (.aload_n 0, 1) := by decide +kernel
theorem d_10_14_127 : decode prog_10_method_14_code 127 = .ok (.getfield 36, 3) := by decide +kernel
theorem d_10_14_130 : decode prog_10_method_14_code 130 = .ok (.iload_n 3, 1) := by decide +kernel
theorem d_10_14_131 : decode prog_10_method_14_code 131 = .ok (.if_icmp .le 17, 3) := by decide +kernel
theorem d_10_14_148 : decode prog_10_method_14_code 148 = .ok (.iconst 0, 1) := by decide +kernel
theorem d_10_14_149 : decode prog_10_method_14_code 149 = .ok (.ireturn, 1) := by decide +kernel
theorem d_10_14_134 : decode prog_10_method_14_code 134 = .ok (.aload_n 0, 1) := by decide +kernel
theorem d_10_14_135 : decode prog_10_method_14_code 135 = .ok (.getfield 36, 3) := by decide +kernel
theorem d_10_14_138 : decode prog_10_method_14_code 138 = .ok (.iload_n 3, 1) := by decide +kernel
theorem d_10_14_139 : decode prog_10_method_14_code 139 = .ok (.isub, 1) := by decide +kernel
theorem d_10_14_140 : decode prog_10_method_14_code 140 = .ok (.iload_n 1, 1) := by decide +kernel
theorem d_10_14_141 : decode prog_10_method_14_code 141 = .ok (.if_icmp .gt 7, 3) := by decide +kernel
theorem d_10_14_144 : decode prog_10_method_14_code 144 = .ok (.iconst 1, 1) := by decide +kernel
theorem d_10_14_145 : decode prog_10_method_14_code 145 = .ok (.goto 4, 3) := by decide +kernel
theorem d_10_14_69 : decode prog_10_method_14_code 69 = .ok (.if_icmp .ge 48, 3) := by decide +kernel
theorem d_10_14_72 : decode prog_10_method_14_code 72 = .ok (.aload_n 0, 1) := by decide +kernel
theorem d_10_14_73 : decode prog_10_method_14_code 73 = .ok (.invokevirtual 43, 3) := by decide +kernel
theorem d_10_14_76 : decode prog_10_method_14_code 76 = .ok (.bipush 10, 2) := by decide +kernel
theorem d_10_14_78 : decode prog_10_method_14_code 78 = .ok (.if_icmp .ge 39, 3) := by decide +kernel
theorem d_10_14_81 : decode prog_10_method_14_code 81 = .ok (.lload 4, 2) := by decide +kernel
theorem d_10_14_83 : decode prog_10_method_14_code 83 = .ok (.ldc2_w 153, 3) := by decide +kernel
set_option maxRecDepth 100000 in
theorem w_636 : (Cond.constantLong "NumberHouse$Reader" (153 : Nat) (100000000000 : Int64)) ∈ q_tbl := q_of3 156 rfl (by decide +kernel)
theorem d_10_14_86 : decode prog_10_method_14_code 86 = .ok (.lcmp, 1) := by decide +kernel
theorem d_10_14_87 : decode prog_10_method_14_code 87 = .ok (.ifCond .ge 17, 3) := by decide +kernel
theorem d_10_14_104 : decode prog_10_method_14_code 104 = .ok (.aload_n 0, 1) := by decide +kernel
theorem d_10_14_105 : decode prog_10_method_14_code 105 = .ok (.dup, 1) := by decide +kernel
theorem d_10_14_106 : decode prog_10_method_14_code 106 = .ok (.getfield 36, 3) := by decide +kernel
theorem d_10_14_109 : decode prog_10_method_14_code 109 = .ok (.iconst 1, 1) := by decide +kernel
theorem d_10_14_110 : decode prog_10_method_14_code 110 = .ok (.iadd, 1) := by decide +kernel
theorem d_10_14_111 : decode prog_10_method_14_code 111 = .ok (.putfield 36, 3) := by decide +kernel
theorem d_10_14_114 : decode prog_10_method_14_code 114 = .ok (.goto (-53), 3) := by decide +kernel
theorem d_10_14_90 : decode prog_10_method_14_code 90 = .ok (.lload 4, 2) := by decide +kernel
theorem d_10_14_92 : decode prog_10_method_14_code 92 = .ok (.ldc2_w 155, 3) := by decide +kernel
set_option maxRecDepth 100000 in
theorem w_637 : (Cond.constantLong "NumberHouse$Reader" (155 : Nat) (10 : Int64)) ∈ q_tbl := q_of3 157 rfl (by decide +kernel)
theorem d_10_14_95 : decode prog_10_method_14_code 95 = .ok (.lmul, 1) := by decide +kernel
theorem d_10_14_96 : decode prog_10_method_14_code 96 = .ok (.aload_n 0, 1) := by decide +kernel
theorem d_10_14_97 : decode prog_10_method_14_code 97 = .ok (.invokevirtual 43, 3) := by decide +kernel
theorem d_10_14_100 : decode prog_10_method_14_code 100 = .ok (.i2l, 1) := by decide +kernel
theorem d_10_14_101 : decode prog_10_method_14_code 101 = .ok (.ladd, 1) := by decide +kernel
theorem d_10_14_102 : decode prog_10_method_14_code 102 = .ok (.lstore 4, 2) := by decide +kernel
theorem d_10_14_43 : decode prog_10_method_14_code 43 = .ok (.aload_n 0, 1) := by decide +kernel
theorem d_10_14_44 : decode prog_10_method_14_code 44 = .ok (.dup, 1) := by decide +kernel
theorem d_10_14_45 : decode prog_10_method_14_code 45 = .ok (.getfield 36, 3) := by decide +kernel
theorem d_10_14_48 : decode prog_10_method_14_code 48 = .ok (.iconst 1, 1) := by decide +kernel
theorem d_10_14_49 : decode prog_10_method_14_code 49 = .ok (.iadd, 1) := by decide +kernel
theorem d_10_14_50 : decode prog_10_method_14_code 50 = .ok (.putfield 36, 3) := by decide +kernel
theorem d_10_14_31 : decode prog_10_method_14_code 31 = .ok (.if_icmp .eq 12, 3) := by decide +kernel
theorem d_10_14_34 : decode prog_10_method_14_code 34 = .ok (.aload_n 0, 1) := by decide +kernel
theorem d_10_14_35 : decode prog_10_method_14_code 35 = .ok (.invokevirtual 70, 3) := by decide +kernel
theorem d_10_14_38 : decode prog_10_method_14_code 38 = .ok (.bipush 43, 2) := by decide +kernel
theorem d_10_14_40 : decode prog_10_method_14_code 40 = .ok (.if_icmp .ne 13, 3) := by decide +kernel
theorem d_10_14_16 : decode prog_10_method_14_code 16 = .ok (.if_icmp .ne 7, 3) := by decide +kernel
theorem d_10_14_23 : decode prog_10_method_14_code 23 = .ok (.iconst 1, 1) := by decide +kernel
theorem d_10_14_19 : decode prog_10_method_14_code 19 = .ok (.iconst (-1), 1) := by decide +kernel
theorem d_10_14_20 : decode prog_10_method_14_code 20 = .ok (.goto 4, 3) := by decide +kernel
def y_Rea_takeExponent : MethodName := ⟨"NumberHouse$Reader", "takeExponent", "(I)Z"⟩
set_option maxRecDepth 100000 in
set_option maxHeartbeats 4000000 in
theorem T_Rea_takeExponent (l : Launch) (D : va_G) (g : Nat → ClassId) (q : Nat → Nat) (ws : va_W) (x2 : Int32) (hI : q_I (nsh g q) q ws) (t0_0 : Int64) (t0_1 : Int64) (t0_2 : Int32) (t0_3 : Int32) (t0_4 : Int32) (t0_5 : Int32) (t0_6 : Int32) (t0_7 : Int32) (t0_8 : Int32) (t0_9 : Int64) (hT0 : ws[38]? = (some (q 38, .inr (8, [.long t0_0, .long t0_1, .ref (q 1), .ref (q 9), .int t0_2, .int t0_3, .int t0_4, .int t0_5, .int t0_6, .int t0_7, .int t0_8, .long t0_9])) : Option (Nat × va_E))) : q_mI l y_Rea_takeExponent prog_10_method_14_code 6 (.boolean) 4 0 0 D g [.ref (q 38), .int x2] ws (fun r u => q_I (nsh g q) q u ∧ q_un ws u [38] ∧ ∃ (u0_0 : Int64) (u0_1 : Int64) (u0_2 : Int32) (u0_3 : Int32) (u0_4 : Int32) (u0_5 : Int32) (u0_6 : Int32) (u0_7 : Int32) (u0_8 : Int32) (u0_9 : Int64), u[38]? = (some (q 38, .inr (8, [.long u0_0, .long u0_1, .ref (q 1), .ref (q 9), .int u0_2, .int u0_3, .int u0_4, .int u0_5, .int u0_6, .int u0_7, .int u0_8, .long u0_9])) : Option (Nat × va_E)) ∧ (0 ≤ r.toInt) ∧ (r.toInt ≤ 1) ∧ (t0_0.toInt ≤ u0_0.toInt) ∧ (u0_0.toInt ≤ t0_0.toInt) ∧ (t0_1.toInt ≤ u0_1.toInt) ∧ (u0_1.toInt ≤ t0_1.toInt) ∧ (t0_3.toInt ≤ u0_3.toInt) ∧ (u0_3.toInt ≤ t0_3.toInt) ∧ (t0_4.toInt ≤ u0_4.toInt) ∧ (u0_4.toInt ≤ t0_4.toInt) ∧ (t0_5.toInt ≤ u0_5.toInt) ∧ (u0_5.toInt ≤ t0_5.toInt) ∧ (t0_6.toInt ≤ u0_6.toInt) ∧ (u0_6.toInt ≤ t0_6.toInt) ∧ (t0_7.toInt ≤ u0_7.toInt) ∧ (u0_7.toInt ≤ t0_7.toInt) ∧ (t0_8.toInt ≤ u0_8.toInt) ∧ (u0_8.toInt ≤ t0_8.toInt)) := by
  intro sz
  refine q_into (by decide) (Nat.le_of_ble_eq_true rfl) ?_
  intro p e s m below meth c ls hsz C0 V hl
  have hx := C0.1
  have hb := C0.2.1
  obtain ⟨yy0_0, yy0_1, yy0_2, yy0_3, yy0_4, yy0_5, yy0_6, yy0_7, yy0_8, yy0_9, hh0, btt0_4, btt0_8⟩ := n_o38 hI
  obtain ⟨rfl, rfl, rfl, rfl, rfl, rfl, rfl, rfl, rfl, rfl⟩ : t0_0 = yy0_0 ∧ t0_1 = yy0_1 ∧ t0_2 = yy0_2 ∧ t0_3 = yy0_3 ∧ t0_4 = yy0_4 ∧ t0_5 = yy0_5 ∧ t0_6 = yy0_6 ∧ t0_7 = yy0_7 ∧ t0_8 = yy0_8 ∧ t0_9 = yy0_9 := by have z := Option.some.inj (hT0.symm.trans hh0); simpa using z
  replace btt0_4 : q_F (0 ≤ t0_4.toInt ∧ t0_4.toInt ≤ 1) := btt0_4
  replace btt0_8 : q_F (0 ≤ t0_8.toInt ∧ t0_8.toInt ≤ 1) := btt0_8
  have hF : q_un ws ws [38] := q_u0
  have hl : lv_has ls 6 [(0, .ref (q 38)), (1, .int x2)] := hl
  refine lv_aload_n hx hb d_10_14_0 rfl (lv_at hl 0 rfl) ?_
  refine lv_dup hx hb d_10_14_1 rfl ?_
  refine q_get (ci := 8) (j := 4) (v := .int t0_2) C0 V i_Rea rfl rfl hT0 (by decide) w_290 rfl d_10_14_2 ?_
  refine lv_iconst (v := 1) hx hb d_10_14_5 (by decide) ?_
  refine lv_iadd hx hb d_10_14_6 ?_
  obtain ⟨a14, e15⟩ := q_nm (t0_2 + 1 : Int32)
  refine q_ti (v := a14) e15 ?_
  refine q_put (ci := 8) (j := 4) (v := .int a14) (ty := .int) C0 V i_Rea o_Rea n_Rea rfl rfl hT0 (by decide) w_290 rfl rfl rfl rfl (Nat.le_of_ble_eq_true rfl) d_10_14_7 (fun H locs w16 hu17 hT0 V => ?_)
  replace hT0 : w16[38]? = (some (q 38, .inr (8, [.long t0_0, .long t0_1, .ref (q 1), .ref (q 9), .int a14, .int t0_3, .int t0_4, .int t0_5, .int t0_6, .int t0_7, .int t0_8, .long t0_9])) : Option (Nat × va_E)) := hT0
  replace hI := n_p38 hI hu17 hT0 ⟨(by have t1 : 0 ≤ t0_4.toInt ∧ t0_4.toInt ≤ 1 := btt0_4; omega), (by have t1 : 0 ≤ t0_4.toInt ∧ t0_4.toInt ≤ 1 := btt0_4; omega)⟩ ⟨(by have t1 : 0 ≤ t0_8.toInt ∧ t0_8.toInt ≤ 1 := btt0_8; omega), (by have t1 : 0 ≤ t0_8.toInt ∧ t0_8.toInt ≤ 1 := btt0_8; omega)⟩
  replace hF := q_us hF hu17 (by simp)
  refine lv_aload_n hx hb d_10_14_10 rfl (lv_at hl 0 rfl) ?_
  refine q_goi V (q_runV (As := []) (rest := []) (d := 2) (mc := 0) (ms := 0) (ci := 8) C0 V rfl LV_Rea_70 (T_Rea_here l D g q w16   hI   _) rfl rfl hT0 rfl hl.1 rfl (Nat.le_of_ble_eq_true rfl) ⟨by decide, by decide⟩ ⟨Nat.le_of_ble_eq_true rfl, Nat.le_of_ble_eq_true rfl⟩ d_10_14_11) (fun a20 u18 H locs hp19 V => ?_)
  obtain ⟨rfl, b21, b22⟩ := hp19
  replace b21 : q_F (0 ≤ a20.toInt + 1) := b21
  replace b22 : q_F (a20.toInt ≤ 255) := b22
  refine lv_bipush (v := 45) hx hb d_10_14_14 (by decide) ?_
  refine q_join (X := Int32) (fun z H locs ls _ => q_F (0 ≤ z.toInt + 1) ∧ q_F (z.toInt ≤ 1) ∧ q_Wd D g (va_A ws sz) s w16 H locs ∧ lv_has ls 6 [(0, .ref (q 38)), (1, .int x2)]) (fun z => [.int z]) 24 0 0 ?_ ?_
  ·
    rintro lx23 H locs ls _ ⟨i26, i27, V, hl⟩
    replace i26 : q_F (0 ≤ lx23.toInt + 1) := i26
    replace i27 : q_F (lx23.toInt ≤ 1) := i27
    replace hl : lv_has ls 6 [(0, .ref (q 38)), (1, .int x2)] := hl
    refine lv_istore_n (lv' := [(2, .int lx23), (0, .ref (q 38)), (1, .int x2)]) hx hb d_10_14_24 rfl hl (by decide) rfl (fun ls hl => ?_)
    refine lv_aload_n hx hb d_10_14_25 rfl (lv_at hl 1 rfl) ?_
    refine q_goi V (q_runV (As := []) (rest := []) (d := 2) (mc := 0) (ms := 0) (ci := 8) C0 V rfl LV_Rea_70 (T_Rea_here l D g q w16   hI   _) rfl rfl hT0 rfl hl.1 rfl (Nat.le_of_ble_eq_true rfl) ⟨by decide, by decide⟩ ⟨Nat.le_of_ble_eq_true rfl, Nat.le_of_ble_eq_true rfl⟩ d_10_14_26) (fun a30 u28 H locs hp29 V => ?_)
    obtain ⟨rfl, b31, b32⟩ := hp29
    replace b31 : q_F (0 ≤ a30.toInt + 1) := b31
    replace b32 : q_F (a30.toInt ≤ 255) := b32
    refine lv_bipush (v := 45) hx hb d_10_14_29 (by decide) ?_
    refine q_join (X := Int32) (fun z H locs ls w36 => q_Wd D g (va_A ws sz) s w36 H locs ∧ lv_has ls 6 [(2, .int lx23), (0, .ref (q 38)), (1, .int x2)] ∧ q_I (nsh g q) q w36 ∧ q_un ws w36 [38] ∧ w36[38]? = (some (q 38, .inr (8, [.long t0_0, .long t0_1, .ref (q 1), .ref (q 9), .int z, .int t0_3, .int t0_4, .int t0_5, .int t0_6, .int t0_7, .int t0_8, .long t0_9])) : Option (Nat × va_E))) (fun z => []) 53 0 0 ?_ ?_
    ·
      rintro lx33 H locs ls w36 ⟨V, hl, hI, hF, hO34⟩
      replace hl : lv_has ls 6 [(2, .int lx23), (0, .ref (q 38)), (1, .int x2)] := hl
      replace hO34 : w36[38]? = (some (q 38, .inr (8, [.long t0_0, .long t0_1, .ref (q 1), .ref (q 9), .int lx33, .int t0_3, .int t0_4, .int t0_5, .int t0_6, .int t0_7, .int t0_8, .long t0_9])) : Option (Nat × va_E)) := hO34
      refine lv_aload_n hx hb d_10_14_53 rfl (lv_at hl 1 rfl) ?_
      refine q_get (ci := 8) (j := 4) (v := .int lx33) C0 V i_Rea rfl rfl hO34 (by decide) w_290 rfl d_10_14_54 ?_
      refine lv_istore_n (lv' := [(3, .int lx33), (2, .int lx23), (0, .ref (q 38)), (1, .int x2)]) hx hb d_10_14_57 rfl hl (by decide) rfl (fun ls hl => ?_)
      refine lv_lconst (v := 0) hx hb d_10_14_58 (by decide) ?_
      refine lv_lstore (lv' := [(4, .long 0), (3, .int lx33), (2, .int lx23), (0, .ref (q 38)), (1, .int x2)]) hx hb d_10_14_59 hl (by decide) rfl (fun ls hl => ?_)
      refine q_loop (X := Int64 × Int32) (fun z H locs ls w43 => q_F (0 ≤ z.1.toInt) ∧ q_F (lx33.toInt ≤ z.2.toInt) ∧ q_Wd D g (va_A ws sz) s w43 H locs ∧ lv_has ls 6 [(4, .long z.1), (3, .int lx33), (2, .int lx23), (0, .ref (q 38)), (1, .int x2)] ∧ q_I (nsh g q) q w43 ∧ q_un ws w43 [38] ∧ w43[38]? = (some (q 38, .inr (8, [.long t0_0, .long t0_1, .ref (q 1), .ref (q 9), .int z.2, .int t0_3, .int t0_4, .int t0_5, .int t0_6, .int t0_7, .int t0_8, .long t0_9])) : Option (Nat × va_E))) (fun z => (t0_3.toInt - z.2.toInt).toNat) ?_ ((0 : Int64), (lx33 : Int32)) _ _ _ w36 ⟨(show q_F (0 ≤ 0) from (show 0 ≤ 0 from by omega)), (show q_F (lx33.toInt ≤ lx33.toInt) from (show lx33.toInt ≤ lx33.toInt from by omega)), V, q_lw hl (q_lw1 0 rfl (q_lw1 1 rfl (q_lw1 2 rfl (q_lw1 3 rfl (q_lw1 4 rfl q_lw0))))), hI, hF, hO34⟩
      rintro ⟨lx38, lx39⟩ H locs ls w43 ⟨i40, i41, V, hl, hI, hF, hO44⟩ ih42
      replace i40 : q_F (0 ≤ lx38.toInt) := i40
      replace i41 : q_F (lx33.toInt ≤ lx39.toInt) := i41
      replace hl : lv_has ls 6 [(4, .long lx38), (3, .int lx33), (2, .int lx23), (0, .ref (q 38)), (1, .int x2)] := hl
      replace hO44 : w43[38]? = (some (q 38, .inr (8, [.long t0_0, .long t0_1, .ref (q 1), .ref (q 9), .int lx39, .int t0_3, .int t0_4, .int t0_5, .int t0_6, .int t0_7, .int t0_8, .long t0_9])) : Option (Nat × va_E)) := hO44
      refine lv_aload_n hx hb d_10_14_61 rfl (lv_at hl 3 rfl) ?_
      refine q_get (ci := 8) (j := 4) (v := .int lx39) C0 V i_Rea rfl rfl hO44 (by decide) w_290 rfl d_10_14_62 ?_
      refine lv_aload_n hx hb d_10_14_65 rfl (lv_at hl 3 rfl) ?_
      refine q_get (ci := 8) (j := 5) (v := .int t0_3) C0 V i_Rea rfl rfl hO44 (by decide) w_291 rfl d_10_14_66 ?_
      refine q_join (X := Unit) (fun z H locs ls _ => q_Wd D g (va_A ws sz) s w43 H locs ∧ lv_has ls 6 [(4, .long lx38), (3, .int lx33), (2, .int lx23), (0, .ref (q 38)), (1, .int x2)]) (fun z => []) 117 0 0 ?_ ?_
      ·
        rintro _ H locs ls _ ⟨V, hl⟩
        replace hl : lv_has ls 6 [(4, .long lx38), (3, .int lx33), (2, .int lx23), (0, .ref (q 38)), (1, .int x2)] := hl
        refine lv_aload_n hx hb d_10_14_117 rfl (lv_at hl 3 rfl) ?_
        refine lv_iload_n hx hb d_10_14_118 rfl (lv_at hl 2 rfl) ?_
        refine lv_i2l hx hb d_10_14_119 rfl ?_
        obtain ⟨j47, e48⟩ := q_nm (lx23.toInt64 : Int64)
        refine q_tl (v := j47) e48 ?_
        have b49 : q_F (j47.toInt = lx23.toInt) := (by rw [← e48]; show (lx23.toInt64 : Int64).toInt = lx23.toInt; exact q_i2l rfl)
        refine lv_lload hx hb d_10_14_120 (lv_at hl 0 rfl) ?_
        refine lv_lmul hx hb d_10_14_122 ?_
        obtain ⟨j50, e51⟩ := q_nm (j47 * lx38 : Int64)
        refine q_tl (v := j50) e51 ?_
        refine q_put (ci := 8) (j := 11) (v := .long j50) (ty := .long) C0 V i_Rea o_Rea n_Rea rfl rfl hO44 (by decide) w_297 rfl rfl rfl rfl (Nat.le_of_ble_eq_true rfl) d_10_14_123 (fun H locs w52 hu53 hO44 V => ?_)
        replace hO44 : w52[38]? = (some (q 38, .inr (8, [.long t0_0, .long t0_1, .ref (q 1), .ref (q 9), .int lx39, .int t0_3, .int t0_4, .int t0_5, .int t0_6, .int t0_7, .int t0_8, .long j50])) : Option (Nat × va_E)) := hO44
        replace hI := n_p38 hI hu53 hO44 ⟨(by have t1 : 0 ≤ t0_4.toInt ∧ t0_4.toInt ≤ 1 := btt0_4; omega), (by have t1 : 0 ≤ t0_4.toInt ∧ t0_4.toInt ≤ 1 := btt0_4; omega)⟩ ⟨(by have t1 : 0 ≤ t0_8.toInt ∧ t0_8.toInt ≤ 1 := btt0_8; omega), (by have t1 : 0 ≤ t0_8.toInt ∧ t0_8.toInt ≤ 1 := btt0_8; omega)⟩
        replace hF := q_us hF hu53 (by simp)
        refine lv_aload_n hx hb d_10_14_126 rfl (lv_at hl 3 rfl) ?_
        refine q_get (ci := 8) (j := 4) (v := .int lx39) C0 V i_Rea rfl rfl hO44 (by decide) w_290 rfl d_10_14_127 ?_
        refine lv_iload_n hx hb d_10_14_130 rfl (lv_at hl 1 rfl) ?_
        refine lv_icmp_le (tgt := 148) hx hb d_10_14_131 (by decide) (fun c54 => ?_) (fun c54 => ?_)
        ·
          have b55 : q_F (lx39.toInt ≤ lx33.toInt) := (q_leI c54)
          refine lv_iconst (v := 0) hx hb d_10_14_148 (by decide) ?_
          exact q_retz C0 V (by decide) (⟨hI, hF, t0_0, t0_1, lx39, t0_3, t0_4, t0_5, t0_6, t0_7, t0_8, j50, hO44, (show 0 ≤ (0 : Int32).toInt from (by have z11 : (0 : Int32).toInt = 0 := rfl; omega)), (show (0 : Int32).toInt ≤ 1 from (by have z11 : (0 : Int32).toInt = 0 := rfl; omega)), (show t0_0.toInt ≤ t0_0.toInt from (by have z11 : (0 : Int32).toInt = 0 := rfl; omega)), (show t0_0.toInt ≤ t0_0.toInt from (by have z11 : (0 : Int32).toInt = 0 := rfl; omega)), (show t0_1.toInt ≤ t0_1.toInt from (by have z11 : (0 : Int32).toInt = 0 := rfl; omega)), (show t0_1.toInt ≤ t0_1.toInt from (by have z11 : (0 : Int32).toInt = 0 := rfl; omega)), (show t0_3.toInt ≤ t0_3.toInt from (by have z11 : (0 : Int32).toInt = 0 := rfl; omega)), (show t0_3.toInt ≤ t0_3.toInt from (by have z11 : (0 : Int32).toInt = 0 := rfl; omega)), (show t0_4.toInt ≤ t0_4.toInt from (by have z11 : (0 : Int32).toInt = 0 := rfl; omega)), (show t0_4.toInt ≤ t0_4.toInt from (by have z11 : (0 : Int32).toInt = 0 := rfl; omega)), (show t0_5.toInt ≤ t0_5.toInt from (by have z11 : (0 : Int32).toInt = 0 := rfl; omega)), (show t0_5.toInt ≤ t0_5.toInt from (by have z11 : (0 : Int32).toInt = 0 := rfl; omega)), (show t0_6.toInt ≤ t0_6.toInt from (by have z11 : (0 : Int32).toInt = 0 := rfl; omega)), (show t0_6.toInt ≤ t0_6.toInt from (by have z11 : (0 : Int32).toInt = 0 := rfl; omega)), (show t0_7.toInt ≤ t0_7.toInt from (by have z11 : (0 : Int32).toInt = 0 := rfl; omega)), (show t0_7.toInt ≤ t0_7.toInt from (by have z11 : (0 : Int32).toInt = 0 := rfl; omega)), (show t0_8.toInt ≤ t0_8.toInt from (by have z11 : (0 : Int32).toInt = 0 := rfl; omega)), (show t0_8.toInt ≤ t0_8.toInt from (by have z11 : (0 : Int32).toInt = 0 := rfl; omega))⟩) d_10_14_149
        ·
          have b56 : q_F (lx33.toInt < lx39.toInt) := (q_nleI c54)
          refine lv_aload_n hx hb d_10_14_134 rfl (lv_at hl 3 rfl) ?_
          refine q_get (ci := 8) (j := 4) (v := .int lx39) C0 V i_Rea rfl rfl hO44 (by decide) w_290 rfl d_10_14_135 ?_
          refine lv_iload_n hx hb d_10_14_138 rfl (lv_at hl 1 rfl) ?_
          refine lv_isub hx hb d_10_14_139 ?_
          obtain ⟨a57, e58⟩ := q_nm (lx39 - lx33 : Int32)
          refine q_ti (v := a57) e58 ?_
          refine lv_iload_n hx hb d_10_14_140 rfl (lv_at hl 4 rfl) ?_
          refine lv_icmp_gt (tgt := 148) hx hb d_10_14_141 (by decide) (fun c59 => ?_) (fun c59 => ?_)
          ·
            have b60 : q_F (x2.toInt < a57.toInt) := (q_ltI c59)
            refine lv_iconst (v := 0) hx hb d_10_14_148 (by decide) ?_
            exact q_retz C0 V (by decide) (⟨hI, hF, t0_0, t0_1, lx39, t0_3, t0_4, t0_5, t0_6, t0_7, t0_8, j50, hO44, (show 0 ≤ (0 : Int32).toInt from (by have z11 : (0 : Int32).toInt = 0 := rfl; omega)), (show (0 : Int32).toInt ≤ 1 from (by have z11 : (0 : Int32).toInt = 0 := rfl; omega)), (show t0_0.toInt ≤ t0_0.toInt from (by have z11 : (0 : Int32).toInt = 0 := rfl; omega)), (show t0_0.toInt ≤ t0_0.toInt from (by have z11 : (0 : Int32).toInt = 0 := rfl; omega)), (show t0_1.toInt ≤ t0_1.toInt from (by have z11 : (0 : Int32).toInt = 0 := rfl; omega)), (show t0_1.toInt ≤ t0_1.toInt from (by have z11 : (0 : Int32).toInt = 0 := rfl; omega)), (show t0_3.toInt ≤ t0_3.toInt from (by have z11 : (0 : Int32).toInt = 0 := rfl; omega)), (show t0_3.toInt ≤ t0_3.toInt from (by have z11 : (0 : Int32).toInt = 0 := rfl; omega)), (show t0_4.toInt ≤ t0_4.toInt from (by have z11 : (0 : Int32).toInt = 0 := rfl; omega)), (show t0_4.toInt ≤ t0_4.toInt from (by have z11 : (0 : Int32).toInt = 0 := rfl; omega)), (show t0_5.toInt ≤ t0_5.toInt from (by have z11 : (0 : Int32).toInt = 0 := rfl; omega)), (show t0_5.toInt ≤ t0_5.toInt from (by have z11 : (0 : Int32).toInt = 0 := rfl; omega)), (show t0_6.toInt ≤ t0_6.toInt from (by have z11 : (0 : Int32).toInt = 0 := rfl; omega)), (show t0_6.toInt ≤ t0_6.toInt from (by have z11 : (0 : Int32).toInt = 0 := rfl; omega)), (show t0_7.toInt ≤ t0_7.toInt from (by have z11 : (0 : Int32).toInt = 0 := rfl; omega)), (show t0_7.toInt ≤ t0_7.toInt from (by have z11 : (0 : Int32).toInt = 0 := rfl; omega)), (show t0_8.toInt ≤ t0_8.toInt from (by have z11 : (0 : Int32).toInt = 0 := rfl; omega)), (show t0_8.toInt ≤ t0_8.toInt from (by have z11 : (0 : Int32).toInt = 0 := rfl; omega))⟩) d_10_14_149
          ·
            have b61 : q_F (a57.toInt ≤ x2.toInt) := (q_nltI c59)
            refine lv_iconst (v := 1) hx hb d_10_14_144 (by decide) ?_
            refine lv_goto (tgt := 149) hx hb d_10_14_145 (by decide) ?_
            exact q_retz C0 V (by decide) (⟨hI, hF, t0_0, t0_1, lx39, t0_3, t0_4, t0_5, t0_6, t0_7, t0_8, j50, hO44, (show 0 ≤ (1 : Int32).toInt from (by have z11 : (1 : Int32).toInt = 1 := rfl; omega)), (show (1 : Int32).toInt ≤ 1 from (by have z11 : (1 : Int32).toInt = 1 := rfl; omega)), (show t0_0.toInt ≤ t0_0.toInt from (by have z11 : (1 : Int32).toInt = 1 := rfl; omega)), (show t0_0.toInt ≤ t0_0.toInt from (by have z11 : (1 : Int32).toInt = 1 := rfl; omega)), (show t0_1.toInt ≤ t0_1.toInt from (by have z11 : (1 : Int32).toInt = 1 := rfl; omega)), (show t0_1.toInt ≤ t0_1.toInt from (by have z11 : (1 : Int32).toInt = 1 := rfl; omega)), (show t0_3.toInt ≤ t0_3.toInt from (by have z11 : (1 : Int32).toInt = 1 := rfl; omega)), (show t0_3.toInt ≤ t0_3.toInt from (by have z11 : (1 : Int32).toInt = 1 := rfl; omega)), (show t0_4.toInt ≤ t0_4.toInt from (by have z11 : (1 : Int32).toInt = 1 := rfl; omega)), (show t0_4.toInt ≤ t0_4.toInt from (by have z11 : (1 : Int32).toInt = 1 := rfl; omega)), (show t0_5.toInt ≤ t0_5.toInt from (by have z11 : (1 : Int32).toInt = 1 := rfl; omega)), (show t0_5.toInt ≤ t0_5.toInt from (by have z11 : (1 : Int32).toInt = 1 := rfl; omega)), (show t0_6.toInt ≤ t0_6.toInt from (by have z11 : (1 : Int32).toInt = 1 := rfl; omega)), (show t0_6.toInt ≤ t0_6.toInt from (by have z11 : (1 : Int32).toInt = 1 := rfl; omega)), (show t0_7.toInt ≤ t0_7.toInt from (by have z11 : (1 : Int32).toInt = 1 := rfl; omega)), (show t0_7.toInt ≤ t0_7.toInt from (by have z11 : (1 : Int32).toInt = 1 := rfl; omega)), (show t0_8.toInt ≤ t0_8.toInt from (by have z11 : (1 : Int32).toInt = 1 := rfl; omega)), (show t0_8.toInt ≤ t0_8.toInt from (by have z11 : (1 : Int32).toInt = 1 := rfl; omega))⟩) d_10_14_149
      ·
        intro J46
        refine lv_icmp_ge (tgt := 117) hx hb d_10_14_69 (by decide) (fun c62 => ?_) (fun c62 => ?_)
        ·
          have b63 : q_F (t0_3.toInt ≤ lx39.toInt) := (q_leI c62)
          exact J46 (()) _ _ _ w43 ⟨V, q_lw hl (q_lw1 0 rfl (q_lw1 1 rfl (q_lw1 2 rfl (q_lw1 3 rfl (q_lw1 4 rfl q_lw0)))))⟩
        ·
          have b64 : q_F (lx39.toInt < t0_3.toInt) := (q_nleI c62)
          refine lv_aload_n hx hb d_10_14_72 rfl (lv_at hl 3 rfl) ?_
          refine q_goi V (q_runV (As := []) (rest := []) (d := 3) (mc := 0) (ms := 0) (ci := 8) C0 V rfl LV_Rea_43 (T_Rea_digitHere l D g q w43   hI   _) rfl rfl hO44 rfl hl.1 rfl (Nat.le_of_ble_eq_true rfl) ⟨by decide, by decide⟩ ⟨Nat.le_of_ble_eq_true rfl, Nat.le_of_ble_eq_true rfl⟩ d_10_14_73) (fun a67 u65 H locs hp66 V => ?_)
          obtain ⟨rfl, b68, b69⟩ := hp66
          replace b68 : q_F (0 ≤ a67.toInt) := b68
          replace b69 : q_F (a67.toInt ≤ 99) := b69
          refine lv_bipush (v := 10) hx hb d_10_14_76 (by decide) ?_
          refine lv_icmp_ge (tgt := 117) hx hb d_10_14_78 (by decide) (fun c70 => ?_) (fun c70 => ?_)
          ·
            have b71 : q_F (10 ≤ a67.toInt) := (q_leI c70)
            exact J46 (()) _ _ _ w43 ⟨V, q_lw hl (q_lw1 0 rfl (q_lw1 1 rfl (q_lw1 2 rfl (q_lw1 3 rfl (q_lw1 4 rfl q_lw0)))))⟩
          ·
            have b72 : q_F (a67.toInt < 10) := (q_nleI c70)
            refine lv_lload hx hb d_10_14_81 (lv_at hl 0 rfl) ?_
            refine q_ldc2 C0 rfl w_636 d_10_14_83 ?_
            refine W.lcmp hx hb d_10_14_86 ?_
            obtain ⟨a73, e74⟩ := q_nm (lg_cmp lx38 100000000000 : Int32)
            refine q_ti (v := a73) e74 ?_
            have b75 : q_F (-1 ≤ a73.toInt ∧ a73.toInt ≤ 1 ∧ ((a73.toInt = -1 ∧ lx38.toInt < 100000000000) ∨ (a73.toInt = 0 ∧ lx38.toInt = 100000000000) ∨ (a73.toInt = 1 ∧ 100000000000 < lx38.toInt))) := (by rw [← e74]; show -1 ≤ (lg_cmp lx38 100000000000 : Int32).toInt ∧ (lg_cmp lx38 100000000000 : Int32).toInt ≤ 1 ∧ (((lg_cmp lx38 100000000000 : Int32).toInt = -1 ∧ lx38.toInt < 100000000000) ∨ ((lg_cmp lx38 100000000000 : Int32).toInt = 0 ∧ lx38.toInt = 100000000000) ∨ ((lg_cmp lx38 100000000000 : Int32).toInt = 1 ∧ 100000000000 < lx38.toInt)); exact (by have y1 : (100000000000 : Int64).toInt = 100000000000 := rfl; have z := s_lcmp (a := lx38) (b := 100000000000); omega))
            refine lv_if_ge (tgt := 104) hx hb d_10_14_87 (by decide) (fun c76 => ?_) (fun c76 => ?_)
            ·
              have b77 : q_F (0 ≤ a73.toInt) := (q_leI c76)
              refine lv_aload_n hx hb d_10_14_104 rfl (lv_at hl 3 rfl) ?_
              refine lv_dup hx hb d_10_14_105 rfl ?_
              refine q_get (ci := 8) (j := 4) (v := .int lx39) C0 V i_Rea rfl rfl hO44 (by decide) w_290 rfl d_10_14_106 ?_
              refine lv_iconst (v := 1) hx hb d_10_14_109 (by decide) ?_
              refine lv_iadd hx hb d_10_14_110 ?_
              obtain ⟨a78, e79⟩ := q_nm (lx39 + 1 : Int32)
              refine q_ti (v := a78) e79 ?_
              have b80 : q_F (a78.toInt = lx39.toInt + 1) := (by rw [← e79]; show (lx39 + 1 : Int32).toInt = lx39.toInt + 1; exact q_addI (x := lx39.toInt) (y := 1) rfl (by decide) (by have t1 : lx33.toInt ≤ lx39.toInt := i41; have _ := q_lo32 (x := lx33); have _ := q_hi32 (x := lx33); have t2 : lx39.toInt < t0_3.toInt := b64; have _ := q_lo32 (x := t0_3); have _ := q_hi32 (x := t0_3); omega) (by have t1 : lx33.toInt ≤ lx39.toInt := i41; have _ := q_lo32 (x := lx33); have _ := q_hi32 (x := lx33); have t2 : lx39.toInt < t0_3.toInt := b64; have _ := q_lo32 (x := t0_3); have _ := q_hi32 (x := t0_3); omega))
              refine q_put (ci := 8) (j := 4) (v := .int a78) (ty := .int) C0 V i_Rea o_Rea n_Rea rfl rfl hO44 (by decide) w_290 rfl rfl rfl rfl (Nat.le_of_ble_eq_true rfl) d_10_14_111 (fun H locs w81 hu82 hO44 V => ?_)
              replace hO44 : w81[38]? = (some (q 38, .inr (8, [.long t0_0, .long t0_1, .ref (q 1), .ref (q 9), .int a78, .int t0_3, .int t0_4, .int t0_5, .int t0_6, .int t0_7, .int t0_8, .long t0_9])) : Option (Nat × va_E)) := hO44
              replace hI := n_p38 hI hu82 hO44 ⟨(by have t1 : 0 ≤ t0_4.toInt ∧ t0_4.toInt ≤ 1 := btt0_4; omega), (by have t1 : 0 ≤ t0_4.toInt ∧ t0_4.toInt ≤ 1 := btt0_4; omega)⟩ ⟨(by have t1 : 0 ≤ t0_8.toInt ∧ t0_8.toInt ≤ 1 := btt0_8; omega), (by have t1 : 0 ≤ t0_8.toInt ∧ t0_8.toInt ≤ 1 := btt0_8; omega)⟩
              replace hF := q_us hF hu82 (by simp)
              refine lv_goto (tgt := 61) hx hb d_10_14_114 (by decide) ?_
              exact ih42 ((lx38 : Int64), (a78 : Int32)) _ _ _ _ (show (t0_3.toInt - a78.toInt).toNat < (t0_3.toInt - lx39.toInt).toNat from by have t1 : a78.toInt = lx39.toInt + 1 := b80; have t2 : lx39.toInt < t0_3.toInt := b64; omega) ⟨(show q_F (0 ≤ lx38.toInt) from (show 0 ≤ lx38.toInt from by have t1 : 0 ≤ lx38.toInt := i40; omega)), (show q_F (lx33.toInt ≤ a78.toInt) from (show lx33.toInt ≤ a78.toInt from by have t1 : lx33.toInt ≤ lx39.toInt := i41; have t2 : a78.toInt = lx39.toInt + 1 := b80; omega)), V, q_lw hl (q_lw1 0 rfl (q_lw1 1 rfl (q_lw1 2 rfl (q_lw1 3 rfl (q_lw1 4 rfl q_lw0))))), hI, hF, hO44⟩
            ·
              have b83 : q_F (a73.toInt < 0) := (q_nleI c76)
              refine lv_lload hx hb d_10_14_90 (lv_at hl 0 rfl) ?_
              refine q_ldc2 C0 rfl w_637 d_10_14_92 ?_
              refine lv_lmul hx hb d_10_14_95 ?_
              obtain ⟨j84, e85⟩ := q_nm (lx38 * 10 : Int64)
              refine q_tl (v := j84) e85 ?_
              have b86 : q_F (j84.toInt = lx38.toInt * 10) := (by rw [← e85]; show (lx38 * 10 : Int64).toInt = lx38.toInt * 10; exact q_mulL (x := lx38.toInt) (y := 10) rfl (by decide) (by have t1 : 0 ≤ lx38.toInt := i40; have t2 : -1 ≤ a73.toInt ∧ a73.toInt ≤ 1 ∧ ((a73.toInt = -1 ∧ lx38.toInt < 100000000000) ∨ (a73.toInt = 0 ∧ lx38.toInt = 100000000000) ∨ (a73.toInt = 1 ∧ 100000000000 < lx38.toInt)) := b75; have t3 : a73.toInt < 0 := b83; omega) (by have t1 : 0 ≤ lx38.toInt := i40; have t2 : -1 ≤ a73.toInt ∧ a73.toInt ≤ 1 ∧ ((a73.toInt = -1 ∧ lx38.toInt < 100000000000) ∨ (a73.toInt = 0 ∧ lx38.toInt = 100000000000) ∨ (a73.toInt = 1 ∧ 100000000000 < lx38.toInt)) := b75; have t3 : a73.toInt < 0 := b83; omega))
              refine lv_aload_n hx hb d_10_14_96 rfl (lv_at hl 3 rfl) ?_
              refine q_goi V (q_runV (As := []) (rest := [.long j84]) (d := 3) (mc := 0) (ms := 0) (ci := 8) C0 V rfl LV_Rea_43 (T_Rea_digitHere l D g q w43   hI   _) rfl rfl hO44 rfl hl.1 rfl (Nat.le_of_ble_eq_true rfl) ⟨by decide, by decide⟩ ⟨Nat.le_of_ble_eq_true rfl, Nat.le_of_ble_eq_true rfl⟩ d_10_14_97) (fun a89 u87 H locs hp88 V => ?_)
              obtain ⟨rfl, b90, b91⟩ := hp88
              replace b90 : q_F (0 ≤ a89.toInt) := b90
              replace b91 : q_F (a89.toInt ≤ 99) := b91
              refine lv_i2l hx hb d_10_14_100 rfl ?_
              obtain ⟨j92, e93⟩ := q_nm (a89.toInt64 : Int64)
              refine q_tl (v := j92) e93 ?_
              have b94 : q_F (j92.toInt = a89.toInt) := (by rw [← e93]; show (a89.toInt64 : Int64).toInt = a89.toInt; exact q_i2l rfl)
              refine lv_ladd hx hb d_10_14_101 ?_
              obtain ⟨j95, e96⟩ := q_nm (j84 + j92 : Int64)
              refine q_tl (v := j95) e96 ?_
              have b97 : q_F (j95.toInt = j84.toInt + j92.toInt) := (by rw [← e96]; show (j84 + j92 : Int64).toInt = j84.toInt + j92.toInt; exact q_addL (x := j84.toInt) (y := j92.toInt) rfl rfl (by have t1 : 0 ≤ lx38.toInt := i40; have t2 : j84.toInt = lx38.toInt * 10 := b86; have t3 : 0 ≤ a89.toInt := b90; have t4 : j92.toInt = a89.toInt := b94; have t5 : -1 ≤ a73.toInt ∧ a73.toInt ≤ 1 ∧ ((a73.toInt = -1 ∧ lx38.toInt < 100000000000) ∨ (a73.toInt = 0 ∧ lx38.toInt = 100000000000) ∨ (a73.toInt = 1 ∧ 100000000000 < lx38.toInt)) := b75; have t6 : a73.toInt < 0 := b83; have t7 : a89.toInt ≤ 99 := b91; omega) (by have t1 : 0 ≤ lx38.toInt := i40; have t2 : j84.toInt = lx38.toInt * 10 := b86; have t3 : 0 ≤ a89.toInt := b90; have t4 : j92.toInt = a89.toInt := b94; have t5 : -1 ≤ a73.toInt ∧ a73.toInt ≤ 1 ∧ ((a73.toInt = -1 ∧ lx38.toInt < 100000000000) ∨ (a73.toInt = 0 ∧ lx38.toInt = 100000000000) ∨ (a73.toInt = 1 ∧ 100000000000 < lx38.toInt)) := b75; have t6 : a73.toInt < 0 := b83; have t7 : a89.toInt ≤ 99 := b91; omega))
              refine lv_lstore (lv' := [(4, .long j95), (3, .int lx33), (2, .int lx23), (0, .ref (q 38)), (1, .int x2)]) hx hb d_10_14_102 hl (by decide) rfl (fun ls hl => ?_)
              refine lv_aload_n hx hb d_10_14_104 rfl (lv_at hl 3 rfl) ?_
              refine lv_dup hx hb d_10_14_105 rfl ?_
              refine q_get (ci := 8) (j := 4) (v := .int lx39) C0 V i_Rea rfl rfl hO44 (by decide) w_290 rfl d_10_14_106 ?_
              refine lv_iconst (v := 1) hx hb d_10_14_109 (by decide) ?_
              refine lv_iadd hx hb d_10_14_110 ?_
              obtain ⟨a98, e99⟩ := q_nm (lx39 + 1 : Int32)
              refine q_ti (v := a98) e99 ?_
              have b100 : q_F (a98.toInt = lx39.toInt + 1) := (by rw [← e99]; show (lx39 + 1 : Int32).toInt = lx39.toInt + 1; exact q_addI (x := lx39.toInt) (y := 1) rfl (by decide) (by have t1 : lx33.toInt ≤ lx39.toInt := i41; have _ := q_lo32 (x := lx33); have _ := q_hi32 (x := lx33); have t2 : lx39.toInt < t0_3.toInt := b64; have _ := q_lo32 (x := t0_3); have _ := q_hi32 (x := t0_3); omega) (by have t1 : lx33.toInt ≤ lx39.toInt := i41; have _ := q_lo32 (x := lx33); have _ := q_hi32 (x := lx33); have t2 : lx39.toInt < t0_3.toInt := b64; have _ := q_lo32 (x := t0_3); have _ := q_hi32 (x := t0_3); omega))
              refine q_put (ci := 8) (j := 4) (v := .int a98) (ty := .int) C0 V i_Rea o_Rea n_Rea rfl rfl hO44 (by decide) w_290 rfl rfl rfl rfl (Nat.le_of_ble_eq_true rfl) d_10_14_111 (fun H locs w101 hu102 hO44 V => ?_)
              replace hO44 : w101[38]? = (some (q 38, .inr (8, [.long t0_0, .long t0_1, .ref (q 1), .ref (q 9), .int a98, .int t0_3, .int t0_4, .int t0_5, .int t0_6, .int t0_7, .int t0_8, .long t0_9])) : Option (Nat × va_E)) := hO44
              replace hI := n_p38 hI hu102 hO44 ⟨(by have t1 : 0 ≤ t0_4.toInt ∧ t0_4.toInt ≤ 1 := btt0_4; omega), (by have t1 : 0 ≤ t0_4.toInt ∧ t0_4.toInt ≤ 1 := btt0_4; omega)⟩ ⟨(by have t1 : 0 ≤ t0_8.toInt ∧ t0_8.toInt ≤ 1 := btt0_8; omega), (by have t1 : 0 ≤ t0_8.toInt ∧ t0_8.toInt ≤ 1 := btt0_8; omega)⟩
              replace hF := q_us hF hu102 (by simp)
              refine lv_goto (tgt := 61) hx hb d_10_14_114 (by decide) ?_
              exact ih42 ((j95 : Int64), (a98 : Int32)) _ _ _ _ (show (t0_3.toInt - a98.toInt).toNat < (t0_3.toInt - lx39.toInt).toNat from by have t1 : a98.toInt = lx39.toInt + 1 := b100; have t2 : lx39.toInt < t0_3.toInt := b64; omega) ⟨(show q_F (0 ≤ j95.toInt) from (show 0 ≤ j95.toInt from by have t1 : 0 ≤ lx38.toInt := i40; have t2 : j84.toInt = lx38.toInt * 10 := b86; have t3 : 0 ≤ a89.toInt := b90; have t4 : j92.toInt = a89.toInt := b94; have t5 : j95.toInt = j84.toInt + j92.toInt := b97; omega)), (show q_F (lx33.toInt ≤ a98.toInt) from (show lx33.toInt ≤ a98.toInt from by have t1 : lx33.toInt ≤ lx39.toInt := i41; have t2 : a98.toInt = lx39.toInt + 1 := b100; omega)), V, q_lw hl (q_lw1 0 rfl (q_lw1 1 rfl (q_lw1 2 rfl (q_lw1 3 rfl (q_lw1 4 rfl q_lw0))))), hI, hF, hO44⟩
    ·
      intro J35
      refine q_join (X := Unit) (fun z H locs ls _ => q_Wd D g (va_A ws sz) s w16 H locs ∧ lv_has ls 6 [(2, .int lx23), (0, .ref (q 38)), (1, .int x2)]) (fun z => []) 43 0 0 ?_ ?_
      ·
        rintro _ H locs ls _ ⟨V, hl⟩
        replace hl : lv_has ls 6 [(2, .int lx23), (0, .ref (q 38)), (1, .int x2)] := hl
        refine lv_aload_n hx hb d_10_14_43 rfl (lv_at hl 1 rfl) ?_
        refine lv_dup hx hb d_10_14_44 rfl ?_
        refine q_get (ci := 8) (j := 4) (v := .int a14) C0 V i_Rea rfl rfl hT0 (by decide) w_290 rfl d_10_14_45 ?_
        refine lv_iconst (v := 1) hx hb d_10_14_48 (by decide) ?_
        refine lv_iadd hx hb d_10_14_49 ?_
        obtain ⟨a105, e106⟩ := q_nm (a14 + 1 : Int32)
        refine q_ti (v := a105) e106 ?_
        refine q_put (ci := 8) (j := 4) (v := .int a105) (ty := .int) C0 V i_Rea o_Rea n_Rea rfl rfl hT0 (by decide) w_290 rfl rfl rfl rfl (Nat.le_of_ble_eq_true rfl) d_10_14_50 (fun H locs w107 hu108 hT0 V => ?_)
        replace hT0 : w107[38]? = (some (q 38, .inr (8, [.long t0_0, .long t0_1, .ref (q 1), .ref (q 9), .int a105, .int t0_3, .int t0_4, .int t0_5, .int t0_6, .int t0_7, .int t0_8, .long t0_9])) : Option (Nat × va_E)) := hT0
        replace hI := n_p38 hI hu108 hT0 ⟨(by have t1 : 0 ≤ t0_4.toInt ∧ t0_4.toInt ≤ 1 := btt0_4; omega), (by have t1 : 0 ≤ t0_4.toInt ∧ t0_4.toInt ≤ 1 := btt0_4; omega)⟩ ⟨(by have t1 : 0 ≤ t0_8.toInt ∧ t0_8.toInt ≤ 1 := btt0_8; omega), (by have t1 : 0 ≤ t0_8.toInt ∧ t0_8.toInt ≤ 1 := btt0_8; omega)⟩
        replace hF := q_us hF hu108 (by simp)
        exact J35 ((a105 : Int32)) _ _ _ _ ⟨V, q_lw hl (q_lw1 0 rfl (q_lw1 1 rfl (q_lw1 2 rfl q_lw0))), hI, hF, hT0⟩
      ·
        intro J104
        refine lv_icmp_eq (tgt := 43) hx hb d_10_14_31 (by decide) (fun c109 => ?_) (fun c109 => ?_)
        ·
          have b110 : q_F (a30.toInt = 45) := (q_eqI c109)
          exact J104 (()) _ _ _ w16 ⟨V, q_lw hl (q_lw1 0 rfl (q_lw1 1 rfl (q_lw1 2 rfl q_lw0)))⟩
        ·
          have b111 : q_F (a30.toInt ≠ 45) := (q_neI c109)
          refine lv_aload_n hx hb d_10_14_34 rfl (lv_at hl 1 rfl) ?_
          refine q_goi V (q_runV (As := []) (rest := []) (d := 2) (mc := 0) (ms := 0) (ci := 8) C0 V rfl LV_Rea_70 (T_Rea_here l D g q w16   hI   _) rfl rfl hT0 rfl hl.1 rfl (Nat.le_of_ble_eq_true rfl) ⟨by decide, by decide⟩ ⟨Nat.le_of_ble_eq_true rfl, Nat.le_of_ble_eq_true rfl⟩ d_10_14_35) (fun a114 u112 H locs hp113 V => ?_)
          obtain ⟨rfl, b115, b116⟩ := hp113
          replace b115 : q_F (0 ≤ a114.toInt + 1) := b115
          replace b116 : q_F (a114.toInt ≤ 255) := b116
          refine lv_bipush (v := 43) hx hb d_10_14_38 (by decide) ?_
          refine lv_icmp_ne (tgt := 53) hx hb d_10_14_40 (by decide) (fun c117 => ?_) (fun c117 => ?_)
          ·
            have b118 : q_F (a114.toInt ≠ 43) := (q_neI c117)
            exact J35 ((a14 : Int32)) _ _ _ _ ⟨V, q_lw hl (q_lw1 0 rfl (q_lw1 1 rfl (q_lw1 2 rfl q_lw0))), hI, hF, hT0⟩
          ·
            have b119 : q_F (a114.toInt = 43) := (q_eqI c117)
            exact J104 (()) _ _ _ w16 ⟨V, q_lw hl (q_lw1 0 rfl (q_lw1 1 rfl (q_lw1 2 rfl q_lw0)))⟩
  ·
    intro J25
    refine lv_icmp_ne (tgt := 23) hx hb d_10_14_16 (by decide) (fun c120 => ?_) (fun c120 => ?_)
    ·
      have b121 : q_F (a20.toInt ≠ 45) := (q_neI c120)
      refine lv_iconst (v := 1) hx hb d_10_14_23 (by decide) ?_
      exact J25 ((1 : Int32)) _ _ _ w16 ⟨(show q_F (0 ≤ 1 + 1) from (show 0 ≤ 1 + 1 from by omega)), (show q_F (1 ≤ 1) from (show 1 ≤ 1 from by omega)), V, q_lw hl (q_lw1 0 rfl (q_lw1 1 rfl q_lw0))⟩
    ·
      have b122 : q_F (a20.toInt = 45) := (q_eqI c120)
      refine lv_iconst (v := (-1)) hx hb d_10_14_19 (by decide) ?_
      refine lv_goto (tgt := 24) hx hb d_10_14_20 (by decide) ?_
      exact J25 (((-1) : Int32)) _ _ _ w16 ⟨(show q_F (0 ≤ (-1) + 1) from (show 0 ≤ (-1) + 1 from by omega)), (show q_F ((-1) ≤ 1) from (show (-1) ≤ 1 from by omega)), V, q_lw hl (q_lw1 0 rfl (q_lw1 1 rfl q_lw0))⟩
theorem d_10_5_0 : decode prog_10_method_5_code 0 = .ok (.aload_n 0, 1) := by decide +kernel
theorem d_10_5_1 : decode prog_10_method_5_code 1 = .ok (.getfield 40, 3) := by decide +kernel
theorem d_10_5_4 : decode prog_10_method_5_code 4 = .ok (.aload_n 0, 1) := by decide +kernel
theorem d_10_5_5 : decode prog_10_method_5_code 5 = .ok (.getfield 36, 3) := by decide +kernel
theorem d_10_5_8 : decode prog_10_method_5_code 8 = .ok (.isub, 1) := by decide +kernel
theorem d_10_5_9 : decode prog_10_method_5_code 9 = .ok (.iconst 2, 1) := by decide +kernel
theorem d_10_5_57 : decode prog_10_method_5_code 57 = .ok (.istore_n 1, 1) := by decide +kernel
theorem d_10_5_58 : decode prog_10_method_5_code 58 = .ok (.aload_n 0, 1) := by decide +kernel
theorem d_10_5_59 : decode prog_10_method_5_code 59 = .ok (.dup, 1) := by decide +kernel
theorem d_10_5_60 : decode prog_10_method_5_code 60 = .ok (.getfield 36, 3) := by decide +kernel
theorem d_10_5_63 : decode prog_10_method_5_code 63 = .ok (.iload_n 1, 1) := by decide +kernel
theorem d_10_5_64 : decode prog_10_method_5_code 64 = .ok (.ifCond .eq 7, 3) := by decide +kernel
theorem d_10_5_71 : decode prog_10_method_5_code 71 = .ok (.iconst 0, 1) := by decide +kernel
theorem d_10_5_72 : decode prog_10_method_5_code 72 = .ok (.iadd, 1) := by decide +kernel
theorem d_10_5_73 : decode prog_10_method_5_code 73 = .ok (.putfield 36, 3) := by decide +kernel
theorem d_10_5_76 : decode prog_10_method_5_code 76 = .ok (.iload_n 1, 1) := by decide +kernel
theorem d_10_5_77 : decode prog_10_method_5_code 77 = .ok (.ireturn, 1) := by decide +kernel
theorem d_10_5_67 : decode prog_10_method_5_code 67 = .ok (.iconst 2, 1) := by decide +kernel
theorem d_10_5_68 : decode prog_10_method_5_code 68 = .ok (.goto 4, 3) := by decide +kernel
theorem d_10_5_56 : decode prog_10_method_5_code 56 = .ok (.iconst 0, 1) := by decide +kernel
theorem d_10_5_10 : decode prog_10_method_5_code 10 = .ok (.if_icmp .lt 46, 3) := by decide +kernel
theorem d_10_5_13 : decode prog_10_method_5_code 13 = .ok (.aload_n 0, 1) := by decide +kernel
theorem d_10_5_14 : decode prog_10_method_5_code 14 = .ok (.getfield 9, 3) := by decide +kernel
theorem d_10_5_17 : decode prog_10_method_5_code 17 = .ok (.aload_n 0, 1) := by decide +kernel
theorem d_10_5_18 : decode prog_10_method_5_code 18 = .ok (.getfield 36, 3) := by decide +kernel
theorem d_10_5_21 : decode prog_10_method_5_code 21 = .ok (.i2l, 1) := by decide +kernel
theorem d_10_5_22 : decode prog_10_method_5_code 22 = .ok (.invokevirtual 139, 3) := by decide +kernel
theorem d_10_5_25 : decode prog_10_method_5_code 25 = .ok (.bipush 48, 2) := by decide +kernel
theorem d_10_5_27 : decode prog_10_method_5_code 27 = .ok (.if_icmp .ne 29, 3) := by decide +kernel
theorem d_10_5_30 : decode prog_10_method_5_code 30 = .ok (.aload_n 0, 1) := by decide +kernel
theorem d_10_5_31 : decode prog_10_method_5_code 31 = .ok (.getfield 9, 3) := by decide +kernel
theorem d_10_5_34 : decode prog_10_method_5_code 34 = .ok (.aload_n 0, 1) := by decide +kernel
theorem d_10_5_35 : decode prog_10_method_5_code 35 = .ok (.getfield 36, 3) := by decide +kernel
theorem d_10_5_38 : decode prog_10_method_5_code 38 = .ok (.iconst 1, 1) := by decide +kernel
theorem d_10_5_39 : decode prog_10_method_5_code 39 = .ok (.iadd, 1) := by decide +kernel
theorem d_10_5_40 : decode prog_10_method_5_code 40 = .ok (.i2l, 1) := by decide +kernel
theorem d_10_5_41 : decode prog_10_method_5_code 41 = .ok (.invokevirtual 139, 3) := by decide +kernel
theorem d_10_5_44 : decode prog_10_method_5_code 44 = .ok (.bipush 32, 2) := by decide +kernel
theorem d_10_5_46 : decode prog_10_method_5_code 46 = .ok (.ior, 1) := by decide +kernel
theorem d_10_5_47 : decode prog_10_method_5_code 47 = .ok (.bipush 120, 2) := by decide +kernel
theorem d_10_5_49 : decode prog_10_method_5_code 49 = .ok (.if_icmp .ne 7, 3) := by decide +kernel
theorem d_10_5_52 : decode prog_10_method_5_code 52 = .ok (.iconst 1, 1) := by decide +kernel
theorem d_10_5_53 : decode prog_10_method_5_code 53 = .ok (.goto 4, 3) := by decide +kernel
def y_Rea_takeHexadecimalMark : MethodName := ⟨"NumberHouse$Reader", "takeHexadecimalMark", "()Z"⟩
set_option maxRecDepth 100000 in
set_option maxHeartbeats 4000000 in
theorem T_Rea_takeHexadecimalMark (l : Launch) (D : va_G) (g : Nat → ClassId) (q : Nat → Nat) (ws : va_W) (hI : q_I (nsh g q) q ws) (t0_0 : Int64) (t0_1 : Int64) (t0_2 : Int32) (t0_3 : Int32) (t0_4 : Int32) (t0_5 : Int32) (t0_6 : Int32) (t0_7 : Int32) (t0_8 : Int32) (t0_9 : Int64) (hT0 : ws[38]? = (some (q 38, .inr (8, [.long t0_0, .long t0_1, .ref (q 1), .ref (q 9), .int t0_2, .int t0_3, .int t0_4, .int t0_5, .int t0_6, .int t0_7, .int t0_8, .long t0_9])) : Option (Nat × va_E))) : q_mI l y_Rea_takeHexadecimalMark prog_10_method_5_code 2 (.boolean) 2 0 0 D g [.ref (q 38)] ws (fun r u => q_I (nsh g q) q u ∧ q_un ws u [38] ∧ ∃ (u0_0 : Int64) (u0_1 : Int64) (u0_2 : Int32) (u0_3 : Int32) (u0_4 : Int32) (u0_5 : Int32) (u0_6 : Int32) (u0_7 : Int32) (u0_8 : Int32) (u0_9 : Int64), u[38]? = (some (q 38, .inr (8, [.long u0_0, .long u0_1, .ref (q 1), .ref (q 9), .int u0_2, .int u0_3, .int u0_4, .int u0_5, .int u0_6, .int u0_7, .int u0_8, .long u0_9])) : Option (Nat × va_E)) ∧ (0 ≤ r.toInt) ∧ (r.toInt ≤ 1) ∧ (t0_0.toInt ≤ u0_0.toInt) ∧ (u0_0.toInt ≤ t0_0.toInt) ∧ (t0_1.toInt ≤ u0_1.toInt) ∧ (u0_1.toInt ≤ t0_1.toInt) ∧ (t0_3.toInt ≤ u0_3.toInt) ∧ (u0_3.toInt ≤ t0_3.toInt) ∧ (t0_4.toInt ≤ u0_4.toInt) ∧ (u0_4.toInt ≤ t0_4.toInt) ∧ (t0_5.toInt ≤ u0_5.toInt) ∧ (u0_5.toInt ≤ t0_5.toInt) ∧ (t0_6.toInt ≤ u0_6.toInt) ∧ (u0_6.toInt ≤ t0_6.toInt) ∧ (t0_7.toInt ≤ u0_7.toInt) ∧ (u0_7.toInt ≤ t0_7.toInt) ∧ (t0_8.toInt ≤ u0_8.toInt) ∧ (u0_8.toInt ≤ t0_8.toInt) ∧ (t0_9.toInt ≤ u0_9.toInt) ∧ (u0_9.toInt ≤ t0_9.toInt)) := by
  intro sz
  refine q_into (by decide) (Nat.le_of_ble_eq_true rfl) ?_
  intro p e s m below meth c ls hsz C0 V hl
  have hx := C0.1
  have hb := C0.2.1
  obtain ⟨yy0_0, yy0_1, yy0_2, yy0_3, yy0_4, yy0_5, yy0_6, yy0_7, yy0_8, yy0_9, hh0, btt0_4, btt0_8⟩ := n_o38 hI
  obtain ⟨rfl, rfl, rfl, rfl, rfl, rfl, rfl, rfl, rfl, rfl⟩ : t0_0 = yy0_0 ∧ t0_1 = yy0_1 ∧ t0_2 = yy0_2 ∧ t0_3 = yy0_3 ∧ t0_4 = yy0_4 ∧ t0_5 = yy0_5 ∧ t0_6 = yy0_6 ∧ t0_7 = yy0_7 ∧ t0_8 = yy0_8 ∧ t0_9 = yy0_9 := by have z := Option.some.inj (hT0.symm.trans hh0); simpa using z
  replace btt0_4 : q_F (0 ≤ t0_4.toInt ∧ t0_4.toInt ≤ 1) := btt0_4
  replace btt0_8 : q_F (0 ≤ t0_8.toInt ∧ t0_8.toInt ≤ 1) := btt0_8
  have hF : q_un ws ws [38] := q_u0
  have hl : lv_has ls 2 [(0, .ref (q 38))] := hl
  refine lv_aload_n hx hb d_10_5_0 rfl (lv_at hl 0 rfl) ?_
  refine q_get (ci := 8) (j := 5) (v := .int t0_3) C0 V i_Rea rfl rfl hT0 (by decide) w_291 rfl d_10_5_1 ?_
  refine lv_aload_n hx hb d_10_5_4 rfl (lv_at hl 0 rfl) ?_
  refine q_get (ci := 8) (j := 4) (v := .int t0_2) C0 V i_Rea rfl rfl hT0 (by decide) w_290 rfl d_10_5_5 ?_
  refine lv_isub hx hb d_10_5_8 ?_
  obtain ⟨a14, e15⟩ := q_nm (t0_3 - t0_2 : Int32)
  refine q_ti (v := a14) e15 ?_
  refine lv_iconst (v := 2) hx hb d_10_5_9 (by decide) ?_
  refine q_join (X := Int32) (fun z H locs ls _ => q_F (0 ≤ z.toInt) ∧ q_F (z.toInt ≤ 1) ∧ q_Wd D g (va_A ws sz) s ws H locs ∧ lv_has ls 2 [(0, .ref (q 38))]) (fun z => [.int z]) 57 0 0 ?_ ?_
  ·
    rintro lx16 H locs ls _ ⟨i19, i20, V, hl⟩
    replace i19 : q_F (0 ≤ lx16.toInt) := i19
    replace i20 : q_F (lx16.toInt ≤ 1) := i20
    replace hl : lv_has ls 2 [(0, .ref (q 38))] := hl
    refine lv_istore_n (lv' := [(1, .int lx16), (0, .ref (q 38))]) hx hb d_10_5_57 rfl hl (by decide) rfl (fun ls hl => ?_)
    refine lv_aload_n hx hb d_10_5_58 rfl (lv_at hl 1 rfl) ?_
    refine lv_dup hx hb d_10_5_59 rfl ?_
    refine q_get (ci := 8) (j := 4) (v := .int t0_2) C0 V i_Rea rfl rfl hT0 (by decide) w_290 rfl d_10_5_60 ?_
    refine lv_iload_n hx hb d_10_5_63 rfl (lv_at hl 0 rfl) ?_
    refine lv_if_eq (tgt := 71) hx hb d_10_5_64 (by decide) (fun c21 => ?_) (fun c21 => ?_)
    ·
      have b22 : q_F (lx16.toInt = 0) := (q_eqI c21)
      refine lv_iconst (v := 0) hx hb d_10_5_71 (by decide) ?_
      refine lv_iadd hx hb d_10_5_72 ?_
      obtain ⟨a23, e24⟩ := q_nm (t0_2 + 0 : Int32)
      refine q_ti (v := a23) e24 ?_
      have b25 : q_F (a23.toInt = t0_2.toInt + 0) := (by rw [← e24]; show (t0_2 + 0 : Int32).toInt = t0_2.toInt + 0; exact q_addI (x := t0_2.toInt) (y := 0) rfl (by decide) (by have _ := q_lo32 (x := t0_2); have _ := q_hi32 (x := t0_2); omega) (by have _ := q_lo32 (x := t0_2); have _ := q_hi32 (x := t0_2); omega))
      refine q_put (ci := 8) (j := 4) (v := .int a23) (ty := .int) C0 V i_Rea o_Rea n_Rea rfl rfl hT0 (by decide) w_290 rfl rfl rfl rfl (Nat.le_of_ble_eq_true rfl) d_10_5_73 (fun H locs w26 hu27 hT0 V => ?_)
      replace hT0 : w26[38]? = (some (q 38, .inr (8, [.long t0_0, .long t0_1, .ref (q 1), .ref (q 9), .int a23, .int t0_3, .int t0_4, .int t0_5, .int t0_6, .int t0_7, .int t0_8, .long t0_9])) : Option (Nat × va_E)) := hT0
      replace hI := n_p38 hI hu27 hT0 ⟨(by have t1 : 0 ≤ t0_4.toInt ∧ t0_4.toInt ≤ 1 := btt0_4; omega), (by have t1 : 0 ≤ t0_4.toInt ∧ t0_4.toInt ≤ 1 := btt0_4; omega)⟩ ⟨(by have t1 : 0 ≤ t0_8.toInt ∧ t0_8.toInt ≤ 1 := btt0_8; omega), (by have t1 : 0 ≤ t0_8.toInt ∧ t0_8.toInt ≤ 1 := btt0_8; omega)⟩
      replace hF := q_us hF hu27 (by simp)
      refine lv_iload_n hx hb d_10_5_76 rfl (lv_at hl 0 rfl) ?_
      exact q_retz C0 V (q_nz01 (q_Ile (x := 0) (y := lx16.toInt) (by decide) rfl (by have t1 : 0 ≤ lx16.toInt := i19; omega)) (q_Ile (x := lx16.toInt) (y := 1) rfl (by decide) (by have t1 : lx16.toInt ≤ 1 := i20; omega))) (⟨hI, hF, t0_0, t0_1, a23, t0_3, t0_4, t0_5, t0_6, t0_7, t0_8, t0_9, hT0, (show 0 ≤ lx16.toInt from (by have t1 : 0 ≤ lx16.toInt := i19; omega)), (show lx16.toInt ≤ 1 from (by have t1 : lx16.toInt ≤ 1 := i20; omega)), (show t0_0.toInt ≤ t0_0.toInt from (by omega)), (show t0_0.toInt ≤ t0_0.toInt from (by omega)), (show t0_1.toInt ≤ t0_1.toInt from (by omega)), (show t0_1.toInt ≤ t0_1.toInt from (by omega)), (show t0_3.toInt ≤ t0_3.toInt from (by omega)), (show t0_3.toInt ≤ t0_3.toInt from (by omega)), (show t0_4.toInt ≤ t0_4.toInt from (by omega)), (show t0_4.toInt ≤ t0_4.toInt from (by omega)), (show t0_5.toInt ≤ t0_5.toInt from (by omega)), (show t0_5.toInt ≤ t0_5.toInt from (by omega)), (show t0_6.toInt ≤ t0_6.toInt from (by omega)), (show t0_6.toInt ≤ t0_6.toInt from (by omega)), (show t0_7.toInt ≤ t0_7.toInt from (by omega)), (show t0_7.toInt ≤ t0_7.toInt from (by omega)), (show t0_8.toInt ≤ t0_8.toInt from (by omega)), (show t0_8.toInt ≤ t0_8.toInt from (by omega)), (show t0_9.toInt ≤ t0_9.toInt from (by omega)), (show t0_9.toInt ≤ t0_9.toInt from (by omega))⟩) d_10_5_77
    ·
      have b28 : q_F (lx16.toInt ≠ 0) := (q_neI c21)
      refine lv_iconst (v := 2) hx hb d_10_5_67 (by decide) ?_
      refine lv_goto (tgt := 72) hx hb d_10_5_68 (by decide) ?_
      refine lv_iadd hx hb d_10_5_72 ?_
      obtain ⟨a29, e30⟩ := q_nm (t0_2 + 2 : Int32)
      refine q_ti (v := a29) e30 ?_
      refine q_put (ci := 8) (j := 4) (v := .int a29) (ty := .int) C0 V i_Rea o_Rea n_Rea rfl rfl hT0 (by decide) w_290 rfl rfl rfl rfl (Nat.le_of_ble_eq_true rfl) d_10_5_73 (fun H locs w31 hu32 hT0 V => ?_)
      replace hT0 : w31[38]? = (some (q 38, .inr (8, [.long t0_0, .long t0_1, .ref (q 1), .ref (q 9), .int a29, .int t0_3, .int t0_4, .int t0_5, .int t0_6, .int t0_7, .int t0_8, .long t0_9])) : Option (Nat × va_E)) := hT0
      replace hI := n_p38 hI hu32 hT0 ⟨(by have t1 : 0 ≤ t0_4.toInt ∧ t0_4.toInt ≤ 1 := btt0_4; omega), (by have t1 : 0 ≤ t0_4.toInt ∧ t0_4.toInt ≤ 1 := btt0_4; omega)⟩ ⟨(by have t1 : 0 ≤ t0_8.toInt ∧ t0_8.toInt ≤ 1 := btt0_8; omega), (by have t1 : 0 ≤ t0_8.toInt ∧ t0_8.toInt ≤ 1 := btt0_8; omega)⟩
      replace hF := q_us hF hu32 (by simp)
      refine lv_iload_n hx hb d_10_5_76 rfl (lv_at hl 0 rfl) ?_
      exact q_retz C0 V (q_nz01 (q_Ile (x := 0) (y := lx16.toInt) (by decide) rfl (by have t1 : 0 ≤ lx16.toInt := i19; omega)) (q_Ile (x := lx16.toInt) (y := 1) rfl (by decide) (by have t1 : lx16.toInt ≤ 1 := i20; omega))) (⟨hI, hF, t0_0, t0_1, a29, t0_3, t0_4, t0_5, t0_6, t0_7, t0_8, t0_9, hT0, (show 0 ≤ lx16.toInt from (by have t1 : 0 ≤ lx16.toInt := i19; omega)), (show lx16.toInt ≤ 1 from (by have t1 : lx16.toInt ≤ 1 := i20; omega)), (show t0_0.toInt ≤ t0_0.toInt from (by omega)), (show t0_0.toInt ≤ t0_0.toInt from (by omega)), (show t0_1.toInt ≤ t0_1.toInt from (by omega)), (show t0_1.toInt ≤ t0_1.toInt from (by omega)), (show t0_3.toInt ≤ t0_3.toInt from (by omega)), (show t0_3.toInt ≤ t0_3.toInt from (by omega)), (show t0_4.toInt ≤ t0_4.toInt from (by omega)), (show t0_4.toInt ≤ t0_4.toInt from (by omega)), (show t0_5.toInt ≤ t0_5.toInt from (by omega)), (show t0_5.toInt ≤ t0_5.toInt from (by omega)), (show t0_6.toInt ≤ t0_6.toInt from (by omega)), (show t0_6.toInt ≤ t0_6.toInt from (by omega)), (show t0_7.toInt ≤ t0_7.toInt from (by omega)), (show t0_7.toInt ≤ t0_7.toInt from (by omega)), (show t0_8.toInt ≤ t0_8.toInt from (by omega)), (show t0_8.toInt ≤ t0_8.toInt from (by omega)), (show t0_9.toInt ≤ t0_9.toInt from (by omega)), (show t0_9.toInt ≤ t0_9.toInt from (by omega))⟩) d_10_5_77
  ·
    intro J18
    refine q_join (X := Unit) (fun z H locs ls _ => q_Wd D g (va_A ws sz) s ws H locs ∧ lv_has ls 2 [(0, .ref (q 38))]) (fun z => []) 56 0 0 ?_ ?_
    ·
      rintro _ H locs ls _ ⟨V, hl⟩
      replace hl : lv_has ls 2 [(0, .ref (q 38))] := hl
      refine lv_iconst (v := 0) hx hb d_10_5_56 (by decide) ?_
      exact J18 ((0 : Int32)) _ _ _ ws ⟨(show q_F (0 ≤ 0) from (show 0 ≤ 0 from by omega)), (show q_F (0 ≤ 1) from (show 0 ≤ 1 from by omega)), V, q_lw hl (q_lw1 0 rfl q_lw0)⟩
    ·
      intro J34
      refine lv_icmp_lt (tgt := 56) hx hb d_10_5_10 (by decide) (fun c35 => ?_) (fun c35 => ?_)
      ·
        have b36 : q_F (a14.toInt < 2) := (q_ltI c35)
        exact J34 (()) _ _ _ ws ⟨V, q_lw hl (q_lw1 0 rfl q_lw0)⟩
      ·
        have b37 : q_F (2 ≤ a14.toInt) := (q_nltI c35)
        refine lv_aload_n hx hb d_10_5_13 rfl (lv_at hl 0 rfl) ?_
        refine q_get (ci := 8) (j := 2) (v := .ref (q 1)) C0 V i_Rea rfl rfl hT0 (by decide) w_288 rfl d_10_5_14 ?_
        refine lv_aload_n hx hb d_10_5_17 rfl (lv_at hl 0 rfl) ?_
        refine q_get (ci := 8) (j := 4) (v := .int t0_2) C0 V i_Rea rfl rfl hT0 (by decide) w_290 rfl d_10_5_18 ?_
        refine lv_i2l hx hb d_10_5_21 rfl ?_
        obtain ⟨j38, e39⟩ := q_nm (t0_2.toInt64 : Int64)
        refine q_tl (v := j38) e39 ?_
        have b40 : q_F (j38.toInt = t0_2.toInt) := (by rw [← e39]; show (t0_2.toInt64 : Int64).toInt = t0_2.toInt; exact q_i2l rfl)
        obtain ⟨y42, hO41, b43⟩ := n_shO hI (n_h1 g q)
        replace b43 : q_F (0 ≤ y42.toInt ∧ y42.toInt ≤ 4100) := b43
        refine q_goi V (q_runV (As := [.long j38]) (rest := []) (d := 1) (mc := 0) (ms := 0) (ci := 1) C0 V rfl LV_Rea_139 (T_She_at l D g q ws 1 4100 513 4100 (n_h1 g q) j38 hI   _) rfl rfl hO41 rfl hl.1 rfl (Nat.le_of_ble_eq_true rfl) ⟨by decide, by decide⟩ ⟨Nat.le_of_ble_eq_true rfl, Nat.le_of_ble_eq_true rfl⟩ d_10_5_22) (fun a46 u44 H locs hp45 V => ?_)
        obtain ⟨rfl, b47, b48, pu49⟩ := hp45
        replace b47 : q_F (0 ≤ a46.toInt) := b47
        replace b48 : q_F (a46.toInt ≤ 255) := b48
        refine lv_bipush (v := 48) hx hb d_10_5_25 (by decide) ?_
        refine lv_icmp_ne (tgt := 56) hx hb d_10_5_27 (by decide) (fun c50 => ?_) (fun c50 => ?_)
        ·
          have b51 : q_F (a46.toInt ≠ 48) := (q_neI c50)
          exact J34 (()) _ _ _ ws ⟨V, q_lw hl (q_lw1 0 rfl q_lw0)⟩
        ·
          have b52 : q_F (a46.toInt = 48) := (q_eqI c50)
          refine lv_aload_n hx hb d_10_5_30 rfl (lv_at hl 0 rfl) ?_
          refine q_get (ci := 8) (j := 2) (v := .ref (q 1)) C0 V i_Rea rfl rfl hT0 (by decide) w_288 rfl d_10_5_31 ?_
          refine lv_aload_n hx hb d_10_5_34 rfl (lv_at hl 0 rfl) ?_
          refine q_get (ci := 8) (j := 4) (v := .int t0_2) C0 V i_Rea rfl rfl hT0 (by decide) w_290 rfl d_10_5_35 ?_
          refine lv_iconst (v := 1) hx hb d_10_5_38 (by decide) ?_
          refine lv_iadd hx hb d_10_5_39 ?_
          obtain ⟨a53, e54⟩ := q_nm (t0_2 + 1 : Int32)
          refine q_ti (v := a53) e54 ?_
          refine lv_i2l hx hb d_10_5_40 rfl ?_
          obtain ⟨j55, e56⟩ := q_nm (a53.toInt64 : Int64)
          refine q_tl (v := j55) e56 ?_
          have b57 : q_F (j55.toInt = a53.toInt) := (by rw [← e56]; show (a53.toInt64 : Int64).toInt = a53.toInt; exact q_i2l rfl)
          refine q_goi V (q_runV (As := [.long j55]) (rest := []) (d := 1) (mc := 0) (ms := 0) (ci := 1) C0 V rfl LV_Rea_139 (T_She_at l D g q ws 1 4100 513 4100 (n_h1 g q) j55 hI   _) rfl rfl hO41 rfl hl.1 rfl (Nat.le_of_ble_eq_true rfl) ⟨by decide, by decide⟩ ⟨Nat.le_of_ble_eq_true rfl, Nat.le_of_ble_eq_true rfl⟩ d_10_5_41) (fun a60 u58 H locs hp59 V => ?_)
          obtain ⟨rfl, b61, b62, pu63⟩ := hp59
          replace b61 : q_F (0 ≤ a60.toInt) := b61
          replace b62 : q_F (a60.toInt ≤ 255) := b62
          refine lv_bipush (v := 32) hx hb d_10_5_44 (by decide) ?_
          refine lv_ior hx hb d_10_5_46 ?_
          obtain ⟨a64, e65⟩ := q_nm (a60 ||| 32 : Int32)
          refine q_ti (v := a64) e65 ?_
          have b66 : q_F (0 ≤ a64.toInt ∧ a64.toInt ≤ 255) := (by rw [← e65]; show 0 ≤ (a60 ||| 32 : Int32).toInt ∧ (a60 ||| 32 : Int32).toInt ≤ 255; exact s_or' (x := a60) (y := 32) 8 (by decide) 255 (by decide) ⟨(by have t1 : 0 ≤ a60.toInt := b61; have t2 : a60.toInt ≤ 255 := b62; omega), (by have t1 : 0 ≤ a60.toInt := b61; have t2 : a60.toInt ≤ 255 := b62; omega)⟩ ⟨(by have z7 : (32 : Int32).toInt = 32 := rfl; omega), (by have z7 : (32 : Int32).toInt = 32 := rfl; omega)⟩)
          refine lv_bipush (v := 120) hx hb d_10_5_47 (by decide) ?_
          refine lv_icmp_ne (tgt := 56) hx hb d_10_5_49 (by decide) (fun c67 => ?_) (fun c67 => ?_)
          ·
            have b68 : q_F (a64.toInt ≠ 120) := (q_neI c67)
            exact J34 (()) _ _ _ ws ⟨V, q_lw hl (q_lw1 0 rfl q_lw0)⟩
          ·
            have b69 : q_F (a64.toInt = 120) := (q_eqI c67)
            refine lv_iconst (v := 1) hx hb d_10_5_52 (by decide) ?_
            refine lv_goto (tgt := 57) hx hb d_10_5_53 (by decide) ?_
            exact J18 ((1 : Int32)) _ _ _ ws ⟨(show q_F (0 ≤ 1) from (show 0 ≤ 1 from by omega)), (show q_F (1 ≤ 1) from (show 1 ≤ 1 from by omega)), V, q_lw hl (q_lw1 0 rfl q_lw0)⟩
theorem d_10_6_0 : decode prog_10_method_6_code 0 = .ok (.aload_n 0, 1) := by decide +kernel
theorem d_10_6_1 : decode prog_10_method_6_code 1 = .ok (.bipush 16, 2) := by decide +kernel
theorem d_10_6_3 : decode prog_10_method_6_code 3 = .ok (.bipush 40, 2) := by decide +kernel
theorem d_10_6_5 : decode prog_10_method_6_code 5 = .ok (.invokevirtual 62, 3) := by decide +kernel
set_option maxRecDepth 100000 in
theorem w_627 : (Cond.code ({ cls := "NumberHouse$Reader", name := "takeFigures", desc := "(II)Z" } : MethodName) prog_10_method_12_code (6 : Nat) (some .boolean)) ∈ q_tbl := q_of3 147 rfl (by decide +kernel)
set_option maxRecDepth 100000 in
theorem w_624 : (Cond.methodLink "NumberHouse$Reader" (62 : Nat) ({ cls := "NumberHouse$Reader", name := "takeFigures", desc := "(II)Z" } : MethodName)) ∈ q_tbl := q_of3 144 rfl (by decide +kernel)
set_option maxRecDepth 100000 in
theorem w_626 : (Cond.instanceMethod ({ cls := "NumberHouse$Reader", name := "takeFigures", desc := "(II)Z" } : MethodName)) ∈ q_tbl := q_of3 146 rfl (by decide +kernel)
theorem ws_5 : Cond.selects "NumberHouse$Reader" (⟨"NumberHouse$Reader", "takeFigures", "(II)Z"⟩ : MethodName) (⟨"NumberHouse$Reader", "takeFigures", "(II)Z"⟩ : MethodName) ∈ q_tbl := q_ofs 5 (by decide +kernel) (by decide +kernel)
theorem LV_Rea_62 : q_LV "NumberHouse$Reader" 62 y_Rea_takeFigures prog_10_method_12_code 6 (some .boolean) 2 := ⟨w_627, w_10, w_624, w_626, ws_5, ⟨by decide, by decide, by decide +kernel⟩⟩
theorem d_10_6_8 : decode prog_10_method_6_code 8 = .ok (.ifCond .eq 29, 3) := by decide +kernel
theorem d_10_6_37 : decode prog_10_method_6_code 37 = .ok (.iconst 0, 1) := by decide +kernel
theorem d_10_6_38 : decode prog_10_method_6_code 38 = .ok (.ireturn, 1) := by decide +kernel
theorem d_10_6_11 : decode prog_10_method_6_code 11 = .ok (.aload_n 0, 1) := by decide +kernel
theorem d_10_6_12 : decode prog_10_method_6_code 12 = .ok (.invokevirtual 70, 3) := by decide +kernel
theorem d_10_6_15 : decode prog_10_method_6_code 15 = .ok (.bipush 32, 2) := by decide +kernel
theorem d_10_6_17 : decode prog_10_method_6_code 17 = .ok (.ior, 1) := by decide +kernel
theorem d_10_6_18 : decode prog_10_method_6_code 18 = .ok (.bipush 112, 2) := by decide +kernel
theorem d_10_6_20 : decode prog_10_method_6_code 20 = .ok (.if_icmp .ne 17, 3) := by decide +kernel
theorem d_10_6_23 : decode prog_10_method_6_code 23 = .ok (.aload_n 0, 1) := by decide +kernel
theorem d_10_6_24 : decode prog_10_method_6_code 24 = .ok (.sipush 4100, 3) := by decide +kernel
theorem d_10_6_27 : decode prog_10_method_6_code 27 = .ok (.invokevirtual 73, 3) := by decide +kernel
set_option maxRecDepth 100000 in
theorem w_635 : (Cond.code ({ cls := "NumberHouse$Reader", name := "takeExponent", desc := "(I)Z" } : MethodName) prog_10_method_14_code (6 : Nat) (some .boolean)) ∈ q_tbl := q_of3 155 rfl (by decide +kernel)
set_option maxRecDepth 100000 in
theorem w_632 : (Cond.methodLink "NumberHouse$Reader" (73 : Nat) ({ cls := "NumberHouse$Reader", name := "takeExponent", desc := "(I)Z" } : MethodName)) ∈ q_tbl := q_of3 152 rfl (by decide +kernel)
set_option maxRecDepth 100000 in
theorem w_634 : (Cond.instanceMethod ({ cls := "NumberHouse$Reader", name := "takeExponent", desc := "(I)Z" } : MethodName)) ∈ q_tbl := q_of3 154 rfl (by decide +kernel)
theorem ws_7 : Cond.selects "NumberHouse$Reader" (⟨"NumberHouse$Reader", "takeExponent", "(I)Z"⟩ : MethodName) (⟨"NumberHouse$Reader", "takeExponent", "(I)Z"⟩ : MethodName) ∈ q_tbl := q_ofs 7 (by decide +kernel) (by decide +kernel)
theorem LV_Rea_73 : q_LV "NumberHouse$Reader" 73 y_Rea_takeExponent prog_10_method_14_code 6 (some .boolean) 1 := ⟨w_635, w_10, w_632, w_634, ws_7, ⟨by decide, by decide, by decide +kernel⟩⟩
theorem d_10_6_30 : decode prog_10_method_6_code 30 = .ok (.ifCond .eq 7, 3) := by decide +kernel
theorem d_10_6_33 : decode prog_10_method_6_code 33 = .ok (.iconst 1, 1) := by decide +kernel
theorem d_10_6_34 : decode prog_10_method_6_code 34 = .ok (.goto 4, 3) := by decide +kernel
def y_Rea_takeHexadecimal : MethodName := ⟨"NumberHouse$Reader", "takeHexadecimal", "()Z"⟩
set_option maxRecDepth 100000 in
set_option maxHeartbeats 4000000 in
theorem T_Rea_takeHexadecimal (l : Launch) (D : va_G) (g : Nat → ClassId) (q : Nat → Nat) (ws : va_W) (hI : q_I (nsh g q) q ws) (t0_0 : Int64) (t0_1 : Int64) (t0_2 : Int32) (t0_3 : Int32) (t0_4 : Int32) (t0_5 : Int32) (t0_6 : Int32) (t0_7 : Int32) (t0_8 : Int32) (t0_9 : Int64) (hT0 : ws[38]? = (some (q 38, .inr (8, [.long t0_0, .long t0_1, .ref (q 1), .ref (q 9), .int t0_2, .int t0_3, .int t0_4, .int t0_5, .int t0_6, .int t0_7, .int t0_8, .long t0_9])) : Option (Nat × va_E))) : q_mI l y_Rea_takeHexadecimal prog_10_method_6_code 1 (.boolean) 5 0 0 D g [.ref (q 38)] ws (fun r u => q_I (nsh g q) q u ∧ q_un ws u [10, 11, 38] ∧ ∃ (u0_0 : Int64) (u0_1 : Int64) (u0_2 : Int32) (u0_3 : Int32) (u0_4 : Int32) (u0_5 : Int32) (u0_6 : Int32) (u0_7 : Int32) (u0_8 : Int32) (u0_9 : Int64), u[38]? = (some (q 38, .inr (8, [.long u0_0, .long u0_1, .ref (q 1), .ref (q 9), .int u0_2, .int u0_3, .int u0_4, .int u0_5, .int u0_6, .int u0_7, .int u0_8, .long u0_9])) : Option (Nat × va_E)) ∧ (0 ≤ r.toInt) ∧ (r.toInt ≤ 1) ∧ (0 ≤ u0_6.toInt) ∧ (0 ≤ u0_8.toInt) ∧ (u0_8.toInt ≤ 1) ∧ (t0_0.toInt ≤ u0_0.toInt) ∧ (u0_0.toInt ≤ t0_0.toInt) ∧ (t0_1.toInt ≤ u0_1.toInt) ∧ (u0_1.toInt ≤ t0_1.toInt) ∧ (t0_3.toInt ≤ u0_3.toInt) ∧ (u0_3.toInt ≤ t0_3.toInt) ∧ (t0_4.toInt ≤ u0_4.toInt) ∧ (u0_4.toInt ≤ t0_4.toInt)) := by
  intro sz
  refine q_into (by decide) (Nat.le_of_ble_eq_true rfl) ?_
  intro p e s m below meth c ls hsz C0 V hl
  have hx := C0.1
  have hb := C0.2.1
  obtain ⟨yy0_0, yy0_1, yy0_2, yy0_3, yy0_4, yy0_5, yy0_6, yy0_7, yy0_8, yy0_9, hh0, btt0_4, btt0_8⟩ := n_o38 hI
  obtain ⟨rfl, rfl, rfl, rfl, rfl, rfl, rfl, rfl, rfl, rfl⟩ : t0_0 = yy0_0 ∧ t0_1 = yy0_1 ∧ t0_2 = yy0_2 ∧ t0_3 = yy0_3 ∧ t0_4 = yy0_4 ∧ t0_5 = yy0_5 ∧ t0_6 = yy0_6 ∧ t0_7 = yy0_7 ∧ t0_8 = yy0_8 ∧ t0_9 = yy0_9 := by have z := Option.some.inj (hT0.symm.trans hh0); simpa using z
  replace btt0_4 : q_F (0 ≤ t0_4.toInt ∧ t0_4.toInt ≤ 1) := btt0_4
  replace btt0_8 : q_F (0 ≤ t0_8.toInt ∧ t0_8.toInt ≤ 1) := btt0_8
  have hF : q_un ws ws [10, 11, 38] := q_u0
  have hl : lv_has ls 1 [(0, .ref (q 38))] := hl
  refine lv_aload_n hx hb d_10_6_0 rfl (lv_at hl 0 rfl) ?_
  refine lv_bipush (v := 16) hx hb d_10_6_1 (by decide) ?_
  refine lv_bipush (v := 40) hx hb d_10_6_3 (by decide) ?_
  refine q_goi V (q_runV (As := [.int 16, .int 40]) (rest := []) (d := 4) (mc := 0) (ms := 0) (ci := 8) C0 V rfl LV_Rea_62 (T_Rea_takeFigures l D g q ws  16 40 hI t0_0 t0_1 t0_2 t0_3 t0_4 t0_5 t0_6 t0_7 t0_8 t0_9 hT0  _) rfl rfl hT0 rfl hl.1 rfl (Nat.le_of_ble_eq_true rfl) ⟨by decide, by decide⟩ ⟨Nat.le_of_ble_eq_true rfl, Nat.le_of_ble_eq_true rfl⟩ d_10_6_5) (fun a16 u14 H locs hp15 V => ?_)
  obtain ⟨hI, hu44, y18, y19, y20, y21, y22, y23, y24, y25, y26, y27, hO17, b28, b29, b30, b31, b32, b33, b34, b35, b36, b37, b38, b39, b40, b41, b42, b43⟩ := hp15
  replace hO17 : u14[38]? = (some (q 38, .inr (8, [.long y18, .long y19, .ref (q 1), .ref (q 9), .int y20, .int y21, .int y22, .int y23, .int y24, .int y25, .int y26, .long y27])) : Option (Nat × va_E)) := hO17
  replace b28 : q_F (0 ≤ a16.toInt) := b28
  replace b29 : q_F (a16.toInt ≤ 1) := b29
  replace b30 : q_F (0 ≤ y24.toInt) := b30
  replace b31 : q_F (0 ≤ y26.toInt) := b31
  replace b32 : q_F (y26.toInt ≤ 1) := b32
  replace b33 : q_F (t0_0.toInt ≤ y18.toInt) := b33
  replace b34 : q_F (y18.toInt ≤ t0_0.toInt) := b34
  replace b35 : q_F (t0_1.toInt ≤ y19.toInt) := b35
  replace b36 : q_F (y19.toInt ≤ t0_1.toInt) := b36
  replace b37 : q_F (t0_2.toInt ≤ y20.toInt) := b37
  replace b38 : q_F (t0_3.toInt ≤ y21.toInt) := b38
  replace b39 : q_F (y21.toInt ≤ t0_3.toInt) := b39
  replace b40 : q_F (t0_4.toInt ≤ y22.toInt) := b40
  replace b41 : q_F (y22.toInt ≤ t0_4.toInt) := b41
  replace b42 : q_F (t0_9.toInt ≤ y27.toInt) := b42
  replace b43 : q_F (y27.toInt ≤ t0_9.toInt) := b43
  replace hF := q_uc hF hu44 (by simp)
  refine lv_if_eq (tgt := 37) hx hb d_10_6_8 (by decide) (fun c45 => ?_) (fun c45 => ?_)
  ·
    have b46 : q_F (a16.toInt = 0) := (q_eqI c45)
    refine lv_iconst (v := 0) hx hb d_10_6_37 (by decide) ?_
    exact q_retz C0 V (by decide) (⟨hI, hF, y18, y19, y20, y21, y22, y23, y24, y25, y26, y27, hO17, (show 0 ≤ (0 : Int32).toInt from (by have z10 : (0 : Int32).toInt = 0 := rfl; omega)), (show (0 : Int32).toInt ≤ 1 from (by have z10 : (0 : Int32).toInt = 0 := rfl; omega)), (show 0 ≤ y24.toInt from (by have z10 : (0 : Int32).toInt = 0 := rfl; have t1 : 0 ≤ y24.toInt := b30; omega)), (show 0 ≤ y26.toInt from (by have z10 : (0 : Int32).toInt = 0 := rfl; have t1 : 0 ≤ y26.toInt := b31; omega)), (show y26.toInt ≤ 1 from (by have z10 : (0 : Int32).toInt = 0 := rfl; have t1 : y26.toInt ≤ 1 := b32; omega)), (show t0_0.toInt ≤ y18.toInt from (by have z10 : (0 : Int32).toInt = 0 := rfl; have t1 : t0_0.toInt ≤ y18.toInt := b33; omega)), (show y18.toInt ≤ t0_0.toInt from (by have z10 : (0 : Int32).toInt = 0 := rfl; have t1 : y18.toInt ≤ t0_0.toInt := b34; omega)), (show t0_1.toInt ≤ y19.toInt from (by have z10 : (0 : Int32).toInt = 0 := rfl; have t1 : t0_1.toInt ≤ y19.toInt := b35; omega)), (show y19.toInt ≤ t0_1.toInt from (by have z10 : (0 : Int32).toInt = 0 := rfl; have t1 : y19.toInt ≤ t0_1.toInt := b36; omega)), (show t0_3.toInt ≤ y21.toInt from (by have z10 : (0 : Int32).toInt = 0 := rfl; have t1 : t0_3.toInt ≤ y21.toInt := b38; omega)), (show y21.toInt ≤ t0_3.toInt from (by have z10 : (0 : Int32).toInt = 0 := rfl; have t1 : y21.toInt ≤ t0_3.toInt := b39; omega)), (show t0_4.toInt ≤ y22.toInt from (by have z10 : (0 : Int32).toInt = 0 := rfl; have t1 : t0_4.toInt ≤ y22.toInt := b40; omega)), (show y22.toInt ≤ t0_4.toInt from (by have z10 : (0 : Int32).toInt = 0 := rfl; have t1 : y22.toInt ≤ t0_4.toInt := b41; omega))⟩) d_10_6_38
  ·
    have b47 : q_F (a16.toInt ≠ 0) := (q_neI c45)
    refine lv_aload_n hx hb d_10_6_11 rfl (lv_at hl 0 rfl) ?_
    refine q_goi V (q_runV (As := []) (rest := []) (d := 2) (mc := 0) (ms := 0) (ci := 8) C0 V rfl LV_Rea_70 (T_Rea_here l D g q u14   hI   _) rfl rfl hO17 rfl hl.1 rfl (Nat.le_of_ble_eq_true rfl) ⟨by decide, by decide⟩ ⟨Nat.le_of_ble_eq_true rfl, Nat.le_of_ble_eq_true rfl⟩ d_10_6_12) (fun a50 u48 H locs hp49 V => ?_)
    obtain ⟨rfl, b51, b52⟩ := hp49
    replace b51 : q_F (0 ≤ a50.toInt + 1) := b51
    replace b52 : q_F (a50.toInt ≤ 255) := b52
    refine lv_bipush (v := 32) hx hb d_10_6_15 (by decide) ?_
    refine lv_ior hx hb d_10_6_17 ?_
    obtain ⟨a53, e54⟩ := q_nm (a50 ||| 32 : Int32)
    refine q_ti (v := a53) e54 ?_
    refine lv_bipush (v := 112) hx hb d_10_6_18 (by decide) ?_
    refine lv_icmp_ne (tgt := 37) hx hb d_10_6_20 (by decide) (fun c55 => ?_) (fun c55 => ?_)
    ·
      have b56 : q_F (a53.toInt ≠ 112) := (q_neI c55)
      refine lv_iconst (v := 0) hx hb d_10_6_37 (by decide) ?_
      exact q_retz C0 V (by decide) (⟨hI, hF, y18, y19, y20, y21, y22, y23, y24, y25, y26, y27, hO17, (show 0 ≤ (0 : Int32).toInt from (by have z10 : (0 : Int32).toInt = 0 := rfl; omega)), (show (0 : Int32).toInt ≤ 1 from (by have z10 : (0 : Int32).toInt = 0 := rfl; omega)), (show 0 ≤ y24.toInt from (by have z10 : (0 : Int32).toInt = 0 := rfl; have t1 : 0 ≤ y24.toInt := b30; omega)), (show 0 ≤ y26.toInt from (by have z10 : (0 : Int32).toInt = 0 := rfl; have t1 : 0 ≤ y26.toInt := b31; omega)), (show y26.toInt ≤ 1 from (by have z10 : (0 : Int32).toInt = 0 := rfl; have t1 : y26.toInt ≤ 1 := b32; omega)), (show t0_0.toInt ≤ y18.toInt from (by have z10 : (0 : Int32).toInt = 0 := rfl; have t1 : t0_0.toInt ≤ y18.toInt := b33; omega)), (show y18.toInt ≤ t0_0.toInt from (by have z10 : (0 : Int32).toInt = 0 := rfl; have t1 : y18.toInt ≤ t0_0.toInt := b34; omega)), (show t0_1.toInt ≤ y19.toInt from (by have z10 : (0 : Int32).toInt = 0 := rfl; have t1 : t0_1.toInt ≤ y19.toInt := b35; omega)), (show y19.toInt ≤ t0_1.toInt from (by have z10 : (0 : Int32).toInt = 0 := rfl; have t1 : y19.toInt ≤ t0_1.toInt := b36; omega)), (show t0_3.toInt ≤ y21.toInt from (by have z10 : (0 : Int32).toInt = 0 := rfl; have t1 : t0_3.toInt ≤ y21.toInt := b38; omega)), (show y21.toInt ≤ t0_3.toInt from (by have z10 : (0 : Int32).toInt = 0 := rfl; have t1 : y21.toInt ≤ t0_3.toInt := b39; omega)), (show t0_4.toInt ≤ y22.toInt from (by have z10 : (0 : Int32).toInt = 0 := rfl; have t1 : t0_4.toInt ≤ y22.toInt := b40; omega)), (show y22.toInt ≤ t0_4.toInt from (by have z10 : (0 : Int32).toInt = 0 := rfl; have t1 : y22.toInt ≤ t0_4.toInt := b41; omega))⟩) d_10_6_38
    ·
      have b57 : q_F (a53.toInt = 112) := (q_eqI c55)
      refine lv_aload_n hx hb d_10_6_23 rfl (lv_at hl 0 rfl) ?_
      refine lv_sipush (v := 4100) hx hb d_10_6_24 (by decide) ?_
      refine q_goi V (q_runV (As := [.int 4100]) (rest := []) (d := 4) (mc := 0) (ms := 0) (ci := 8) C0 V rfl LV_Rea_73 (T_Rea_takeExponent l D g q u14  4100 hI y18 y19 y20 y21 y22 y23 y24 y25 y26 y27 hO17  _) rfl rfl hO17 rfl hl.1 rfl (Nat.le_of_ble_eq_true rfl) ⟨by decide, by decide⟩ ⟨Nat.le_of_ble_eq_true rfl, Nat.le_of_ble_eq_true rfl⟩ d_10_6_27) (fun a60 u58 H locs hp59 V => ?_)
      obtain ⟨hI, hu90, y62, y63, y64, y65, y66, y67, y68, y69, y70, y71, hO61, b72, b73, b74, b75, b76, b77, b78, b79, b80, b81, b82, b83, b84, b85, b86, b87, b88, b89⟩ := hp59
      replace hO61 : u58[38]? = (some (q 38, .inr (8, [.long y62, .long y63, .ref (q 1), .ref (q 9), .int y64, .int y65, .int y66, .int y67, .int y68, .int y69, .int y70, .long y71])) : Option (Nat × va_E)) := hO61
      replace b72 : q_F (0 ≤ a60.toInt) := b72
      replace b73 : q_F (a60.toInt ≤ 1) := b73
      replace b74 : q_F (y18.toInt ≤ y62.toInt) := b74
      replace b75 : q_F (y62.toInt ≤ y18.toInt) := b75
      replace b76 : q_F (y19.toInt ≤ y63.toInt) := b76
      replace b77 : q_F (y63.toInt ≤ y19.toInt) := b77
      replace b78 : q_F (y21.toInt ≤ y65.toInt) := b78
      replace b79 : q_F (y65.toInt ≤ y21.toInt) := b79
      replace b80 : q_F (y22.toInt ≤ y66.toInt) := b80
      replace b81 : q_F (y66.toInt ≤ y22.toInt) := b81
      replace b82 : q_F (y23.toInt ≤ y67.toInt) := b82
      replace b83 : q_F (y67.toInt ≤ y23.toInt) := b83
      replace b84 : q_F (y24.toInt ≤ y68.toInt) := b84
      replace b85 : q_F (y68.toInt ≤ y24.toInt) := b85
      replace b86 : q_F (y25.toInt ≤ y69.toInt) := b86
      replace b87 : q_F (y69.toInt ≤ y25.toInt) := b87
      replace b88 : q_F (y26.toInt ≤ y70.toInt) := b88
      replace b89 : q_F (y70.toInt ≤ y26.toInt) := b89
      replace hF := q_uc hF hu90 (by simp)
      refine lv_if_eq (tgt := 37) hx hb d_10_6_30 (by decide) (fun c91 => ?_) (fun c91 => ?_)
      ·
        have b92 : q_F (a60.toInt = 0) := (q_eqI c91)
        refine lv_iconst (v := 0) hx hb d_10_6_37 (by decide) ?_
        exact q_retz C0 V (by decide) (⟨hI, hF, y62, y63, y64, y65, y66, y67, y68, y69, y70, y71, hO61, (show 0 ≤ (0 : Int32).toInt from (by have z10 : (0 : Int32).toInt = 0 := rfl; omega)), (show (0 : Int32).toInt ≤ 1 from (by have z10 : (0 : Int32).toInt = 0 := rfl; omega)), (show 0 ≤ y68.toInt from (by have z10 : (0 : Int32).toInt = 0 := rfl; have t1 : 0 ≤ y24.toInt := b30; have t2 : y24.toInt ≤ y68.toInt := b84; omega)), (show 0 ≤ y70.toInt from (by have z10 : (0 : Int32).toInt = 0 := rfl; have t1 : 0 ≤ y26.toInt := b31; have t2 : y26.toInt ≤ y70.toInt := b88; omega)), (show y70.toInt ≤ 1 from (by have z10 : (0 : Int32).toInt = 0 := rfl; have t1 : y26.toInt ≤ 1 := b32; have t2 : y70.toInt ≤ y26.toInt := b89; omega)), (show t0_0.toInt ≤ y62.toInt from (by have z10 : (0 : Int32).toInt = 0 := rfl; have t1 : t0_0.toInt ≤ y18.toInt := b33; have t2 : y18.toInt ≤ y62.toInt := b74; omega)), (show y62.toInt ≤ t0_0.toInt from (by have z10 : (0 : Int32).toInt = 0 := rfl; have t1 : y18.toInt ≤ t0_0.toInt := b34; have t2 : y62.toInt ≤ y18.toInt := b75; omega)), (show t0_1.toInt ≤ y63.toInt from (by have z10 : (0 : Int32).toInt = 0 := rfl; have t1 : t0_1.toInt ≤ y19.toInt := b35; have t2 : y19.toInt ≤ y63.toInt := b76; omega)), (show y63.toInt ≤ t0_1.toInt from (by have z10 : (0 : Int32).toInt = 0 := rfl; have t1 : y19.toInt ≤ t0_1.toInt := b36; have t2 : y63.toInt ≤ y19.toInt := b77; omega)), (show t0_3.toInt ≤ y65.toInt from (by have z10 : (0 : Int32).toInt = 0 := rfl; have t1 : t0_3.toInt ≤ y21.toInt := b38; have t2 : y21.toInt ≤ y65.toInt := b78; omega)), (show y65.toInt ≤ t0_3.toInt from (by have z10 : (0 : Int32).toInt = 0 := rfl; have t1 : y21.toInt ≤ t0_3.toInt := b39; have t2 : y65.toInt ≤ y21.toInt := b79; omega)), (show t0_4.toInt ≤ y66.toInt from (by have z10 : (0 : Int32).toInt = 0 := rfl; have t1 : t0_4.toInt ≤ y22.toInt := b40; have t2 : y22.toInt ≤ y66.toInt := b80; omega)), (show y66.toInt ≤ t0_4.toInt from (by have z10 : (0 : Int32).toInt = 0 := rfl; have t1 : y22.toInt ≤ t0_4.toInt := b41; have t2 : y66.toInt ≤ y22.toInt := b81; omega))⟩) d_10_6_38
      ·
        have b93 : q_F (a60.toInt ≠ 0) := (q_neI c91)
        refine lv_iconst (v := 1) hx hb d_10_6_33 (by decide) ?_
        refine lv_goto (tgt := 38) hx hb d_10_6_34 (by decide) ?_
        exact q_retz C0 V (by decide) (⟨hI, hF, y62, y63, y64, y65, y66, y67, y68, y69, y70, y71, hO61, (show 0 ≤ (1 : Int32).toInt from (by have z10 : (1 : Int32).toInt = 1 := rfl; omega)), (show (1 : Int32).toInt ≤ 1 from (by have z10 : (1 : Int32).toInt = 1 := rfl; omega)), (show 0 ≤ y68.toInt from (by have z10 : (1 : Int32).toInt = 1 := rfl; have t1 : 0 ≤ y24.toInt := b30; have t2 : y24.toInt ≤ y68.toInt := b84; omega)), (show 0 ≤ y70.toInt from (by have z10 : (1 : Int32).toInt = 1 := rfl; have t1 : 0 ≤ y26.toInt := b31; have t2 : y26.toInt ≤ y70.toInt := b88; omega)), (show y70.toInt ≤ 1 from (by have z10 : (1 : Int32).toInt = 1 := rfl; have t1 : y26.toInt ≤ 1 := b32; have t2 : y70.toInt ≤ y26.toInt := b89; omega)), (show t0_0.toInt ≤ y62.toInt from (by have z10 : (1 : Int32).toInt = 1 := rfl; have t1 : t0_0.toInt ≤ y18.toInt := b33; have t2 : y18.toInt ≤ y62.toInt := b74; omega)), (show y62.toInt ≤ t0_0.toInt from (by have z10 : (1 : Int32).toInt = 1 := rfl; have t1 : y18.toInt ≤ t0_0.toInt := b34; have t2 : y62.toInt ≤ y18.toInt := b75; omega)), (show t0_1.toInt ≤ y63.toInt from (by have z10 : (1 : Int32).toInt = 1 := rfl; have t1 : t0_1.toInt ≤ y19.toInt := b35; have t2 : y19.toInt ≤ y63.toInt := b76; omega)), (show y63.toInt ≤ t0_1.toInt from (by have z10 : (1 : Int32).toInt = 1 := rfl; have t1 : y19.toInt ≤ t0_1.toInt := b36; have t2 : y63.toInt ≤ y19.toInt := b77; omega)), (show t0_3.toInt ≤ y65.toInt from (by have z10 : (1 : Int32).toInt = 1 := rfl; have t1 : t0_3.toInt ≤ y21.toInt := b38; have t2 : y21.toInt ≤ y65.toInt := b78; omega)), (show y65.toInt ≤ t0_3.toInt from (by have z10 : (1 : Int32).toInt = 1 := rfl; have t1 : y21.toInt ≤ t0_3.toInt := b39; have t2 : y65.toInt ≤ y21.toInt := b79; omega)), (show t0_4.toInt ≤ y66.toInt from (by have z10 : (1 : Int32).toInt = 1 := rfl; have t1 : t0_4.toInt ≤ y22.toInt := b40; have t2 : y22.toInt ≤ y66.toInt := b80; omega)), (show y66.toInt ≤ t0_4.toInt from (by have z10 : (1 : Int32).toInt = 1 := rfl; have t1 : y22.toInt ≤ t0_4.toInt := b41; have t2 : y66.toInt ≤ y22.toInt := b81; omega))⟩) d_10_6_38
theorem d_10_7_0 : decode prog_10_method_7_code 0 = .ok (.aload_n 0, 1) := by decide +kernel
theorem d_10_7_1 : decode prog_10_method_7_code 1 = .ok (.bipush 10, 2) := by decide +kernel
theorem d_10_7_3 : decode prog_10_method_7_code 3 = .ok (.sipush 800, 3) := by decide +kernel
theorem d_10_7_6 : decode prog_10_method_7_code 6 = .ok (.invokevirtual 62, 3) := by decide +kernel
theorem d_10_7_9 : decode prog_10_method_7_code 9 = .ok (.ifCond .ne 5, 3) := by decide +kernel
theorem d_10_7_14 : decode prog_10_method_7_code 14 = .ok (.aload_n 0, 1) := by decide +kernel
theorem d_10_7_15 : decode prog_10_method_7_code 15 = .ok (.getfield 128, 3) := by decide +kernel
theorem d_10_7_44 : decode prog_10_method_7_code 44 = .ok (.aload_n 0, 1) := by decide +kernel
theorem d_10_7_45 : decode prog_10_method_7_code 45 = .ok (.lconst 0, 1) := by decide +kernel
theorem d_10_7_46 : decode prog_10_method_7_code 46 = .ok (.putfield 66, 3) := by decide +kernel
theorem d_10_7_49 : decode prog_10_method_7_code 49 = .ok (.aload_n 0, 1) := by decide +kernel
theorem d_10_7_50 : decode prog_10_method_7_code 50 = .ok (.invokevirtual 70, 3) := by decide +kernel
theorem d_10_7_53 : decode prog_10_method_7_code 53 = .ok (.bipush 32, 2) := by decide +kernel
theorem d_10_7_55 : decode prog_10_method_7_code 55 = .ok (.ior, 1) := by decide +kernel
theorem d_10_7_56 : decode prog_10_method_7_code 56 = .ok (.bipush 101, 2) := by decide +kernel
theorem d_10_7_58 : decode prog_10_method_7_code 58 = .ok (.if_icmp .ne 13, 3) := by decide +kernel
theorem d_10_7_71 : decode prog_10_method_7_code 71 = .ok (.iconst 1, 1) := by decide +kernel
theorem d_10_7_72 : decode prog_10_method_7_code 72 = .ok (.goto 4, 3) := by decide +kernel
theorem d_10_7_76 : decode prog_10_method_7_code 76 = .ok (.ireturn, 1) := by decide +kernel
theorem d_10_7_61 : decode prog_10_method_7_code 61 = .ok (.aload_n 0, 1) := by decide +kernel
theorem d_10_7_62 : decode prog_10_method_7_code 62 = .ok (.sipush 4100, 3) := by decide +kernel
theorem d_10_7_65 : decode prog_10_method_7_code 65 = .ok (.invokevirtual 73, 3) := by decide +kernel
theorem d_10_7_68 : decode prog_10_method_7_code 68 = .ok (.ifCond .eq 7, 3) := by decide +kernel
theorem d_10_7_75 : decode prog_10_method_7_code 75 = .ok (.iconst 0, 1) := by decide +kernel
theorem d_10_7_18 : decode prog_10_method_7_code 18 = .ok (.ifCond .eq 26, 3) := by decide +kernel
theorem d_10_7_21 : decode prog_10_method_7_code 21 = .ok (.aload_n 0, 1) := by decide +kernel
theorem d_10_7_22 : decode prog_10_method_7_code 22 = .ok (.getfield 15, 3) := by decide +kernel
theorem d_10_7_25 : decode prog_10_method_7_code 25 = .ok (.getfield 25, 3) := by decide +kernel
theorem d_10_7_28 : decode prog_10_method_7_code 28 = .ok (.bipush 10, 2) := by decide +kernel
theorem d_10_7_30 : decode prog_10_method_7_code 30 = .ok (.iconst 1, 1) := by decide +kernel
theorem d_10_7_31 : decode prog_10_method_7_code 31 = .ok (.invokevirtual 47, 3) := by decide +kernel
theorem d_10_7_34 : decode prog_10_method_7_code 34 = .ok (.aload_n 0, 1) := by decide +kernel
theorem d_10_7_35 : decode prog_10_method_7_code 35 = .ok (.dup, 1) := by decide +kernel
theorem d_10_7_36 : decode prog_10_method_7_code 36 = .ok (.getfield 83, 3) := by decide +kernel
theorem d_10_7_39 : decode prog_10_method_7_code 39 = .ok (.iconst 1, 1) := by decide +kernel
theorem d_10_7_40 : decode prog_10_method_7_code 40 = .ok (.isub, 1) := by decide +kernel
theorem d_10_7_41 : decode prog_10_method_7_code 41 = .ok (.putfield 83, 3) := by decide +kernel
theorem d_10_7_12 : decode prog_10_method_7_code 12 = .ok (.iconst 0, 1) := by decide +kernel
theorem d_10_7_13 : decode prog_10_method_7_code 13 = .ok (.ireturn, 1) := by decide +kernel
def y_Rea_takeDecimal : MethodName := ⟨"NumberHouse$Reader", "takeDecimal", "()Z"⟩
set_option maxRecDepth 100000 in
set_option maxHeartbeats 4000000 in
theorem T_Rea_takeDecimal (l : Launch) (D : va_G) (g : Nat → ClassId) (q : Nat → Nat) (ws : va_W) (hI : q_I (nsh g q) q ws) (t0_0 : Int64) (t0_1 : Int64) (t0_2 : Int32) (t0_3 : Int32) (t0_4 : Int32) (t0_5 : Int32) (t0_6 : Int32) (t0_7 : Int32) (t0_8 : Int32) (t0_9 : Int64) (hT0 : ws[38]? = (some (q 38, .inr (8, [.long t0_0, .long t0_1, .ref (q 1), .ref (q 9), .int t0_2, .int t0_3, .int t0_4, .int t0_5, .int t0_6, .int t0_7, .int t0_8, .long t0_9])) : Option (Nat × va_E))) : q_mI l y_Rea_takeDecimal prog_10_method_7_code 1 (.boolean) 5 0 0 D g [.ref (q 38)] ws (fun r u => q_I (nsh g q) q u ∧ q_un ws u [10, 11, 38] ∧ ∃ (u0_0 : Int64) (u0_1 : Int64) (u0_2 : Int32) (u0_3 : Int32) (u0_4 : Int32) (u0_5 : Int32) (u0_6 : Int32) (u0_7 : Int32) (u0_8 : Int32) (u0_9 : Int64), u[38]? = (some (q 38, .inr (8, [.long u0_0, .long u0_1, .ref (q 1), .ref (q 9), .int u0_2, .int u0_3, .int u0_4, .int u0_5, .int u0_6, .int u0_7, .int u0_8, .long u0_9])) : Option (Nat × va_E)) ∧ (0 ≤ r.toInt) ∧ (r.toInt ≤ 1) ∧ (0 ≤ u0_6.toInt) ∧ (0 ≤ u0_8.toInt) ∧ (u0_8.toInt ≤ 1) ∧ (t0_0.toInt ≤ u0_0.toInt) ∧ (u0_0.toInt ≤ t0_0.toInt) ∧ (t0_1.toInt ≤ u0_1.toInt) ∧ (u0_1.toInt ≤ t0_1.toInt) ∧ (t0_3.toInt ≤ u0_3.toInt) ∧ (u0_3.toInt ≤ t0_3.toInt) ∧ (t0_4.toInt ≤ u0_4.toInt) ∧ (u0_4.toInt ≤ t0_4.toInt)) := by
  intro sz
  refine q_into (by decide) (Nat.le_of_ble_eq_true rfl) ?_
  intro p e s m below meth c ls hsz C0 V hl
  have hx := C0.1
  have hb := C0.2.1
  obtain ⟨yy0_0, yy0_1, yy0_2, yy0_3, yy0_4, yy0_5, yy0_6, yy0_7, yy0_8, yy0_9, hh0, btt0_4, btt0_8⟩ := n_o38 hI
  obtain ⟨rfl, rfl, rfl, rfl, rfl, rfl, rfl, rfl, rfl, rfl⟩ : t0_0 = yy0_0 ∧ t0_1 = yy0_1 ∧ t0_2 = yy0_2 ∧ t0_3 = yy0_3 ∧ t0_4 = yy0_4 ∧ t0_5 = yy0_5 ∧ t0_6 = yy0_6 ∧ t0_7 = yy0_7 ∧ t0_8 = yy0_8 ∧ t0_9 = yy0_9 := by have z := Option.some.inj (hT0.symm.trans hh0); simpa using z
  replace btt0_4 : q_F (0 ≤ t0_4.toInt ∧ t0_4.toInt ≤ 1) := btt0_4
  replace btt0_8 : q_F (0 ≤ t0_8.toInt ∧ t0_8.toInt ≤ 1) := btt0_8
  have hF : q_un ws ws [10, 11, 38] := q_u0
  have hl : lv_has ls 1 [(0, .ref (q 38))] := hl
  refine lv_aload_n hx hb d_10_7_0 rfl (lv_at hl 0 rfl) ?_
  refine lv_bipush (v := 10) hx hb d_10_7_1 (by decide) ?_
  refine lv_sipush (v := 800) hx hb d_10_7_3 (by decide) ?_
  refine q_goi V (q_runV (As := [.int 10, .int 800]) (rest := []) (d := 4) (mc := 0) (ms := 0) (ci := 8) C0 V rfl LV_Rea_62 (T_Rea_takeFigures l D g q ws  10 800 hI t0_0 t0_1 t0_2 t0_3 t0_4 t0_5 t0_6 t0_7 t0_8 t0_9 hT0  _) rfl rfl hT0 rfl hl.1 rfl (Nat.le_of_ble_eq_true rfl) ⟨by decide, by decide⟩ ⟨Nat.le_of_ble_eq_true rfl, Nat.le_of_ble_eq_true rfl⟩ d_10_7_6) (fun a16 u14 H locs hp15 V => ?_)
  obtain ⟨hI, hu44, y18, y19, y20, y21, y22, y23, y24, y25, y26, y27, hO17, b28, b29, b30, b31, b32, b33, b34, b35, b36, b37, b38, b39, b40, b41, b42, b43⟩ := hp15
  replace hO17 : u14[38]? = (some (q 38, .inr (8, [.long y18, .long y19, .ref (q 1), .ref (q 9), .int y20, .int y21, .int y22, .int y23, .int y24, .int y25, .int y26, .long y27])) : Option (Nat × va_E)) := hO17
  replace b28 : q_F (0 ≤ a16.toInt) := b28
  replace b29 : q_F (a16.toInt ≤ 1) := b29
  replace b30 : q_F (0 ≤ y24.toInt) := b30
  replace b31 : q_F (0 ≤ y26.toInt) := b31
  replace b32 : q_F (y26.toInt ≤ 1) := b32
  replace b33 : q_F (t0_0.toInt ≤ y18.toInt) := b33
  replace b34 : q_F (y18.toInt ≤ t0_0.toInt) := b34
  replace b35 : q_F (t0_1.toInt ≤ y19.toInt) := b35
  replace b36 : q_F (y19.toInt ≤ t0_1.toInt) := b36
  replace b37 : q_F (t0_2.toInt ≤ y20.toInt) := b37
  replace b38 : q_F (t0_3.toInt ≤ y21.toInt) := b38
  replace b39 : q_F (y21.toInt ≤ t0_3.toInt) := b39
  replace b40 : q_F (t0_4.toInt ≤ y22.toInt) := b40
  replace b41 : q_F (y22.toInt ≤ t0_4.toInt) := b41
  replace b42 : q_F (t0_9.toInt ≤ y27.toInt) := b42
  replace b43 : q_F (y27.toInt ≤ t0_9.toInt) := b43
  replace hF := q_uc hF hu44 (by simp)
  refine lv_if_ne (tgt := 14) hx hb d_10_7_9 (by decide) (fun c45 => ?_) (fun c45 => ?_)
  ·
    have b46 : q_F (a16.toInt ≠ 0) := (q_neI c45)
    refine lv_aload_n hx hb d_10_7_14 rfl (lv_at hl 0 rfl) ?_
    refine q_get (ci := 8) (j := 10) (v := .int y26) C0 V i_Rea rfl rfl hO17 (by decide) w_296 rfl d_10_7_15 ?_
    refine q_join (X := Int32) (fun z H locs ls w50 => q_Wd D g (va_A ws sz) s w50 H locs ∧ lv_has ls 1 [(0, .ref (q 38))] ∧ q_I (nsh g q) q w50 ∧ q_un ws w50 [10, 11, 38] ∧ w50[38]? = (some (q 38, .inr (8, [.long y18, .long y19, .ref (q 1), .ref (q 9), .int y20, .int y21, .int y22, .int y23, .int y24, .int z, .int y26, .long y27])) : Option (Nat × va_E))) (fun z => []) 44 0 0 ?_ ?_
    ·
      rintro lx47 H locs ls w50 ⟨V, hl, hI, hF, hO48⟩
      replace hl : lv_has ls 1 [(0, .ref (q 38))] := hl
      replace hO48 : w50[38]? = (some (q 38, .inr (8, [.long y18, .long y19, .ref (q 1), .ref (q 9), .int y20, .int y21, .int y22, .int y23, .int y24, .int lx47, .int y26, .long y27])) : Option (Nat × va_E)) := hO48
      refine lv_aload_n hx hb d_10_7_44 rfl (lv_at hl 0 rfl) ?_
      refine lv_lconst (v := 0) hx hb d_10_7_45 (by decide) ?_
      refine q_put (ci := 8) (j := 11) (v := .long 0) (ty := .long) C0 V i_Rea o_Rea n_Rea rfl rfl hO48 (by decide) w_297 rfl rfl rfl rfl (Nat.le_of_ble_eq_true rfl) d_10_7_46 (fun H locs w51 hu52 hO48 V => ?_)
      replace hO48 : w51[38]? = (some (q 38, .inr (8, [.long y18, .long y19, .ref (q 1), .ref (q 9), .int y20, .int y21, .int y22, .int y23, .int y24, .int lx47, .int y26, .long 0])) : Option (Nat × va_E)) := hO48
      replace hI := n_p38 hI hu52 hO48 ⟨(by have t1 : 0 ≤ t0_4.toInt ∧ t0_4.toInt ≤ 1 := btt0_4; have t2 : t0_4.toInt ≤ y22.toInt := b40; omega), (by have t1 : 0 ≤ t0_4.toInt ∧ t0_4.toInt ≤ 1 := btt0_4; have t2 : y22.toInt ≤ t0_4.toInt := b41; omega)⟩ ⟨(by have t1 : 0 ≤ y26.toInt := b31; omega), (by have t1 : y26.toInt ≤ 1 := b32; omega)⟩
      replace hF := q_us hF hu52 (by simp)
      refine lv_aload_n hx hb d_10_7_49 rfl (lv_at hl 0 rfl) ?_
      refine q_goi V (q_runV (As := []) (rest := []) (d := 2) (mc := 0) (ms := 0) (ci := 8) C0 V rfl LV_Rea_70 (T_Rea_here l D g q w51   hI   _) rfl rfl hO48 rfl hl.1 rfl (Nat.le_of_ble_eq_true rfl) ⟨by decide, by decide⟩ ⟨Nat.le_of_ble_eq_true rfl, Nat.le_of_ble_eq_true rfl⟩ d_10_7_50) (fun a55 u53 H locs hp54 V => ?_)
      obtain ⟨rfl, b56, b57⟩ := hp54
      replace b56 : q_F (0 ≤ a55.toInt + 1) := b56
      replace b57 : q_F (a55.toInt ≤ 255) := b57
      refine lv_bipush (v := 32) hx hb d_10_7_53 (by decide) ?_
      refine lv_ior hx hb d_10_7_55 ?_
      obtain ⟨a58, e59⟩ := q_nm (a55 ||| 32 : Int32)
      refine q_ti (v := a58) e59 ?_
      refine lv_bipush (v := 101) hx hb d_10_7_56 (by decide) ?_
      refine lv_icmp_ne (tgt := 71) hx hb d_10_7_58 (by decide) (fun c60 => ?_) (fun c60 => ?_)
      ·
        have b61 : q_F (a58.toInt ≠ 101) := (q_neI c60)
        refine lv_iconst (v := 1) hx hb d_10_7_71 (by decide) ?_
        refine lv_goto (tgt := 76) hx hb d_10_7_72 (by decide) ?_
        exact q_retz C0 V (by decide) (⟨hI, hF, y18, y19, y20, y21, y22, y23, y24, lx47, y26, 0, hO48, (show 0 ≤ (1 : Int32).toInt from (by have z10 : (1 : Int32).toInt = 1 := rfl; have z20 : (0 : Int64).toInt = 0 := rfl; omega)), (show (1 : Int32).toInt ≤ 1 from (by have z10 : (1 : Int32).toInt = 1 := rfl; have z20 : (0 : Int64).toInt = 0 := rfl; omega)), (show 0 ≤ y24.toInt from (by have z10 : (1 : Int32).toInt = 1 := rfl; have z20 : (0 : Int64).toInt = 0 := rfl; have t1 : 0 ≤ y24.toInt := b30; omega)), (show 0 ≤ y26.toInt from (by have z10 : (1 : Int32).toInt = 1 := rfl; have z20 : (0 : Int64).toInt = 0 := rfl; have t1 : 0 ≤ y26.toInt := b31; omega)), (show y26.toInt ≤ 1 from (by have z10 : (1 : Int32).toInt = 1 := rfl; have z20 : (0 : Int64).toInt = 0 := rfl; have t1 : y26.toInt ≤ 1 := b32; omega)), (show t0_0.toInt ≤ y18.toInt from (by have z10 : (1 : Int32).toInt = 1 := rfl; have z20 : (0 : Int64).toInt = 0 := rfl; have t1 : t0_0.toInt ≤ y18.toInt := b33; omega)), (show y18.toInt ≤ t0_0.toInt from (by have z10 : (1 : Int32).toInt = 1 := rfl; have z20 : (0 : Int64).toInt = 0 := rfl; have t1 : y18.toInt ≤ t0_0.toInt := b34; omega)), (show t0_1.toInt ≤ y19.toInt from (by have z10 : (1 : Int32).toInt = 1 := rfl; have z20 : (0 : Int64).toInt = 0 := rfl; have t1 : t0_1.toInt ≤ y19.toInt := b35; omega)), (show y19.toInt ≤ t0_1.toInt from (by have z10 : (1 : Int32).toInt = 1 := rfl; have z20 : (0 : Int64).toInt = 0 := rfl; have t1 : y19.toInt ≤ t0_1.toInt := b36; omega)), (show t0_3.toInt ≤ y21.toInt from (by have z10 : (1 : Int32).toInt = 1 := rfl; have z20 : (0 : Int64).toInt = 0 := rfl; have t1 : t0_3.toInt ≤ y21.toInt := b38; omega)), (show y21.toInt ≤ t0_3.toInt from (by have z10 : (1 : Int32).toInt = 1 := rfl; have z20 : (0 : Int64).toInt = 0 := rfl; have t1 : y21.toInt ≤ t0_3.toInt := b39; omega)), (show t0_4.toInt ≤ y22.toInt from (by have z10 : (1 : Int32).toInt = 1 := rfl; have z20 : (0 : Int64).toInt = 0 := rfl; have t1 : t0_4.toInt ≤ y22.toInt := b40; omega)), (show y22.toInt ≤ t0_4.toInt from (by have z10 : (1 : Int32).toInt = 1 := rfl; have z20 : (0 : Int64).toInt = 0 := rfl; have t1 : y22.toInt ≤ t0_4.toInt := b41; omega))⟩) d_10_7_76
      ·
        have b62 : q_F (a58.toInt = 101) := (q_eqI c60)
        refine lv_aload_n hx hb d_10_7_61 rfl (lv_at hl 0 rfl) ?_
        refine lv_sipush (v := 4100) hx hb d_10_7_62 (by decide) ?_
        refine q_goi V (q_runV (As := [.int 4100]) (rest := []) (d := 4) (mc := 0) (ms := 0) (ci := 8) C0 V rfl LV_Rea_73 (T_Rea_takeExponent l D g q w51  4100 hI y18 y19 y20 y21 y22 y23 y24 lx47 y26 0 hO48  _) rfl rfl hO48 rfl hl.1 rfl (Nat.le_of_ble_eq_true rfl) ⟨by decide, by decide⟩ ⟨Nat.le_of_ble_eq_true rfl, Nat.le_of_ble_eq_true rfl⟩ d_10_7_65) (fun a65 u63 H locs hp64 V => ?_)
        obtain ⟨hI, hu95, y67, y68, y69, y70, y71, y72, y73, y74, y75, y76, hO66, b77, b78, b79, b80, b81, b82, b83, b84, b85, b86, b87, b88, b89, b90, b91, b92, b93, b94⟩ := hp64
        replace hO66 : u63[38]? = (some (q 38, .inr (8, [.long y67, .long y68, .ref (q 1), .ref (q 9), .int y69, .int y70, .int y71, .int y72, .int y73, .int y74, .int y75, .long y76])) : Option (Nat × va_E)) := hO66
        replace b77 : q_F (0 ≤ a65.toInt) := b77
        replace b78 : q_F (a65.toInt ≤ 1) := b78
        replace b79 : q_F (y18.toInt ≤ y67.toInt) := b79
        replace b80 : q_F (y67.toInt ≤ y18.toInt) := b80
        replace b81 : q_F (y19.toInt ≤ y68.toInt) := b81
        replace b82 : q_F (y68.toInt ≤ y19.toInt) := b82
        replace b83 : q_F (y21.toInt ≤ y70.toInt) := b83
        replace b84 : q_F (y70.toInt ≤ y21.toInt) := b84
        replace b85 : q_F (y22.toInt ≤ y71.toInt) := b85
        replace b86 : q_F (y71.toInt ≤ y22.toInt) := b86
        replace b87 : q_F (y23.toInt ≤ y72.toInt) := b87
        replace b88 : q_F (y72.toInt ≤ y23.toInt) := b88
        replace b89 : q_F (y24.toInt ≤ y73.toInt) := b89
        replace b90 : q_F (y73.toInt ≤ y24.toInt) := b90
        replace b91 : q_F (lx47.toInt ≤ y74.toInt) := b91
        replace b92 : q_F (y74.toInt ≤ lx47.toInt) := b92
        replace b93 : q_F (y26.toInt ≤ y75.toInt) := b93
        replace b94 : q_F (y75.toInt ≤ y26.toInt) := b94
        replace hF := q_uc hF hu95 (by simp)
        refine lv_if_eq (tgt := 75) hx hb d_10_7_68 (by decide) (fun c96 => ?_) (fun c96 => ?_)
        ·
          have b97 : q_F (a65.toInt = 0) := (q_eqI c96)
          refine lv_iconst (v := 0) hx hb d_10_7_75 (by decide) ?_
          exact q_retz C0 V (by decide) (⟨hI, hF, y67, y68, y69, y70, y71, y72, y73, y74, y75, y76, hO66, (show 0 ≤ (0 : Int32).toInt from (by have z10 : (0 : Int32).toInt = 0 := rfl; omega)), (show (0 : Int32).toInt ≤ 1 from (by have z10 : (0 : Int32).toInt = 0 := rfl; omega)), (show 0 ≤ y73.toInt from (by have z10 : (0 : Int32).toInt = 0 := rfl; have t1 : 0 ≤ y24.toInt := b30; have t2 : y24.toInt ≤ y73.toInt := b89; omega)), (show 0 ≤ y75.toInt from (by have z10 : (0 : Int32).toInt = 0 := rfl; have t1 : 0 ≤ y26.toInt := b31; have t2 : y26.toInt ≤ y75.toInt := b93; omega)), (show y75.toInt ≤ 1 from (by have z10 : (0 : Int32).toInt = 0 := rfl; have t1 : y26.toInt ≤ 1 := b32; have t2 : y75.toInt ≤ y26.toInt := b94; omega)), (show t0_0.toInt ≤ y67.toInt from (by have z10 : (0 : Int32).toInt = 0 := rfl; have t1 : t0_0.toInt ≤ y18.toInt := b33; have t2 : y18.toInt ≤ y67.toInt := b79; omega)), (show y67.toInt ≤ t0_0.toInt from (by have z10 : (0 : Int32).toInt = 0 := rfl; have t1 : y18.toInt ≤ t0_0.toInt := b34; have t2 : y67.toInt ≤ y18.toInt := b80; omega)), (show t0_1.toInt ≤ y68.toInt from (by have z10 : (0 : Int32).toInt = 0 := rfl; have t1 : t0_1.toInt ≤ y19.toInt := b35; have t2 : y19.toInt ≤ y68.toInt := b81; omega)), (show y68.toInt ≤ t0_1.toInt from (by have z10 : (0 : Int32).toInt = 0 := rfl; have t1 : y19.toInt ≤ t0_1.toInt := b36; have t2 : y68.toInt ≤ y19.toInt := b82; omega)), (show t0_3.toInt ≤ y70.toInt from (by have z10 : (0 : Int32).toInt = 0 := rfl; have t1 : t0_3.toInt ≤ y21.toInt := b38; have t2 : y21.toInt ≤ y70.toInt := b83; omega)), (show y70.toInt ≤ t0_3.toInt from (by have z10 : (0 : Int32).toInt = 0 := rfl; have t1 : y21.toInt ≤ t0_3.toInt := b39; have t2 : y70.toInt ≤ y21.toInt := b84; omega)), (show t0_4.toInt ≤ y71.toInt from (by have z10 : (0 : Int32).toInt = 0 := rfl; have t1 : t0_4.toInt ≤ y22.toInt := b40; have t2 : y22.toInt ≤ y71.toInt := b85; omega)), (show y71.toInt ≤ t0_4.toInt from (by have z10 : (0 : Int32).toInt = 0 := rfl; have t1 : y22.toInt ≤ t0_4.toInt := b41; have t2 : y71.toInt ≤ y22.toInt := b86; omega))⟩) d_10_7_76
        ·
          have b98 : q_F (a65.toInt ≠ 0) := (q_neI c96)
          refine lv_iconst (v := 1) hx hb d_10_7_71 (by decide) ?_
          refine lv_goto (tgt := 76) hx hb d_10_7_72 (by decide) ?_
          exact q_retz C0 V (by decide) (⟨hI, hF, y67, y68, y69, y70, y71, y72, y73, y74, y75, y76, hO66, (show 0 ≤ (1 : Int32).toInt from (by have z10 : (1 : Int32).toInt = 1 := rfl; omega)), (show (1 : Int32).toInt ≤ 1 from (by have z10 : (1 : Int32).toInt = 1 := rfl; omega)), (show 0 ≤ y73.toInt from (by have z10 : (1 : Int32).toInt = 1 := rfl; have t1 : 0 ≤ y24.toInt := b30; have t2 : y24.toInt ≤ y73.toInt := b89; omega)), (show 0 ≤ y75.toInt from (by have z10 : (1 : Int32).toInt = 1 := rfl; have t1 : 0 ≤ y26.toInt := b31; have t2 : y26.toInt ≤ y75.toInt := b93; omega)), (show y75.toInt ≤ 1 from (by have z10 : (1 : Int32).toInt = 1 := rfl; have t1 : y26.toInt ≤ 1 := b32; have t2 : y75.toInt ≤ y26.toInt := b94; omega)), (show t0_0.toInt ≤ y67.toInt from (by have z10 : (1 : Int32).toInt = 1 := rfl; have t1 : t0_0.toInt ≤ y18.toInt := b33; have t2 : y18.toInt ≤ y67.toInt := b79; omega)), (show y67.toInt ≤ t0_0.toInt from (by have z10 : (1 : Int32).toInt = 1 := rfl; have t1 : y18.toInt ≤ t0_0.toInt := b34; have t2 : y67.toInt ≤ y18.toInt := b80; omega)), (show t0_1.toInt ≤ y68.toInt from (by have z10 : (1 : Int32).toInt = 1 := rfl; have t1 : t0_1.toInt ≤ y19.toInt := b35; have t2 : y19.toInt ≤ y68.toInt := b81; omega)), (show y68.toInt ≤ t0_1.toInt from (by have z10 : (1 : Int32).toInt = 1 := rfl; have t1 : y19.toInt ≤ t0_1.toInt := b36; have t2 : y68.toInt ≤ y19.toInt := b82; omega)), (show t0_3.toInt ≤ y70.toInt from (by have z10 : (1 : Int32).toInt = 1 := rfl; have t1 : t0_3.toInt ≤ y21.toInt := b38; have t2 : y21.toInt ≤ y70.toInt := b83; omega)), (show y70.toInt ≤ t0_3.toInt from (by have z10 : (1 : Int32).toInt = 1 := rfl; have t1 : y21.toInt ≤ t0_3.toInt := b39; have t2 : y70.toInt ≤ y21.toInt := b84; omega)), (show t0_4.toInt ≤ y71.toInt from (by have z10 : (1 : Int32).toInt = 1 := rfl; have t1 : t0_4.toInt ≤ y22.toInt := b40; have t2 : y22.toInt ≤ y71.toInt := b85; omega)), (show y71.toInt ≤ t0_4.toInt from (by have z10 : (1 : Int32).toInt = 1 := rfl; have t1 : y22.toInt ≤ t0_4.toInt := b41; have t2 : y71.toInt ≤ y22.toInt := b86; omega))⟩) d_10_7_76
    ·
      intro J49
      refine lv_if_eq (tgt := 44) hx hb d_10_7_18 (by decide) (fun c99 => ?_) (fun c99 => ?_)
      ·
        have b100 : q_F (y26.toInt = 0) := (q_eqI c99)
        exact J49 ((y25 : Int32)) _ _ _ _ ⟨V, q_lw hl (q_lw1 0 rfl q_lw0), hI, hF, hO17⟩
      ·
        have b101 : q_F (y26.toInt ≠ 0) := (q_neI c99)
        refine lv_aload_n hx hb d_10_7_21 rfl (lv_at hl 0 rfl) ?_
        refine q_get (ci := 8) (j := 3) (v := .ref (q 9)) C0 V i_Rea rfl rfl hO17 (by decide) w_289 rfl d_10_7_22 ?_
        have hO102 := n_o9 hI
        refine q_get (ci := 4) (j := 0) (v := .ref (q 10)) C0 V i_Mil rfl rfl hO102 (by decide) w_109 rfl d_10_7_25 ?_
        refine lv_bipush (v := 10) hx hb d_10_7_28 (by decide) ?_
        refine lv_iconst (v := 1) hx hb d_10_7_30 (by decide) ?_
        obtain ⟨y104, y105, hO103, b106, b107⟩ := q_bigO hI (n_b10 g q)
        replace b106 : q_F (0 ≤ y104.toInt ∧ y104.toInt ≤ 220) := b106
        replace b107 : q_F (0 ≤ y105.toInt ∧ y105.toInt ≤ 1) := b107
        refine q_gov V (q_runV (As := [.int 10, .int 1]) (rest := []) (d := 1) (mc := 0) (ms := 0) (ci := 2) C0 V rfl LV_Rea_47 (S_Big_multiplySmall l D g (nsh g q) q u14 10 220 (n_b10 g q) 10 1 hI   _) rfl rfl hO103 rfl hl.1 rfl (Nat.le_of_ble_eq_true rfl) ⟨by decide, by decide⟩ ⟨Nat.le_of_ble_eq_true rfl, Nat.le_of_ble_eq_true rfl⟩ d_10_7_31) (fun u108 H locs hp109 V => ?_)
        obtain ⟨_, hI, hu110⟩ := hp109
        replace hO17 := (hu110 _ (by decide)).trans hO17
        replace hO102 := (hu110 _ (by decide)).trans hO102
        replace hF := q_uc hF hu110 (by simp)
        refine lv_aload_n hx hb d_10_7_34 rfl (lv_at hl 0 rfl) ?_
        refine lv_dup hx hb d_10_7_35 rfl ?_
        refine q_get (ci := 8) (j := 9) (v := .int y25) C0 V i_Rea rfl rfl hO17 (by decide) w_295 rfl d_10_7_36 ?_
        refine lv_iconst (v := 1) hx hb d_10_7_39 (by decide) ?_
        refine lv_isub hx hb d_10_7_40 ?_
        obtain ⟨a111, e112⟩ := q_nm (y25 - 1 : Int32)
        refine q_ti (v := a111) e112 ?_
        refine q_put (ci := 8) (j := 9) (v := .int a111) (ty := .int) C0 V i_Rea o_Rea n_Rea rfl rfl hO17 (by decide) w_295 rfl rfl rfl rfl (Nat.le_of_ble_eq_true rfl) d_10_7_41 (fun H locs w113 hu114 hO17 V => ?_)
        replace hO17 : w113[38]? = (some (q 38, .inr (8, [.long y18, .long y19, .ref (q 1), .ref (q 9), .int y20, .int y21, .int y22, .int y23, .int y24, .int a111, .int y26, .long y27])) : Option (Nat × va_E)) := hO17
        replace hI := n_p38 hI hu114 hO17 ⟨(by have t1 : 0 ≤ t0_4.toInt ∧ t0_4.toInt ≤ 1 := btt0_4; have t2 : t0_4.toInt ≤ y22.toInt := b40; omega), (by have t1 : 0 ≤ t0_4.toInt ∧ t0_4.toInt ≤ 1 := btt0_4; have t2 : y22.toInt ≤ t0_4.toInt := b41; omega)⟩ ⟨(by have t1 : 0 ≤ y26.toInt := b31; omega), (by have t1 : y26.toInt ≤ 1 := b32; omega)⟩
        replace hO102 := (hu114 _ (by decide)).trans hO102
        replace hF := q_us hF hu114 (by simp)
        exact J49 ((a111 : Int32)) _ _ _ _ ⟨V, q_lw hl (q_lw1 0 rfl q_lw0), hI, hF, hO17⟩
  ·
    have b115 : q_F (a16.toInt = 0) := (q_eqI c45)
    refine lv_iconst (v := 0) hx hb d_10_7_12 (by decide) ?_
    exact q_retz C0 V (by decide) (⟨hI, hF, y18, y19, y20, y21, y22, y23, y24, y25, y26, y27, hO17, (show 0 ≤ (0 : Int32).toInt from (by have z10 : (0 : Int32).toInt = 0 := rfl; omega)), (show (0 : Int32).toInt ≤ 1 from (by have z10 : (0 : Int32).toInt = 0 := rfl; omega)), (show 0 ≤ y24.toInt from (by have z10 : (0 : Int32).toInt = 0 := rfl; have t1 : 0 ≤ y24.toInt := b30; omega)), (show 0 ≤ y26.toInt from (by have z10 : (0 : Int32).toInt = 0 := rfl; have t1 : 0 ≤ y26.toInt := b31; omega)), (show y26.toInt ≤ 1 from (by have z10 : (0 : Int32).toInt = 0 := rfl; have t1 : y26.toInt ≤ 1 := b32; omega)), (show t0_0.toInt ≤ y18.toInt from (by have z10 : (0 : Int32).toInt = 0 := rfl; have t1 : t0_0.toInt ≤ y18.toInt := b33; omega)), (show y18.toInt ≤ t0_0.toInt from (by have z10 : (0 : Int32).toInt = 0 := rfl; have t1 : y18.toInt ≤ t0_0.toInt := b34; omega)), (show t0_1.toInt ≤ y19.toInt from (by have z10 : (0 : Int32).toInt = 0 := rfl; have t1 : t0_1.toInt ≤ y19.toInt := b35; omega)), (show y19.toInt ≤ t0_1.toInt from (by have z10 : (0 : Int32).toInt = 0 := rfl; have t1 : y19.toInt ≤ t0_1.toInt := b36; omega)), (show t0_3.toInt ≤ y21.toInt from (by have z10 : (0 : Int32).toInt = 0 := rfl; have t1 : t0_3.toInt ≤ y21.toInt := b38; omega)), (show y21.toInt ≤ t0_3.toInt from (by have z10 : (0 : Int32).toInt = 0 := rfl; have t1 : y21.toInt ≤ t0_3.toInt := b39; omega)), (show t0_4.toInt ≤ y22.toInt from (by have z10 : (0 : Int32).toInt = 0 := rfl; have t1 : t0_4.toInt ≤ y22.toInt := b40; omega)), (show y22.toInt ≤ t0_4.toInt from (by have z10 : (0 : Int32).toInt = 0 := rfl; have t1 : y22.toInt ≤ t0_4.toInt := b41; omega))⟩) d_10_7_13
theorem d_10_15_0 : decode prog_10_method_15_code 0 = .ok (.aload_n 0, 1) := by decide +kernel
theorem d_10_15_1 : decode prog_10_method_15_code 1 = .ok (.getfield 40, 3) := by decide +kernel
theorem d_10_15_4 : decode prog_10_method_15_code 4 = .ok (.aload_n 0, 1) := by decide +kernel
theorem d_10_15_5 : decode prog_10_method_15_code 5 = .ok (.getfield 36, 3) := by decide +kernel
theorem d_10_15_8 : decode prog_10_method_15_code 8 = .ok (.isub, 1) := by decide +kernel
theorem d_10_15_9 : decode prog_10_method_15_code 9 = .ok (.aload_n 1, 1) := by decide +kernel
theorem d_10_15_10 : decode prog_10_method_15_code 10 = .ok (.invokevirtual 157, 3) := by decide +kernel
set_option maxRecDepth 100000 in
theorem w_655 : (Cond.methodLink "NumberHouse$Reader" (157 : Nat) ({ cls := "java/lang/String", name := "length", desc := "()I" } : MethodName)) ∈ q_tbl := q_of3 175 rfl (by decide +kernel)
theorem LV_Rea_157 : q_LV "NumberHouse$Reader" 157 y_jStr_length prog_31_method_54_code 1 (some .int) 0 := ⟨w_658, w_25, w_655, w_656, w_657, ⟨by decide, by decide, by decide +kernel⟩⟩
theorem d_10_15_13 : decode prog_10_method_15_code 13 = .ok (.if_icmp .eq 5, 3) := by decide +kernel
theorem d_10_15_18 : decode prog_10_method_15_code 18 = .ok (.iconst 0, 1) := by decide +kernel
theorem d_10_15_19 : decode prog_10_method_15_code 19 = .ok (.istore_n 2, 1) := by decide +kernel
theorem d_10_15_20 : decode prog_10_method_15_code 20 = .ok (.iload_n 2, 1) := by decide +kernel
theorem d_10_15_21 : decode prog_10_method_15_code 21 = .ok (.aload_n 1, 1) := by decide +kernel
theorem d_10_15_22 : decode prog_10_method_15_code 22 = .ok (.invokevirtual 157, 3) := by decide +kernel
theorem d_10_15_25 : decode prog_10_method_15_code 25 = .ok (.if_icmp .ge 33, 3) := by decide +kernel
theorem d_10_15_58 : decode prog_10_method_15_code 58 = .ok (.iconst 1, 1) := by decide +kernel
theorem d_10_15_59 : decode prog_10_method_15_code 59 = .ok (.ireturn, 1) := by decide +kernel
theorem d_10_15_28 : decode prog_10_method_15_code 28 = .ok (.aload_n 0, 1) := by decide +kernel
theorem d_10_15_29 : decode prog_10_method_15_code 29 = .ok (.getfield 9, 3) := by decide +kernel
theorem d_10_15_32 : decode prog_10_method_15_code 32 = .ok (.aload_n 0, 1) := by decide +kernel
theorem d_10_15_33 : decode prog_10_method_15_code 33 = .ok (.getfield 36, 3) := by decide +kernel
theorem d_10_15_36 : decode prog_10_method_15_code 36 = .ok (.iload_n 2, 1) := by decide +kernel
theorem d_10_15_37 : decode prog_10_method_15_code 37 = .ok (.iadd, 1) := by decide +kernel
theorem d_10_15_38 : decode prog_10_method_15_code 38 = .ok (.i2l, 1) := by decide +kernel
theorem d_10_15_39 : decode prog_10_method_15_code 39 = .ok (.invokevirtual 139, 3) := by decide +kernel
theorem d_10_15_42 : decode prog_10_method_15_code 42 = .ok (.aload_n 1, 1) := by decide +kernel
theorem d_10_15_43 : decode prog_10_method_15_code 43 = .ok (.iload_n 2, 1) := by decide +kernel
theorem d_10_15_44 : decode prog_10_method_15_code 44 = .ok (.invokevirtual 162, 3) := by decide +kernel
set_option maxRecDepth 100000 in
theorem w_668 : (Cond.code ({ cls := "java/lang/String", name := "charAt", desc := "(I)C" } : MethodName) prog_31_method_56_code (2 : Nat) (some .char)) ∈ q_tbl := q_of3 188 rfl (by decide +kernel)
set_option maxRecDepth 100000 in
theorem w_665 : (Cond.methodLink "NumberHouse$Reader" (162 : Nat) ({ cls := "java/lang/String", name := "charAt", desc := "(I)C" } : MethodName)) ∈ q_tbl := q_of3 185 rfl (by decide +kernel)
set_option maxRecDepth 100000 in
theorem w_666 : (Cond.instanceMethod ({ cls := "java/lang/String", name := "charAt", desc := "(I)C" } : MethodName)) ∈ q_tbl := q_of3 186 rfl (by decide +kernel)
set_option maxRecDepth 100000 in
theorem w_667 : (Cond.selects "java/lang/String" ({ cls := "java/lang/String", name := "charAt", desc := "(I)C" } : MethodName) ({ cls := "java/lang/String", name := "charAt", desc := "(I)C" } : MethodName)) ∈ q_tbl := q_of3 187 rfl (by decide +kernel)
theorem LV_Rea_162 : q_LV "NumberHouse$Reader" 162 y_jStr_charAt prog_31_method_56_code 2 (some .char) 1 := ⟨w_668, w_25, w_665, w_666, w_667, ⟨by decide, by decide, by decide +kernel⟩⟩
theorem d_10_15_47 : decode prog_10_method_15_code 47 = .ok (.if_icmp .eq 5, 3) := by decide +kernel
theorem d_10_15_52 : decode prog_10_method_15_code 52 = .ok (.iinc 2 1, 3) := by decide +kernel
theorem d_10_15_55 : decode prog_10_method_15_code 55 = .ok (.goto (-35), 3) := by decide +kernel
theorem d_10_15_50 : decode prog_10_method_15_code 50 = .ok (.iconst 0, 1) := by decide +kernel
theorem d_10_15_51 : decode prog_10_method_15_code 51 = .ok (.ireturn, 1) := by decide +kernel
theorem d_10_15_16 : decode prog_10_method_15_code 16 = .ok (.iconst 0, 1) := by decide +kernel
theorem d_10_15_17 : decode prog_10_method_15_code 17 = .ok (.ireturn, 1) := by decide +kernel
def y_Rea_saysRest : MethodName := ⟨"NumberHouse$Reader", "saysRest", "(Ljava/lang/String;)Z"⟩
set_option maxRecDepth 100000 in
set_option maxHeartbeats 4000000 in
theorem T_Rea_saysRest_20 (l : Launch) (D : va_G) (g : Nat → ClassId) (q : Nat → Nat) (ws : va_W) (hI : q_I (nsh g q) q ws) : q_mI l y_Rea_saysRest prog_10_method_15_code 3 (.boolean) 5 0 0 D g [.ref (q 38), .ref (g (8 + 2 * 20))] ws (fun r u => ws = u ∧ (0 ≤ r.toInt) ∧ (r.toInt ≤ 1)) := by
  intro sz
  refine q_into (by decide) (Nat.le_of_ble_eq_true rfl) ?_
  intro p e s m below meth c ls hsz C0 V hl
  have hx := C0.1
  have hb := C0.2.1
  have hl : lv_has ls 3 [(0, .ref (q 38)), (1, .ref (g (8 + 2 * 20)))] := hl
  refine lv_aload_n hx hb d_10_15_0 rfl (lv_at hl 0 rfl) ?_
  obtain ⟨y2, y3, y4, y5, y6, y8, y9, y10, y11, y13, hO1, b7, b12⟩ := n_o38 hI
  replace b7 : q_F (0 ≤ y6.toInt ∧ y6.toInt ≤ 1) := b7
  replace b12 : q_F (0 ≤ y11.toInt ∧ y11.toInt ≤ 1) := b12
  refine q_get (ci := 8) (j := 5) (v := .int y5) C0 V i_Rea rfl rfl hO1 (by decide) w_291 rfl d_10_15_1 ?_
  refine lv_aload_n hx hb d_10_15_4 rfl (lv_at hl 0 rfl) ?_
  refine q_get (ci := 8) (j := 4) (v := .int y4) C0 V i_Rea rfl rfl hO1 (by decide) w_290 rfl d_10_15_5 ?_
  refine lv_isub hx hb d_10_15_8 ?_
  obtain ⟨a14, e15⟩ := q_nm (y5 - y4 : Int32)
  refine q_ti (v := a14) e15 ?_
  refine lv_aload_n hx hb d_10_15_9 rfl (lv_at hl 1 rfl) ?_
  refine q_goi V (q_runVs (As := []) (rest := [.int a14]) (d := 2) (mc := 0) (ms := 0) (i := 20) C0 V rfl LV_Rea_157 (T_jStr_length_20 l D g q ws   hI   _) rfl rfl rfl hl.1 rfl (Nat.le_of_ble_eq_true rfl) ⟨by decide, by decide⟩ ⟨Nat.le_of_ble_eq_true rfl, Nat.le_of_ble_eq_true rfl⟩ d_10_15_10) (fun a18 u16 H locs hp17 V => ?_)
  obtain ⟨rfl, b19, b20⟩ := hp17
  replace b19 : q_F (3 ≤ a18.toInt) := b19
  replace b20 : q_F (a18.toInt ≤ 3) := b20
  obtain rfl : a18 = (3 : Int32) := q_Ieq (x := a18.toInt) (y := 3) rfl (by decide) (by have t1 : 3 ≤ a18.toInt := b19; have t2 : a18.toInt ≤ 3 := b20; omega)
  refine lv_icmp_eq (tgt := 18) hx hb d_10_15_13 (by decide) (fun c21 => ?_) (fun c21 => ?_)
  ·
    have b22 : q_F (a14.toInt = 3) := (q_eqI c21)
    refine lv_iconst (v := 0) hx hb d_10_15_18 (by decide) ?_
    refine lv_istore_n (lv' := [(2, .int 0), (0, .ref (q 38)), (1, .ref (g (8 + 2 * 20)))]) hx hb d_10_15_19 rfl hl (by decide) rfl (fun ls hl => ?_)
    refine q_loop (X := Int32) (fun z H locs ls _ => q_F (0 ≤ z.toInt) ∧ q_F (z.toInt ≤ 3) ∧ q_Wd D g (va_A ws sz) s ws H locs ∧ lv_has ls 3 [(2, .int z), (0, .ref (q 38)), (1, .ref (g (8 + 2 * 20)))]) (fun z => (3 - z.toInt).toNat) ?_ ((0 : Int32)) _ _ _ ws ⟨(show q_F (0 ≤ 0) from (show 0 ≤ 0 from by omega)), (show q_F (0 ≤ 3) from (show 0 ≤ 3 from by omega)), V, q_lw hl (q_lw1 0 rfl (q_lw1 1 rfl (q_lw1 2 rfl q_lw0)))⟩
    rintro lx24 H locs ls _ ⟨i25, i26, V, hl⟩ ih27
    replace i25 : q_F (0 ≤ lx24.toInt) := i25
    replace i26 : q_F (lx24.toInt ≤ 3) := i26
    replace hl : lv_has ls 3 [(2, .int lx24), (0, .ref (q 38)), (1, .ref (g (8 + 2 * 20)))] := hl
    refine lv_iload_n hx hb d_10_15_20 rfl (lv_at hl 0 rfl) ?_
    refine lv_aload_n hx hb d_10_15_21 rfl (lv_at hl 2 rfl) ?_
    refine q_goi V (q_runVs (As := []) (rest := [.int lx24]) (d := 2) (mc := 0) (ms := 0) (i := 20) C0 V rfl LV_Rea_157 (T_jStr_length_20 l D g q ws   hI   _) rfl rfl rfl hl.1 rfl (Nat.le_of_ble_eq_true rfl) ⟨by decide, by decide⟩ ⟨Nat.le_of_ble_eq_true rfl, Nat.le_of_ble_eq_true rfl⟩ d_10_15_22) (fun a30 u28 H locs hp29 V => ?_)
    obtain ⟨rfl, b31, b32⟩ := hp29
    replace b31 : q_F (3 ≤ a30.toInt) := b31
    replace b32 : q_F (a30.toInt ≤ 3) := b32
    obtain rfl : a30 = (3 : Int32) := q_Ieq (x := a30.toInt) (y := 3) rfl (by decide) (by have t1 : 3 ≤ a30.toInt := b31; have t2 : a30.toInt ≤ 3 := b32; omega)
    refine lv_icmp_ge (tgt := 58) hx hb d_10_15_25 (by decide) (fun c33 => ?_) (fun c33 => ?_)
    ·
      have b34 : q_F (3 ≤ lx24.toInt) := (q_leI c33)
      refine lv_iconst (v := 1) hx hb d_10_15_58 (by decide) ?_
      exact q_retz C0 V (by decide) (⟨rfl, (show 0 ≤ (1 : Int32).toInt from (by have z0 : (1 : Int32).toInt = 1 := rfl; omega)), (show (1 : Int32).toInt ≤ 1 from (by have z0 : (1 : Int32).toInt = 1 := rfl; omega))⟩) d_10_15_59
    ·
      have b35 : q_F (lx24.toInt < 3) := (q_nleI c33)
      refine lv_aload_n hx hb d_10_15_28 rfl (lv_at hl 1 rfl) ?_
      refine q_get (ci := 8) (j := 2) (v := .ref (q 1)) C0 V i_Rea rfl rfl hO1 (by decide) w_288 rfl d_10_15_29 ?_
      refine lv_aload_n hx hb d_10_15_32 rfl (lv_at hl 1 rfl) ?_
      refine q_get (ci := 8) (j := 4) (v := .int y4) C0 V i_Rea rfl rfl hO1 (by decide) w_290 rfl d_10_15_33 ?_
      refine lv_iload_n hx hb d_10_15_36 rfl (lv_at hl 0 rfl) ?_
      refine lv_iadd hx hb d_10_15_37 ?_
      obtain ⟨a36, e37⟩ := q_nm (y4 + lx24 : Int32)
      refine q_ti (v := a36) e37 ?_
      refine lv_i2l hx hb d_10_15_38 rfl ?_
      obtain ⟨j38, e39⟩ := q_nm (a36.toInt64 : Int64)
      refine q_tl (v := j38) e39 ?_
      have b40 : q_F (j38.toInt = a36.toInt) := (by rw [← e39]; show (a36.toInt64 : Int64).toInt = a36.toInt; exact q_i2l rfl)
      obtain ⟨y42, hO41, b43⟩ := n_shO hI (n_h1 g q)
      replace b43 : q_F (0 ≤ y42.toInt ∧ y42.toInt ≤ 4100) := b43
      refine q_goi V (q_runV (As := [.long j38]) (rest := []) (d := 1) (mc := 0) (ms := 0) (ci := 1) C0 V rfl LV_Rea_139 (T_She_at l D g q ws 1 4100 513 4100 (n_h1 g q) j38 hI   _) rfl rfl hO41 rfl hl.1 rfl (Nat.le_of_ble_eq_true rfl) ⟨by decide, by decide⟩ ⟨Nat.le_of_ble_eq_true rfl, Nat.le_of_ble_eq_true rfl⟩ d_10_15_39) (fun a46 u44 H locs hp45 V => ?_)
      obtain ⟨rfl, b47, b48, pu49⟩ := hp45
      replace b47 : q_F (0 ≤ a46.toInt) := b47
      replace b48 : q_F (a46.toInt ≤ 255) := b48
      refine lv_aload_n hx hb d_10_15_42 rfl (lv_at hl 2 rfl) ?_
      refine lv_iload_n hx hb d_10_15_43 rfl (lv_at hl 0 rfl) ?_
      refine q_goi V (q_runVs (As := [.int lx24]) (rest := [.int a46]) (d := 4) (mc := 0) (ms := 0) (i := 20) C0 V rfl LV_Rea_162 (T_jStr_charAt_20 l D g q ws  lx24 hI  (by have t1 : 0 ≤ lx24.toInt := i25; omega) (by have t1 : lx24.toInt < 3 := b35; omega) _) rfl rfl rfl hl.1 rfl (Nat.le_of_ble_eq_true rfl) ⟨by decide, by decide⟩ ⟨Nat.le_of_ble_eq_true rfl, Nat.le_of_ble_eq_true rfl⟩ d_10_15_44) (fun a52 u50 H locs hp51 V => ?_)
      obtain ⟨rfl, b53, b54⟩ := hp51
      replace b53 : q_F (0 ≤ a52.toInt) := b53
      replace b54 : q_F (a52.toInt ≤ 255) := b54
      refine lv_icmp_eq (tgt := 52) hx hb d_10_15_47 (by decide) (fun c55 => ?_) (fun c55 => ?_)
      ·
        have b56 : q_F (a46.toInt = a52.toInt) := (q_eqI c55)
        obtain ⟨a57, e58⟩ := q_nm (lx24 + 1 : Int32)
        have b59 : q_F (a57.toInt = lx24.toInt + 1) := (by rw [← e58]; exact q_addI (y := 1) rfl (by decide) (by have t1 : 0 ≤ lx24.toInt := i25; have t2 : lx24.toInt ≤ 3 := i26; omega) (by have t1 : 0 ≤ lx24.toInt := i25; have t2 : lx24.toInt ≤ 3 := i26; omega))
        refine lv_iinc (v := a57) (lv' := [(2, .int a57), (0, .ref (q 38)), (1, .ref (g (8 + 2 * 20)))]) hx hb d_10_15_52 hl (k := 0) rfl (e58) (by decide) rfl (fun ls hl => ?_)
        refine lv_goto (tgt := 20) hx hb d_10_15_55 (by decide) ?_
        exact ih27 ((a57 : Int32)) _ _ _ ws (show (3 - a57.toInt).toNat < (3 - lx24.toInt).toNat from by have t1 : a57.toInt = lx24.toInt + 1 := b59; have t2 : lx24.toInt ≤ 3 := i26; have t3 : lx24.toInt < 3 := b35; omega) ⟨(show q_F (0 ≤ a57.toInt) from (show 0 ≤ a57.toInt from by have t1 : 0 ≤ lx24.toInt := i25; have t2 : a57.toInt = lx24.toInt + 1 := b59; omega)), (show q_F (a57.toInt ≤ 3) from (show a57.toInt ≤ 3 from by have t1 : lx24.toInt < 3 := b35; have t2 : a57.toInt = lx24.toInt + 1 := b59; omega)), V, q_lw hl (q_lw1 0 rfl (q_lw1 1 rfl (q_lw1 2 rfl q_lw0)))⟩
      ·
        have b60 : q_F (a46.toInt ≠ a52.toInt) := (q_neI c55)
        refine lv_iconst (v := 0) hx hb d_10_15_50 (by decide) ?_
        exact q_retz C0 V (by decide) (⟨rfl, (show 0 ≤ (0 : Int32).toInt from (by have z0 : (0 : Int32).toInt = 0 := rfl; omega)), (show (0 : Int32).toInt ≤ 1 from (by have z0 : (0 : Int32).toInt = 0 := rfl; omega))⟩) d_10_15_51
  ·
    have b61 : q_F (a14.toInt ≠ 3) := (q_neI c21)
    refine lv_iconst (v := 0) hx hb d_10_15_16 (by decide) ?_
    exact q_retz C0 V (by decide) (⟨rfl, (show 0 ≤ (0 : Int32).toInt from (by have z0 : (0 : Int32).toInt = 0 := rfl; omega)), (show (0 : Int32).toInt ≤ 1 from (by have z0 : (0 : Int32).toInt = 0 := rfl; omega))⟩) d_10_15_17
set_option maxRecDepth 100000 in
set_option maxHeartbeats 4000000 in
theorem T_Rea_saysRest_21 (l : Launch) (D : va_G) (g : Nat → ClassId) (q : Nat → Nat) (ws : va_W) (hI : q_I (nsh g q) q ws) : q_mI l y_Rea_saysRest prog_10_method_15_code 3 (.boolean) 5 0 0 D g [.ref (q 38), .ref (g (8 + 2 * 21))] ws (fun r u => ws = u ∧ (0 ≤ r.toInt) ∧ (r.toInt ≤ 1)) := by
  intro sz
  refine q_into (by decide) (Nat.le_of_ble_eq_true rfl) ?_
  intro p e s m below meth c ls hsz C0 V hl
  have hx := C0.1
  have hb := C0.2.1
  have hl : lv_has ls 3 [(0, .ref (q 38)), (1, .ref (g (8 + 2 * 21)))] := hl
  refine lv_aload_n hx hb d_10_15_0 rfl (lv_at hl 0 rfl) ?_
  obtain ⟨y2, y3, y4, y5, y6, y8, y9, y10, y11, y13, hO1, b7, b12⟩ := n_o38 hI
  replace b7 : q_F (0 ≤ y6.toInt ∧ y6.toInt ≤ 1) := b7
  replace b12 : q_F (0 ≤ y11.toInt ∧ y11.toInt ≤ 1) := b12
  refine q_get (ci := 8) (j := 5) (v := .int y5) C0 V i_Rea rfl rfl hO1 (by decide) w_291 rfl d_10_15_1 ?_
  refine lv_aload_n hx hb d_10_15_4 rfl (lv_at hl 0 rfl) ?_
  refine q_get (ci := 8) (j := 4) (v := .int y4) C0 V i_Rea rfl rfl hO1 (by decide) w_290 rfl d_10_15_5 ?_
  refine lv_isub hx hb d_10_15_8 ?_
  obtain ⟨a14, e15⟩ := q_nm (y5 - y4 : Int32)
  refine q_ti (v := a14) e15 ?_
  refine lv_aload_n hx hb d_10_15_9 rfl (lv_at hl 1 rfl) ?_
  refine q_goi V (q_runVs (As := []) (rest := [.int a14]) (d := 2) (mc := 0) (ms := 0) (i := 21) C0 V rfl LV_Rea_157 (T_jStr_length_21 l D g q ws   hI   _) rfl rfl rfl hl.1 rfl (Nat.le_of_ble_eq_true rfl) ⟨by decide, by decide⟩ ⟨Nat.le_of_ble_eq_true rfl, Nat.le_of_ble_eq_true rfl⟩ d_10_15_10) (fun a18 u16 H locs hp17 V => ?_)
  obtain ⟨rfl, b19, b20⟩ := hp17
  replace b19 : q_F (8 ≤ a18.toInt) := b19
  replace b20 : q_F (a18.toInt ≤ 8) := b20
  obtain rfl : a18 = (8 : Int32) := q_Ieq (x := a18.toInt) (y := 8) rfl (by decide) (by have t1 : 8 ≤ a18.toInt := b19; have t2 : a18.toInt ≤ 8 := b20; omega)
  refine lv_icmp_eq (tgt := 18) hx hb d_10_15_13 (by decide) (fun c21 => ?_) (fun c21 => ?_)
  ·
    have b22 : q_F (a14.toInt = 8) := (q_eqI c21)
    refine lv_iconst (v := 0) hx hb d_10_15_18 (by decide) ?_
    refine lv_istore_n (lv' := [(2, .int 0), (0, .ref (q 38)), (1, .ref (g (8 + 2 * 21)))]) hx hb d_10_15_19 rfl hl (by decide) rfl (fun ls hl => ?_)
    refine q_loop (X := Int32) (fun z H locs ls _ => q_F (0 ≤ z.toInt) ∧ q_F (z.toInt ≤ 8) ∧ q_Wd D g (va_A ws sz) s ws H locs ∧ lv_has ls 3 [(2, .int z), (0, .ref (q 38)), (1, .ref (g (8 + 2 * 21)))]) (fun z => (8 - z.toInt).toNat) ?_ ((0 : Int32)) _ _ _ ws ⟨(show q_F (0 ≤ 0) from (show 0 ≤ 0 from by omega)), (show q_F (0 ≤ 8) from (show 0 ≤ 8 from by omega)), V, q_lw hl (q_lw1 0 rfl (q_lw1 1 rfl (q_lw1 2 rfl q_lw0)))⟩
    rintro lx24 H locs ls _ ⟨i25, i26, V, hl⟩ ih27
    replace i25 : q_F (0 ≤ lx24.toInt) := i25
    replace i26 : q_F (lx24.toInt ≤ 8) := i26
    replace hl : lv_has ls 3 [(2, .int lx24), (0, .ref (q 38)), (1, .ref (g (8 + 2 * 21)))] := hl
    refine lv_iload_n hx hb d_10_15_20 rfl (lv_at hl 0 rfl) ?_
    refine lv_aload_n hx hb d_10_15_21 rfl (lv_at hl 2 rfl) ?_
    refine q_goi V (q_runVs (As := []) (rest := [.int lx24]) (d := 2) (mc := 0) (ms := 0) (i := 21) C0 V rfl LV_Rea_157 (T_jStr_length_21 l D g q ws   hI   _) rfl rfl rfl hl.1 rfl (Nat.le_of_ble_eq_true rfl) ⟨by decide, by decide⟩ ⟨Nat.le_of_ble_eq_true rfl, Nat.le_of_ble_eq_true rfl⟩ d_10_15_22) (fun a30 u28 H locs hp29 V => ?_)
    obtain ⟨rfl, b31, b32⟩ := hp29
    replace b31 : q_F (8 ≤ a30.toInt) := b31
    replace b32 : q_F (a30.toInt ≤ 8) := b32
    obtain rfl : a30 = (8 : Int32) := q_Ieq (x := a30.toInt) (y := 8) rfl (by decide) (by have t1 : 8 ≤ a30.toInt := b31; have t2 : a30.toInt ≤ 8 := b32; omega)
    refine lv_icmp_ge (tgt := 58) hx hb d_10_15_25 (by decide) (fun c33 => ?_) (fun c33 => ?_)
    ·
      have b34 : q_F (8 ≤ lx24.toInt) := (q_leI c33)
      refine lv_iconst (v := 1) hx hb d_10_15_58 (by decide) ?_
      exact q_retz C0 V (by decide) (⟨rfl, (show 0 ≤ (1 : Int32).toInt from (by have z0 : (1 : Int32).toInt = 1 := rfl; omega)), (show (1 : Int32).toInt ≤ 1 from (by have z0 : (1 : Int32).toInt = 1 := rfl; omega))⟩) d_10_15_59
    ·
      have b35 : q_F (lx24.toInt < 8) := (q_nleI c33)
      refine lv_aload_n hx hb d_10_15_28 rfl (lv_at hl 1 rfl) ?_
      refine q_get (ci := 8) (j := 2) (v := .ref (q 1)) C0 V i_Rea rfl rfl hO1 (by decide) w_288 rfl d_10_15_29 ?_
      refine lv_aload_n hx hb d_10_15_32 rfl (lv_at hl 1 rfl) ?_
      refine q_get (ci := 8) (j := 4) (v := .int y4) C0 V i_Rea rfl rfl hO1 (by decide) w_290 rfl d_10_15_33 ?_
      refine lv_iload_n hx hb d_10_15_36 rfl (lv_at hl 0 rfl) ?_
      refine lv_iadd hx hb d_10_15_37 ?_
      obtain ⟨a36, e37⟩ := q_nm (y4 + lx24 : Int32)
      refine q_ti (v := a36) e37 ?_
      refine lv_i2l hx hb d_10_15_38 rfl ?_
      obtain ⟨j38, e39⟩ := q_nm (a36.toInt64 : Int64)
      refine q_tl (v := j38) e39 ?_
      have b40 : q_F (j38.toInt = a36.toInt) := (by rw [← e39]; show (a36.toInt64 : Int64).toInt = a36.toInt; exact q_i2l rfl)
      obtain ⟨y42, hO41, b43⟩ := n_shO hI (n_h1 g q)
      replace b43 : q_F (0 ≤ y42.toInt ∧ y42.toInt ≤ 4100) := b43
      refine q_goi V (q_runV (As := [.long j38]) (rest := []) (d := 1) (mc := 0) (ms := 0) (ci := 1) C0 V rfl LV_Rea_139 (T_She_at l D g q ws 1 4100 513 4100 (n_h1 g q) j38 hI   _) rfl rfl hO41 rfl hl.1 rfl (Nat.le_of_ble_eq_true rfl) ⟨by decide, by decide⟩ ⟨Nat.le_of_ble_eq_true rfl, Nat.le_of_ble_eq_true rfl⟩ d_10_15_39) (fun a46 u44 H locs hp45 V => ?_)
      obtain ⟨rfl, b47, b48, pu49⟩ := hp45
      replace b47 : q_F (0 ≤ a46.toInt) := b47
      replace b48 : q_F (a46.toInt ≤ 255) := b48
      refine lv_aload_n hx hb d_10_15_42 rfl (lv_at hl 2 rfl) ?_
      refine lv_iload_n hx hb d_10_15_43 rfl (lv_at hl 0 rfl) ?_
      refine q_goi V (q_runVs (As := [.int lx24]) (rest := [.int a46]) (d := 4) (mc := 0) (ms := 0) (i := 21) C0 V rfl LV_Rea_162 (T_jStr_charAt_21 l D g q ws  lx24 hI  (by have t1 : 0 ≤ lx24.toInt := i25; omega) (by have t1 : lx24.toInt < 8 := b35; omega) _) rfl rfl rfl hl.1 rfl (Nat.le_of_ble_eq_true rfl) ⟨by decide, by decide⟩ ⟨Nat.le_of_ble_eq_true rfl, Nat.le_of_ble_eq_true rfl⟩ d_10_15_44) (fun a52 u50 H locs hp51 V => ?_)
      obtain ⟨rfl, b53, b54⟩ := hp51
      replace b53 : q_F (0 ≤ a52.toInt) := b53
      replace b54 : q_F (a52.toInt ≤ 255) := b54
      refine lv_icmp_eq (tgt := 52) hx hb d_10_15_47 (by decide) (fun c55 => ?_) (fun c55 => ?_)
      ·
        have b56 : q_F (a46.toInt = a52.toInt) := (q_eqI c55)
        obtain ⟨a57, e58⟩ := q_nm (lx24 + 1 : Int32)
        have b59 : q_F (a57.toInt = lx24.toInt + 1) := (by rw [← e58]; exact q_addI (y := 1) rfl (by decide) (by have t1 : 0 ≤ lx24.toInt := i25; have t2 : lx24.toInt ≤ 8 := i26; omega) (by have t1 : 0 ≤ lx24.toInt := i25; have t2 : lx24.toInt ≤ 8 := i26; omega))
        refine lv_iinc (v := a57) (lv' := [(2, .int a57), (0, .ref (q 38)), (1, .ref (g (8 + 2 * 21)))]) hx hb d_10_15_52 hl (k := 0) rfl (e58) (by decide) rfl (fun ls hl => ?_)
        refine lv_goto (tgt := 20) hx hb d_10_15_55 (by decide) ?_
        exact ih27 ((a57 : Int32)) _ _ _ ws (show (8 - a57.toInt).toNat < (8 - lx24.toInt).toNat from by have t1 : a57.toInt = lx24.toInt + 1 := b59; have t2 : lx24.toInt ≤ 8 := i26; have t3 : lx24.toInt < 8 := b35; omega) ⟨(show q_F (0 ≤ a57.toInt) from (show 0 ≤ a57.toInt from by have t1 : 0 ≤ lx24.toInt := i25; have t2 : a57.toInt = lx24.toInt + 1 := b59; omega)), (show q_F (a57.toInt ≤ 8) from (show a57.toInt ≤ 8 from by have t1 : lx24.toInt < 8 := b35; have t2 : a57.toInt = lx24.toInt + 1 := b59; omega)), V, q_lw hl (q_lw1 0 rfl (q_lw1 1 rfl (q_lw1 2 rfl q_lw0)))⟩
      ·
        have b60 : q_F (a46.toInt ≠ a52.toInt) := (q_neI c55)
        refine lv_iconst (v := 0) hx hb d_10_15_50 (by decide) ?_
        exact q_retz C0 V (by decide) (⟨rfl, (show 0 ≤ (0 : Int32).toInt from (by have z0 : (0 : Int32).toInt = 0 := rfl; omega)), (show (0 : Int32).toInt ≤ 1 from (by have z0 : (0 : Int32).toInt = 0 := rfl; omega))⟩) d_10_15_51
  ·
    have b61 : q_F (a14.toInt ≠ 8) := (q_neI c21)
    refine lv_iconst (v := 0) hx hb d_10_15_16 (by decide) ?_
    exact q_retz C0 V (by decide) (⟨rfl, (show 0 ≤ (0 : Int32).toInt from (by have z0 : (0 : Int32).toInt = 0 := rfl; omega)), (show (0 : Int32).toInt ≤ 1 from (by have z0 : (0 : Int32).toInt = 0 := rfl; omega))⟩) d_10_15_17
theorem d_10_2_0 : decode prog_10_method_2_code 0 = .ok (.aload_n 0, 1) := by decide +kernel
theorem d_10_2_1 : decode prog_10_method_2_code 1 = .ok (.invokevirtual 19, 3) := by decide +kernel
set_option maxRecDepth 100000 in
theorem w_588 : (Cond.code ({ cls := "NumberHouse$Reader", name := "begin", desc := "()V" } : MethodName) prog_10_method_9_code (1 : Nat) (none : Option ClassFile.FieldType)) ∈ q_tbl := q_of3 108 rfl (by decide +kernel)
set_option maxRecDepth 100000 in
theorem w_585 : (Cond.methodLink "NumberHouse$Reader" (19 : Nat) ({ cls := "NumberHouse$Reader", name := "begin", desc := "()V" } : MethodName)) ∈ q_tbl := q_of3 105 rfl (by decide +kernel)
set_option maxRecDepth 100000 in
theorem w_587 : (Cond.instanceMethod ({ cls := "NumberHouse$Reader", name := "begin", desc := "()V" } : MethodName)) ∈ q_tbl := q_of3 107 rfl (by decide +kernel)
theorem ws_1 : Cond.selects "NumberHouse$Reader" (⟨"NumberHouse$Reader", "begin", "()V"⟩ : MethodName) (⟨"NumberHouse$Reader", "begin", "()V"⟩ : MethodName) ∈ q_tbl := q_ofs 1 (by decide +kernel) (by decide +kernel)
theorem LV_Rea_19 : q_LV "NumberHouse$Reader" 19 y_Rea_begin prog_10_method_9_code 1 none 0 := ⟨w_588, w_10, w_585, w_587, ws_1, ⟨by decide, by decide, by decide +kernel⟩⟩
theorem d_10_2_4 : decode prog_10_method_2_code 4 = .ok (.aload_n 0, 1) := by decide +kernel
theorem d_10_2_5 : decode prog_10_method_2_code 5 = .ok (.invokevirtual 22, 3) := by decide +kernel
set_option maxRecDepth 100000 in
theorem w_592 : (Cond.code ({ cls := "NumberHouse$Reader", name := "takeSign", desc := "()V" } : MethodName) prog_10_method_11_code (2 : Nat) (none : Option ClassFile.FieldType)) ∈ q_tbl := q_of3 112 rfl (by decide +kernel)
set_option maxRecDepth 100000 in
theorem w_589 : (Cond.methodLink "NumberHouse$Reader" (22 : Nat) ({ cls := "NumberHouse$Reader", name := "takeSign", desc := "()V" } : MethodName)) ∈ q_tbl := q_of3 109 rfl (by decide +kernel)
set_option maxRecDepth 100000 in
theorem w_591 : (Cond.instanceMethod ({ cls := "NumberHouse$Reader", name := "takeSign", desc := "()V" } : MethodName)) ∈ q_tbl := q_of3 111 rfl (by decide +kernel)
theorem ws_2 : Cond.selects "NumberHouse$Reader" (⟨"NumberHouse$Reader", "takeSign", "()V"⟩ : MethodName) (⟨"NumberHouse$Reader", "takeSign", "()V"⟩ : MethodName) ∈ q_tbl := q_ofs 2 (by decide +kernel) (by decide +kernel)
theorem LV_Rea_22 : q_LV "NumberHouse$Reader" 22 y_Rea_takeSign prog_10_method_11_code 2 none 0 := ⟨w_592, w_10, w_589, w_591, ws_2, ⟨by decide, by decide, by decide +kernel⟩⟩
theorem d_10_2_8 : decode prog_10_method_2_code 8 = .ok (.aload_n 0, 1) := by decide +kernel
theorem d_10_2_9 : decode prog_10_method_2_code 9 = .ok (.getfield 15, 3) := by decide +kernel
theorem d_10_2_12 : decode prog_10_method_2_code 12 = .ok (.getfield 25, 3) := by decide +kernel
theorem d_10_2_15 : decode prog_10_method_2_code 15 = .ok (.astore_n 2, 1) := by decide +kernel
theorem d_10_2_16 : decode prog_10_method_2_code 16 = .ok (.aload_n 2, 1) := by decide +kernel
theorem d_10_2_17 : decode prog_10_method_2_code 17 = .ok (.invokevirtual 31, 3) := by decide +kernel
theorem d_10_2_20 : decode prog_10_method_2_code 20 = .ok (.iconst 1, 1) := by decide +kernel
theorem d_10_2_21 : decode prog_10_method_2_code 21 = .ok (.istore_n 3, 1) := by decide +kernel
theorem d_10_2_22 : decode prog_10_method_2_code 22 = .ok (.aload_n 0, 1) := by decide +kernel
theorem d_10_2_23 : decode prog_10_method_2_code 23 = .ok (.getfield 36, 3) := by decide +kernel
theorem d_10_2_26 : decode prog_10_method_2_code 26 = .ok (.aload_n 0, 1) := by decide +kernel
theorem d_10_2_27 : decode prog_10_method_2_code 27 = .ok (.getfield 40, 3) := by decide +kernel
theorem d_10_2_30 : decode prog_10_method_2_code 30 = .ok (.if_icmp .lt 5, 3) := by decide +kernel
theorem d_10_2_35 : decode prog_10_method_2_code 35 = .ok (.aload_n 0, 1) := by decide +kernel
theorem d_10_2_36 : decode prog_10_method_2_code 36 = .ok (.getfield 36, 3) := by decide +kernel
theorem d_10_2_39 : decode prog_10_method_2_code 39 = .ok (.aload_n 0, 1) := by decide +kernel
theorem d_10_2_40 : decode prog_10_method_2_code 40 = .ok (.getfield 40, 3) := by decide +kernel
theorem d_10_2_43 : decode prog_10_method_2_code 43 = .ok (.if_icmp .ge 57, 3) := by decide +kernel
theorem d_10_2_100 : decode prog_10_method_2_code 100 = .ok (.aload_n 2, 1) := by decide +kernel
theorem d_10_2_101 : decode prog_10_method_2_code 101 = .ok (.aload_n 0, 1) := by decide +kernel
theorem d_10_2_102 : decode prog_10_method_2_code 102 = .ok (.getfield 54, 3) := by decide +kernel
theorem d_10_2_105 : decode prog_10_method_2_code 105 = .ok (.ifCond .eq 14, 3) := by decide +kernel
theorem d_10_2_119 : decode prog_10_method_2_code 119 = .ok (.iconst 0, 1) := by decide +kernel
theorem d_10_2_120 : decode prog_10_method_2_code 120 = .ok (.putfield 61, 3) := by decide +kernel
set_option maxRecDepth 100000 in
theorem w_95 : (Cond.fieldLink "NumberHouse$Reader" (61 : Nat) "NumberHouse$Big" "negative" "Z") ∈ q_tbl := q_of1 95 rfl (by decide +kernel)
theorem d_10_2_123 : decode prog_10_method_2_code 123 = .ok (.iload_n 3, 1) := by decide +kernel
theorem d_10_2_124 : decode prog_10_method_2_code 124 = .ok (.ifCond .eq 7, 3) := by decide +kernel
theorem d_10_2_131 : decode prog_10_method_2_code 131 = .ok (.iconst 2, 1) := by decide +kernel
theorem d_10_2_132 : decode prog_10_method_2_code 132 = .ok (.ireturn, 1) := by decide +kernel
theorem d_10_2_127 : decode prog_10_method_2_code 127 = .ok (.iconst 1, 1) := by decide +kernel
theorem d_10_2_128 : decode prog_10_method_2_code 128 = .ok (.goto 4, 3) := by decide +kernel
theorem d_10_2_108 : decode prog_10_method_2_code 108 = .ok (.aload_n 2, 1) := by decide +kernel
theorem d_10_2_109 : decode prog_10_method_2_code 109 = .ok (.getfield 58, 3) := by decide +kernel
theorem d_10_2_112 : decode prog_10_method_2_code 112 = .ok (.ifCond .le 7, 3) := by decide +kernel
theorem d_10_2_115 : decode prog_10_method_2_code 115 = .ok (.iconst 1, 1) := by decide +kernel
theorem d_10_2_116 : decode prog_10_method_2_code 116 = .ok (.goto 4, 3) := by decide +kernel
theorem d_10_2_46 : decode prog_10_method_2_code 46 = .ok (.aload_n 0, 1) := by decide +kernel
theorem d_10_2_47 : decode prog_10_method_2_code 47 = .ok (.invokevirtual 43, 3) := by decide +kernel
theorem d_10_2_50 : decode prog_10_method_2_code 50 = .ok (.istore 4, 2) := by decide +kernel
theorem d_10_2_52 : decode prog_10_method_2_code 52 = .ok (.iload 4, 2) := by decide +kernel
theorem d_10_2_54 : decode prog_10_method_2_code 54 = .ok (.iload_n 1, 1) := by decide +kernel
theorem d_10_2_55 : decode prog_10_method_2_code 55 = .ok (.if_icmp .lt 5, 3) := by decide +kernel
theorem d_10_2_60 : decode prog_10_method_2_code 60 = .ok (.iload_n 3, 1) := by decide +kernel
theorem d_10_2_61 : decode prog_10_method_2_code 61 = .ok (.ifCond .eq 26, 3) := by decide +kernel
theorem d_10_2_87 : decode prog_10_method_2_code 87 = .ok (.aload_n 0, 1) := by decide +kernel
theorem d_10_2_88 : decode prog_10_method_2_code 88 = .ok (.dup, 1) := by decide +kernel
theorem d_10_2_89 : decode prog_10_method_2_code 89 = .ok (.getfield 36, 3) := by decide +kernel
theorem d_10_2_92 : decode prog_10_method_2_code 92 = .ok (.iconst 1, 1) := by decide +kernel
theorem d_10_2_93 : decode prog_10_method_2_code 93 = .ok (.iadd, 1) := by decide +kernel
theorem d_10_2_94 : decode prog_10_method_2_code 94 = .ok (.putfield 36, 3) := by decide +kernel
theorem d_10_2_97 : decode prog_10_method_2_code 97 = .ok (.goto (-62), 3) := by decide +kernel
theorem d_10_2_64 : decode prog_10_method_2_code 64 = .ok (.aload_n 2, 1) := by decide +kernel
theorem d_10_2_65 : decode prog_10_method_2_code 65 = .ok (.iload_n 1, 1) := by decide +kernel
theorem d_10_2_66 : decode prog_10_method_2_code 66 = .ok (.iload 4, 2) := by decide +kernel
theorem d_10_2_68 : decode prog_10_method_2_code 68 = .ok (.invokevirtual 47, 3) := by decide +kernel
theorem d_10_2_71 : decode prog_10_method_2_code 71 = .ok (.aload_n 2, 1) := by decide +kernel
theorem d_10_2_72 : decode prog_10_method_2_code 72 = .ok (.invokevirtual 51, 3) := by decide +kernel
set_option maxRecDepth 100000 in
theorem w_607 : (Cond.methodLink "NumberHouse$Reader" (51 : Nat) ({ cls := "NumberHouse$Big", name := "bitLength", desc := "()I" } : MethodName)) ∈ q_tbl := q_of3 127 rfl (by decide +kernel)
theorem LV_Rea_51 : q_LV "NumberHouse$Reader" 51 y_Big_bitLength prog_2_method_12_code 1 (some .int) 0 := ⟨w_610, w_4, w_607, w_608, w_609, ⟨by decide, by decide, by decide +kernel⟩⟩
theorem d_10_2_75 : decode prog_10_method_2_code 75 = .ok (.sipush 2048, 3) := by decide +kernel
theorem d_10_2_78 : decode prog_10_method_2_code 78 = .ok (.if_icmp .gt 7, 3) := by decide +kernel
theorem d_10_2_85 : decode prog_10_method_2_code 85 = .ok (.iconst 0, 1) := by decide +kernel
theorem d_10_2_86 : decode prog_10_method_2_code 86 = .ok (.istore_n 3, 1) := by decide +kernel
theorem d_10_2_81 : decode prog_10_method_2_code 81 = .ok (.iconst 1, 1) := by decide +kernel
theorem d_10_2_82 : decode prog_10_method_2_code 82 = .ok (.goto 4, 3) := by decide +kernel
theorem d_10_2_58 : decode prog_10_method_2_code 58 = .ok (.iconst 0, 1) := by decide +kernel
theorem d_10_2_59 : decode prog_10_method_2_code 59 = .ok (.ireturn, 1) := by decide +kernel
theorem d_10_2_33 : decode prog_10_method_2_code 33 = .ok (.iconst 0, 1) := by decide +kernel
theorem d_10_2_34 : decode prog_10_method_2_code 34 = .ok (.ireturn, 1) := by decide +kernel
def y_Rea_wholeText : MethodName := ⟨"NumberHouse$Reader", "wholeText", "(I)I"⟩
set_option maxRecDepth 100000 in
set_option maxHeartbeats 4000000 in
theorem T_Rea_wholeText (l : Launch) (D : va_G) (g : Nat → ClassId) (q : Nat → Nat) (ws : va_W) (x2 : Int32) (hI : q_I (nsh g q) q ws) (t0_0 : Int64) (t0_1 : Int64) (t0_2 : Int32) (t0_3 : Int32) (t0_4 : Int32) (t0_5 : Int32) (t0_6 : Int32) (t0_7 : Int32) (t0_8 : Int32) (t0_9 : Int64) (hT0 : ws[38]? = (some (q 38, .inr (8, [.long t0_0, .long t0_1, .ref (q 1), .ref (q 9), .int t0_2, .int t0_3, .int t0_4, .int t0_5, .int t0_6, .int t0_7, .int t0_8, .long t0_9])) : Option (Nat × va_E))) : q_mI l y_Rea_wholeText prog_10_method_2_code 5 (.int) 4 0 0 D g [.ref (q 38), .int x2] ws (fun r u => q_I (nsh g q) q u ∧ q_un ws u [10, 11, 38] ∧ ∃ (u0_0 : Int64) (u0_1 : Int64) (u0_2 : Int32) (u0_3 : Int32) (u0_4 : Int32) (u0_5 : Int32) (u0_6 : Int32) (u0_7 : Int32) (u0_8 : Int32) (u0_9 : Int64), u[38]? = (some (q 38, .inr (8, [.long u0_0, .long u0_1, .ref (q 1), .ref (q 9), .int u0_2, .int u0_3, .int u0_4, .int u0_5, .int u0_6, .int u0_7, .int u0_8, .long u0_9])) : Option (Nat × va_E)) ∧ (0 ≤ r.toInt) ∧ (r.toInt ≤ 2) ∧ (0 ≤ u0_3.toInt) ∧ (u0_3.toInt ≤ 4100) ∧ (0 ≤ u0_4.toInt) ∧ (u0_4.toInt ≤ 1) ∧ (t0_0.toInt ≤ u0_0.toInt) ∧ (u0_0.toInt ≤ t0_0.toInt) ∧ (t0_1.toInt ≤ u0_1.toInt) ∧ (u0_1.toInt ≤ t0_1.toInt) ∧ (t0_5.toInt ≤ u0_5.toInt) ∧ (u0_5.toInt ≤ t0_5.toInt) ∧ (t0_6.toInt ≤ u0_6.toInt) ∧ (u0_6.toInt ≤ t0_6.toInt) ∧ (t0_7.toInt ≤ u0_7.toInt) ∧ (u0_7.toInt ≤ t0_7.toInt) ∧ (t0_8.toInt ≤ u0_8.toInt) ∧ (u0_8.toInt ≤ t0_8.toInt) ∧ (t0_9.toInt ≤ u0_9.toInt) ∧ (u0_9.toInt ≤ t0_9.toInt)) := by
  intro sz
  refine q_into (by decide) (Nat.le_of_ble_eq_true rfl) ?_
  intro p e s m below meth c ls hsz C0 V hl
  have hx := C0.1
  have hb := C0.2.1
  obtain ⟨yy0_0, yy0_1, yy0_2, yy0_3, yy0_4, yy0_5, yy0_6, yy0_7, yy0_8, yy0_9, hh0, btt0_4, btt0_8⟩ := n_o38 hI
  obtain ⟨rfl, rfl, rfl, rfl, rfl, rfl, rfl, rfl, rfl, rfl⟩ : t0_0 = yy0_0 ∧ t0_1 = yy0_1 ∧ t0_2 = yy0_2 ∧ t0_3 = yy0_3 ∧ t0_4 = yy0_4 ∧ t0_5 = yy0_5 ∧ t0_6 = yy0_6 ∧ t0_7 = yy0_7 ∧ t0_8 = yy0_8 ∧ t0_9 = yy0_9 := by have z := Option.some.inj (hT0.symm.trans hh0); simpa using z
  replace btt0_4 : q_F (0 ≤ t0_4.toInt ∧ t0_4.toInt ≤ 1) := btt0_4
  replace btt0_8 : q_F (0 ≤ t0_8.toInt ∧ t0_8.toInt ≤ 1) := btt0_8
  have hF : q_un ws ws [10, 11, 38] := q_u0
  have hl : lv_has ls 5 [(0, .ref (q 38)), (1, .int x2)] := hl
  refine lv_aload_n hx hb d_10_2_0 rfl (lv_at hl 0 rfl) ?_
  refine q_gov V (q_runV (As := []) (rest := []) (d := 1) (mc := 0) (ms := 0) (ci := 8) C0 V rfl LV_Rea_19 (T_Rea_begin l D g q ws   hI t0_0 t0_1 t0_2 t0_3 t0_4 t0_5 t0_6 t0_7 t0_8 t0_9 hT0  _) rfl rfl hT0 rfl hl.1 rfl (Nat.le_of_ble_eq_true rfl) ⟨by decide, by decide⟩ ⟨Nat.le_of_ble_eq_true rfl, Nat.le_of_ble_eq_true rfl⟩ d_10_2_1) (fun u14 H locs hp15 V => ?_)
  obtain ⟨hI, hu47, y17, y18, y19, y20, y21, y22, y23, y24, y25, y26, hO16, b27, b28, b29, b30, b31, b32, b33, b34, b35, b36, b37, b38, b39, b40, b41, b42, b43, b44, b45, b46⟩ := hp15
  replace hO16 : u14[38]? = (some (q 38, .inr (8, [.long y17, .long y18, .ref (q 1), .ref (q 9), .int y19, .int y20, .int y21, .int y22, .int y23, .int y24, .int y25, .long y26])) : Option (Nat × va_E)) := hO16
  replace b27 : q_F (0 ≤ y19.toInt) := b27
  replace b28 : q_F (y19.toInt ≤ 0) := b28
  replace b29 : q_F (t0_0.toInt ≤ y17.toInt) := b29
  replace b30 : q_F (y17.toInt ≤ t0_0.toInt) := b30
  replace b31 : q_F (t0_1.toInt ≤ y18.toInt) := b31
  replace b32 : q_F (y18.toInt ≤ t0_1.toInt) := b32
  replace b33 : q_F (t0_4.toInt ≤ y21.toInt) := b33
  replace b34 : q_F (y21.toInt ≤ t0_4.toInt) := b34
  replace b35 : q_F (t0_5.toInt ≤ y22.toInt) := b35
  replace b36 : q_F (y22.toInt ≤ t0_5.toInt) := b36
  replace b37 : q_F (t0_6.toInt ≤ y23.toInt) := b37
  replace b38 : q_F (y23.toInt ≤ t0_6.toInt) := b38
  replace b39 : q_F (t0_7.toInt ≤ y24.toInt) := b39
  replace b40 : q_F (y24.toInt ≤ t0_7.toInt) := b40
  replace b41 : q_F (t0_8.toInt ≤ y25.toInt) := b41
  replace b42 : q_F (y25.toInt ≤ t0_8.toInt) := b42
  replace b43 : q_F (t0_9.toInt ≤ y26.toInt) := b43
  replace b44 : q_F (y26.toInt ≤ t0_9.toInt) := b44
  replace b45 : q_F (y20.toInt ≤ y19.toInt + 4100) := b45
  replace b46 : q_F (y19.toInt ≤ y20.toInt) := b46
  replace hF := q_uc hF hu47 (by simp)
  refine lv_aload_n hx hb d_10_2_4 rfl (lv_at hl 0 rfl) ?_
  refine q_gov V (q_runV (As := []) (rest := []) (d := 3) (mc := 0) (ms := 0) (ci := 8) C0 V rfl LV_Rea_22 (T_Rea_takeSign l D g q u14   hI y17 y18 y19 y20 y21 y22 y23 y24 y25 y26 hO16  _) rfl rfl hO16 rfl hl.1 rfl (Nat.le_of_ble_eq_true rfl) ⟨by decide, by decide⟩ ⟨Nat.le_of_ble_eq_true rfl, Nat.le_of_ble_eq_true rfl⟩ d_10_2_5) (fun u48 H locs hp49 V => ?_)
  obtain ⟨hI, hu79, y51, y52, y53, y54, y55, y56, y57, y58, y59, y60, hO50, b61, b62, b63, b64, b65, b66, b67, b68, b69, b70, b71, b72, b73, b74, b75, b76, b77, b78⟩ := hp49
  replace hO50 : u48[38]? = (some (q 38, .inr (8, [.long y51, .long y52, .ref (q 1), .ref (q 9), .int y53, .int y54, .int y55, .int y56, .int y57, .int y58, .int y59, .long y60])) : Option (Nat × va_E)) := hO50
  replace b61 : q_F (0 ≤ y55.toInt) := b61
  replace b62 : q_F (y55.toInt ≤ 1) := b62
  replace b63 : q_F (y17.toInt ≤ y51.toInt) := b63
  replace b64 : q_F (y51.toInt ≤ y17.toInt) := b64
  replace b65 : q_F (y18.toInt ≤ y52.toInt) := b65
  replace b66 : q_F (y52.toInt ≤ y18.toInt) := b66
  replace b67 : q_F (y20.toInt ≤ y54.toInt) := b67
  replace b68 : q_F (y54.toInt ≤ y20.toInt) := b68
  replace b69 : q_F (y22.toInt ≤ y56.toInt) := b69
  replace b70 : q_F (y56.toInt ≤ y22.toInt) := b70
  replace b71 : q_F (y23.toInt ≤ y57.toInt) := b71
  replace b72 : q_F (y57.toInt ≤ y23.toInt) := b72
  replace b73 : q_F (y24.toInt ≤ y58.toInt) := b73
  replace b74 : q_F (y58.toInt ≤ y24.toInt) := b74
  replace b75 : q_F (y25.toInt ≤ y59.toInt) := b75
  replace b76 : q_F (y59.toInt ≤ y25.toInt) := b76
  replace b77 : q_F (y26.toInt ≤ y60.toInt) := b77
  replace b78 : q_F (y60.toInt ≤ y26.toInt) := b78
  replace hF := q_uc hF hu79 (by simp)
  refine lv_aload_n hx hb d_10_2_8 rfl (lv_at hl 0 rfl) ?_
  refine q_get (ci := 8) (j := 3) (v := .ref (q 9)) C0 V i_Rea rfl rfl hO50 (by decide) w_289 rfl d_10_2_9 ?_
  have hO80 := n_o9 hI
  refine q_get (ci := 4) (j := 0) (v := .ref (q 10)) C0 V i_Mil rfl rfl hO80 (by decide) w_109 rfl d_10_2_12 ?_
  refine lv_astore_n (lv' := [(2, .ref (q 10)), (0, .ref (q 38)), (1, .int x2)]) hx hb d_10_2_15 rfl hl (by decide) rfl (fun ls hl => ?_)
  refine lv_aload_n hx hb d_10_2_16 rfl (lv_at hl 0 rfl) ?_
  obtain ⟨y82, y83, hO81, b84, b85⟩ := q_bigO hI (n_b10 g q)
  replace b84 : q_F (0 ≤ y82.toInt ∧ y82.toInt ≤ 220) := b84
  replace b85 : q_F (0 ≤ y83.toInt ∧ y83.toInt ≤ 1) := b85
  refine q_gov V (q_runV (As := []) (rest := []) (d := 1) (mc := 0) (ms := 0) (ci := 2) C0 V rfl LV_Rea_31 (S_Big_clear l D g (nsh g q) q u48 10 220 (n_b10 g q)  hI   _) rfl rfl hO81 rfl hl.1 rfl (Nat.le_of_ble_eq_true rfl) ⟨by decide, by decide⟩ ⟨Nat.le_of_ble_eq_true rfl, Nat.le_of_ble_eq_true rfl⟩ d_10_2_17) (fun u86 H locs hp87 V => ?_)
  obtain ⟨_, hI, hu88⟩ := hp87
  replace hO50 := (hu88 _ (by decide)).trans hO50
  replace hO80 := (hu88 _ (by decide)).trans hO80
  replace hF := q_uc hF hu88 (by simp)
  refine lv_iconst (v := 1) hx hb d_10_2_20 (by decide) ?_
  refine lv_istore_n (lv' := [(3, .int 1), (2, .ref (q 10)), (0, .ref (q 38)), (1, .int x2)]) hx hb d_10_2_21 rfl hl (by decide) rfl (fun ls hl => ?_)
  refine lv_aload_n hx hb d_10_2_22 rfl (lv_at hl 2 rfl) ?_
  refine q_get (ci := 8) (j := 4) (v := .int y53) C0 V i_Rea rfl rfl hO50 (by decide) w_290 rfl d_10_2_23 ?_
  refine lv_aload_n hx hb d_10_2_26 rfl (lv_at hl 2 rfl) ?_
  refine q_get (ci := 8) (j := 5) (v := .int y54) C0 V i_Rea rfl rfl hO50 (by decide) w_291 rfl d_10_2_27 ?_
  refine lv_icmp_lt (tgt := 35) hx hb d_10_2_30 (by decide) (fun c89 => ?_) (fun c89 => ?_)
  ·
    have b90 : q_F (y53.toInt < y54.toInt) := (q_ltI c89)
    refine q_loop (X := Int32 × Int32) (fun z H locs ls w99 => q_F (z.1.toInt ≤ 1) ∧ q_F (0 ≤ z.1.toInt) ∧ q_F (z.2.toInt ≤ 4100) ∧ q_F (y53.toInt + 1 ≤ z.1.toInt + z.2.toInt) ∧ q_Wd D g (va_A ws sz) s w99 H locs ∧ lv_has ls 5 [(3, .int z.1), (2, .ref (q 10)), (0, .ref (q 38)), (1, .int x2)] ∧ q_I (nsh g q) q w99 ∧ q_un ws w99 [10, 11, 38] ∧ w99[38]? = (some (q 38, .inr (8, [.long y51, .long y52, .ref (q 1), .ref (q 9), .int z.2, .int y54, .int y55, .int y56, .int y57, .int y58, .int y59, .long y60])) : Option (Nat × va_E))) (fun z => (4100 - z.2.toInt).toNat) ?_ ((1 : Int32), (y53 : Int32)) _ _ _ u86 ⟨(show q_F (1 ≤ 1) from (show 1 ≤ 1 from by omega)), (show q_F (0 ≤ 1) from (show 0 ≤ 1 from by omega)), (show q_F (y53.toInt ≤ 4100) from (show y53.toInt ≤ 4100 from by have t1 : y19.toInt ≤ 0 := b28; have t2 : y20.toInt ≤ y19.toInt + 4100 := b45; have t3 : y54.toInt ≤ y20.toInt := b68; have t4 : y53.toInt < y54.toInt := b90; omega)), (show q_F (y53.toInt + 1 ≤ 1 + y53.toInt) from (show y53.toInt + 1 ≤ 1 + y53.toInt from by omega)), V, q_lw hl (q_lw1 0 rfl (q_lw1 1 rfl (q_lw1 2 rfl (q_lw1 3 rfl q_lw0)))), hI, hF, hO50⟩
    rintro ⟨lx92, lx93⟩ H locs ls w99 ⟨i94, i95, i96, i97, V, hl, hI, hF, hO100⟩ ih98
    replace i94 : q_F (lx92.toInt ≤ 1) := i94
    replace i95 : q_F (0 ≤ lx92.toInt) := i95
    replace i96 : q_F (lx93.toInt ≤ 4100) := i96
    replace i97 : q_F (y53.toInt + 1 ≤ lx92.toInt + lx93.toInt) := i97
    replace hl : lv_has ls 5 [(3, .int lx92), (2, .ref (q 10)), (0, .ref (q 38)), (1, .int x2)] := hl
    replace hO100 : w99[38]? = (some (q 38, .inr (8, [.long y51, .long y52, .ref (q 1), .ref (q 9), .int lx93, .int y54, .int y55, .int y56, .int y57, .int y58, .int y59, .long y60])) : Option (Nat × va_E)) := hO100
    refine lv_aload_n hx hb d_10_2_35 rfl (lv_at hl 2 rfl) ?_
    refine q_get (ci := 8) (j := 4) (v := .int lx93) C0 V i_Rea rfl rfl hO100 (by decide) w_290 rfl d_10_2_36 ?_
    refine lv_aload_n hx hb d_10_2_39 rfl (lv_at hl 2 rfl) ?_
    refine q_get (ci := 8) (j := 5) (v := .int y54) C0 V i_Rea rfl rfl hO100 (by decide) w_291 rfl d_10_2_40 ?_
    refine lv_icmp_ge (tgt := 100) hx hb d_10_2_43 (by decide) (fun c101 => ?_) (fun c101 => ?_)
    ·
      have b102 : q_F (y54.toInt ≤ lx93.toInt) := (q_leI c101)
      refine lv_aload_n hx hb d_10_2_100 rfl (lv_at hl 1 rfl) ?_
      refine lv_aload_n hx hb d_10_2_101 rfl (lv_at hl 2 rfl) ?_
      refine q_get (ci := 8) (j := 6) (v := .int y55) C0 V i_Rea rfl rfl hO100 (by decide) w_292 rfl d_10_2_102 ?_
      refine lv_if_eq (tgt := 119) hx hb d_10_2_105 (by decide) (fun c103 => ?_) (fun c103 => ?_)
      ·
        have b104 : q_F (y55.toInt = 0) := (q_eqI c103)
        refine lv_iconst (v := 0) hx hb d_10_2_119 (by decide) ?_
        obtain ⟨y106, y107, hO105, b108, b109⟩ := q_bigO hI (n_b10 g q)
        replace b108 : q_F (0 ≤ y106.toInt ∧ y106.toInt ≤ 220) := b108
        replace b109 : q_F (0 ≤ y107.toInt ∧ y107.toInt ≤ 1) := b109
        refine q_put (ci := 2) (j := 2) (v := .int 0) (ty := .boolean) C0 V i_Big o_Big n_Big rfl rfl hO105 (by decide) w_95 rfl rfl rfl rfl (Nat.le_of_ble_eq_true rfl) d_10_2_120 (fun H locs w110 hu111 hO105 V => ?_)
        replace hO105 : w110[10]? = (some (q 10, .inr (2, [.ref (q 11), .int y106, .int 0])) : Option (Nat × va_E)) := hO105
        replace hI := q_bigO' hI (n_b10 g q) hu111 hO105 ⟨(by have zR : (220 : Int32).toInt = 220 := rfl; have t1 : 0 ≤ y106.toInt ∧ y106.toInt ≤ 220 := b108; omega), (by have zR : (220 : Int32).toInt = 220 := rfl; have t1 : 0 ≤ y106.toInt ∧ y106.toInt ≤ 220 := b108; omega)⟩ ⟨(by have z9 : (0 : Int32).toInt = 0 := rfl; omega), (by have z9 : (0 : Int32).toInt = 0 := rfl; omega)⟩
        replace hO100 := (hu111 _ (by decide)).trans hO100
        replace hF := q_us hF hu111 (by simp)
        refine lv_iload_n hx hb d_10_2_123 rfl (lv_at hl 0 rfl) ?_
        refine lv_if_eq (tgt := 131) hx hb d_10_2_124 (by decide) (fun c112 => ?_) (fun c112 => ?_)
        ·
          have b113 : q_F (lx92.toInt = 0) := (q_eqI c112)
          refine lv_iconst (v := 2) hx hb d_10_2_131 (by decide) ?_
          exact q_reti C0 V (⟨hI, hF, y51, y52, lx93, y54, y55, y56, y57, y58, y59, y60, hO100, (show 0 ≤ (2 : Int32).toInt from (by have z11 : (2 : Int32).toInt = 2 := rfl; omega)), (show (2 : Int32).toInt ≤ 2 from (by have z11 : (2 : Int32).toInt = 2 := rfl; omega)), (show 0 ≤ y54.toInt from (by have z11 : (2 : Int32).toInt = 2 := rfl; have t1 : 0 ≤ y19.toInt := b27; have t2 : y19.toInt ≤ y20.toInt := b46; have t3 : y20.toInt ≤ y54.toInt := b67; omega)), (show y54.toInt ≤ 4100 from (by have z11 : (2 : Int32).toInt = 2 := rfl; have t1 : lx93.toInt ≤ 4100 := i96; have t2 : y54.toInt ≤ lx93.toInt := b102; omega)), (show 0 ≤ y55.toInt from (by have z11 : (2 : Int32).toInt = 2 := rfl; have t1 : 0 ≤ y55.toInt := b61; omega)), (show y55.toInt ≤ 1 from (by have z11 : (2 : Int32).toInt = 2 := rfl; have t1 : y55.toInt ≤ 1 := b62; omega)), (show t0_0.toInt ≤ y51.toInt from (by have z11 : (2 : Int32).toInt = 2 := rfl; have t1 : t0_0.toInt ≤ y17.toInt := b29; have t2 : y17.toInt ≤ y51.toInt := b63; omega)), (show y51.toInt ≤ t0_0.toInt from (by have z11 : (2 : Int32).toInt = 2 := rfl; have t1 : y17.toInt ≤ t0_0.toInt := b30; have t2 : y51.toInt ≤ y17.toInt := b64; omega)), (show t0_1.toInt ≤ y52.toInt from (by have z11 : (2 : Int32).toInt = 2 := rfl; have t1 : t0_1.toInt ≤ y18.toInt := b31; have t2 : y18.toInt ≤ y52.toInt := b65; omega)), (show y52.toInt ≤ t0_1.toInt from (by have z11 : (2 : Int32).toInt = 2 := rfl; have t1 : y18.toInt ≤ t0_1.toInt := b32; have t2 : y52.toInt ≤ y18.toInt := b66; omega)), (show t0_5.toInt ≤ y56.toInt from (by have z11 : (2 : Int32).toInt = 2 := rfl; have t1 : t0_5.toInt ≤ y22.toInt := b35; have t2 : y22.toInt ≤ y56.toInt := b69; omega)), (show y56.toInt ≤ t0_5.toInt from (by have z11 : (2 : Int32).toInt = 2 := rfl; have t1 : y22.toInt ≤ t0_5.toInt := b36; have t2 : y56.toInt ≤ y22.toInt := b70; omega)), (show t0_6.toInt ≤ y57.toInt from (by have z11 : (2 : Int32).toInt = 2 := rfl; have t1 : t0_6.toInt ≤ y23.toInt := b37; have t2 : y23.toInt ≤ y57.toInt := b71; omega)), (show y57.toInt ≤ t0_6.toInt from (by have z11 : (2 : Int32).toInt = 2 := rfl; have t1 : y23.toInt ≤ t0_6.toInt := b38; have t2 : y57.toInt ≤ y23.toInt := b72; omega)), (show t0_7.toInt ≤ y58.toInt from (by have z11 : (2 : Int32).toInt = 2 := rfl; have t1 : t0_7.toInt ≤ y24.toInt := b39; have t2 : y24.toInt ≤ y58.toInt := b73; omega)), (show y58.toInt ≤ t0_7.toInt from (by have z11 : (2 : Int32).toInt = 2 := rfl; have t1 : y24.toInt ≤ t0_7.toInt := b40; have t2 : y58.toInt ≤ y24.toInt := b74; omega)), (show t0_8.toInt ≤ y59.toInt from (by have z11 : (2 : Int32).toInt = 2 := rfl; have t1 : t0_8.toInt ≤ y25.toInt := b41; have t2 : y25.toInt ≤ y59.toInt := b75; omega)), (show y59.toInt ≤ t0_8.toInt from (by have z11 : (2 : Int32).toInt = 2 := rfl; have t1 : y25.toInt ≤ t0_8.toInt := b42; have t2 : y59.toInt ≤ y25.toInt := b76; omega)), (show t0_9.toInt ≤ y60.toInt from (by have z11 : (2 : Int32).toInt = 2 := rfl; have t1 : t0_9.toInt ≤ y26.toInt := b43; have t2 : y26.toInt ≤ y60.toInt := b77; omega)), (show y60.toInt ≤ t0_9.toInt from (by have z11 : (2 : Int32).toInt = 2 := rfl; have t1 : y26.toInt ≤ t0_9.toInt := b44; have t2 : y60.toInt ≤ y26.toInt := b78; omega))⟩) d_10_2_132
        ·
          have b114 : q_F (lx92.toInt ≠ 0) := (q_neI c112)
          refine lv_iconst (v := 1) hx hb d_10_2_127 (by decide) ?_
          refine lv_goto (tgt := 132) hx hb d_10_2_128 (by decide) ?_
          exact q_reti C0 V (⟨hI, hF, y51, y52, lx93, y54, y55, y56, y57, y58, y59, y60, hO100, (show 0 ≤ (1 : Int32).toInt from (by have z11 : (1 : Int32).toInt = 1 := rfl; omega)), (show (1 : Int32).toInt ≤ 2 from (by have z11 : (1 : Int32).toInt = 1 := rfl; omega)), (show 0 ≤ y54.toInt from (by have z11 : (1 : Int32).toInt = 1 := rfl; have t1 : 0 ≤ y19.toInt := b27; have t2 : y19.toInt ≤ y20.toInt := b46; have t3 : y20.toInt ≤ y54.toInt := b67; omega)), (show y54.toInt ≤ 4100 from (by have z11 : (1 : Int32).toInt = 1 := rfl; have t1 : lx93.toInt ≤ 4100 := i96; have t2 : y54.toInt ≤ lx93.toInt := b102; omega)), (show 0 ≤ y55.toInt from (by have z11 : (1 : Int32).toInt = 1 := rfl; have t1 : 0 ≤ y55.toInt := b61; omega)), (show y55.toInt ≤ 1 from (by have z11 : (1 : Int32).toInt = 1 := rfl; have t1 : y55.toInt ≤ 1 := b62; omega)), (show t0_0.toInt ≤ y51.toInt from (by have z11 : (1 : Int32).toInt = 1 := rfl; have t1 : t0_0.toInt ≤ y17.toInt := b29; have t2 : y17.toInt ≤ y51.toInt := b63; omega)), (show y51.toInt ≤ t0_0.toInt from (by have z11 : (1 : Int32).toInt = 1 := rfl; have t1 : y17.toInt ≤ t0_0.toInt := b30; have t2 : y51.toInt ≤ y17.toInt := b64; omega)), (show t0_1.toInt ≤ y52.toInt from (by have z11 : (1 : Int32).toInt = 1 := rfl; have t1 : t0_1.toInt ≤ y18.toInt := b31; have t2 : y18.toInt ≤ y52.toInt := b65; omega)), (show y52.toInt ≤ t0_1.toInt from (by have z11 : (1 : Int32).toInt = 1 := rfl; have t1 : y18.toInt ≤ t0_1.toInt := b32; have t2 : y52.toInt ≤ y18.toInt := b66; omega)), (show t0_5.toInt ≤ y56.toInt from (by have z11 : (1 : Int32).toInt = 1 := rfl; have t1 : t0_5.toInt ≤ y22.toInt := b35; have t2 : y22.toInt ≤ y56.toInt := b69; omega)), (show y56.toInt ≤ t0_5.toInt from (by have z11 : (1 : Int32).toInt = 1 := rfl; have t1 : y22.toInt ≤ t0_5.toInt := b36; have t2 : y56.toInt ≤ y22.toInt := b70; omega)), (show t0_6.toInt ≤ y57.toInt from (by have z11 : (1 : Int32).toInt = 1 := rfl; have t1 : t0_6.toInt ≤ y23.toInt := b37; have t2 : y23.toInt ≤ y57.toInt := b71; omega)), (show y57.toInt ≤ t0_6.toInt from (by have z11 : (1 : Int32).toInt = 1 := rfl; have t1 : y23.toInt ≤ t0_6.toInt := b38; have t2 : y57.toInt ≤ y23.toInt := b72; omega)), (show t0_7.toInt ≤ y58.toInt from (by have z11 : (1 : Int32).toInt = 1 := rfl; have t1 : t0_7.toInt ≤ y24.toInt := b39; have t2 : y24.toInt ≤ y58.toInt := b73; omega)), (show y58.toInt ≤ t0_7.toInt from (by have z11 : (1 : Int32).toInt = 1 := rfl; have t1 : y24.toInt ≤ t0_7.toInt := b40; have t2 : y58.toInt ≤ y24.toInt := b74; omega)), (show t0_8.toInt ≤ y59.toInt from (by have z11 : (1 : Int32).toInt = 1 := rfl; have t1 : t0_8.toInt ≤ y25.toInt := b41; have t2 : y25.toInt ≤ y59.toInt := b75; omega)), (show y59.toInt ≤ t0_8.toInt from (by have z11 : (1 : Int32).toInt = 1 := rfl; have t1 : y25.toInt ≤ t0_8.toInt := b42; have t2 : y59.toInt ≤ y25.toInt := b76; omega)), (show t0_9.toInt ≤ y60.toInt from (by have z11 : (1 : Int32).toInt = 1 := rfl; have t1 : t0_9.toInt ≤ y26.toInt := b43; have t2 : y26.toInt ≤ y60.toInt := b77; omega)), (show y60.toInt ≤ t0_9.toInt from (by have z11 : (1 : Int32).toInt = 1 := rfl; have t1 : y26.toInt ≤ t0_9.toInt := b44; have t2 : y60.toInt ≤ y26.toInt := b78; omega))⟩) d_10_2_132
      ·
        have b115 : q_F (y55.toInt ≠ 0) := (q_neI c103)
        refine lv_aload_n hx hb d_10_2_108 rfl (lv_at hl 1 rfl) ?_
        obtain ⟨y117, y118, hO116, b119, b120⟩ := q_bigO hI (n_b10 g q)
        replace b119 : q_F (0 ≤ y117.toInt ∧ y117.toInt ≤ 220) := b119
        replace b120 : q_F (0 ≤ y118.toInt ∧ y118.toInt ≤ 1) := b120
        refine q_get (ci := 2) (j := 1) (v := .int y117) C0 V i_Big rfl rfl hO116 (by decide) w_88 rfl d_10_2_109 ?_
        refine lv_if_le (tgt := 119) hx hb d_10_2_112 (by decide) (fun c121 => ?_) (fun c121 => ?_)
        ·
          have b122 : q_F (y117.toInt ≤ 0) := (q_leI c121)
          refine lv_iconst (v := 0) hx hb d_10_2_119 (by decide) ?_
          refine q_put (ci := 2) (j := 2) (v := .int 0) (ty := .boolean) C0 V i_Big o_Big n_Big rfl rfl hO116 (by decide) w_95 rfl rfl rfl rfl (Nat.le_of_ble_eq_true rfl) d_10_2_120 (fun H locs w123 hu124 hO116 V => ?_)
          replace hO116 : w123[10]? = (some (q 10, .inr (2, [.ref (q 11), .int y117, .int 0])) : Option (Nat × va_E)) := hO116
          replace hI := q_bigO' hI (n_b10 g q) hu124 hO116 ⟨(by have zR : (220 : Int32).toInt = 220 := rfl; have t1 : 0 ≤ y117.toInt ∧ y117.toInt ≤ 220 := b119; omega), (by have zR : (220 : Int32).toInt = 220 := rfl; have t1 : 0 ≤ y117.toInt ∧ y117.toInt ≤ 220 := b119; omega)⟩ ⟨(by have z9 : (0 : Int32).toInt = 0 := rfl; omega), (by have z9 : (0 : Int32).toInt = 0 := rfl; omega)⟩
          replace hO100 := (hu124 _ (by decide)).trans hO100
          replace hF := q_us hF hu124 (by simp)
          refine lv_iload_n hx hb d_10_2_123 rfl (lv_at hl 0 rfl) ?_
          refine lv_if_eq (tgt := 131) hx hb d_10_2_124 (by decide) (fun c125 => ?_) (fun c125 => ?_)
          ·
            have b126 : q_F (lx92.toInt = 0) := (q_eqI c125)
            refine lv_iconst (v := 2) hx hb d_10_2_131 (by decide) ?_
            exact q_reti C0 V (⟨hI, hF, y51, y52, lx93, y54, y55, y56, y57, y58, y59, y60, hO100, (show 0 ≤ (2 : Int32).toInt from (by have z11 : (2 : Int32).toInt = 2 := rfl; omega)), (show (2 : Int32).toInt ≤ 2 from (by have z11 : (2 : Int32).toInt = 2 := rfl; omega)), (show 0 ≤ y54.toInt from (by have z11 : (2 : Int32).toInt = 2 := rfl; have t1 : 0 ≤ y19.toInt := b27; have t2 : y19.toInt ≤ y20.toInt := b46; have t3 : y20.toInt ≤ y54.toInt := b67; omega)), (show y54.toInt ≤ 4100 from (by have z11 : (2 : Int32).toInt = 2 := rfl; have t1 : lx93.toInt ≤ 4100 := i96; have t2 : y54.toInt ≤ lx93.toInt := b102; omega)), (show 0 ≤ y55.toInt from (by have z11 : (2 : Int32).toInt = 2 := rfl; have t1 : 0 ≤ y55.toInt := b61; omega)), (show y55.toInt ≤ 1 from (by have z11 : (2 : Int32).toInt = 2 := rfl; have t1 : y55.toInt ≤ 1 := b62; omega)), (show t0_0.toInt ≤ y51.toInt from (by have z11 : (2 : Int32).toInt = 2 := rfl; have t1 : t0_0.toInt ≤ y17.toInt := b29; have t2 : y17.toInt ≤ y51.toInt := b63; omega)), (show y51.toInt ≤ t0_0.toInt from (by have z11 : (2 : Int32).toInt = 2 := rfl; have t1 : y17.toInt ≤ t0_0.toInt := b30; have t2 : y51.toInt ≤ y17.toInt := b64; omega)), (show t0_1.toInt ≤ y52.toInt from (by have z11 : (2 : Int32).toInt = 2 := rfl; have t1 : t0_1.toInt ≤ y18.toInt := b31; have t2 : y18.toInt ≤ y52.toInt := b65; omega)), (show y52.toInt ≤ t0_1.toInt from (by have z11 : (2 : Int32).toInt = 2 := rfl; have t1 : y18.toInt ≤ t0_1.toInt := b32; have t2 : y52.toInt ≤ y18.toInt := b66; omega)), (show t0_5.toInt ≤ y56.toInt from (by have z11 : (2 : Int32).toInt = 2 := rfl; have t1 : t0_5.toInt ≤ y22.toInt := b35; have t2 : y22.toInt ≤ y56.toInt := b69; omega)), (show y56.toInt ≤ t0_5.toInt from (by have z11 : (2 : Int32).toInt = 2 := rfl; have t1 : y22.toInt ≤ t0_5.toInt := b36; have t2 : y56.toInt ≤ y22.toInt := b70; omega)), (show t0_6.toInt ≤ y57.toInt from (by have z11 : (2 : Int32).toInt = 2 := rfl; have t1 : t0_6.toInt ≤ y23.toInt := b37; have t2 : y23.toInt ≤ y57.toInt := b71; omega)), (show y57.toInt ≤ t0_6.toInt from (by have z11 : (2 : Int32).toInt = 2 := rfl; have t1 : y23.toInt ≤ t0_6.toInt := b38; have t2 : y57.toInt ≤ y23.toInt := b72; omega)), (show t0_7.toInt ≤ y58.toInt from (by have z11 : (2 : Int32).toInt = 2 := rfl; have t1 : t0_7.toInt ≤ y24.toInt := b39; have t2 : y24.toInt ≤ y58.toInt := b73; omega)), (show y58.toInt ≤ t0_7.toInt from (by have z11 : (2 : Int32).toInt = 2 := rfl; have t1 : y24.toInt ≤ t0_7.toInt := b40; have t2 : y58.toInt ≤ y24.toInt := b74; omega)), (show t0_8.toInt ≤ y59.toInt from (by have z11 : (2 : Int32).toInt = 2 := rfl; have t1 : t0_8.toInt ≤ y25.toInt := b41; have t2 : y25.toInt ≤ y59.toInt := b75; omega)), (show y59.toInt ≤ t0_8.toInt from (by have z11 : (2 : Int32).toInt = 2 := rfl; have t1 : y25.toInt ≤ t0_8.toInt := b42; have t2 : y59.toInt ≤ y25.toInt := b76; omega)), (show t0_9.toInt ≤ y60.toInt from (by have z11 : (2 : Int32).toInt = 2 := rfl; have t1 : t0_9.toInt ≤ y26.toInt := b43; have t2 : y26.toInt ≤ y60.toInt := b77; omega)), (show y60.toInt ≤ t0_9.toInt from (by have z11 : (2 : Int32).toInt = 2 := rfl; have t1 : y26.toInt ≤ t0_9.toInt := b44; have t2 : y60.toInt ≤ y26.toInt := b78; omega))⟩) d_10_2_132
          ·
            have b127 : q_F (lx92.toInt ≠ 0) := (q_neI c125)
            refine lv_iconst (v := 1) hx hb d_10_2_127 (by decide) ?_
            refine lv_goto (tgt := 132) hx hb d_10_2_128 (by decide) ?_
            exact q_reti C0 V (⟨hI, hF, y51, y52, lx93, y54, y55, y56, y57, y58, y59, y60, hO100, (show 0 ≤ (1 : Int32).toInt from (by have z11 : (1 : Int32).toInt = 1 := rfl; omega)), (show (1 : Int32).toInt ≤ 2 from (by have z11 : (1 : Int32).toInt = 1 := rfl; omega)), (show 0 ≤ y54.toInt from (by have z11 : (1 : Int32).toInt = 1 := rfl; have t1 : 0 ≤ y19.toInt := b27; have t2 : y19.toInt ≤ y20.toInt := b46; have t3 : y20.toInt ≤ y54.toInt := b67; omega)), (show y54.toInt ≤ 4100 from (by have z11 : (1 : Int32).toInt = 1 := rfl; have t1 : lx93.toInt ≤ 4100 := i96; have t2 : y54.toInt ≤ lx93.toInt := b102; omega)), (show 0 ≤ y55.toInt from (by have z11 : (1 : Int32).toInt = 1 := rfl; have t1 : 0 ≤ y55.toInt := b61; omega)), (show y55.toInt ≤ 1 from (by have z11 : (1 : Int32).toInt = 1 := rfl; have t1 : y55.toInt ≤ 1 := b62; omega)), (show t0_0.toInt ≤ y51.toInt from (by have z11 : (1 : Int32).toInt = 1 := rfl; have t1 : t0_0.toInt ≤ y17.toInt := b29; have t2 : y17.toInt ≤ y51.toInt := b63; omega)), (show y51.toInt ≤ t0_0.toInt from (by have z11 : (1 : Int32).toInt = 1 := rfl; have t1 : y17.toInt ≤ t0_0.toInt := b30; have t2 : y51.toInt ≤ y17.toInt := b64; omega)), (show t0_1.toInt ≤ y52.toInt from (by have z11 : (1 : Int32).toInt = 1 := rfl; have t1 : t0_1.toInt ≤ y18.toInt := b31; have t2 : y18.toInt ≤ y52.toInt := b65; omega)), (show y52.toInt ≤ t0_1.toInt from (by have z11 : (1 : Int32).toInt = 1 := rfl; have t1 : y18.toInt ≤ t0_1.toInt := b32; have t2 : y52.toInt ≤ y18.toInt := b66; omega)), (show t0_5.toInt ≤ y56.toInt from (by have z11 : (1 : Int32).toInt = 1 := rfl; have t1 : t0_5.toInt ≤ y22.toInt := b35; have t2 : y22.toInt ≤ y56.toInt := b69; omega)), (show y56.toInt ≤ t0_5.toInt from (by have z11 : (1 : Int32).toInt = 1 := rfl; have t1 : y22.toInt ≤ t0_5.toInt := b36; have t2 : y56.toInt ≤ y22.toInt := b70; omega)), (show t0_6.toInt ≤ y57.toInt from (by have z11 : (1 : Int32).toInt = 1 := rfl; have t1 : t0_6.toInt ≤ y23.toInt := b37; have t2 : y23.toInt ≤ y57.toInt := b71; omega)), (show y57.toInt ≤ t0_6.toInt from (by have z11 : (1 : Int32).toInt = 1 := rfl; have t1 : y23.toInt ≤ t0_6.toInt := b38; have t2 : y57.toInt ≤ y23.toInt := b72; omega)), (show t0_7.toInt ≤ y58.toInt from (by have z11 : (1 : Int32).toInt = 1 := rfl; have t1 : t0_7.toInt ≤ y24.toInt := b39; have t2 : y24.toInt ≤ y58.toInt := b73; omega)), (show y58.toInt ≤ t0_7.toInt from (by have z11 : (1 : Int32).toInt = 1 := rfl; have t1 : y24.toInt ≤ t0_7.toInt := b40; have t2 : y58.toInt ≤ y24.toInt := b74; omega)), (show t0_8.toInt ≤ y59.toInt from (by have z11 : (1 : Int32).toInt = 1 := rfl; have t1 : t0_8.toInt ≤ y25.toInt := b41; have t2 : y25.toInt ≤ y59.toInt := b75; omega)), (show y59.toInt ≤ t0_8.toInt from (by have z11 : (1 : Int32).toInt = 1 := rfl; have t1 : y25.toInt ≤ t0_8.toInt := b42; have t2 : y59.toInt ≤ y25.toInt := b76; omega)), (show t0_9.toInt ≤ y60.toInt from (by have z11 : (1 : Int32).toInt = 1 := rfl; have t1 : t0_9.toInt ≤ y26.toInt := b43; have t2 : y26.toInt ≤ y60.toInt := b77; omega)), (show y60.toInt ≤ t0_9.toInt from (by have z11 : (1 : Int32).toInt = 1 := rfl; have t1 : y26.toInt ≤ t0_9.toInt := b44; have t2 : y60.toInt ≤ y26.toInt := b78; omega))⟩) d_10_2_132
        ·
          have b128 : q_F (0 < y117.toInt) := (q_nleI c121)
          refine lv_iconst (v := 1) hx hb d_10_2_115 (by decide) ?_
          refine lv_goto (tgt := 120) hx hb d_10_2_116 (by decide) ?_
          refine q_put (ci := 2) (j := 2) (v := .int 1) (ty := .boolean) C0 V i_Big o_Big n_Big rfl rfl hO116 (by decide) w_95 rfl rfl rfl rfl (Nat.le_of_ble_eq_true rfl) d_10_2_120 (fun H locs w129 hu130 hO116 V => ?_)
          replace hO116 : w129[10]? = (some (q 10, .inr (2, [.ref (q 11), .int y117, .int 1])) : Option (Nat × va_E)) := hO116
          replace hI := q_bigO' hI (n_b10 g q) hu130 hO116 ⟨(by have zR : (220 : Int32).toInt = 220 := rfl; have t1 : 0 ≤ y117.toInt ∧ y117.toInt ≤ 220 := b119; omega), (by have zR : (220 : Int32).toInt = 220 := rfl; have t1 : 0 ≤ y117.toInt ∧ y117.toInt ≤ 220 := b119; omega)⟩ ⟨(by have z9 : (1 : Int32).toInt = 1 := rfl; omega), (by have z9 : (1 : Int32).toInt = 1 := rfl; omega)⟩
          replace hO100 := (hu130 _ (by decide)).trans hO100
          replace hF := q_us hF hu130 (by simp)
          refine lv_iload_n hx hb d_10_2_123 rfl (lv_at hl 0 rfl) ?_
          refine lv_if_eq (tgt := 131) hx hb d_10_2_124 (by decide) (fun c131 => ?_) (fun c131 => ?_)
          ·
            have b132 : q_F (lx92.toInt = 0) := (q_eqI c131)
            refine lv_iconst (v := 2) hx hb d_10_2_131 (by decide) ?_
            exact q_reti C0 V (⟨hI, hF, y51, y52, lx93, y54, y55, y56, y57, y58, y59, y60, hO100, (show 0 ≤ (2 : Int32).toInt from (by have z11 : (2 : Int32).toInt = 2 := rfl; omega)), (show (2 : Int32).toInt ≤ 2 from (by have z11 : (2 : Int32).toInt = 2 := rfl; omega)), (show 0 ≤ y54.toInt from (by have z11 : (2 : Int32).toInt = 2 := rfl; have t1 : 0 ≤ y19.toInt := b27; have t2 : y19.toInt ≤ y20.toInt := b46; have t3 : y20.toInt ≤ y54.toInt := b67; omega)), (show y54.toInt ≤ 4100 from (by have z11 : (2 : Int32).toInt = 2 := rfl; have t1 : lx93.toInt ≤ 4100 := i96; have t2 : y54.toInt ≤ lx93.toInt := b102; omega)), (show 0 ≤ y55.toInt from (by have z11 : (2 : Int32).toInt = 2 := rfl; have t1 : 0 ≤ y55.toInt := b61; omega)), (show y55.toInt ≤ 1 from (by have z11 : (2 : Int32).toInt = 2 := rfl; have t1 : y55.toInt ≤ 1 := b62; omega)), (show t0_0.toInt ≤ y51.toInt from (by have z11 : (2 : Int32).toInt = 2 := rfl; have t1 : t0_0.toInt ≤ y17.toInt := b29; have t2 : y17.toInt ≤ y51.toInt := b63; omega)), (show y51.toInt ≤ t0_0.toInt from (by have z11 : (2 : Int32).toInt = 2 := rfl; have t1 : y17.toInt ≤ t0_0.toInt := b30; have t2 : y51.toInt ≤ y17.toInt := b64; omega)), (show t0_1.toInt ≤ y52.toInt from (by have z11 : (2 : Int32).toInt = 2 := rfl; have t1 : t0_1.toInt ≤ y18.toInt := b31; have t2 : y18.toInt ≤ y52.toInt := b65; omega)), (show y52.toInt ≤ t0_1.toInt from (by have z11 : (2 : Int32).toInt = 2 := rfl; have t1 : y18.toInt ≤ t0_1.toInt := b32; have t2 : y52.toInt ≤ y18.toInt := b66; omega)), (show t0_5.toInt ≤ y56.toInt from (by have z11 : (2 : Int32).toInt = 2 := rfl; have t1 : t0_5.toInt ≤ y22.toInt := b35; have t2 : y22.toInt ≤ y56.toInt := b69; omega)), (show y56.toInt ≤ t0_5.toInt from (by have z11 : (2 : Int32).toInt = 2 := rfl; have t1 : y22.toInt ≤ t0_5.toInt := b36; have t2 : y56.toInt ≤ y22.toInt := b70; omega)), (show t0_6.toInt ≤ y57.toInt from (by have z11 : (2 : Int32).toInt = 2 := rfl; have t1 : t0_6.toInt ≤ y23.toInt := b37; have t2 : y23.toInt ≤ y57.toInt := b71; omega)), (show y57.toInt ≤ t0_6.toInt from (by have z11 : (2 : Int32).toInt = 2 := rfl; have t1 : y23.toInt ≤ t0_6.toInt := b38; have t2 : y57.toInt ≤ y23.toInt := b72; omega)), (show t0_7.toInt ≤ y58.toInt from (by have z11 : (2 : Int32).toInt = 2 := rfl; have t1 : t0_7.toInt ≤ y24.toInt := b39; have t2 : y24.toInt ≤ y58.toInt := b73; omega)), (show y58.toInt ≤ t0_7.toInt from (by have z11 : (2 : Int32).toInt = 2 := rfl; have t1 : y24.toInt ≤ t0_7.toInt := b40; have t2 : y58.toInt ≤ y24.toInt := b74; omega)), (show t0_8.toInt ≤ y59.toInt from (by have z11 : (2 : Int32).toInt = 2 := rfl; have t1 : t0_8.toInt ≤ y25.toInt := b41; have t2 : y25.toInt ≤ y59.toInt := b75; omega)), (show y59.toInt ≤ t0_8.toInt from (by have z11 : (2 : Int32).toInt = 2 := rfl; have t1 : y25.toInt ≤ t0_8.toInt := b42; have t2 : y59.toInt ≤ y25.toInt := b76; omega)), (show t0_9.toInt ≤ y60.toInt from (by have z11 : (2 : Int32).toInt = 2 := rfl; have t1 : t0_9.toInt ≤ y26.toInt := b43; have t2 : y26.toInt ≤ y60.toInt := b77; omega)), (show y60.toInt ≤ t0_9.toInt from (by have z11 : (2 : Int32).toInt = 2 := rfl; have t1 : y26.toInt ≤ t0_9.toInt := b44; have t2 : y60.toInt ≤ y26.toInt := b78; omega))⟩) d_10_2_132
          ·
            have b133 : q_F (lx92.toInt ≠ 0) := (q_neI c131)
            refine lv_iconst (v := 1) hx hb d_10_2_127 (by decide) ?_
            refine lv_goto (tgt := 132) hx hb d_10_2_128 (by decide) ?_
            exact q_reti C0 V (⟨hI, hF, y51, y52, lx93, y54, y55, y56, y57, y58, y59, y60, hO100, (show 0 ≤ (1 : Int32).toInt from (by have z11 : (1 : Int32).toInt = 1 := rfl; omega)), (show (1 : Int32).toInt ≤ 2 from (by have z11 : (1 : Int32).toInt = 1 := rfl; omega)), (show 0 ≤ y54.toInt from (by have z11 : (1 : Int32).toInt = 1 := rfl; have t1 : 0 ≤ y19.toInt := b27; have t2 : y19.toInt ≤ y20.toInt := b46; have t3 : y20.toInt ≤ y54.toInt := b67; omega)), (show y54.toInt ≤ 4100 from (by have z11 : (1 : Int32).toInt = 1 := rfl; have t1 : lx93.toInt ≤ 4100 := i96; have t2 : y54.toInt ≤ lx93.toInt := b102; omega)), (show 0 ≤ y55.toInt from (by have z11 : (1 : Int32).toInt = 1 := rfl; have t1 : 0 ≤ y55.toInt := b61; omega)), (show y55.toInt ≤ 1 from (by have z11 : (1 : Int32).toInt = 1 := rfl; have t1 : y55.toInt ≤ 1 := b62; omega)), (show t0_0.toInt ≤ y51.toInt from (by have z11 : (1 : Int32).toInt = 1 := rfl; have t1 : t0_0.toInt ≤ y17.toInt := b29; have t2 : y17.toInt ≤ y51.toInt := b63; omega)), (show y51.toInt ≤ t0_0.toInt from (by have z11 : (1 : Int32).toInt = 1 := rfl; have t1 : y17.toInt ≤ t0_0.toInt := b30; have t2 : y51.toInt ≤ y17.toInt := b64; omega)), (show t0_1.toInt ≤ y52.toInt from (by have z11 : (1 : Int32).toInt = 1 := rfl; have t1 : t0_1.toInt ≤ y18.toInt := b31; have t2 : y18.toInt ≤ y52.toInt := b65; omega)), (show y52.toInt ≤ t0_1.toInt from (by have z11 : (1 : Int32).toInt = 1 := rfl; have t1 : y18.toInt ≤ t0_1.toInt := b32; have t2 : y52.toInt ≤ y18.toInt := b66; omega)), (show t0_5.toInt ≤ y56.toInt from (by have z11 : (1 : Int32).toInt = 1 := rfl; have t1 : t0_5.toInt ≤ y22.toInt := b35; have t2 : y22.toInt ≤ y56.toInt := b69; omega)), (show y56.toInt ≤ t0_5.toInt from (by have z11 : (1 : Int32).toInt = 1 := rfl; have t1 : y22.toInt ≤ t0_5.toInt := b36; have t2 : y56.toInt ≤ y22.toInt := b70; omega)), (show t0_6.toInt ≤ y57.toInt from (by have z11 : (1 : Int32).toInt = 1 := rfl; have t1 : t0_6.toInt ≤ y23.toInt := b37; have t2 : y23.toInt ≤ y57.toInt := b71; omega)), (show y57.toInt ≤ t0_6.toInt from (by have z11 : (1 : Int32).toInt = 1 := rfl; have t1 : y23.toInt ≤ t0_6.toInt := b38; have t2 : y57.toInt ≤ y23.toInt := b72; omega)), (show t0_7.toInt ≤ y58.toInt from (by have z11 : (1 : Int32).toInt = 1 := rfl; have t1 : t0_7.toInt ≤ y24.toInt := b39; have t2 : y24.toInt ≤ y58.toInt := b73; omega)), (show y58.toInt ≤ t0_7.toInt from (by have z11 : (1 : Int32).toInt = 1 := rfl; have t1 : y24.toInt ≤ t0_7.toInt := b40; have t2 : y58.toInt ≤ y24.toInt := b74; omega)), (show t0_8.toInt ≤ y59.toInt from (by have z11 : (1 : Int32).toInt = 1 := rfl; have t1 : t0_8.toInt ≤ y25.toInt := b41; have t2 : y25.toInt ≤ y59.toInt := b75; omega)), (show y59.toInt ≤ t0_8.toInt from (by have z11 : (1 : Int32).toInt = 1 := rfl; have t1 : y25.toInt ≤ t0_8.toInt := b42; have t2 : y59.toInt ≤ y25.toInt := b76; omega)), (show t0_9.toInt ≤ y60.toInt from (by have z11 : (1 : Int32).toInt = 1 := rfl; have t1 : t0_9.toInt ≤ y26.toInt := b43; have t2 : y26.toInt ≤ y60.toInt := b77; omega)), (show y60.toInt ≤ t0_9.toInt from (by have z11 : (1 : Int32).toInt = 1 := rfl; have t1 : y26.toInt ≤ t0_9.toInt := b44; have t2 : y60.toInt ≤ y26.toInt := b78; omega))⟩) d_10_2_132
    ·
      have b134 : q_F (lx93.toInt < y54.toInt) := (q_nleI c101)
      refine lv_aload_n hx hb d_10_2_46 rfl (lv_at hl 2 rfl) ?_
      refine q_goi V (q_runV (As := []) (rest := []) (d := 3) (mc := 0) (ms := 0) (ci := 8) C0 V rfl LV_Rea_43 (T_Rea_digitHere l D g q w99   hI   _) rfl rfl hO100 rfl hl.1 rfl (Nat.le_of_ble_eq_true rfl) ⟨by decide, by decide⟩ ⟨Nat.le_of_ble_eq_true rfl, Nat.le_of_ble_eq_true rfl⟩ d_10_2_47) (fun a137 u135 H locs hp136 V => ?_)
      obtain ⟨rfl, b138, b139⟩ := hp136
      replace b138 : q_F (0 ≤ a137.toInt) := b138
      replace b139 : q_F (a137.toInt ≤ 99) := b139
      refine lv_istore (lv' := [(4, .int a137), (3, .int lx92), (2, .ref (q 10)), (0, .ref (q 38)), (1, .int x2)]) hx hb d_10_2_50 hl (by decide) rfl (fun ls hl => ?_)
      refine lv_iload hx hb d_10_2_52 (lv_at hl 0 rfl) ?_
      refine lv_iload_n hx hb d_10_2_54 rfl (lv_at hl 4 rfl) ?_
      refine lv_icmp_lt (tgt := 60) hx hb d_10_2_55 (by decide) (fun c140 => ?_) (fun c140 => ?_)
      ·
        have b141 : q_F (a137.toInt < x2.toInt) := (q_ltI c140)
        refine lv_iload_n hx hb d_10_2_60 rfl (lv_at hl 1 rfl) ?_
        refine lv_if_eq (tgt := 87) hx hb d_10_2_61 (by decide) (fun c142 => ?_) (fun c142 => ?_)
        ·
          have b143 : q_F (lx92.toInt = 0) := (q_eqI c142)
          refine lv_aload_n hx hb d_10_2_87 rfl (lv_at hl 3 rfl) ?_
          refine lv_dup hx hb d_10_2_88 rfl ?_
          refine q_get (ci := 8) (j := 4) (v := .int lx93) C0 V i_Rea rfl rfl hO100 (by decide) w_290 rfl d_10_2_89 ?_
          refine lv_iconst (v := 1) hx hb d_10_2_92 (by decide) ?_
          refine lv_iadd hx hb d_10_2_93 ?_
          obtain ⟨a144, e145⟩ := q_nm (lx93 + 1 : Int32)
          refine q_ti (v := a144) e145 ?_
          have b146 : q_F (a144.toInt = lx93.toInt + 1) := (by rw [← e145]; show (lx93 + 1 : Int32).toInt = lx93.toInt + 1; exact q_addI (x := lx93.toInt) (y := 1) rfl (by decide) (by have _ := q_lo32 (x := lx93); have _ := q_hi32 (x := lx93); have t1 : lx93.toInt ≤ 4100 := i96; omega) (by have _ := q_lo32 (x := lx93); have _ := q_hi32 (x := lx93); have t1 : lx93.toInt ≤ 4100 := i96; omega))
          refine q_put (ci := 8) (j := 4) (v := .int a144) (ty := .int) C0 V i_Rea o_Rea n_Rea rfl rfl hO100 (by decide) w_290 rfl rfl rfl rfl (Nat.le_of_ble_eq_true rfl) d_10_2_94 (fun H locs w147 hu148 hO100 V => ?_)
          replace hO100 : w147[38]? = (some (q 38, .inr (8, [.long y51, .long y52, .ref (q 1), .ref (q 9), .int a144, .int y54, .int y55, .int y56, .int y57, .int y58, .int y59, .long y60])) : Option (Nat × va_E)) := hO100
          replace hI := n_p38 hI hu148 hO100 ⟨(by have t1 : 0 ≤ y55.toInt := b61; omega), (by have t1 : y55.toInt ≤ 1 := b62; omega)⟩ ⟨(by have t1 : 0 ≤ t0_8.toInt ∧ t0_8.toInt ≤ 1 := btt0_8; have t2 : t0_8.toInt ≤ y25.toInt := b41; have t3 : y25.toInt ≤ y59.toInt := b75; omega), (by have t1 : 0 ≤ t0_8.toInt ∧ t0_8.toInt ≤ 1 := btt0_8; have t2 : y25.toInt ≤ t0_8.toInt := b42; have t3 : y59.toInt ≤ y25.toInt := b76; omega)⟩
          replace hF := q_us hF hu148 (by simp)
          refine lv_goto (tgt := 35) hx hb d_10_2_97 (by decide) ?_
          exact ih98 ((lx92 : Int32), (a144 : Int32)) _ _ _ _ (show (4100 - a144.toInt).toNat < (4100 - lx93.toInt).toNat from by have t1 : a144.toInt = lx93.toInt + 1 := b146; have t2 : lx93.toInt ≤ 4100 := i96; have t3 : y19.toInt ≤ 0 := b28; have t4 : y20.toInt ≤ y19.toInt + 4100 := b45; have t5 : y54.toInt ≤ y20.toInt := b68; have t6 : lx93.toInt < y54.toInt := b134; omega) ⟨(show q_F (lx92.toInt ≤ 1) from (show lx92.toInt ≤ 1 from by have t1 : lx92.toInt ≤ 1 := i94; omega)), (show q_F (0 ≤ lx92.toInt) from (show 0 ≤ lx92.toInt from by have t1 : 0 ≤ lx92.toInt := i95; omega)), (show q_F (a144.toInt ≤ 4100) from (show a144.toInt ≤ 4100 from by have t1 : y19.toInt ≤ 0 := b28; have t2 : y20.toInt ≤ y19.toInt + 4100 := b45; have t3 : y54.toInt ≤ y20.toInt := b68; have t4 : lx93.toInt < y54.toInt := b134; have t5 : a144.toInt = lx93.toInt + 1 := b146; omega)), (show q_F (y53.toInt + 1 ≤ lx92.toInt + a144.toInt) from (show y53.toInt + 1 ≤ lx92.toInt + a144.toInt from by have t1 : y53.toInt + 1 ≤ lx92.toInt + lx93.toInt := i97; have t2 : a144.toInt = lx93.toInt + 1 := b146; omega)), V, q_lw hl (q_lw1 1 rfl (q_lw1 2 rfl (q_lw1 3 rfl (q_lw1 4 rfl q_lw0)))), hI, hF, hO100⟩
        ·
          have b149 : q_F (lx92.toInt ≠ 0) := (q_neI c142)
          refine lv_aload_n hx hb d_10_2_64 rfl (lv_at hl 2 rfl) ?_
          refine lv_iload_n hx hb d_10_2_65 rfl (lv_at hl 4 rfl) ?_
          refine lv_iload hx hb d_10_2_66 (lv_at hl 0 rfl) ?_
          obtain ⟨y151, y152, hO150, b153, b154⟩ := q_bigO hI (n_b10 g q)
          replace b153 : q_F (0 ≤ y151.toInt ∧ y151.toInt ≤ 220) := b153
          replace b154 : q_F (0 ≤ y152.toInt ∧ y152.toInt ≤ 1) := b154
          refine q_gov V (q_runV (As := [.int x2, .int a137]) (rest := []) (d := 1) (mc := 0) (ms := 0) (ci := 2) C0 V rfl LV_Rea_47 (S_Big_multiplySmall l D g (nsh g q) q w99 10 220 (n_b10 g q) x2 a137 hI   _) rfl rfl hO150 rfl hl.1 rfl (Nat.le_of_ble_eq_true rfl) ⟨by decide, by decide⟩ ⟨Nat.le_of_ble_eq_true rfl, Nat.le_of_ble_eq_true rfl⟩ d_10_2_68) (fun u155 H locs hp156 V => ?_)
          obtain ⟨_, hI, hu157⟩ := hp156
          replace hO100 := (hu157 _ (by decide)).trans hO100
          replace hF := q_uc hF hu157 (by simp)
          refine lv_aload_n hx hb d_10_2_71 rfl (lv_at hl 2 rfl) ?_
          obtain ⟨y159, y160, hO158, b161, b162⟩ := q_bigO hI (n_b10 g q)
          replace b161 : q_F (0 ≤ y159.toInt ∧ y159.toInt ≤ 220) := b161
          replace b162 : q_F (0 ≤ y160.toInt ∧ y160.toInt ≤ 1) := b162
          refine q_goi V (q_runV (As := []) (rest := []) (d := 3) (mc := 0) (ms := 0) (ci := 2) C0 V rfl LV_Rea_51 (S_Big_bitLength l D g (nsh g q) q u155 10 220 (n_b10 g q)  hI   _) rfl rfl hO158 rfl hl.1 rfl (Nat.le_of_ble_eq_true rfl) ⟨by decide, by decide⟩ ⟨Nat.le_of_ble_eq_true rfl, Nat.le_of_ble_eq_true rfl⟩ d_10_2_72) (fun a165 u163 H locs hp164 V => ?_)
          obtain ⟨b166, rfl⟩ := hp164
          replace b166 : q_F (0 ≤ a165.toInt ∧ a165.toInt ≤ 6852) := b166
          refine lv_sipush (v := 2048) hx hb d_10_2_75 (by decide) ?_
          refine lv_icmp_gt (tgt := 85) hx hb d_10_2_78 (by decide) (fun c167 => ?_) (fun c167 => ?_)
          ·
            have b168 : q_F (2048 < a165.toInt) := (q_ltI c167)
            refine lv_iconst (v := 0) hx hb d_10_2_85 (by decide) ?_
            refine lv_istore_n (lv' := [(3, .int 0), (4, .int a137), (2, .ref (q 10)), (0, .ref (q 38)), (1, .int x2)]) hx hb d_10_2_86 rfl hl (by decide) rfl (fun ls hl => ?_)
            refine lv_aload_n hx hb d_10_2_87 rfl (lv_at hl 3 rfl) ?_
            refine lv_dup hx hb d_10_2_88 rfl ?_
            refine q_get (ci := 8) (j := 4) (v := .int lx93) C0 V i_Rea rfl rfl hO100 (by decide) w_290 rfl d_10_2_89 ?_
            refine lv_iconst (v := 1) hx hb d_10_2_92 (by decide) ?_
            refine lv_iadd hx hb d_10_2_93 ?_
            obtain ⟨a169, e170⟩ := q_nm (lx93 + 1 : Int32)
            refine q_ti (v := a169) e170 ?_
            have b171 : q_F (a169.toInt = lx93.toInt + 1) := (by rw [← e170]; show (lx93 + 1 : Int32).toInt = lx93.toInt + 1; exact q_addI (x := lx93.toInt) (y := 1) rfl (by decide) (by have _ := q_lo32 (x := lx93); have _ := q_hi32 (x := lx93); have t1 : lx93.toInt ≤ 4100 := i96; omega) (by have _ := q_lo32 (x := lx93); have _ := q_hi32 (x := lx93); have t1 : lx93.toInt ≤ 4100 := i96; omega))
            refine q_put (ci := 8) (j := 4) (v := .int a169) (ty := .int) C0 V i_Rea o_Rea n_Rea rfl rfl hO100 (by decide) w_290 rfl rfl rfl rfl (Nat.le_of_ble_eq_true rfl) d_10_2_94 (fun H locs w172 hu173 hO100 V => ?_)
            replace hO100 : w172[38]? = (some (q 38, .inr (8, [.long y51, .long y52, .ref (q 1), .ref (q 9), .int a169, .int y54, .int y55, .int y56, .int y57, .int y58, .int y59, .long y60])) : Option (Nat × va_E)) := hO100
            replace hI := n_p38 hI hu173 hO100 ⟨(by have t1 : 0 ≤ y55.toInt := b61; omega), (by have t1 : y55.toInt ≤ 1 := b62; omega)⟩ ⟨(by have t1 : 0 ≤ t0_8.toInt ∧ t0_8.toInt ≤ 1 := btt0_8; have t2 : t0_8.toInt ≤ y25.toInt := b41; have t3 : y25.toInt ≤ y59.toInt := b75; omega), (by have t1 : 0 ≤ t0_8.toInt ∧ t0_8.toInt ≤ 1 := btt0_8; have t2 : y25.toInt ≤ t0_8.toInt := b42; have t3 : y59.toInt ≤ y25.toInt := b76; omega)⟩
            replace hO158 := (hu173 _ (by decide)).trans hO158
            replace hF := q_us hF hu173 (by simp)
            refine lv_goto (tgt := 35) hx hb d_10_2_97 (by decide) ?_
            exact ih98 ((0 : Int32), (a169 : Int32)) _ _ _ _ (show (4100 - a169.toInt).toNat < (4100 - lx93.toInt).toNat from by have t1 : a169.toInt = lx93.toInt + 1 := b171; have t2 : lx93.toInt ≤ 4100 := i96; have t3 : y19.toInt ≤ 0 := b28; have t4 : y20.toInt ≤ y19.toInt + 4100 := b45; have t5 : y54.toInt ≤ y20.toInt := b68; have t6 : lx93.toInt < y54.toInt := b134; omega) ⟨(show q_F (0 ≤ 1) from (show 0 ≤ 1 from by omega)), (show q_F (0 ≤ 0) from (show 0 ≤ 0 from by omega)), (show q_F (a169.toInt ≤ 4100) from (show a169.toInt ≤ 4100 from by have t1 : y19.toInt ≤ 0 := b28; have t2 : y20.toInt ≤ y19.toInt + 4100 := b45; have t3 : y54.toInt ≤ y20.toInt := b68; have t4 : lx93.toInt < y54.toInt := b134; have t5 : a169.toInt = lx93.toInt + 1 := b171; omega)), (show q_F (y53.toInt + 1 ≤ 0 + a169.toInt) from (show y53.toInt + 1 ≤ 0 + a169.toInt from by have t1 : lx92.toInt ≤ 1 := i94; have t2 : y53.toInt + 1 ≤ lx92.toInt + lx93.toInt := i97; have t3 : a169.toInt = lx93.toInt + 1 := b171; omega)), V, q_lw hl (q_lw1 0 rfl (q_lw1 2 rfl (q_lw1 3 rfl (q_lw1 4 rfl q_lw0)))), hI, hF, hO100⟩
          ·
            have b174 : q_F (a165.toInt ≤ 2048) := (q_nltI c167)
            refine lv_iconst (v := 1) hx hb d_10_2_81 (by decide) ?_
            refine lv_goto (tgt := 86) hx hb d_10_2_82 (by decide) ?_
            refine lv_istore_n (lv' := [(3, .int 1), (4, .int a137), (2, .ref (q 10)), (0, .ref (q 38)), (1, .int x2)]) hx hb d_10_2_86 rfl hl (by decide) rfl (fun ls hl => ?_)
            refine lv_aload_n hx hb d_10_2_87 rfl (lv_at hl 3 rfl) ?_
            refine lv_dup hx hb d_10_2_88 rfl ?_
            refine q_get (ci := 8) (j := 4) (v := .int lx93) C0 V i_Rea rfl rfl hO100 (by decide) w_290 rfl d_10_2_89 ?_
            refine lv_iconst (v := 1) hx hb d_10_2_92 (by decide) ?_
            refine lv_iadd hx hb d_10_2_93 ?_
            obtain ⟨a175, e176⟩ := q_nm (lx93 + 1 : Int32)
            refine q_ti (v := a175) e176 ?_
            have b177 : q_F (a175.toInt = lx93.toInt + 1) := (by rw [← e176]; show (lx93 + 1 : Int32).toInt = lx93.toInt + 1; exact q_addI (x := lx93.toInt) (y := 1) rfl (by decide) (by have _ := q_lo32 (x := lx93); have _ := q_hi32 (x := lx93); have t1 : lx93.toInt ≤ 4100 := i96; omega) (by have _ := q_lo32 (x := lx93); have _ := q_hi32 (x := lx93); have t1 : lx93.toInt ≤ 4100 := i96; omega))
            refine q_put (ci := 8) (j := 4) (v := .int a175) (ty := .int) C0 V i_Rea o_Rea n_Rea rfl rfl hO100 (by decide) w_290 rfl rfl rfl rfl (Nat.le_of_ble_eq_true rfl) d_10_2_94 (fun H locs w178 hu179 hO100 V => ?_)
            replace hO100 : w178[38]? = (some (q 38, .inr (8, [.long y51, .long y52, .ref (q 1), .ref (q 9), .int a175, .int y54, .int y55, .int y56, .int y57, .int y58, .int y59, .long y60])) : Option (Nat × va_E)) := hO100
            replace hI := n_p38 hI hu179 hO100 ⟨(by have t1 : 0 ≤ y55.toInt := b61; omega), (by have t1 : y55.toInt ≤ 1 := b62; omega)⟩ ⟨(by have t1 : 0 ≤ t0_8.toInt ∧ t0_8.toInt ≤ 1 := btt0_8; have t2 : t0_8.toInt ≤ y25.toInt := b41; have t3 : y25.toInt ≤ y59.toInt := b75; omega), (by have t1 : 0 ≤ t0_8.toInt ∧ t0_8.toInt ≤ 1 := btt0_8; have t2 : y25.toInt ≤ t0_8.toInt := b42; have t3 : y59.toInt ≤ y25.toInt := b76; omega)⟩
            replace hO158 := (hu179 _ (by decide)).trans hO158
            replace hF := q_us hF hu179 (by simp)
            refine lv_goto (tgt := 35) hx hb d_10_2_97 (by decide) ?_
            exact ih98 ((1 : Int32), (a175 : Int32)) _ _ _ _ (show (4100 - a175.toInt).toNat < (4100 - lx93.toInt).toNat from by have t1 : a175.toInt = lx93.toInt + 1 := b177; have t2 : lx93.toInt ≤ 4100 := i96; have t3 : y19.toInt ≤ 0 := b28; have t4 : y20.toInt ≤ y19.toInt + 4100 := b45; have t5 : y54.toInt ≤ y20.toInt := b68; have t6 : lx93.toInt < y54.toInt := b134; omega) ⟨(show q_F (1 ≤ 1) from (show 1 ≤ 1 from by omega)), (show q_F (0 ≤ 1) from (show 0 ≤ 1 from by omega)), (show q_F (a175.toInt ≤ 4100) from (show a175.toInt ≤ 4100 from by have t1 : y19.toInt ≤ 0 := b28; have t2 : y20.toInt ≤ y19.toInt + 4100 := b45; have t3 : y54.toInt ≤ y20.toInt := b68; have t4 : lx93.toInt < y54.toInt := b134; have t5 : a175.toInt = lx93.toInt + 1 := b177; omega)), (show q_F (y53.toInt + 1 ≤ 1 + a175.toInt) from (show y53.toInt + 1 ≤ 1 + a175.toInt from by have t1 : lx92.toInt ≤ 1 := i94; have t2 : y53.toInt + 1 ≤ lx92.toInt + lx93.toInt := i97; have t3 : a175.toInt = lx93.toInt + 1 := b177; omega)), V, q_lw hl (q_lw1 0 rfl (q_lw1 2 rfl (q_lw1 3 rfl (q_lw1 4 rfl q_lw0)))), hI, hF, hO100⟩
      ·
        have b180 : q_F (x2.toInt ≤ a137.toInt) := (q_nltI c140)
        refine lv_iconst (v := 0) hx hb d_10_2_58 (by decide) ?_
        exact q_reti C0 V (⟨hI, hF, y51, y52, lx93, y54, y55, y56, y57, y58, y59, y60, hO100, (show 0 ≤ (0 : Int32).toInt from (by have z11 : (0 : Int32).toInt = 0 := rfl; omega)), (show (0 : Int32).toInt ≤ 2 from (by have z11 : (0 : Int32).toInt = 0 := rfl; omega)), (show 0 ≤ y54.toInt from (by have z11 : (0 : Int32).toInt = 0 := rfl; have t1 : 0 ≤ y19.toInt := b27; have t2 : y19.toInt ≤ y20.toInt := b46; have t3 : y20.toInt ≤ y54.toInt := b67; omega)), (show y54.toInt ≤ 4100 from (by have z11 : (0 : Int32).toInt = 0 := rfl; have t1 : y19.toInt ≤ 0 := b28; have t2 : y20.toInt ≤ y19.toInt + 4100 := b45; have t3 : y54.toInt ≤ y20.toInt := b68; omega)), (show 0 ≤ y55.toInt from (by have z11 : (0 : Int32).toInt = 0 := rfl; have t1 : 0 ≤ y55.toInt := b61; omega)), (show y55.toInt ≤ 1 from (by have z11 : (0 : Int32).toInt = 0 := rfl; have t1 : y55.toInt ≤ 1 := b62; omega)), (show t0_0.toInt ≤ y51.toInt from (by have z11 : (0 : Int32).toInt = 0 := rfl; have t1 : t0_0.toInt ≤ y17.toInt := b29; have t2 : y17.toInt ≤ y51.toInt := b63; omega)), (show y51.toInt ≤ t0_0.toInt from (by have z11 : (0 : Int32).toInt = 0 := rfl; have t1 : y17.toInt ≤ t0_0.toInt := b30; have t2 : y51.toInt ≤ y17.toInt := b64; omega)), (show t0_1.toInt ≤ y52.toInt from (by have z11 : (0 : Int32).toInt = 0 := rfl; have t1 : t0_1.toInt ≤ y18.toInt := b31; have t2 : y18.toInt ≤ y52.toInt := b65; omega)), (show y52.toInt ≤ t0_1.toInt from (by have z11 : (0 : Int32).toInt = 0 := rfl; have t1 : y18.toInt ≤ t0_1.toInt := b32; have t2 : y52.toInt ≤ y18.toInt := b66; omega)), (show t0_5.toInt ≤ y56.toInt from (by have z11 : (0 : Int32).toInt = 0 := rfl; have t1 : t0_5.toInt ≤ y22.toInt := b35; have t2 : y22.toInt ≤ y56.toInt := b69; omega)), (show y56.toInt ≤ t0_5.toInt from (by have z11 : (0 : Int32).toInt = 0 := rfl; have t1 : y22.toInt ≤ t0_5.toInt := b36; have t2 : y56.toInt ≤ y22.toInt := b70; omega)), (show t0_6.toInt ≤ y57.toInt from (by have z11 : (0 : Int32).toInt = 0 := rfl; have t1 : t0_6.toInt ≤ y23.toInt := b37; have t2 : y23.toInt ≤ y57.toInt := b71; omega)), (show y57.toInt ≤ t0_6.toInt from (by have z11 : (0 : Int32).toInt = 0 := rfl; have t1 : y23.toInt ≤ t0_6.toInt := b38; have t2 : y57.toInt ≤ y23.toInt := b72; omega)), (show t0_7.toInt ≤ y58.toInt from (by have z11 : (0 : Int32).toInt = 0 := rfl; have t1 : t0_7.toInt ≤ y24.toInt := b39; have t2 : y24.toInt ≤ y58.toInt := b73; omega)), (show y58.toInt ≤ t0_7.toInt from (by have z11 : (0 : Int32).toInt = 0 := rfl; have t1 : y24.toInt ≤ t0_7.toInt := b40; have t2 : y58.toInt ≤ y24.toInt := b74; omega)), (show t0_8.toInt ≤ y59.toInt from (by have z11 : (0 : Int32).toInt = 0 := rfl; have t1 : t0_8.toInt ≤ y25.toInt := b41; have t2 : y25.toInt ≤ y59.toInt := b75; omega)), (show y59.toInt ≤ t0_8.toInt from (by have z11 : (0 : Int32).toInt = 0 := rfl; have t1 : y25.toInt ≤ t0_8.toInt := b42; have t2 : y59.toInt ≤ y25.toInt := b76; omega)), (show t0_9.toInt ≤ y60.toInt from (by have z11 : (0 : Int32).toInt = 0 := rfl; have t1 : t0_9.toInt ≤ y26.toInt := b43; have t2 : y26.toInt ≤ y60.toInt := b77; omega)), (show y60.toInt ≤ t0_9.toInt from (by have z11 : (0 : Int32).toInt = 0 := rfl; have t1 : y26.toInt ≤ t0_9.toInt := b44; have t2 : y60.toInt ≤ y26.toInt := b78; omega))⟩) d_10_2_59
  ·
    have b181 : q_F (y54.toInt ≤ y53.toInt) := (q_nltI c89)
    refine lv_iconst (v := 0) hx hb d_10_2_33 (by decide) ?_
    exact q_reti C0 V (⟨hI, hF, y51, y52, y53, y54, y55, y56, y57, y58, y59, y60, hO50, (show 0 ≤ (0 : Int32).toInt from (by have z11 : (0 : Int32).toInt = 0 := rfl; omega)), (show (0 : Int32).toInt ≤ 2 from (by have z11 : (0 : Int32).toInt = 0 := rfl; omega)), (show 0 ≤ y54.toInt from (by have z11 : (0 : Int32).toInt = 0 := rfl; have t1 : 0 ≤ y19.toInt := b27; have t2 : y19.toInt ≤ y20.toInt := b46; have t3 : y20.toInt ≤ y54.toInt := b67; omega)), (show y54.toInt ≤ 4100 from (by have z11 : (0 : Int32).toInt = 0 := rfl; have t1 : y19.toInt ≤ 0 := b28; have t2 : y20.toInt ≤ y19.toInt + 4100 := b45; have t3 : y54.toInt ≤ y20.toInt := b68; omega)), (show 0 ≤ y55.toInt from (by have z11 : (0 : Int32).toInt = 0 := rfl; have t1 : 0 ≤ y55.toInt := b61; omega)), (show y55.toInt ≤ 1 from (by have z11 : (0 : Int32).toInt = 0 := rfl; have t1 : y55.toInt ≤ 1 := b62; omega)), (show t0_0.toInt ≤ y51.toInt from (by have z11 : (0 : Int32).toInt = 0 := rfl; have t1 : t0_0.toInt ≤ y17.toInt := b29; have t2 : y17.toInt ≤ y51.toInt := b63; omega)), (show y51.toInt ≤ t0_0.toInt from (by have z11 : (0 : Int32).toInt = 0 := rfl; have t1 : y17.toInt ≤ t0_0.toInt := b30; have t2 : y51.toInt ≤ y17.toInt := b64; omega)), (show t0_1.toInt ≤ y52.toInt from (by have z11 : (0 : Int32).toInt = 0 := rfl; have t1 : t0_1.toInt ≤ y18.toInt := b31; have t2 : y18.toInt ≤ y52.toInt := b65; omega)), (show y52.toInt ≤ t0_1.toInt from (by have z11 : (0 : Int32).toInt = 0 := rfl; have t1 : y18.toInt ≤ t0_1.toInt := b32; have t2 : y52.toInt ≤ y18.toInt := b66; omega)), (show t0_5.toInt ≤ y56.toInt from (by have z11 : (0 : Int32).toInt = 0 := rfl; have t1 : t0_5.toInt ≤ y22.toInt := b35; have t2 : y22.toInt ≤ y56.toInt := b69; omega)), (show y56.toInt ≤ t0_5.toInt from (by have z11 : (0 : Int32).toInt = 0 := rfl; have t1 : y22.toInt ≤ t0_5.toInt := b36; have t2 : y56.toInt ≤ y22.toInt := b70; omega)), (show t0_6.toInt ≤ y57.toInt from (by have z11 : (0 : Int32).toInt = 0 := rfl; have t1 : t0_6.toInt ≤ y23.toInt := b37; have t2 : y23.toInt ≤ y57.toInt := b71; omega)), (show y57.toInt ≤ t0_6.toInt from (by have z11 : (0 : Int32).toInt = 0 := rfl; have t1 : y23.toInt ≤ t0_6.toInt := b38; have t2 : y57.toInt ≤ y23.toInt := b72; omega)), (show t0_7.toInt ≤ y58.toInt from (by have z11 : (0 : Int32).toInt = 0 := rfl; have t1 : t0_7.toInt ≤ y24.toInt := b39; have t2 : y24.toInt ≤ y58.toInt := b73; omega)), (show y58.toInt ≤ t0_7.toInt from (by have z11 : (0 : Int32).toInt = 0 := rfl; have t1 : y24.toInt ≤ t0_7.toInt := b40; have t2 : y58.toInt ≤ y24.toInt := b74; omega)), (show t0_8.toInt ≤ y59.toInt from (by have z11 : (0 : Int32).toInt = 0 := rfl; have t1 : t0_8.toInt ≤ y25.toInt := b41; have t2 : y25.toInt ≤ y59.toInt := b75; omega)), (show y59.toInt ≤ t0_8.toInt from (by have z11 : (0 : Int32).toInt = 0 := rfl; have t1 : y25.toInt ≤ t0_8.toInt := b42; have t2 : y59.toInt ≤ y25.toInt := b76; omega)), (show t0_9.toInt ≤ y60.toInt from (by have z11 : (0 : Int32).toInt = 0 := rfl; have t1 : t0_9.toInt ≤ y26.toInt := b43; have t2 : y26.toInt ≤ y60.toInt := b77; omega)), (show y60.toInt ≤ t0_9.toInt from (by have z11 : (0 : Int32).toInt = 0 := rfl; have t1 : y26.toInt ≤ t0_9.toInt := b44; have t2 : y60.toInt ≤ y26.toInt := b78; omega))⟩) d_10_2_34
theorem d_10_3_0 : decode prog_10_method_3_code 0 = .ok (.aload_n 0, 1) := by decide +kernel
theorem d_10_3_1 : decode prog_10_method_3_code 1 = .ok (.invokevirtual 19, 3) := by decide +kernel
theorem d_10_3_4 : decode prog_10_method_3_code 4 = .ok (.aload_n 0, 1) := by decide +kernel
theorem d_10_3_5 : decode prog_10_method_3_code 5 = .ok (.invokevirtual 22, 3) := by decide +kernel
theorem d_10_3_8 : decode prog_10_method_3_code 8 = .ok (.aload_n 0, 1) := by decide +kernel
theorem d_10_3_9 : decode prog_10_method_3_code 9 = .ok (.bipush 10, 2) := by decide +kernel
theorem d_10_3_11 : decode prog_10_method_3_code 11 = .ok (.sipush 1000, 3) := by decide +kernel
theorem d_10_3_14 : decode prog_10_method_3_code 14 = .ok (.invokevirtual 62, 3) := by decide +kernel
theorem d_10_3_17 : decode prog_10_method_3_code 17 = .ok (.ifCond .ne 5, 3) := by decide +kernel
theorem d_10_3_22 : decode prog_10_method_3_code 22 = .ok (.aload_n 0, 1) := by decide +kernel
theorem d_10_3_23 : decode prog_10_method_3_code 23 = .ok (.lconst 0, 1) := by decide +kernel
theorem d_10_3_24 : decode prog_10_method_3_code 24 = .ok (.putfield 66, 3) := by decide +kernel
theorem d_10_3_27 : decode prog_10_method_3_code 27 = .ok (.aload_n 0, 1) := by decide +kernel
theorem d_10_3_28 : decode prog_10_method_3_code 28 = .ok (.invokevirtual 70, 3) := by decide +kernel
theorem d_10_3_31 : decode prog_10_method_3_code 31 = .ok (.bipush 32, 2) := by decide +kernel
theorem d_10_3_33 : decode prog_10_method_3_code 33 = .ok (.ior, 1) := by decide +kernel
theorem d_10_3_34 : decode prog_10_method_3_code 34 = .ok (.bipush 101, 2) := by decide +kernel
theorem d_10_3_50 : decode prog_10_method_3_code 50 = .ok (.aload_n 0, 1) := by decide +kernel
theorem d_10_3_51 : decode prog_10_method_3_code 51 = .ok (.getfield 36, 3) := by decide +kernel
theorem d_10_3_54 : decode prog_10_method_3_code 54 = .ok (.aload_n 0, 1) := by decide +kernel
theorem d_10_3_55 : decode prog_10_method_3_code 55 = .ok (.getfield 40, 3) := by decide +kernel
theorem d_10_3_58 : decode prog_10_method_3_code 58 = .ok (.if_icmp .ge 5, 3) := by decide +kernel
theorem d_10_3_63 : decode prog_10_method_3_code 63 = .ok (.aload_n 0, 1) := by decide +kernel
theorem d_10_3_64 : decode prog_10_method_3_code 64 = .ok (.getfield 15, 3) := by decide +kernel
theorem d_10_3_67 : decode prog_10_method_3_code 67 = .ok (.getfield 25, 3) := by decide +kernel
theorem d_10_3_70 : decode prog_10_method_3_code 70 = .ok (.aload_n 0, 1) := by decide +kernel
theorem d_10_3_71 : decode prog_10_method_3_code 71 = .ok (.getfield 54, 3) := by decide +kernel
theorem d_10_3_95 : decode prog_10_method_3_code 95 = .ok (.putfield 61, 3) := by decide +kernel
theorem d_10_3_98 : decode prog_10_method_3_code 98 = .ok (.aload_n 0, 1) := by decide +kernel
theorem d_10_3_99 : decode prog_10_method_3_code 99 = .ok (.aload_n 0, 1) := by decide +kernel
theorem d_10_3_100 : decode prog_10_method_3_code 100 = .ok (.getfield 77, 3) := by decide +kernel
theorem d_10_3_103 : decode prog_10_method_3_code 103 = .ok (.i2l, 1) := by decide +kernel
theorem d_10_3_104 : decode prog_10_method_3_code 104 = .ok (.aload_n 0, 1) := by decide +kernel
theorem d_10_3_105 : decode prog_10_method_3_code 105 = .ok (.getfield 66, 3) := by decide +kernel
theorem d_10_3_108 : decode prog_10_method_3_code 108 = .ok (.lsub, 1) := by decide +kernel
theorem d_10_3_109 : decode prog_10_method_3_code 109 = .ok (.putfield 80, 3) := by decide +kernel
set_option maxRecDepth 100000 in
theorem w_284 : (Cond.fieldLink "NumberHouse$Reader" (80 : Nat) "NumberHouse$Reader" "scale" "J") ∈ q_tbl := q_of2 44 rfl (by decide +kernel)
theorem d_10_3_112 : decode prog_10_method_3_code 112 = .ok (.aload_n 0, 1) := by decide +kernel
theorem d_10_3_113 : decode prog_10_method_3_code 113 = .ok (.getfield 83, 3) := by decide +kernel
theorem d_10_3_116 : decode prog_10_method_3_code 116 = .ok (.ifCond .le 7, 3) := by decide +kernel
theorem d_10_3_123 : decode prog_10_method_3_code 123 = .ok (.iconst 1, 1) := by decide +kernel
theorem d_10_3_124 : decode prog_10_method_3_code 124 = .ok (.ireturn, 1) := by decide +kernel
theorem d_10_3_119 : decode prog_10_method_3_code 119 = .ok (.iconst 2, 1) := by decide +kernel
theorem d_10_3_120 : decode prog_10_method_3_code 120 = .ok (.goto 4, 3) := by decide +kernel
theorem d_10_3_94 : decode prog_10_method_3_code 94 = .ok (.iconst 0, 1) := by decide +kernel
theorem d_10_3_74 : decode prog_10_method_3_code 74 = .ok (.ifCond .eq 20, 3) := by decide +kernel
theorem d_10_3_77 : decode prog_10_method_3_code 77 = .ok (.aload_n 0, 1) := by decide +kernel
theorem d_10_3_78 : decode prog_10_method_3_code 78 = .ok (.getfield 15, 3) := by decide +kernel
theorem d_10_3_81 : decode prog_10_method_3_code 81 = .ok (.getfield 25, 3) := by decide +kernel
theorem d_10_3_84 : decode prog_10_method_3_code 84 = .ok (.getfield 58, 3) := by decide +kernel
theorem d_10_3_87 : decode prog_10_method_3_code 87 = .ok (.ifCond .le 7, 3) := by decide +kernel
theorem d_10_3_90 : decode prog_10_method_3_code 90 = .ok (.iconst 1, 1) := by decide +kernel
theorem d_10_3_91 : decode prog_10_method_3_code 91 = .ok (.goto 4, 3) := by decide +kernel
theorem d_10_3_61 : decode prog_10_method_3_code 61 = .ok (.iconst 0, 1) := by decide +kernel
theorem d_10_3_62 : decode prog_10_method_3_code 62 = .ok (.ireturn, 1) := by decide +kernel
theorem d_10_3_36 : decode prog_10_method_3_code 36 = .ok (.if_icmp .ne 14, 3) := by decide +kernel
theorem d_10_3_39 : decode prog_10_method_3_code 39 = .ok (.aload_n 0, 1) := by decide +kernel
theorem d_10_3_40 : decode prog_10_method_3_code 40 = .ok (.bipush 10, 2) := by decide +kernel
theorem d_10_3_42 : decode prog_10_method_3_code 42 = .ok (.invokevirtual 73, 3) := by decide +kernel
theorem d_10_3_45 : decode prog_10_method_3_code 45 = .ok (.ifCond .ne 5, 3) := by decide +kernel
theorem d_10_3_48 : decode prog_10_method_3_code 48 = .ok (.iconst 0, 1) := by decide +kernel
theorem d_10_3_49 : decode prog_10_method_3_code 49 = .ok (.ireturn, 1) := by decide +kernel
theorem d_10_3_20 : decode prog_10_method_3_code 20 = .ok (.iconst 0, 1) := by decide +kernel
theorem d_10_3_21 : decode prog_10_method_3_code 21 = .ok (.ireturn, 1) := by decide +kernel
def y_Rea_decimalText : MethodName := ⟨"NumberHouse$Reader", "decimalText", "()I"⟩
set_option maxRecDepth 100000 in
set_option maxHeartbeats 4000000 in
theorem T_Rea_decimalText (l : Launch) (D : va_G) (g : Nat → ClassId) (q : Nat → Nat) (ws : va_W) (hI : q_I (nsh g q) q ws) (t0_0 : Int64) (t0_1 : Int64) (t0_2 : Int32) (t0_3 : Int32) (t0_4 : Int32) (t0_5 : Int32) (t0_6 : Int32) (t0_7 : Int32) (t0_8 : Int32) (t0_9 : Int64) (hT0 : ws[38]? = (some (q 38, .inr (8, [.long t0_0, .long t0_1, .ref (q 1), .ref (q 9), .int t0_2, .int t0_3, .int t0_4, .int t0_5, .int t0_6, .int t0_7, .int t0_8, .long t0_9])) : Option (Nat × va_E))) : q_mI l y_Rea_decimalText prog_10_method_3_code 1 (.int) 5 0 0 D g [.ref (q 38)] ws (fun r u => q_I (nsh g q) q u ∧ q_un ws u [10, 11, 38] ∧ ∃ (u0_0 : Int64) (u0_1 : Int64) (u0_2 : Int32) (u0_3 : Int32) (u0_4 : Int32) (u0_5 : Int32) (u0_6 : Int32) (u0_7 : Int32) (u0_8 : Int32) (u0_9 : Int64), u[38]? = (some (q 38, .inr (8, [.long u0_0, .long u0_1, .ref (q 1), .ref (q 9), .int u0_2, .int u0_3, .int u0_4, .int u0_5, .int u0_6, .int u0_7, .int u0_8, .long u0_9])) : Option (Nat × va_E)) ∧ (0 ≤ r.toInt) ∧ (r.toInt ≤ 2) ∧ (0 ≤ u0_3.toInt) ∧ (u0_3.toInt ≤ 4100) ∧ (0 ≤ u0_4.toInt) ∧ (u0_4.toInt ≤ 1) ∧ (0 ≤ u0_6.toInt) ∧ (0 ≤ u0_8.toInt) ∧ (u0_8.toInt ≤ 1) ∧ (t0_1.toInt ≤ u0_1.toInt) ∧ (u0_1.toInt ≤ t0_1.toInt)) := by
  intro sz
  refine q_into (by decide) (Nat.le_of_ble_eq_true rfl) ?_
  intro p e s m below meth c ls hsz C0 V hl
  have hx := C0.1
  have hb := C0.2.1
  obtain ⟨yy0_0, yy0_1, yy0_2, yy0_3, yy0_4, yy0_5, yy0_6, yy0_7, yy0_8, yy0_9, hh0, btt0_4, btt0_8⟩ := n_o38 hI
  obtain ⟨rfl, rfl, rfl, rfl, rfl, rfl, rfl, rfl, rfl, rfl⟩ : t0_0 = yy0_0 ∧ t0_1 = yy0_1 ∧ t0_2 = yy0_2 ∧ t0_3 = yy0_3 ∧ t0_4 = yy0_4 ∧ t0_5 = yy0_5 ∧ t0_6 = yy0_6 ∧ t0_7 = yy0_7 ∧ t0_8 = yy0_8 ∧ t0_9 = yy0_9 := by have z := Option.some.inj (hT0.symm.trans hh0); simpa using z
  replace btt0_4 : q_F (0 ≤ t0_4.toInt ∧ t0_4.toInt ≤ 1) := btt0_4
  replace btt0_8 : q_F (0 ≤ t0_8.toInt ∧ t0_8.toInt ≤ 1) := btt0_8
  have hF : q_un ws ws [10, 11, 38] := q_u0
  have hl : lv_has ls 1 [(0, .ref (q 38))] := hl
  refine lv_aload_n hx hb d_10_3_0 rfl (lv_at hl 0 rfl) ?_
  refine q_gov V (q_runV (As := []) (rest := []) (d := 1) (mc := 0) (ms := 0) (ci := 8) C0 V rfl LV_Rea_19 (T_Rea_begin l D g q ws   hI t0_0 t0_1 t0_2 t0_3 t0_4 t0_5 t0_6 t0_7 t0_8 t0_9 hT0  _) rfl rfl hT0 rfl hl.1 rfl (Nat.le_of_ble_eq_true rfl) ⟨by decide, by decide⟩ ⟨Nat.le_of_ble_eq_true rfl, Nat.le_of_ble_eq_true rfl⟩ d_10_3_1) (fun u14 H locs hp15 V => ?_)
  obtain ⟨hI, hu47, y17, y18, y19, y20, y21, y22, y23, y24, y25, y26, hO16, b27, b28, b29, b30, b31, b32, b33, b34, b35, b36, b37, b38, b39, b40, b41, b42, b43, b44, b45, b46⟩ := hp15
  replace hO16 : u14[38]? = (some (q 38, .inr (8, [.long y17, .long y18, .ref (q 1), .ref (q 9), .int y19, .int y20, .int y21, .int y22, .int y23, .int y24, .int y25, .long y26])) : Option (Nat × va_E)) := hO16
  replace b27 : q_F (0 ≤ y19.toInt) := b27
  replace b28 : q_F (y19.toInt ≤ 0) := b28
  replace b29 : q_F (t0_0.toInt ≤ y17.toInt) := b29
  replace b30 : q_F (y17.toInt ≤ t0_0.toInt) := b30
  replace b31 : q_F (t0_1.toInt ≤ y18.toInt) := b31
  replace b32 : q_F (y18.toInt ≤ t0_1.toInt) := b32
  replace b33 : q_F (t0_4.toInt ≤ y21.toInt) := b33
  replace b34 : q_F (y21.toInt ≤ t0_4.toInt) := b34
  replace b35 : q_F (t0_5.toInt ≤ y22.toInt) := b35
  replace b36 : q_F (y22.toInt ≤ t0_5.toInt) := b36
  replace b37 : q_F (t0_6.toInt ≤ y23.toInt) := b37
  replace b38 : q_F (y23.toInt ≤ t0_6.toInt) := b38
  replace b39 : q_F (t0_7.toInt ≤ y24.toInt) := b39
  replace b40 : q_F (y24.toInt ≤ t0_7.toInt) := b40
  replace b41 : q_F (t0_8.toInt ≤ y25.toInt) := b41
  replace b42 : q_F (y25.toInt ≤ t0_8.toInt) := b42
  replace b43 : q_F (t0_9.toInt ≤ y26.toInt) := b43
  replace b44 : q_F (y26.toInt ≤ t0_9.toInt) := b44
  replace b45 : q_F (y20.toInt ≤ y19.toInt + 4100) := b45
  replace b46 : q_F (y19.toInt ≤ y20.toInt) := b46
  replace hF := q_uc hF hu47 (by simp)
  refine lv_aload_n hx hb d_10_3_4 rfl (lv_at hl 0 rfl) ?_
  refine q_gov V (q_runV (As := []) (rest := []) (d := 3) (mc := 0) (ms := 0) (ci := 8) C0 V rfl LV_Rea_22 (T_Rea_takeSign l D g q u14   hI y17 y18 y19 y20 y21 y22 y23 y24 y25 y26 hO16  _) rfl rfl hO16 rfl hl.1 rfl (Nat.le_of_ble_eq_true rfl) ⟨by decide, by decide⟩ ⟨Nat.le_of_ble_eq_true rfl, Nat.le_of_ble_eq_true rfl⟩ d_10_3_5) (fun u48 H locs hp49 V => ?_)
  obtain ⟨hI, hu79, y51, y52, y53, y54, y55, y56, y57, y58, y59, y60, hO50, b61, b62, b63, b64, b65, b66, b67, b68, b69, b70, b71, b72, b73, b74, b75, b76, b77, b78⟩ := hp49
  replace hO50 : u48[38]? = (some (q 38, .inr (8, [.long y51, .long y52, .ref (q 1), .ref (q 9), .int y53, .int y54, .int y55, .int y56, .int y57, .int y58, .int y59, .long y60])) : Option (Nat × va_E)) := hO50
  replace b61 : q_F (0 ≤ y55.toInt) := b61
  replace b62 : q_F (y55.toInt ≤ 1) := b62
  replace b63 : q_F (y17.toInt ≤ y51.toInt) := b63
  replace b64 : q_F (y51.toInt ≤ y17.toInt) := b64
  replace b65 : q_F (y18.toInt ≤ y52.toInt) := b65
  replace b66 : q_F (y52.toInt ≤ y18.toInt) := b66
  replace b67 : q_F (y20.toInt ≤ y54.toInt) := b67
  replace b68 : q_F (y54.toInt ≤ y20.toInt) := b68
  replace b69 : q_F (y22.toInt ≤ y56.toInt) := b69
  replace b70 : q_F (y56.toInt ≤ y22.toInt) := b70
  replace b71 : q_F (y23.toInt ≤ y57.toInt) := b71
  replace b72 : q_F (y57.toInt ≤ y23.toInt) := b72
  replace b73 : q_F (y24.toInt ≤ y58.toInt) := b73
  replace b74 : q_F (y58.toInt ≤ y24.toInt) := b74
  replace b75 : q_F (y25.toInt ≤ y59.toInt) := b75
  replace b76 : q_F (y59.toInt ≤ y25.toInt) := b76
  replace b77 : q_F (y26.toInt ≤ y60.toInt) := b77
  replace b78 : q_F (y60.toInt ≤ y26.toInt) := b78
  replace hF := q_uc hF hu79 (by simp)
  refine lv_aload_n hx hb d_10_3_8 rfl (lv_at hl 0 rfl) ?_
  refine lv_bipush (v := 10) hx hb d_10_3_9 (by decide) ?_
  refine lv_sipush (v := 1000) hx hb d_10_3_11 (by decide) ?_
  refine q_goi V (q_runV (As := [.int 10, .int 1000]) (rest := []) (d := 4) (mc := 0) (ms := 0) (ci := 8) C0 V rfl LV_Rea_62 (T_Rea_takeFigures l D g q u48  10 1000 hI y51 y52 y53 y54 y55 y56 y57 y58 y59 y60 hO50  _) rfl rfl hO50 rfl hl.1 rfl (Nat.le_of_ble_eq_true rfl) ⟨by decide, by decide⟩ ⟨Nat.le_of_ble_eq_true rfl, Nat.le_of_ble_eq_true rfl⟩ d_10_3_14) (fun a82 u80 H locs hp81 V => ?_)
  obtain ⟨hI, hu110, y84, y85, y86, y87, y88, y89, y90, y91, y92, y93, hO83, b94, b95, b96, b97, b98, b99, b100, b101, b102, b103, b104, b105, b106, b107, b108, b109⟩ := hp81
  replace hO83 : u80[38]? = (some (q 38, .inr (8, [.long y84, .long y85, .ref (q 1), .ref (q 9), .int y86, .int y87, .int y88, .int y89, .int y90, .int y91, .int y92, .long y93])) : Option (Nat × va_E)) := hO83
  replace b94 : q_F (0 ≤ a82.toInt) := b94
  replace b95 : q_F (a82.toInt ≤ 1) := b95
  replace b96 : q_F (0 ≤ y90.toInt) := b96
  replace b97 : q_F (0 ≤ y92.toInt) := b97
  replace b98 : q_F (y92.toInt ≤ 1) := b98
  replace b99 : q_F (y51.toInt ≤ y84.toInt) := b99
  replace b100 : q_F (y84.toInt ≤ y51.toInt) := b100
  replace b101 : q_F (y52.toInt ≤ y85.toInt) := b101
  replace b102 : q_F (y85.toInt ≤ y52.toInt) := b102
  replace b103 : q_F (y53.toInt ≤ y86.toInt) := b103
  replace b104 : q_F (y54.toInt ≤ y87.toInt) := b104
  replace b105 : q_F (y87.toInt ≤ y54.toInt) := b105
  replace b106 : q_F (y55.toInt ≤ y88.toInt) := b106
  replace b107 : q_F (y88.toInt ≤ y55.toInt) := b107
  replace b108 : q_F (y60.toInt ≤ y93.toInt) := b108
  replace b109 : q_F (y93.toInt ≤ y60.toInt) := b109
  replace hF := q_uc hF hu110 (by simp)
  refine lv_if_ne (tgt := 22) hx hb d_10_3_17 (by decide) (fun c111 => ?_) (fun c111 => ?_)
  ·
    have b112 : q_F (a82.toInt ≠ 0) := (q_neI c111)
    refine lv_aload_n hx hb d_10_3_22 rfl (lv_at hl 0 rfl) ?_
    refine lv_lconst (v := 0) hx hb d_10_3_23 (by decide) ?_
    refine q_put (ci := 8) (j := 11) (v := .long 0) (ty := .long) C0 V i_Rea o_Rea n_Rea rfl rfl hO83 (by decide) w_297 rfl rfl rfl rfl (Nat.le_of_ble_eq_true rfl) d_10_3_24 (fun H locs w113 hu114 hO83 V => ?_)
    replace hO83 : w113[38]? = (some (q 38, .inr (8, [.long y84, .long y85, .ref (q 1), .ref (q 9), .int y86, .int y87, .int y88, .int y89, .int y90, .int y91, .int y92, .long 0])) : Option (Nat × va_E)) := hO83
    replace hI := n_p38 hI hu114 hO83 ⟨(by have t1 : 0 ≤ y55.toInt := b61; have t2 : y55.toInt ≤ y88.toInt := b106; omega), (by have t1 : y55.toInt ≤ 1 := b62; have t2 : y88.toInt ≤ y55.toInt := b107; omega)⟩ ⟨(by have t1 : 0 ≤ y92.toInt := b97; omega), (by have t1 : y92.toInt ≤ 1 := b98; omega)⟩
    replace hF := q_us hF hu114 (by simp)
    refine lv_aload_n hx hb d_10_3_27 rfl (lv_at hl 0 rfl) ?_
    refine q_goi V (q_runV (As := []) (rest := []) (d := 2) (mc := 0) (ms := 0) (ci := 8) C0 V rfl LV_Rea_70 (T_Rea_here l D g q w113   hI   _) rfl rfl hO83 rfl hl.1 rfl (Nat.le_of_ble_eq_true rfl) ⟨by decide, by decide⟩ ⟨Nat.le_of_ble_eq_true rfl, Nat.le_of_ble_eq_true rfl⟩ d_10_3_28) (fun a117 u115 H locs hp116 V => ?_)
    obtain ⟨rfl, b118, b119⟩ := hp116
    replace b118 : q_F (0 ≤ a117.toInt + 1) := b118
    replace b119 : q_F (a117.toInt ≤ 255) := b119
    refine lv_bipush (v := 32) hx hb d_10_3_31 (by decide) ?_
    refine lv_ior hx hb d_10_3_33 ?_
    obtain ⟨a120, e121⟩ := q_nm (a117 ||| 32 : Int32)
    refine q_ti (v := a120) e121 ?_
    refine lv_bipush (v := 101) hx hb d_10_3_34 (by decide) ?_
    refine q_join (X := Int64 × Int64 × Int32 × Int32 × Int32 × Int32 × Int32 × Int32 × Int32 × Int64) (fun z H locs ls w150 => q_F (y84.toInt ≤ z.1.toInt) ∧ q_F (z.1.toInt ≤ y84.toInt) ∧ q_F (y85.toInt ≤ z.2.1.toInt) ∧ q_F (z.2.1.toInt ≤ y85.toInt) ∧ q_F (y87.toInt ≤ z.2.2.2.1.toInt) ∧ q_F (z.2.2.2.1.toInt ≤ y87.toInt) ∧ q_F (y88.toInt ≤ z.2.2.2.2.1.toInt) ∧ q_F (z.2.2.2.2.1.toInt ≤ y88.toInt) ∧ q_F (y89.toInt ≤ z.2.2.2.2.2.1.toInt) ∧ q_F (z.2.2.2.2.2.1.toInt ≤ y89.toInt) ∧ q_F (y90.toInt ≤ z.2.2.2.2.2.2.1.toInt) ∧ q_F (z.2.2.2.2.2.2.1.toInt ≤ y90.toInt) ∧ q_F (y91.toInt ≤ z.2.2.2.2.2.2.2.1.toInt) ∧ q_F (z.2.2.2.2.2.2.2.1.toInt ≤ y91.toInt) ∧ q_F (y92.toInt ≤ z.2.2.2.2.2.2.2.2.1.toInt) ∧ q_F (z.2.2.2.2.2.2.2.2.1.toInt ≤ y92.toInt) ∧ q_Wd D g (va_A ws sz) s w150 H locs ∧ lv_has ls 1 [(0, .ref (q 38))] ∧ q_I (nsh g q) q w150 ∧ q_un ws w150 [10, 11, 38] ∧ w150[38]? = (some (q 38, .inr (8, [.long z.1, .long z.2.1, .ref (q 1), .ref (q 9), .int z.2.2.1, .int z.2.2.2.1, .int z.2.2.2.2.1, .int z.2.2.2.2.2.1, .int z.2.2.2.2.2.2.1, .int z.2.2.2.2.2.2.2.1, .int z.2.2.2.2.2.2.2.2.1, .long z.2.2.2.2.2.2.2.2.2])) : Option (Nat × va_E))) (fun z => []) 50 0 0 ?_ ?_
    ·
      rintro ⟨lx122, lx123, lx124, lx125, lx126, lx127, lx128, lx129, lx130, lx131⟩ H locs ls w150 ⟨i134, i135, i136, i137, i138, i139, i140, i141, i142, i143, i144, i145, i146, i147, i148, i149, V, hl, hI, hF, hO132⟩
      replace i134 : q_F (y84.toInt ≤ lx122.toInt) := i134
      replace i135 : q_F (lx122.toInt ≤ y84.toInt) := i135
      replace i136 : q_F (y85.toInt ≤ lx123.toInt) := i136
      replace i137 : q_F (lx123.toInt ≤ y85.toInt) := i137
      replace i138 : q_F (y87.toInt ≤ lx125.toInt) := i138
      replace i139 : q_F (lx125.toInt ≤ y87.toInt) := i139
      replace i140 : q_F (y88.toInt ≤ lx126.toInt) := i140
      replace i141 : q_F (lx126.toInt ≤ y88.toInt) := i141
      replace i142 : q_F (y89.toInt ≤ lx127.toInt) := i142
      replace i143 : q_F (lx127.toInt ≤ y89.toInt) := i143
      replace i144 : q_F (y90.toInt ≤ lx128.toInt) := i144
      replace i145 : q_F (lx128.toInt ≤ y90.toInt) := i145
      replace i146 : q_F (y91.toInt ≤ lx129.toInt) := i146
      replace i147 : q_F (lx129.toInt ≤ y91.toInt) := i147
      replace i148 : q_F (y92.toInt ≤ lx130.toInt) := i148
      replace i149 : q_F (lx130.toInt ≤ y92.toInt) := i149
      replace hl : lv_has ls 1 [(0, .ref (q 38))] := hl
      replace hO132 : w150[38]? = (some (q 38, .inr (8, [.long lx122, .long lx123, .ref (q 1), .ref (q 9), .int lx124, .int lx125, .int lx126, .int lx127, .int lx128, .int lx129, .int lx130, .long lx131])) : Option (Nat × va_E)) := hO132
      refine lv_aload_n hx hb d_10_3_50 rfl (lv_at hl 0 rfl) ?_
      refine q_get (ci := 8) (j := 4) (v := .int lx124) C0 V i_Rea rfl rfl hO132 (by decide) w_290 rfl d_10_3_51 ?_
      refine lv_aload_n hx hb d_10_3_54 rfl (lv_at hl 0 rfl) ?_
      refine q_get (ci := 8) (j := 5) (v := .int lx125) C0 V i_Rea rfl rfl hO132 (by decide) w_291 rfl d_10_3_55 ?_
      refine lv_icmp_ge (tgt := 63) hx hb d_10_3_58 (by decide) (fun c151 => ?_) (fun c151 => ?_)
      ·
        have b152 : q_F (lx125.toInt ≤ lx124.toInt) := (q_leI c151)
        refine lv_aload_n hx hb d_10_3_63 rfl (lv_at hl 0 rfl) ?_
        refine q_get (ci := 8) (j := 3) (v := .ref (q 9)) C0 V i_Rea rfl rfl hO132 (by decide) w_289 rfl d_10_3_64 ?_
        have hO153 := n_o9 hI
        refine q_get (ci := 4) (j := 0) (v := .ref (q 10)) C0 V i_Mil rfl rfl hO153 (by decide) w_109 rfl d_10_3_67 ?_
        refine lv_aload_n hx hb d_10_3_70 rfl (lv_at hl 0 rfl) ?_
        refine q_get (ci := 8) (j := 6) (v := .int lx126) C0 V i_Rea rfl rfl hO132 (by decide) w_292 rfl d_10_3_71 ?_
        refine q_join (X := Int32) (fun z H locs ls _ => q_F (0 ≤ z.toInt) ∧ q_F (z.toInt ≤ lx126.toInt) ∧ q_Wd D g (va_A ws sz) s w150 H locs ∧ lv_has ls 1 [(0, .ref (q 38))]) (fun z => [.int z, .ref (q 10)]) 95 0 0 ?_ ?_
        ·
          rintro lx154 H locs ls _ ⟨i157, i158, V, hl⟩
          replace i157 : q_F (0 ≤ lx154.toInt) := i157
          replace i158 : q_F (lx154.toInt ≤ lx126.toInt) := i158
          replace hl : lv_has ls 1 [(0, .ref (q 38))] := hl
          obtain ⟨y160, y161, hO159, b162, b163⟩ := q_bigO hI (n_b10 g q)
          replace b162 : q_F (0 ≤ y160.toInt ∧ y160.toInt ≤ 220) := b162
          replace b163 : q_F (0 ≤ y161.toInt ∧ y161.toInt ≤ 1) := b163
          refine q_put (ci := 2) (j := 2) (v := .int lx154) (ty := .boolean) C0 V i_Big o_Big n_Big rfl rfl hO159 (by decide) w_95 rfl rfl (q_nz01 (q_Ile (x := 0) (y := lx154.toInt) (by decide) rfl (by have t1 : 0 ≤ lx154.toInt := i157; omega)) (q_Ile (x := lx154.toInt) (y := 1) rfl (by decide) (by have t1 : y55.toInt ≤ 1 := b62; have t2 : y88.toInt ≤ y55.toInt := b107; have t3 : lx126.toInt ≤ y88.toInt := i141; have t4 : lx154.toInt ≤ lx126.toInt := i158; omega))) (q_fz01 (q_Ile (x := 0) (y := lx154.toInt) (by decide) rfl (by have t1 : 0 ≤ lx154.toInt := i157; omega)) (q_Ile (x := lx154.toInt) (y := 1) rfl (by decide) (by have t1 : y55.toInt ≤ 1 := b62; have t2 : y88.toInt ≤ y55.toInt := b107; have t3 : lx126.toInt ≤ y88.toInt := i141; have t4 : lx154.toInt ≤ lx126.toInt := i158; omega))) (Nat.le_of_ble_eq_true rfl) d_10_3_95 (fun H locs w164 hu165 hO159 V => ?_)
          replace hO159 : w164[10]? = (some (q 10, .inr (2, [.ref (q 11), .int y160, .int lx154])) : Option (Nat × va_E)) := hO159
          replace hI := q_bigO' hI (n_b10 g q) hu165 hO159 ⟨(by have zR : (220 : Int32).toInt = 220 := rfl; have t1 : 0 ≤ y160.toInt ∧ y160.toInt ≤ 220 := b162; omega), (by have zR : (220 : Int32).toInt = 220 := rfl; have t1 : 0 ≤ y160.toInt ∧ y160.toInt ≤ 220 := b162; omega)⟩ ⟨(by have t1 : 0 ≤ lx154.toInt := i157; omega), (by have t1 : y55.toInt ≤ 1 := b62; have t2 : y88.toInt ≤ y55.toInt := b107; have t3 : lx126.toInt ≤ y88.toInt := i141; have t4 : lx154.toInt ≤ lx126.toInt := i158; omega)⟩
          replace hO132 := (hu165 _ (by decide)).trans hO132
          replace hO153 := (hu165 _ (by decide)).trans hO153
          replace hF := q_us hF hu165 (by simp)
          refine lv_aload_n hx hb d_10_3_98 rfl (lv_at hl 0 rfl) ?_
          refine lv_aload_n hx hb d_10_3_99 rfl (lv_at hl 0 rfl) ?_
          refine q_get (ci := 8) (j := 7) (v := .int lx127) C0 V i_Rea rfl rfl hO132 (by decide) w_293 rfl d_10_3_100 ?_
          refine lv_i2l hx hb d_10_3_103 rfl ?_
          obtain ⟨j166, e167⟩ := q_nm (lx127.toInt64 : Int64)
          refine q_tl (v := j166) e167 ?_
          have b168 : q_F (j166.toInt = lx127.toInt) := (by rw [← e167]; show (lx127.toInt64 : Int64).toInt = lx127.toInt; exact q_i2l rfl)
          refine lv_aload_n hx hb d_10_3_104 rfl (lv_at hl 0 rfl) ?_
          refine q_get (ci := 8) (j := 11) (v := .long lx131) C0 V i_Rea rfl rfl hO132 (by decide) w_297 rfl d_10_3_105 ?_
          refine lv_lsub hx hb d_10_3_108 ?_
          obtain ⟨j169, e170⟩ := q_nm (j166 - lx131 : Int64)
          refine q_tl (v := j169) e170 ?_
          refine q_put (ci := 8) (j := 0) (v := .long j169) (ty := .long) C0 V i_Rea o_Rea n_Rea rfl rfl hO132 (by decide) w_284 rfl rfl rfl rfl (Nat.le_of_ble_eq_true rfl) d_10_3_109 (fun H locs w171 hu172 hO132 V => ?_)
          replace hO132 : w171[38]? = (some (q 38, .inr (8, [.long j169, .long lx123, .ref (q 1), .ref (q 9), .int lx124, .int lx125, .int lx126, .int lx127, .int lx128, .int lx129, .int lx130, .long lx131])) : Option (Nat × va_E)) := hO132
          replace hI := n_p38 hI hu172 hO132 ⟨(by have t1 : 0 ≤ lx154.toInt := i157; have t2 : lx154.toInt ≤ lx126.toInt := i158; omega), (by have t1 : y55.toInt ≤ 1 := b62; have t2 : y88.toInt ≤ y55.toInt := b107; have t3 : lx126.toInt ≤ y88.toInt := i141; omega)⟩ ⟨(by have t1 : 0 ≤ y92.toInt := b97; have t2 : y92.toInt ≤ lx130.toInt := i148; omega), (by have t1 : y92.toInt ≤ 1 := b98; have t2 : lx130.toInt ≤ y92.toInt := i149; omega)⟩
          replace hO153 := (hu172 _ (by decide)).trans hO153
          replace hO159 := (hu172 _ (by decide)).trans hO159
          replace hF := q_us hF hu172 (by simp)
          refine lv_aload_n hx hb d_10_3_112 rfl (lv_at hl 0 rfl) ?_
          refine q_get (ci := 8) (j := 9) (v := .int lx129) C0 V i_Rea rfl rfl hO132 (by decide) w_295 rfl d_10_3_113 ?_
          refine lv_if_le (tgt := 123) hx hb d_10_3_116 (by decide) (fun c173 => ?_) (fun c173 => ?_)
          ·
            have b174 : q_F (lx129.toInt ≤ 0) := (q_leI c173)
            refine lv_iconst (v := 1) hx hb d_10_3_123 (by decide) ?_
            exact q_reti C0 V (⟨hI, hF, j169, lx123, lx124, lx125, lx126, lx127, lx128, lx129, lx130, lx131, hO132, (show 0 ≤ (1 : Int32).toInt from (by have z10 : (1 : Int32).toInt = 1 := rfl; omega)), (show (1 : Int32).toInt ≤ 2 from (by have z10 : (1 : Int32).toInt = 1 := rfl; omega)), (show 0 ≤ lx125.toInt from (by have z10 : (1 : Int32).toInt = 1 := rfl; have t1 : 0 ≤ y19.toInt := b27; have t2 : y19.toInt ≤ y20.toInt := b46; have t3 : y20.toInt ≤ y54.toInt := b67; have t4 : y54.toInt ≤ y87.toInt := b104; have t5 : y87.toInt ≤ lx125.toInt := i138; omega)), (show lx125.toInt ≤ 4100 from (by have z10 : (1 : Int32).toInt = 1 := rfl; have t1 : y19.toInt ≤ 0 := b28; have t2 : y20.toInt ≤ y19.toInt + 4100 := b45; have t3 : y54.toInt ≤ y20.toInt := b68; have t4 : y87.toInt ≤ y54.toInt := b105; have t5 : lx125.toInt ≤ y87.toInt := i139; omega)), (show 0 ≤ lx126.toInt from (by have z10 : (1 : Int32).toInt = 1 := rfl; have t1 : 0 ≤ lx154.toInt := i157; have t2 : lx154.toInt ≤ lx126.toInt := i158; omega)), (show lx126.toInt ≤ 1 from (by have z10 : (1 : Int32).toInt = 1 := rfl; have t1 : y55.toInt ≤ 1 := b62; have t2 : y88.toInt ≤ y55.toInt := b107; have t3 : lx126.toInt ≤ y88.toInt := i141; omega)), (show 0 ≤ lx128.toInt from (by have z10 : (1 : Int32).toInt = 1 := rfl; have t1 : 0 ≤ y90.toInt := b96; have t2 : y90.toInt ≤ lx128.toInt := i144; omega)), (show 0 ≤ lx130.toInt from (by have z10 : (1 : Int32).toInt = 1 := rfl; have t1 : 0 ≤ y92.toInt := b97; have t2 : y92.toInt ≤ lx130.toInt := i148; omega)), (show lx130.toInt ≤ 1 from (by have z10 : (1 : Int32).toInt = 1 := rfl; have t1 : y92.toInt ≤ 1 := b98; have t2 : lx130.toInt ≤ y92.toInt := i149; omega)), (show t0_1.toInt ≤ lx123.toInt from (by have z10 : (1 : Int32).toInt = 1 := rfl; have t1 : t0_1.toInt ≤ y18.toInt := b31; have t2 : y18.toInt ≤ y52.toInt := b65; have t3 : y52.toInt ≤ y85.toInt := b101; have t4 : y85.toInt ≤ lx123.toInt := i136; omega)), (show lx123.toInt ≤ t0_1.toInt from (by have z10 : (1 : Int32).toInt = 1 := rfl; have t1 : y18.toInt ≤ t0_1.toInt := b32; have t2 : y52.toInt ≤ y18.toInt := b66; have t3 : y85.toInt ≤ y52.toInt := b102; have t4 : lx123.toInt ≤ y85.toInt := i137; omega))⟩) d_10_3_124
          ·
            have b175 : q_F (0 < lx129.toInt) := (q_nleI c173)
            refine lv_iconst (v := 2) hx hb d_10_3_119 (by decide) ?_
            refine lv_goto (tgt := 124) hx hb d_10_3_120 (by decide) ?_
            exact q_reti C0 V (⟨hI, hF, j169, lx123, lx124, lx125, lx126, lx127, lx128, lx129, lx130, lx131, hO132, (show 0 ≤ (2 : Int32).toInt from (by have z10 : (2 : Int32).toInt = 2 := rfl; omega)), (show (2 : Int32).toInt ≤ 2 from (by have z10 : (2 : Int32).toInt = 2 := rfl; omega)), (show 0 ≤ lx125.toInt from (by have z10 : (2 : Int32).toInt = 2 := rfl; have t1 : 0 ≤ y19.toInt := b27; have t2 : y19.toInt ≤ y20.toInt := b46; have t3 : y20.toInt ≤ y54.toInt := b67; have t4 : y54.toInt ≤ y87.toInt := b104; have t5 : y87.toInt ≤ lx125.toInt := i138; omega)), (show lx125.toInt ≤ 4100 from (by have z10 : (2 : Int32).toInt = 2 := rfl; have t1 : y19.toInt ≤ 0 := b28; have t2 : y20.toInt ≤ y19.toInt + 4100 := b45; have t3 : y54.toInt ≤ y20.toInt := b68; have t4 : y87.toInt ≤ y54.toInt := b105; have t5 : lx125.toInt ≤ y87.toInt := i139; omega)), (show 0 ≤ lx126.toInt from (by have z10 : (2 : Int32).toInt = 2 := rfl; have t1 : 0 ≤ lx154.toInt := i157; have t2 : lx154.toInt ≤ lx126.toInt := i158; omega)), (show lx126.toInt ≤ 1 from (by have z10 : (2 : Int32).toInt = 2 := rfl; have t1 : y55.toInt ≤ 1 := b62; have t2 : y88.toInt ≤ y55.toInt := b107; have t3 : lx126.toInt ≤ y88.toInt := i141; omega)), (show 0 ≤ lx128.toInt from (by have z10 : (2 : Int32).toInt = 2 := rfl; have t1 : 0 ≤ y90.toInt := b96; have t2 : y90.toInt ≤ lx128.toInt := i144; omega)), (show 0 ≤ lx130.toInt from (by have z10 : (2 : Int32).toInt = 2 := rfl; have t1 : 0 ≤ y92.toInt := b97; have t2 : y92.toInt ≤ lx130.toInt := i148; omega)), (show lx130.toInt ≤ 1 from (by have z10 : (2 : Int32).toInt = 2 := rfl; have t1 : y92.toInt ≤ 1 := b98; have t2 : lx130.toInt ≤ y92.toInt := i149; omega)), (show t0_1.toInt ≤ lx123.toInt from (by have z10 : (2 : Int32).toInt = 2 := rfl; have t1 : t0_1.toInt ≤ y18.toInt := b31; have t2 : y18.toInt ≤ y52.toInt := b65; have t3 : y52.toInt ≤ y85.toInt := b101; have t4 : y85.toInt ≤ lx123.toInt := i136; omega)), (show lx123.toInt ≤ t0_1.toInt from (by have z10 : (2 : Int32).toInt = 2 := rfl; have t1 : y18.toInt ≤ t0_1.toInt := b32; have t2 : y52.toInt ≤ y18.toInt := b66; have t3 : y85.toInt ≤ y52.toInt := b102; have t4 : lx123.toInt ≤ y85.toInt := i137; omega))⟩) d_10_3_124
        ·
          intro J156
          refine q_join (X := Unit) (fun z H locs ls _ => q_Wd D g (va_A ws sz) s w150 H locs ∧ lv_has ls 1 [(0, .ref (q 38))]) (fun z => [.ref (q 10)]) 94 0 0 ?_ ?_
          ·
            rintro _ H locs ls _ ⟨V, hl⟩
            replace hl : lv_has ls 1 [(0, .ref (q 38))] := hl
            refine lv_iconst (v := 0) hx hb d_10_3_94 (by decide) ?_
            exact J156 ((0 : Int32)) _ _ _ w150 ⟨(show q_F (0 ≤ 0) from (show 0 ≤ 0 from by omega)), (show q_F (0 ≤ lx126.toInt) from (show 0 ≤ lx126.toInt from by have t1 : 0 ≤ y55.toInt := b61; have t2 : y55.toInt ≤ y88.toInt := b106; have t3 : y88.toInt ≤ lx126.toInt := i140; omega)), V, q_lw hl (q_lw1 0 rfl q_lw0)⟩
          ·
            intro J177
            refine lv_if_eq (tgt := 94) hx hb d_10_3_74 (by decide) (fun c178 => ?_) (fun c178 => ?_)
            ·
              have b179 : q_F (lx126.toInt = 0) := (q_eqI c178)
              exact J177 (()) _ _ _ w150 ⟨V, q_lw hl (q_lw1 0 rfl q_lw0)⟩
            ·
              have b180 : q_F (lx126.toInt ≠ 0) := (q_neI c178)
              refine lv_aload_n hx hb d_10_3_77 rfl (lv_at hl 0 rfl) ?_
              refine q_get (ci := 8) (j := 3) (v := .ref (q 9)) C0 V i_Rea rfl rfl hO132 (by decide) w_289 rfl d_10_3_78 ?_
              refine q_get (ci := 4) (j := 0) (v := .ref (q 10)) C0 V i_Mil rfl rfl hO153 (by decide) w_109 rfl d_10_3_81 ?_
              obtain ⟨y182, y183, hO181, b184, b185⟩ := q_bigO hI (n_b10 g q)
              replace b184 : q_F (0 ≤ y182.toInt ∧ y182.toInt ≤ 220) := b184
              replace b185 : q_F (0 ≤ y183.toInt ∧ y183.toInt ≤ 1) := b185
              refine q_get (ci := 2) (j := 1) (v := .int y182) C0 V i_Big rfl rfl hO181 (by decide) w_88 rfl d_10_3_84 ?_
              refine lv_if_le (tgt := 94) hx hb d_10_3_87 (by decide) (fun c186 => ?_) (fun c186 => ?_)
              ·
                have b187 : q_F (y182.toInt ≤ 0) := (q_leI c186)
                exact J177 (()) _ _ _ w150 ⟨V, q_lw hl (q_lw1 0 rfl q_lw0)⟩
              ·
                have b188 : q_F (0 < y182.toInt) := (q_nleI c186)
                refine lv_iconst (v := 1) hx hb d_10_3_90 (by decide) ?_
                refine lv_goto (tgt := 95) hx hb d_10_3_91 (by decide) ?_
                exact J156 ((1 : Int32)) _ _ _ w150 ⟨(show q_F (0 ≤ 1) from (show 0 ≤ 1 from by omega)), (show q_F (1 ≤ lx126.toInt) from (show 1 ≤ lx126.toInt from by have t1 : 0 ≤ y55.toInt := b61; have t2 : y55.toInt ≤ y88.toInt := b106; have t3 : y88.toInt ≤ lx126.toInt := i140; have t4 : lx126.toInt ≠ 0 := b180; omega)), V, q_lw hl (q_lw1 0 rfl q_lw0)⟩
      ·
        have b189 : q_F (lx124.toInt < lx125.toInt) := (q_nleI c151)
        refine lv_iconst (v := 0) hx hb d_10_3_61 (by decide) ?_
        exact q_reti C0 V (⟨hI, hF, lx122, lx123, lx124, lx125, lx126, lx127, lx128, lx129, lx130, lx131, hO132, (show 0 ≤ (0 : Int32).toInt from (by have z10 : (0 : Int32).toInt = 0 := rfl; omega)), (show (0 : Int32).toInt ≤ 2 from (by have z10 : (0 : Int32).toInt = 0 := rfl; omega)), (show 0 ≤ lx125.toInt from (by have z10 : (0 : Int32).toInt = 0 := rfl; have t1 : 0 ≤ y19.toInt := b27; have t2 : y19.toInt ≤ y20.toInt := b46; have t3 : y20.toInt ≤ y54.toInt := b67; have t4 : y54.toInt ≤ y87.toInt := b104; have t5 : y87.toInt ≤ lx125.toInt := i138; omega)), (show lx125.toInt ≤ 4100 from (by have z10 : (0 : Int32).toInt = 0 := rfl; have t1 : y19.toInt ≤ 0 := b28; have t2 : y20.toInt ≤ y19.toInt + 4100 := b45; have t3 : y54.toInt ≤ y20.toInt := b68; have t4 : y87.toInt ≤ y54.toInt := b105; have t5 : lx125.toInt ≤ y87.toInt := i139; omega)), (show 0 ≤ lx126.toInt from (by have z10 : (0 : Int32).toInt = 0 := rfl; have t1 : 0 ≤ y55.toInt := b61; have t2 : y55.toInt ≤ y88.toInt := b106; have t3 : y88.toInt ≤ lx126.toInt := i140; omega)), (show lx126.toInt ≤ 1 from (by have z10 : (0 : Int32).toInt = 0 := rfl; have t1 : y55.toInt ≤ 1 := b62; have t2 : y88.toInt ≤ y55.toInt := b107; have t3 : lx126.toInt ≤ y88.toInt := i141; omega)), (show 0 ≤ lx128.toInt from (by have z10 : (0 : Int32).toInt = 0 := rfl; have t1 : 0 ≤ y90.toInt := b96; have t2 : y90.toInt ≤ lx128.toInt := i144; omega)), (show 0 ≤ lx130.toInt from (by have z10 : (0 : Int32).toInt = 0 := rfl; have t1 : 0 ≤ y92.toInt := b97; have t2 : y92.toInt ≤ lx130.toInt := i148; omega)), (show lx130.toInt ≤ 1 from (by have z10 : (0 : Int32).toInt = 0 := rfl; have t1 : y92.toInt ≤ 1 := b98; have t2 : lx130.toInt ≤ y92.toInt := i149; omega)), (show t0_1.toInt ≤ lx123.toInt from (by have z10 : (0 : Int32).toInt = 0 := rfl; have t1 : t0_1.toInt ≤ y18.toInt := b31; have t2 : y18.toInt ≤ y52.toInt := b65; have t3 : y52.toInt ≤ y85.toInt := b101; have t4 : y85.toInt ≤ lx123.toInt := i136; omega)), (show lx123.toInt ≤ t0_1.toInt from (by have z10 : (0 : Int32).toInt = 0 := rfl; have t1 : y18.toInt ≤ t0_1.toInt := b32; have t2 : y52.toInt ≤ y18.toInt := b66; have t3 : y85.toInt ≤ y52.toInt := b102; have t4 : lx123.toInt ≤ y85.toInt := i137; omega))⟩) d_10_3_62
    ·
      intro J133
      refine lv_icmp_ne (tgt := 50) hx hb d_10_3_36 (by decide) (fun c190 => ?_) (fun c190 => ?_)
      ·
        have b191 : q_F (a120.toInt ≠ 101) := (q_neI c190)
        exact J133 ((y84 : Int64), (y85 : Int64), (y86 : Int32), (y87 : Int32), (y88 : Int32), (y89 : Int32), (y90 : Int32), (y91 : Int32), (y92 : Int32), (0 : Int64)) _ _ _ _ ⟨(show q_F (y84.toInt ≤ y84.toInt) from (show y84.toInt ≤ y84.toInt from by omega)), (show q_F (y84.toInt ≤ y84.toInt) from (show y84.toInt ≤ y84.toInt from by omega)), (show q_F (y85.toInt ≤ y85.toInt) from (show y85.toInt ≤ y85.toInt from by omega)), (show q_F (y85.toInt ≤ y85.toInt) from (show y85.toInt ≤ y85.toInt from by omega)), (show q_F (y87.toInt ≤ y87.toInt) from (show y87.toInt ≤ y87.toInt from by omega)), (show q_F (y87.toInt ≤ y87.toInt) from (show y87.toInt ≤ y87.toInt from by omega)), (show q_F (y88.toInt ≤ y88.toInt) from (show y88.toInt ≤ y88.toInt from by omega)), (show q_F (y88.toInt ≤ y88.toInt) from (show y88.toInt ≤ y88.toInt from by omega)), (show q_F (y89.toInt ≤ y89.toInt) from (show y89.toInt ≤ y89.toInt from by omega)), (show q_F (y89.toInt ≤ y89.toInt) from (show y89.toInt ≤ y89.toInt from by omega)), (show q_F (y90.toInt ≤ y90.toInt) from (show y90.toInt ≤ y90.toInt from by omega)), (show q_F (y90.toInt ≤ y90.toInt) from (show y90.toInt ≤ y90.toInt from by omega)), (show q_F (y91.toInt ≤ y91.toInt) from (show y91.toInt ≤ y91.toInt from by omega)), (show q_F (y91.toInt ≤ y91.toInt) from (show y91.toInt ≤ y91.toInt from by omega)), (show q_F (y92.toInt ≤ y92.toInt) from (show y92.toInt ≤ y92.toInt from by omega)), (show q_F (y92.toInt ≤ y92.toInt) from (show y92.toInt ≤ y92.toInt from by omega)), V, q_lw hl (q_lw1 0 rfl q_lw0), hI, hF, hO83⟩
      ·
        have b192 : q_F (a120.toInt = 101) := (q_eqI c190)
        refine lv_aload_n hx hb d_10_3_39 rfl (lv_at hl 0 rfl) ?_
        refine lv_bipush (v := 10) hx hb d_10_3_40 (by decide) ?_
        refine q_goi V (q_runV (As := [.int 10]) (rest := []) (d := 4) (mc := 0) (ms := 0) (ci := 8) C0 V rfl LV_Rea_73 (T_Rea_takeExponent l D g q w113  10 hI y84 y85 y86 y87 y88 y89 y90 y91 y92 0 hO83  _) rfl rfl hO83 rfl hl.1 rfl (Nat.le_of_ble_eq_true rfl) ⟨by decide, by decide⟩ ⟨Nat.le_of_ble_eq_true rfl, Nat.le_of_ble_eq_true rfl⟩ d_10_3_42) (fun a195 u193 H locs hp194 V => ?_)
        obtain ⟨hI, hu225, y197, y198, y199, y200, y201, y202, y203, y204, y205, y206, hO196, b207, b208, b209, b210, b211, b212, b213, b214, b215, b216, b217, b218, b219, b220, b221, b222, b223, b224⟩ := hp194
        replace hO196 : u193[38]? = (some (q 38, .inr (8, [.long y197, .long y198, .ref (q 1), .ref (q 9), .int y199, .int y200, .int y201, .int y202, .int y203, .int y204, .int y205, .long y206])) : Option (Nat × va_E)) := hO196
        replace b207 : q_F (0 ≤ a195.toInt) := b207
        replace b208 : q_F (a195.toInt ≤ 1) := b208
        replace b209 : q_F (y84.toInt ≤ y197.toInt) := b209
        replace b210 : q_F (y197.toInt ≤ y84.toInt) := b210
        replace b211 : q_F (y85.toInt ≤ y198.toInt) := b211
        replace b212 : q_F (y198.toInt ≤ y85.toInt) := b212
        replace b213 : q_F (y87.toInt ≤ y200.toInt) := b213
        replace b214 : q_F (y200.toInt ≤ y87.toInt) := b214
        replace b215 : q_F (y88.toInt ≤ y201.toInt) := b215
        replace b216 : q_F (y201.toInt ≤ y88.toInt) := b216
        replace b217 : q_F (y89.toInt ≤ y202.toInt) := b217
        replace b218 : q_F (y202.toInt ≤ y89.toInt) := b218
        replace b219 : q_F (y90.toInt ≤ y203.toInt) := b219
        replace b220 : q_F (y203.toInt ≤ y90.toInt) := b220
        replace b221 : q_F (y91.toInt ≤ y204.toInt) := b221
        replace b222 : q_F (y204.toInt ≤ y91.toInt) := b222
        replace b223 : q_F (y92.toInt ≤ y205.toInt) := b223
        replace b224 : q_F (y205.toInt ≤ y92.toInt) := b224
        replace hF := q_uc hF hu225 (by simp)
        refine lv_if_ne (tgt := 50) hx hb d_10_3_45 (by decide) (fun c226 => ?_) (fun c226 => ?_)
        ·
          have b227 : q_F (a195.toInt ≠ 0) := (q_neI c226)
          exact J133 ((y197 : Int64), (y198 : Int64), (y199 : Int32), (y200 : Int32), (y201 : Int32), (y202 : Int32), (y203 : Int32), (y204 : Int32), (y205 : Int32), (y206 : Int64)) _ _ _ _ ⟨(show q_F (y84.toInt ≤ y197.toInt) from (show y84.toInt ≤ y197.toInt from by have t1 : y84.toInt ≤ y197.toInt := b209; omega)), (show q_F (y197.toInt ≤ y84.toInt) from (show y197.toInt ≤ y84.toInt from by have t1 : y197.toInt ≤ y84.toInt := b210; omega)), (show q_F (y85.toInt ≤ y198.toInt) from (show y85.toInt ≤ y198.toInt from by have t1 : y85.toInt ≤ y198.toInt := b211; omega)), (show q_F (y198.toInt ≤ y85.toInt) from (show y198.toInt ≤ y85.toInt from by have t1 : y198.toInt ≤ y85.toInt := b212; omega)), (show q_F (y87.toInt ≤ y200.toInt) from (show y87.toInt ≤ y200.toInt from by have t1 : y87.toInt ≤ y200.toInt := b213; omega)), (show q_F (y200.toInt ≤ y87.toInt) from (show y200.toInt ≤ y87.toInt from by have t1 : y200.toInt ≤ y87.toInt := b214; omega)), (show q_F (y88.toInt ≤ y201.toInt) from (show y88.toInt ≤ y201.toInt from by have t1 : y88.toInt ≤ y201.toInt := b215; omega)), (show q_F (y201.toInt ≤ y88.toInt) from (show y201.toInt ≤ y88.toInt from by have t1 : y201.toInt ≤ y88.toInt := b216; omega)), (show q_F (y89.toInt ≤ y202.toInt) from (show y89.toInt ≤ y202.toInt from by have t1 : y89.toInt ≤ y202.toInt := b217; omega)), (show q_F (y202.toInt ≤ y89.toInt) from (show y202.toInt ≤ y89.toInt from by have t1 : y202.toInt ≤ y89.toInt := b218; omega)), (show q_F (y90.toInt ≤ y203.toInt) from (show y90.toInt ≤ y203.toInt from by have t1 : y90.toInt ≤ y203.toInt := b219; omega)), (show q_F (y203.toInt ≤ y90.toInt) from (show y203.toInt ≤ y90.toInt from by have t1 : y203.toInt ≤ y90.toInt := b220; omega)), (show q_F (y91.toInt ≤ y204.toInt) from (show y91.toInt ≤ y204.toInt from by have t1 : y91.toInt ≤ y204.toInt := b221; omega)), (show q_F (y204.toInt ≤ y91.toInt) from (show y204.toInt ≤ y91.toInt from by have t1 : y204.toInt ≤ y91.toInt := b222; omega)), (show q_F (y92.toInt ≤ y205.toInt) from (show y92.toInt ≤ y205.toInt from by have t1 : y92.toInt ≤ y205.toInt := b223; omega)), (show q_F (y205.toInt ≤ y92.toInt) from (show y205.toInt ≤ y92.toInt from by have t1 : y205.toInt ≤ y92.toInt := b224; omega)), V, q_lw hl (q_lw1 0 rfl q_lw0), hI, hF, hO196⟩
        ·
          have b228 : q_F (a195.toInt = 0) := (q_eqI c226)
          refine lv_iconst (v := 0) hx hb d_10_3_48 (by decide) ?_
          exact q_reti C0 V (⟨hI, hF, y197, y198, y199, y200, y201, y202, y203, y204, y205, y206, hO196, (show 0 ≤ (0 : Int32).toInt from (by have z10 : (0 : Int32).toInt = 0 := rfl; omega)), (show (0 : Int32).toInt ≤ 2 from (by have z10 : (0 : Int32).toInt = 0 := rfl; omega)), (show 0 ≤ y200.toInt from (by have z10 : (0 : Int32).toInt = 0 := rfl; have t1 : 0 ≤ y19.toInt := b27; have t2 : y19.toInt ≤ y20.toInt := b46; have t3 : y20.toInt ≤ y54.toInt := b67; have t4 : y54.toInt ≤ y87.toInt := b104; have t5 : y87.toInt ≤ y200.toInt := b213; omega)), (show y200.toInt ≤ 4100 from (by have z10 : (0 : Int32).toInt = 0 := rfl; have t1 : y19.toInt ≤ 0 := b28; have t2 : y20.toInt ≤ y19.toInt + 4100 := b45; have t3 : y54.toInt ≤ y20.toInt := b68; have t4 : y87.toInt ≤ y54.toInt := b105; have t5 : y200.toInt ≤ y87.toInt := b214; omega)), (show 0 ≤ y201.toInt from (by have z10 : (0 : Int32).toInt = 0 := rfl; have t1 : 0 ≤ y55.toInt := b61; have t2 : y55.toInt ≤ y88.toInt := b106; have t3 : y88.toInt ≤ y201.toInt := b215; omega)), (show y201.toInt ≤ 1 from (by have z10 : (0 : Int32).toInt = 0 := rfl; have t1 : y55.toInt ≤ 1 := b62; have t2 : y88.toInt ≤ y55.toInt := b107; have t3 : y201.toInt ≤ y88.toInt := b216; omega)), (show 0 ≤ y203.toInt from (by have z10 : (0 : Int32).toInt = 0 := rfl; have t1 : 0 ≤ y90.toInt := b96; have t2 : y90.toInt ≤ y203.toInt := b219; omega)), (show 0 ≤ y205.toInt from (by have z10 : (0 : Int32).toInt = 0 := rfl; have t1 : 0 ≤ y92.toInt := b97; have t2 : y92.toInt ≤ y205.toInt := b223; omega)), (show y205.toInt ≤ 1 from (by have z10 : (0 : Int32).toInt = 0 := rfl; have t1 : y92.toInt ≤ 1 := b98; have t2 : y205.toInt ≤ y92.toInt := b224; omega)), (show t0_1.toInt ≤ y198.toInt from (by have z10 : (0 : Int32).toInt = 0 := rfl; have t1 : t0_1.toInt ≤ y18.toInt := b31; have t2 : y18.toInt ≤ y52.toInt := b65; have t3 : y52.toInt ≤ y85.toInt := b101; have t4 : y85.toInt ≤ y198.toInt := b211; omega)), (show y198.toInt ≤ t0_1.toInt from (by have z10 : (0 : Int32).toInt = 0 := rfl; have t1 : y18.toInt ≤ t0_1.toInt := b32; have t2 : y52.toInt ≤ y18.toInt := b66; have t3 : y85.toInt ≤ y52.toInt := b102; have t4 : y198.toInt ≤ y85.toInt := b212; omega))⟩) d_10_3_49
  ·
    have b229 : q_F (a82.toInt = 0) := (q_eqI c111)
    refine lv_iconst (v := 0) hx hb d_10_3_20 (by decide) ?_
    exact q_reti C0 V (⟨hI, hF, y84, y85, y86, y87, y88, y89, y90, y91, y92, y93, hO83, (show 0 ≤ (0 : Int32).toInt from (by have z10 : (0 : Int32).toInt = 0 := rfl; omega)), (show (0 : Int32).toInt ≤ 2 from (by have z10 : (0 : Int32).toInt = 0 := rfl; omega)), (show 0 ≤ y87.toInt from (by have z10 : (0 : Int32).toInt = 0 := rfl; have t1 : 0 ≤ y19.toInt := b27; have t2 : y19.toInt ≤ y20.toInt := b46; have t3 : y20.toInt ≤ y54.toInt := b67; have t4 : y54.toInt ≤ y87.toInt := b104; omega)), (show y87.toInt ≤ 4100 from (by have z10 : (0 : Int32).toInt = 0 := rfl; have t1 : y19.toInt ≤ 0 := b28; have t2 : y20.toInt ≤ y19.toInt + 4100 := b45; have t3 : y54.toInt ≤ y20.toInt := b68; have t4 : y87.toInt ≤ y54.toInt := b105; omega)), (show 0 ≤ y88.toInt from (by have z10 : (0 : Int32).toInt = 0 := rfl; have t1 : 0 ≤ y55.toInt := b61; have t2 : y55.toInt ≤ y88.toInt := b106; omega)), (show y88.toInt ≤ 1 from (by have z10 : (0 : Int32).toInt = 0 := rfl; have t1 : y55.toInt ≤ 1 := b62; have t2 : y88.toInt ≤ y55.toInt := b107; omega)), (show 0 ≤ y90.toInt from (by have z10 : (0 : Int32).toInt = 0 := rfl; have t1 : 0 ≤ y90.toInt := b96; omega)), (show 0 ≤ y92.toInt from (by have z10 : (0 : Int32).toInt = 0 := rfl; have t1 : 0 ≤ y92.toInt := b97; omega)), (show y92.toInt ≤ 1 from (by have z10 : (0 : Int32).toInt = 0 := rfl; have t1 : y92.toInt ≤ 1 := b98; omega)), (show t0_1.toInt ≤ y85.toInt from (by have z10 : (0 : Int32).toInt = 0 := rfl; have t1 : t0_1.toInt ≤ y18.toInt := b31; have t2 : y18.toInt ≤ y52.toInt := b65; have t3 : y52.toInt ≤ y85.toInt := b101; omega)), (show y85.toInt ≤ t0_1.toInt from (by have z10 : (0 : Int32).toInt = 0 := rfl; have t1 : y18.toInt ≤ t0_1.toInt := b32; have t2 : y52.toInt ≤ y18.toInt := b66; have t3 : y85.toInt ≤ y52.toInt := b102; omega))⟩) d_10_3_21
