theorem d_16_13_0 : decode prog_16_method_13_code 0 = .ok (.aload_n 0, 1) := by decide +kernel
theorem d_16_13_1 : decode prog_16_method_13_code 1 = .ok (.getfield 57, 3) := by decide +kernel
set_option maxRecDepth 100000 in
theorem w_2218 : (Cond.fieldLink "NumberHouseModel$DirectiveRows" (57 : Nat) "NumberHouseModel$DirectiveRows" "at" "I") ∈ q_tbl := q_of10 58 rfl (by decide +kernel)
theorem d_16_13_4 : decode prog_16_method_13_code 4 = .ok (.aload_n 0, 1) := by decide +kernel
theorem d_16_13_5 : decode prog_16_method_13_code 5 = .ok (.getfield 45, 3) := by decide +kernel
theorem d_16_13_8 : decode prog_16_method_13_code 8 = .ok (.if_icmp .ge 15, 3) := by decide +kernel
theorem d_16_13_23 : decode prog_16_method_13_code 23 = .ok (.iconst (-1), 1) := by decide +kernel
theorem d_16_13_24 : decode prog_16_method_13_code 24 = .ok (.ireturn, 1) := by decide +kernel
theorem d_16_13_11 : decode prog_16_method_13_code 11 = .ok (.aload_n 0, 1) := by decide +kernel
theorem d_16_13_12 : decode prog_16_method_13_code 12 = .ok (.getfield 7, 3) := by decide +kernel
theorem d_16_13_15 : decode prog_16_method_13_code 15 = .ok (.aload_n 0, 1) := by decide +kernel
theorem d_16_13_16 : decode prog_16_method_13_code 16 = .ok (.getfield 57, 3) := by decide +kernel
theorem d_16_13_19 : decode prog_16_method_13_code 19 = .ok (.iaload, 1) := by decide +kernel
theorem d_16_13_20 : decode prog_16_method_13_code 20 = .ok (.goto 4, 3) := by decide +kernel
def y_VR_here : MethodName := ⟨"NumberHouseModel$DirectiveRows", "here", "()I"⟩
def F_VR_here (t0_0 : Int32) (t0_1 : Int32) (t0_2 : Int32) (t0_3 : Int32) (t0_4 : Int32) (t0_5 : Int32) (t0_6 : Int32) (t0_7 : Int32) (t0_8 : Int32) (t0_9 : Int32) (t0_10 : Int32) (t0_11 : Int32) (t0_12 : Int32) (t0_13 : Int32) (t0_14 : Int32) (t0_15 : Int32) (t0_16 : Int32) (t0_17 : Int32) (t0_18 : Int32) (t0_19 : Int32) (t0_20 : Int32) (t0_21 : Int32) (t1_0 : (Nat → Int32)) : Int32 := if t0_1 ≤ t0_7 then ((-1 : Int32)) else ((t1_0 t0_7.toNatClampNeg : Int32))
def S_VR_here (t0_0 : Int32) (t0_1 : Int32) (t0_2 : Int32) (t0_3 : Int32) (t0_4 : Int32) (t0_5 : Int32) (t0_6 : Int32) (t0_7 : Int32) (t0_8 : Int32) (t0_9 : Int32) (t0_10 : Int32) (t0_11 : Int32) (t0_12 : Int32) (t0_13 : Int32) (t0_14 : Int32) (t0_15 : Int32) (t0_16 : Int32) (t0_17 : Int32) (t0_18 : Int32) (t0_19 : Int32) (t0_20 : Int32) (t0_21 : Int32) (t1_0 : (Nat → Int32)) : Prop := if t0_1 ≤ t0_7 then (True) else ((0 ≤ t0_7.toInt) ∧ (True))
set_option maxRecDepth 100000 in
set_option maxHeartbeats 4000000 in
theorem X_VR_here (l : Launch) (D : va_G) (g : Nat → ClassId) (q : Nat → Nat) (ws : va_W) (hI : q_I (msh g q) q ws) (t0_0 : Int32) (t0_1 : Int32) (t0_2 : Int32) (t0_3 : Int32) (t0_4 : Int32) (t0_5 : Int32) (t0_6 : Int32) (t0_7 : Int32) (t0_8 : Int32) (t0_9 : Int32) (t0_10 : Int32) (t0_11 : Int32) (t0_12 : Int32) (t0_13 : Int32) (t0_14 : Int32) (t0_15 : Int32) (t0_16 : Int32) (t0_17 : Int32) (t0_18 : Int32) (t0_19 : Int32) (t0_20 : Int32) (t0_21 : Int32) (hT0 : ws[157]? = (some (q 157, .inr (17, [.int t0_0, .ref (q 158), .int t0_1, .int t0_2, .ref (q 159), .ref (q 160), .ref (q 161), .ref (q 162), .ref (q 163), .int t0_3, .ref (q 164), .int t0_4, .int t0_5, .int t0_6, .int t0_7, .int t0_8, .int t0_9, .int t0_10, .int t0_11, .int t0_12, .int t0_13, .int t0_14, .int t0_15, .int t0_16, .ref (q 165), .int t0_17, .int t0_18, .int t0_19, .ref (q 166), .int t0_20, .int t0_21])) : Option (Nat × va_E))) (t1_0 : (Nat → Int32)) (hT1 : ws[158]? = (some (q 158, .inl (g 0, (256 : Int32).toNatClampNeg, .inl t1_0)) : Option (Nat × va_E))) (hS : True ∧ S_VR_here t0_0 t0_1 t0_2 t0_3 t0_4 t0_5 t0_6 t0_7 t0_8 t0_9 t0_10 t0_11 t0_12 t0_13 t0_14 t0_15 t0_16 t0_17 t0_18 t0_19 t0_20 t0_21 t1_0) : q_mI l y_VR_here prog_16_method_13_code 1 (.int) 1 0 0 D g [.ref (q 157)] ws (fun r u => ws = u ∧ r = (F_VR_here t0_0 t0_1 t0_2 t0_3 t0_4 t0_5 t0_6 t0_7 t0_8 t0_9 t0_10 t0_11 t0_12 t0_13 t0_14 t0_15 t0_16 t0_17 t0_18 t0_19 t0_20 t0_21 t1_0)) := by
  intro sz
  refine q_into (by decide) (Nat.le_of_ble_eq_true rfl) ?_
  intro p e s m below meth c ls hsz C0 V hl
  have hx := C0.1
  have hb := C0.2.1
  obtain ⟨btt0_1, hZ9⟩ := n_w157 hI hT0
  replace hZ9 := hZ9.2.2
  obtain ⟨-, btt0_19⟩ := hZ9
  replace btt0_1 : q_F (0 ≤ t0_1.toInt ∧ t0_1.toInt ≤ 256) := btt0_1
  clear btt0_19
  have hl : lv_has ls 1 [(0, .ref (q 157))] := hl
  refine lv_aload_n hx hb d_16_13_0 rfl (lv_at hl 0 rfl) ?_
  refine q_get (ci := 17) (j := 14) (v := .int t0_7) C0 V i_VR rfl rfl hT0 (by decide) w_2218 rfl d_16_13_1 ?_
  refine lv_aload_n hx hb d_16_13_4 rfl (lv_at hl 0 rfl) ?_
  refine q_get (ci := 17) (j := 2) (v := .int t0_1) C0 V i_VR rfl rfl hT0 (by decide) w_2201 rfl d_16_13_5 ?_
  refine lv_icmp_ge (tgt := 23) hx hb d_16_13_8 (by decide) (fun c32 => ?_) (fun c32 => ?_)
  ·
    refine lv_iconst (v := (-1)) hx hb d_16_13_23 (by decide) ?_
    exact q_reti C0 V (⟨rfl, (show (-1 : Int32) = (F_VR_here t0_0 t0_1 t0_2 t0_3 t0_4 t0_5 t0_6 t0_7 t0_8 t0_9 t0_10 t0_11 t0_12 t0_13 t0_14 t0_15 t0_16 t0_17 t0_18 t0_19 t0_20 t0_21 t1_0) from (by rw [F_VR_here.eq_1, if_pos c32]))⟩) d_16_13_24
  ·
    have b34 : q_F (t0_7.toInt < t0_1.toInt) := (q_nleI c32)
    refine lv_aload_n hx hb d_16_13_11 rfl (lv_at hl 0 rfl) ?_
    refine q_get (ci := 17) (j := 1) (v := .ref (q 158)) C0 V i_VR rfl rfl hT0 (by decide) w_2199 rfl d_16_13_12 ?_
    refine lv_aload_n hx hb d_16_13_15 rfl (lv_at hl 0 rfl) ?_
    refine q_get (ci := 17) (j := 14) (v := .int t0_7) C0 V i_VR rfl rfl hT0 (by decide) w_2218 rfl d_16_13_16 ?_
    have ob35 : q_F (0 ≤ t0_7.toInt) := (by have h := hS; rw [S_VR_here.eq_1] at h; rw [if_neg c32] at h; exact h.2.1)
    refine q_iald C0 V hT1 (q_ix (x := t0_7.toInt) rfl (by first | with_reducible exact q_fe ob35 | (have t1 : 0 ≤ t0_7.toInt := ob35; omega)) (by have t1 : 0 ≤ t0_7.toInt := ob35; have t2 : 0 ≤ t0_1.toInt ∧ t0_1.toInt ≤ 256 := btt0_1; have t3 : t0_7.toInt < t0_1.toInt := b34; have e9 : (((256 : Int32).toNatClampNeg : Nat) : Int) = 256 := (by decide); omega)) d_16_13_19 ?_
    obtain ⟨a36, e37⟩ := q_nm (t1_0 t0_7.toNatClampNeg : Int32)
    refine q_ti (v := a36) e37 ?_
    refine lv_goto (tgt := 24) hx hb d_16_13_20 (by decide) ?_
    exact q_reti C0 V (⟨rfl, (show a36 = (F_VR_here t0_0 t0_1 t0_2 t0_3 t0_4 t0_5 t0_6 t0_7 t0_8 t0_9 t0_10 t0_11 t0_12 t0_13 t0_14 t0_15 t0_16 t0_17 t0_18 t0_19 t0_20 t0_21 t1_0) from (by rw [← e37, F_VR_here.eq_1, if_neg c32]))⟩) d_16_13_24
theorem d_16_14_0 : decode prog_16_method_14_code 0 = .ok (.aload_n 0, 1) := by decide +kernel
theorem d_16_14_1 : decode prog_16_method_14_code 1 = .ok (.invokevirtual 60, 3) := by decide +kernel
set_option maxRecDepth 100000 in
theorem w_3123 : (Cond.code ({ cls := "NumberHouseModel$DirectiveRows", name := "here", desc := "()I" } : MethodName) prog_16_method_13_code (1 : Nat) (some .int)) ∈ q_tbl := q_of14 3 rfl (by decide +kernel)
set_option maxRecDepth 100000 in
theorem w_3120 : (Cond.methodLink "NumberHouseModel$DirectiveRows" (60 : Nat) ({ cls := "NumberHouseModel$DirectiveRows", name := "here", desc := "()I" } : MethodName)) ∈ q_tbl := q_of14 0 rfl (by decide +kernel)
set_option maxRecDepth 100000 in
theorem w_3122 : (Cond.instanceMethod ({ cls := "NumberHouseModel$DirectiveRows", name := "here", desc := "()I" } : MethodName)) ∈ q_tbl := q_of14 2 rfl (by decide +kernel)
theorem ws_152 : Cond.selects "NumberHouseModel$DirectiveRows" (⟨"NumberHouseModel$DirectiveRows", "here", "()I"⟩ : MethodName) (⟨"NumberHouseModel$DirectiveRows", "here", "()I"⟩ : MethodName) ∈ q_tbl := q_ofs 152 (by decide +kernel) (by decide +kernel)
theorem LV_VR_60 : q_LV "NumberHouseModel$DirectiveRows" 60 y_VR_here prog_16_method_13_code 1 (some .int) 0 := ⟨w_3123, w_19, w_3120, w_3122, ws_152, ⟨by decide, by decide, by decide +kernel⟩⟩
theorem d_16_14_4 : decode prog_16_method_14_code 4 = .ok (.bipush 48, 2) := by decide +kernel
theorem d_16_14_6 : decode prog_16_method_14_code 6 = .ok (.if_icmp .lt 16, 3) := by decide +kernel
theorem d_16_14_22 : decode prog_16_method_14_code 22 = .ok (.iconst 0, 1) := by decide +kernel
theorem d_16_14_23 : decode prog_16_method_14_code 23 = .ok (.ireturn, 1) := by decide +kernel
theorem d_16_14_9 : decode prog_16_method_14_code 9 = .ok (.aload_n 0, 1) := by decide +kernel
theorem d_16_14_10 : decode prog_16_method_14_code 10 = .ok (.invokevirtual 60, 3) := by decide +kernel
theorem d_16_14_13 : decode prog_16_method_14_code 13 = .ok (.bipush 57, 2) := by decide +kernel
theorem d_16_14_15 : decode prog_16_method_14_code 15 = .ok (.if_icmp .gt 7, 3) := by decide +kernel
theorem d_16_14_18 : decode prog_16_method_14_code 18 = .ok (.iconst 1, 1) := by decide +kernel
theorem d_16_14_19 : decode prog_16_method_14_code 19 = .ok (.goto 4, 3) := by decide +kernel
def y_VR_isDigit : MethodName := ⟨"NumberHouseModel$DirectiveRows", "isDigit", "()Z"⟩
def F_VR_isDigit (t0_0 : Int32) (t0_1 : Int32) (t0_2 : Int32) (t0_3 : Int32) (t0_4 : Int32) (t0_5 : Int32) (t0_6 : Int32) (t0_7 : Int32) (t0_8 : Int32) (t0_9 : Int32) (t0_10 : Int32) (t0_11 : Int32) (t0_12 : Int32) (t0_13 : Int32) (t0_14 : Int32) (t0_15 : Int32) (t0_16 : Int32) (t0_17 : Int32) (t0_18 : Int32) (t0_19 : Int32) (t0_20 : Int32) (t0_21 : Int32) (t1_0 : (Nat → Int32)) : Int32 := if ((F_VR_here t0_0 t0_1 t0_2 t0_3 t0_4 t0_5 t0_6 t0_7 t0_8 t0_9 t0_10 t0_11 t0_12 t0_13 t0_14 t0_15 t0_16 t0_17 t0_18 t0_19 t0_20 t0_21 t1_0) : Int32) < (48 : Int32) then ((0 : Int32)) else (if (57 : Int32) < ((F_VR_here t0_0 t0_1 t0_2 t0_3 t0_4 t0_5 t0_6 t0_7 t0_8 t0_9 t0_10 t0_11 t0_12 t0_13 t0_14 t0_15 t0_16 t0_17 t0_18 t0_19 t0_20 t0_21 t1_0) : Int32) then ((0 : Int32)) else ((1 : Int32)))
def S_VR_isDigit (t0_0 : Int32) (t0_1 : Int32) (t0_2 : Int32) (t0_3 : Int32) (t0_4 : Int32) (t0_5 : Int32) (t0_6 : Int32) (t0_7 : Int32) (t0_8 : Int32) (t0_9 : Int32) (t0_10 : Int32) (t0_11 : Int32) (t0_12 : Int32) (t0_13 : Int32) (t0_14 : Int32) (t0_15 : Int32) (t0_16 : Int32) (t0_17 : Int32) (t0_18 : Int32) (t0_19 : Int32) (t0_20 : Int32) (t0_21 : Int32) (t1_0 : (Nat → Int32)) : Prop := (True ∧ S_VR_here t0_0 t0_1 t0_2 t0_3 t0_4 t0_5 t0_6 t0_7 t0_8 t0_9 t0_10 t0_11 t0_12 t0_13 t0_14 t0_15 t0_16 t0_17 t0_18 t0_19 t0_20 t0_21 t1_0) ∧ (if ((F_VR_here t0_0 t0_1 t0_2 t0_3 t0_4 t0_5 t0_6 t0_7 t0_8 t0_9 t0_10 t0_11 t0_12 t0_13 t0_14 t0_15 t0_16 t0_17 t0_18 t0_19 t0_20 t0_21 t1_0) : Int32) < (48 : Int32) then (True) else ((True ∧ S_VR_here t0_0 t0_1 t0_2 t0_3 t0_4 t0_5 t0_6 t0_7 t0_8 t0_9 t0_10 t0_11 t0_12 t0_13 t0_14 t0_15 t0_16 t0_17 t0_18 t0_19 t0_20 t0_21 t1_0) ∧ (if (57 : Int32) < ((F_VR_here t0_0 t0_1 t0_2 t0_3 t0_4 t0_5 t0_6 t0_7 t0_8 t0_9 t0_10 t0_11 t0_12 t0_13 t0_14 t0_15 t0_16 t0_17 t0_18 t0_19 t0_20 t0_21 t1_0) : Int32) then (True) else (True))))
set_option maxRecDepth 100000 in
set_option maxHeartbeats 4000000 in
theorem X_VR_isDigit (l : Launch) (D : va_G) (g : Nat → ClassId) (q : Nat → Nat) (ws : va_W) (hI : q_I (msh g q) q ws) (t0_0 : Int32) (t0_1 : Int32) (t0_2 : Int32) (t0_3 : Int32) (t0_4 : Int32) (t0_5 : Int32) (t0_6 : Int32) (t0_7 : Int32) (t0_8 : Int32) (t0_9 : Int32) (t0_10 : Int32) (t0_11 : Int32) (t0_12 : Int32) (t0_13 : Int32) (t0_14 : Int32) (t0_15 : Int32) (t0_16 : Int32) (t0_17 : Int32) (t0_18 : Int32) (t0_19 : Int32) (t0_20 : Int32) (t0_21 : Int32) (hT0 : ws[157]? = (some (q 157, .inr (17, [.int t0_0, .ref (q 158), .int t0_1, .int t0_2, .ref (q 159), .ref (q 160), .ref (q 161), .ref (q 162), .ref (q 163), .int t0_3, .ref (q 164), .int t0_4, .int t0_5, .int t0_6, .int t0_7, .int t0_8, .int t0_9, .int t0_10, .int t0_11, .int t0_12, .int t0_13, .int t0_14, .int t0_15, .int t0_16, .ref (q 165), .int t0_17, .int t0_18, .int t0_19, .ref (q 166), .int t0_20, .int t0_21])) : Option (Nat × va_E))) (t1_0 : (Nat → Int32)) (hT1 : ws[158]? = (some (q 158, .inl (g 0, (256 : Int32).toNatClampNeg, .inl t1_0)) : Option (Nat × va_E))) (hS : True ∧ S_VR_isDigit t0_0 t0_1 t0_2 t0_3 t0_4 t0_5 t0_6 t0_7 t0_8 t0_9 t0_10 t0_11 t0_12 t0_13 t0_14 t0_15 t0_16 t0_17 t0_18 t0_19 t0_20 t0_21 t1_0) : q_mI l y_VR_isDigit prog_16_method_14_code 1 (.boolean) 2 0 0 D g [.ref (q 157)] ws (fun r u => ws = u ∧ (0 ≤ r.toInt) ∧ (r.toInt ≤ 1) ∧ r = (F_VR_isDigit t0_0 t0_1 t0_2 t0_3 t0_4 t0_5 t0_6 t0_7 t0_8 t0_9 t0_10 t0_11 t0_12 t0_13 t0_14 t0_15 t0_16 t0_17 t0_18 t0_19 t0_20 t0_21 t1_0)) := by
  intro sz
  refine q_into (by decide) (Nat.le_of_ble_eq_true rfl) ?_
  intro p e s m below meth c ls hsz C0 V hl
  have hx := C0.1
  have hb := C0.2.1
  have hZ9 := (n_w157 hI hT0).2.2.2
  obtain ⟨-, btt0_19⟩ := hZ9
  clear btt0_19
  have hl : lv_has ls 1 [(0, .ref (q 157))] := hl
  refine lv_aload_n hx hb d_16_14_0 rfl (lv_at hl 0 rfl) ?_
  have ob32 : True ∧ S_VR_here t0_0 t0_1 t0_2 t0_3 t0_4 t0_5 t0_6 t0_7 t0_8 t0_9 t0_10 t0_11 t0_12 t0_13 t0_14 t0_15 t0_16 t0_17 t0_18 t0_19 t0_20 t0_21 t1_0 := (by have h := hS; rw [S_VR_isDigit.eq_1] at h; with_reducible exact h.2.1)
  refine q_goi V (q_runV (As := []) (rest := []) (d := 1) (mc := 0) (ms := 0) (ci := 17) C0 V rfl LV_VR_60 (X_VR_here l D g q ws   hI t0_0 t0_1 t0_2 t0_3 t0_4 t0_5 t0_6 t0_7 t0_8 t0_9 t0_10 t0_11 t0_12 t0_13 t0_14 t0_15 t0_16 t0_17 t0_18 t0_19 t0_20 t0_21 hT0 t1_0 hT1 ob32 _) rfl rfl hT0 rfl hl.1 rfl (Nat.le_of_ble_eq_true rfl) ⟨by decide, by decide⟩ ⟨Nat.le_of_ble_eq_true rfl, Nat.le_of_ble_eq_true rfl⟩ d_16_14_1) (fun a35 u33 H locs hp34 V => ?_)
  obtain ⟨rfl, hE36⟩ := hp34
  have e37 : a35 = (F_VR_here t0_0 t0_1 t0_2 t0_3 t0_4 t0_5 t0_6 t0_7 t0_8 t0_9 t0_10 t0_11 t0_12 t0_13 t0_14 t0_15 t0_16 t0_17 t0_18 t0_19 t0_20 t0_21 t1_0) := hE36
  refine lv_bipush (v := 48) hx hb d_16_14_4 (by decide) ?_
  refine lv_icmp_lt (tgt := 22) hx hb d_16_14_6 (by decide) (fun c38 => ?_) (fun c38 => ?_)
  ·
    refine lv_iconst (v := 0) hx hb d_16_14_22 (by decide) ?_
    exact q_retz C0 V (by decide) (⟨rfl, (show 0 ≤ (0 : Int32).toInt from (by have z23 : (0 : Int32).toInt = 0 := rfl; omega)), (show (0 : Int32).toInt ≤ 1 from (by have z23 : (0 : Int32).toInt = 0 := rfl; omega)), (show (0 : Int32) = (F_VR_isDigit t0_0 t0_1 t0_2 t0_3 t0_4 t0_5 t0_6 t0_7 t0_8 t0_9 t0_10 t0_11 t0_12 t0_13 t0_14 t0_15 t0_16 t0_17 t0_18 t0_19 t0_20 t0_21 t1_0) from (by have c38x := c38; rw [e37] at c38x; rw [F_VR_isDigit.eq_1, if_pos c38x]))⟩) d_16_14_23
  ·
    refine lv_aload_n hx hb d_16_14_9 rfl (lv_at hl 0 rfl) ?_
    have ob41 : True ∧ S_VR_here t0_0 t0_1 t0_2 t0_3 t0_4 t0_5 t0_6 t0_7 t0_8 t0_9 t0_10 t0_11 t0_12 t0_13 t0_14 t0_15 t0_16 t0_17 t0_18 t0_19 t0_20 t0_21 t1_0 := (by have h := hS; rw [S_VR_isDigit.eq_1] at h; replace h := q_s2 h; have c38x := c38; rw [e37] at c38x; rw [if_neg c38x] at h; with_reducible exact h.2.1)
    refine q_goi V (q_runV (As := []) (rest := []) (d := 1) (mc := 0) (ms := 0) (ci := 17) C0 V rfl LV_VR_60 (X_VR_here l D g q ws   hI t0_0 t0_1 t0_2 t0_3 t0_4 t0_5 t0_6 t0_7 t0_8 t0_9 t0_10 t0_11 t0_12 t0_13 t0_14 t0_15 t0_16 t0_17 t0_18 t0_19 t0_20 t0_21 hT0 t1_0 hT1 ob41 _) rfl rfl hT0 rfl hl.1 rfl (Nat.le_of_ble_eq_true rfl) ⟨by decide, by decide⟩ ⟨Nat.le_of_ble_eq_true rfl, Nat.le_of_ble_eq_true rfl⟩ d_16_14_10) (fun a44 u42 H locs hp43 V => ?_)
    obtain ⟨rfl, hE45⟩ := hp43
    have e46 : a44 = (F_VR_here t0_0 t0_1 t0_2 t0_3 t0_4 t0_5 t0_6 t0_7 t0_8 t0_9 t0_10 t0_11 t0_12 t0_13 t0_14 t0_15 t0_16 t0_17 t0_18 t0_19 t0_20 t0_21 t1_0) := hE45
    obtain rfl : a35 = a44 := e37.trans e46.symm
    refine lv_bipush (v := 57) hx hb d_16_14_13 (by decide) ?_
    refine lv_icmp_gt (tgt := 22) hx hb d_16_14_15 (by decide) (fun c47 => ?_) (fun c47 => ?_)
    ·
      refine lv_iconst (v := 0) hx hb d_16_14_22 (by decide) ?_
      exact q_retz C0 V (by decide) (⟨rfl, (show 0 ≤ (0 : Int32).toInt from (by have z23 : (0 : Int32).toInt = 0 := rfl; omega)), (show (0 : Int32).toInt ≤ 1 from (by have z23 : (0 : Int32).toInt = 0 := rfl; omega)), (show (0 : Int32) = (F_VR_isDigit t0_0 t0_1 t0_2 t0_3 t0_4 t0_5 t0_6 t0_7 t0_8 t0_9 t0_10 t0_11 t0_12 t0_13 t0_14 t0_15 t0_16 t0_17 t0_18 t0_19 t0_20 t0_21 t1_0) from (by have c38x := c38; rw [e37] at c38x; have c47x := c47; rw [e37] at c47x; rw [F_VR_isDigit.eq_1, if_neg c38x, if_pos c47x]))⟩) d_16_14_23
    ·
      refine lv_iconst (v := 1) hx hb d_16_14_18 (by decide) ?_
      refine lv_goto (tgt := 23) hx hb d_16_14_19 (by decide) ?_
      exact q_retz C0 V (by decide) (⟨rfl, (show 0 ≤ (1 : Int32).toInt from (by have z23 : (1 : Int32).toInt = 1 := rfl; omega)), (show (1 : Int32).toInt ≤ 1 from (by have z23 : (1 : Int32).toInt = 1 := rfl; omega)), (show (1 : Int32) = (F_VR_isDigit t0_0 t0_1 t0_2 t0_3 t0_4 t0_5 t0_6 t0_7 t0_8 t0_9 t0_10 t0_11 t0_12 t0_13 t0_14 t0_15 t0_16 t0_17 t0_18 t0_19 t0_20 t0_21 t1_0) from (by have c38x := c38; rw [e37] at c38x; have c47x := c47; rw [e37] at c47x; rw [F_VR_isDigit.eq_1, if_neg c38x, if_neg c47x]))⟩) d_16_14_23
theorem d_16_15_0 : decode prog_16_method_15_code 0 = .ok (.iconst 0, 1) := by decide +kernel
theorem d_16_15_1 : decode prog_16_method_15_code 1 = .ok (.istore_n 1, 1) := by decide +kernel
theorem d_16_15_2 : decode prog_16_method_15_code 2 = .ok (.aload_n 0, 1) := by decide +kernel
theorem d_16_15_3 : decode prog_16_method_15_code 3 = .ok (.invokevirtual 64, 3) := by decide +kernel
set_option maxRecDepth 100000 in
theorem w_3131 : (Cond.code ({ cls := "NumberHouseModel$DirectiveRows", name := "isDigit", desc := "()Z" } : MethodName) prog_16_method_14_code (1 : Nat) (some .boolean)) ∈ q_tbl := q_of14 11 rfl (by decide +kernel)
set_option maxRecDepth 100000 in
theorem w_3128 : (Cond.methodLink "NumberHouseModel$DirectiveRows" (64 : Nat) ({ cls := "NumberHouseModel$DirectiveRows", name := "isDigit", desc := "()Z" } : MethodName)) ∈ q_tbl := q_of14 8 rfl (by decide +kernel)
set_option maxRecDepth 100000 in
theorem w_3130 : (Cond.instanceMethod ({ cls := "NumberHouseModel$DirectiveRows", name := "isDigit", desc := "()Z" } : MethodName)) ∈ q_tbl := q_of14 10 rfl (by decide +kernel)
theorem ws_154 : Cond.selects "NumberHouseModel$DirectiveRows" (⟨"NumberHouseModel$DirectiveRows", "isDigit", "()Z"⟩ : MethodName) (⟨"NumberHouseModel$DirectiveRows", "isDigit", "()Z"⟩ : MethodName) ∈ q_tbl := q_ofs 154 (by decide +kernel) (by decide +kernel)
theorem LV_VR_64 : q_LV "NumberHouseModel$DirectiveRows" 64 y_VR_isDigit prog_16_method_14_code 1 (some .boolean) 0 := ⟨w_3131, w_19, w_3128, w_3130, ws_154, ⟨by decide, by decide, by decide +kernel⟩⟩
theorem d_16_15_6 : decode prog_16_method_15_code 6 = .ok (.ifCond .eq 40, 3) := by decide +kernel
theorem d_16_15_46 : decode prog_16_method_15_code 46 = .ok (.iload_n 1, 1) := by decide +kernel
theorem d_16_15_47 : decode prog_16_method_15_code 47 = .ok (.sipush 9999, 3) := by decide +kernel
theorem d_16_15_50 : decode prog_16_method_15_code 50 = .ok (.if_icmp .le 9, 3) := by decide +kernel
theorem d_16_15_59 : decode prog_16_method_15_code 59 = .ok (.iload_n 1, 1) := by decide +kernel
theorem d_16_15_60 : decode prog_16_method_15_code 60 = .ok (.ireturn, 1) := by decide +kernel
theorem d_16_15_53 : decode prog_16_method_15_code 53 = .ok (.sipush 9999, 3) := by decide +kernel
theorem d_16_15_56 : decode prog_16_method_15_code 56 = .ok (.goto 4, 3) := by decide +kernel
theorem d_16_15_9 : decode prog_16_method_15_code 9 = .ok (.iload_n 1, 1) := by decide +kernel
theorem d_16_15_10 : decode prog_16_method_15_code 10 = .ok (.sipush 9999, 3) := by decide +kernel
theorem d_16_15_13 : decode prog_16_method_15_code 13 = .ok (.if_icmp .le 7, 3) := by decide +kernel
theorem d_16_15_20 : decode prog_16_method_15_code 20 = .ok (.bipush 10, 2) := by decide +kernel
theorem d_16_15_22 : decode prog_16_method_15_code 22 = .ok (.iload_n 1, 1) := by decide +kernel
theorem d_16_15_23 : decode prog_16_method_15_code 23 = .ok (.imul, 1) := by decide +kernel
theorem d_16_15_24 : decode prog_16_method_15_code 24 = .ok (.aload_n 0, 1) := by decide +kernel
theorem d_16_15_25 : decode prog_16_method_15_code 25 = .ok (.invokevirtual 60, 3) := by decide +kernel
theorem d_16_15_28 : decode prog_16_method_15_code 28 = .ok (.iadd, 1) := by decide +kernel
theorem d_16_15_29 : decode prog_16_method_15_code 29 = .ok (.bipush 48, 2) := by decide +kernel
theorem d_16_15_31 : decode prog_16_method_15_code 31 = .ok (.isub, 1) := by decide +kernel
theorem d_16_15_32 : decode prog_16_method_15_code 32 = .ok (.istore_n 1, 1) := by decide +kernel
theorem d_16_15_33 : decode prog_16_method_15_code 33 = .ok (.aload_n 0, 1) := by decide +kernel
theorem d_16_15_34 : decode prog_16_method_15_code 34 = .ok (.dup, 1) := by decide +kernel
theorem d_16_15_35 : decode prog_16_method_15_code 35 = .ok (.getfield 57, 3) := by decide +kernel
theorem d_16_15_38 : decode prog_16_method_15_code 38 = .ok (.iconst 1, 1) := by decide +kernel
theorem d_16_15_39 : decode prog_16_method_15_code 39 = .ok (.iadd, 1) := by decide +kernel
theorem d_16_15_40 : decode prog_16_method_15_code 40 = .ok (.putfield 57, 3) := by decide +kernel
theorem d_16_15_43 : decode prog_16_method_15_code 43 = .ok (.goto (-41), 3) := by decide +kernel
theorem d_16_15_16 : decode prog_16_method_15_code 16 = .ok (.iload_n 1, 1) := by decide +kernel
theorem d_16_15_17 : decode prog_16_method_15_code 17 = .ok (.goto 15, 3) := by decide +kernel
def y_VR_number : MethodName := ⟨"NumberHouseModel$DirectiveRows", "number", "()I"⟩
def F_VR_number_L2 (t0_0 : Int32) (t0_1 : Int32) (t0_2 : Int32) (t0_3 : Int32) (t0_4 : Int32) (t0_5 : Int32) (t0_6 : Int32) (t0_7 : Int32) (t0_8 : Int32) (t0_9 : Int32) (t0_10 : Int32) (t0_11 : Int32) (t0_12 : Int32) (t0_13 : Int32) (t0_14 : Int32) (t0_15 : Int32) (t0_16 : Int32) (t0_17 : Int32) (t0_18 : Int32) (t0_19 : Int32) (t0_20 : Int32) (t0_21 : Int32) (t1_0 : (Nat → Int32)) : Nat → Int32 → Int32 → (Int32 × Int32)
  | 0, _, _ => default
  | fm + 1, lx33, lx34 => if ((F_VR_isDigit t0_0 t0_1 t0_2 t0_3 t0_4 t0_5 t0_6 lx34 t0_8 t0_9 t0_10 t0_11 t0_12 t0_13 t0_14 t0_15 t0_16 t0_17 t0_18 t0_19 t0_20 t0_21 t1_0) : Int32) = (0 : Int32) then (if lx33 ≤ (9999 : Int32) then ((lx33, lx34)) else (((9999 : Int32), lx34))) else (if lx33 ≤ (9999 : Int32) then (F_VR_number_L2 t0_0 t0_1 t0_2 t0_3 t0_4 t0_5 t0_6 t0_7 t0_8 t0_9 t0_10 t0_11 t0_12 t0_13 t0_14 t0_15 t0_16 t0_17 t0_18 t0_19 t0_20 t0_21 t1_0 fm (((10 * lx33 : Int32) + ((F_VR_here t0_0 t0_1 t0_2 t0_3 t0_4 t0_5 t0_6 lx34 t0_8 t0_9 t0_10 t0_11 t0_12 t0_13 t0_14 t0_15 t0_16 t0_17 t0_18 t0_19 t0_20 t0_21 t1_0) : Int32) : Int32) - 48 : Int32) (lx34 + 1 : Int32)) else (F_VR_number_L2 t0_0 t0_1 t0_2 t0_3 t0_4 t0_5 t0_6 t0_7 t0_8 t0_9 t0_10 t0_11 t0_12 t0_13 t0_14 t0_15 t0_16 t0_17 t0_18 t0_19 t0_20 t0_21 t1_0 fm lx33 (lx34 + 1 : Int32)))
def F_VR_number (t0_0 : Int32) (t0_1 : Int32) (t0_2 : Int32) (t0_3 : Int32) (t0_4 : Int32) (t0_5 : Int32) (t0_6 : Int32) (t0_7 : Int32) (t0_8 : Int32) (t0_9 : Int32) (t0_10 : Int32) (t0_11 : Int32) (t0_12 : Int32) (t0_13 : Int32) (t0_14 : Int32) (t0_15 : Int32) (t0_16 : Int32) (t0_17 : Int32) (t0_18 : Int32) (t0_19 : Int32) (t0_20 : Int32) (t0_21 : Int32) (t1_0 : (Nat → Int32)) : Int32 × Int32 := F_VR_number_L2 t0_0 t0_1 t0_2 t0_3 t0_4 t0_5 t0_6 t0_7 t0_8 t0_9 t0_10 t0_11 t0_12 t0_13 t0_14 t0_15 t0_16 t0_17 t0_18 t0_19 t0_20 t0_21 t1_0 1000000 0 t0_7
def S_VR_number_L2 (t0_0 : Int32) (t0_1 : Int32) (t0_2 : Int32) (t0_3 : Int32) (t0_4 : Int32) (t0_5 : Int32) (t0_6 : Int32) (t0_7 : Int32) (t0_8 : Int32) (t0_9 : Int32) (t0_10 : Int32) (t0_11 : Int32) (t0_12 : Int32) (t0_13 : Int32) (t0_14 : Int32) (t0_15 : Int32) (t0_16 : Int32) (t0_17 : Int32) (t0_18 : Int32) (t0_19 : Int32) (t0_20 : Int32) (t0_21 : Int32) (t1_0 : (Nat → Int32)) : Nat → Int32 → Int32 → Prop
  | 0, _, _ => False
  | fm + 1, lx33, lx34 => (True ∧ S_VR_isDigit t0_0 t0_1 t0_2 t0_3 t0_4 t0_5 t0_6 lx34 t0_8 t0_9 t0_10 t0_11 t0_12 t0_13 t0_14 t0_15 t0_16 t0_17 t0_18 t0_19 t0_20 t0_21 t1_0) ∧ (if ((F_VR_isDigit t0_0 t0_1 t0_2 t0_3 t0_4 t0_5 t0_6 lx34 t0_8 t0_9 t0_10 t0_11 t0_12 t0_13 t0_14 t0_15 t0_16 t0_17 t0_18 t0_19 t0_20 t0_21 t1_0) : Int32) = (0 : Int32) then (if lx33 ≤ (9999 : Int32) then (True) else (True)) else (if lx33 ≤ (9999 : Int32) then ((True ∧ S_VR_here t0_0 t0_1 t0_2 t0_3 t0_4 t0_5 t0_6 lx34 t0_8 t0_9 t0_10 t0_11 t0_12 t0_13 t0_14 t0_15 t0_16 t0_17 t0_18 t0_19 t0_20 t0_21 t1_0) ∧ (S_VR_number_L2 t0_0 t0_1 t0_2 t0_3 t0_4 t0_5 t0_6 t0_7 t0_8 t0_9 t0_10 t0_11 t0_12 t0_13 t0_14 t0_15 t0_16 t0_17 t0_18 t0_19 t0_20 t0_21 t1_0 fm (((10 * lx33 : Int32) + ((F_VR_here t0_0 t0_1 t0_2 t0_3 t0_4 t0_5 t0_6 lx34 t0_8 t0_9 t0_10 t0_11 t0_12 t0_13 t0_14 t0_15 t0_16 t0_17 t0_18 t0_19 t0_20 t0_21 t1_0) : Int32) : Int32) - 48 : Int32) (lx34 + 1 : Int32))) else (S_VR_number_L2 t0_0 t0_1 t0_2 t0_3 t0_4 t0_5 t0_6 t0_7 t0_8 t0_9 t0_10 t0_11 t0_12 t0_13 t0_14 t0_15 t0_16 t0_17 t0_18 t0_19 t0_20 t0_21 t1_0 fm lx33 (lx34 + 1 : Int32))))
def S_VR_number (t0_0 : Int32) (t0_1 : Int32) (t0_2 : Int32) (t0_3 : Int32) (t0_4 : Int32) (t0_5 : Int32) (t0_6 : Int32) (t0_7 : Int32) (t0_8 : Int32) (t0_9 : Int32) (t0_10 : Int32) (t0_11 : Int32) (t0_12 : Int32) (t0_13 : Int32) (t0_14 : Int32) (t0_15 : Int32) (t0_16 : Int32) (t0_17 : Int32) (t0_18 : Int32) (t0_19 : Int32) (t0_20 : Int32) (t0_21 : Int32) (t1_0 : (Nat → Int32)) : Prop := S_VR_number_L2 t0_0 t0_1 t0_2 t0_3 t0_4 t0_5 t0_6 t0_7 t0_8 t0_9 t0_10 t0_11 t0_12 t0_13 t0_14 t0_15 t0_16 t0_17 t0_18 t0_19 t0_20 t0_21 t1_0 1000000 0 t0_7
set_option maxRecDepth 100000 in
set_option maxHeartbeats 4000000 in
theorem X_VR_number (l : Launch) (D : va_G) (g : Nat → ClassId) (q : Nat → Nat) (ws : va_W) (hI : q_I (msh g q) q ws) (t0_0 : Int32) (t0_1 : Int32) (t0_2 : Int32) (t0_3 : Int32) (t0_4 : Int32) (t0_5 : Int32) (t0_6 : Int32) (t0_7 : Int32) (t0_8 : Int32) (t0_9 : Int32) (t0_10 : Int32) (t0_11 : Int32) (t0_12 : Int32) (t0_13 : Int32) (t0_14 : Int32) (t0_15 : Int32) (t0_16 : Int32) (t0_17 : Int32) (t0_18 : Int32) (t0_19 : Int32) (t0_20 : Int32) (t0_21 : Int32) (hT0 : ws[157]? = (some (q 157, .inr (17, [.int t0_0, .ref (q 158), .int t0_1, .int t0_2, .ref (q 159), .ref (q 160), .ref (q 161), .ref (q 162), .ref (q 163), .int t0_3, .ref (q 164), .int t0_4, .int t0_5, .int t0_6, .int t0_7, .int t0_8, .int t0_9, .int t0_10, .int t0_11, .int t0_12, .int t0_13, .int t0_14, .int t0_15, .int t0_16, .ref (q 165), .int t0_17, .int t0_18, .int t0_19, .ref (q 166), .int t0_20, .int t0_21])) : Option (Nat × va_E))) (t1_0 : (Nat → Int32)) (hT1 : ws[158]? = (some (q 158, .inl (g 0, (256 : Int32).toNatClampNeg, .inl t1_0)) : Option (Nat × va_E))) (hS : True ∧ S_VR_number t0_0 t0_1 t0_2 t0_3 t0_4 t0_5 t0_6 t0_7 t0_8 t0_9 t0_10 t0_11 t0_12 t0_13 t0_14 t0_15 t0_16 t0_17 t0_18 t0_19 t0_20 t0_21 t1_0) : q_mI l y_VR_number prog_16_method_15_code 2 (.int) 3 0 0 D g [.ref (q 157)] ws (fun r u => q_I (msh g q) q u ∧ q_un ws u [157] ∧ ∃ (u0_7 : Int32), u[157]? = (some (q 157, .inr (17, [.int t0_0, .ref (q 158), .int t0_1, .int t0_2, .ref (q 159), .ref (q 160), .ref (q 161), .ref (q 162), .ref (q 163), .int t0_3, .ref (q 164), .int t0_4, .int t0_5, .int t0_6, .int u0_7, .int t0_8, .int t0_9, .int t0_10, .int t0_11, .int t0_12, .int t0_13, .int t0_14, .int t0_15, .int t0_16, .ref (q 165), .int t0_17, .int t0_18, .int t0_19, .ref (q 166), .int t0_20, .int t0_21])) : Option (Nat × va_E)) ∧ (r.toInt ≤ 9999) ∧ (r, u0_7) = (F_VR_number t0_0 t0_1 t0_2 t0_3 t0_4 t0_5 t0_6 t0_7 t0_8 t0_9 t0_10 t0_11 t0_12 t0_13 t0_14 t0_15 t0_16 t0_17 t0_18 t0_19 t0_20 t0_21 t1_0)) := by
  intro sz
  refine q_into (by decide) (Nat.le_of_ble_eq_true rfl) ?_
  intro p e s m below meth c ls hsz C0 V hl
  have hx := C0.1
  have hb := C0.2.1
  obtain ⟨btt0_1, hZ9⟩ := n_w157 hI hT0
  obtain ⟨btt0_2, hZ9⟩ := hZ9
  obtain ⟨btt0_3, hZ9⟩ := hZ9
  obtain ⟨btt0_10, btt0_19⟩ := hZ9
  replace btt0_1 : q_F (0 ≤ t0_1.toInt ∧ t0_1.toInt ≤ 256) := btt0_1
  replace btt0_2 : q_F (0 ≤ t0_2.toInt ∧ t0_2.toInt ≤ 9) := btt0_2
  replace btt0_3 : q_F (0 ≤ t0_3.toInt ∧ t0_3.toInt ≤ 4096) := btt0_3
  replace btt0_10 : q_F (0 ≤ t0_10.toInt ∧ t0_10.toInt ≤ 1) := btt0_10
  replace btt0_19 : q_F (0 ≤ t0_19.toInt ∧ t0_19.toInt ≤ 1) := btt0_19
  have hF : q_un ws ws [157] := q_u0
  have hl : lv_has ls 2 [(0, .ref (q 157))] := hl
  refine lv_iconst (v := 0) hx hb d_16_15_0 (by decide) ?_
  refine lv_istore_n (lv' := [(1, .int 0), (0, .ref (q 157))]) hx hb d_16_15_1 rfl hl (by decide) rfl (fun ls hl => ?_)
  refine q_loop (X := Nat × Int32 × Int32) (fun z H locs ls w36 => q_Wd D g (va_A ws sz) s w36 H locs ∧ lv_has ls 2 [(1, .int z.2.1), (0, .ref (q 157))] ∧ q_I (msh g q) q w36 ∧ q_un ws w36 [157] ∧ w36[157]? = (some (q 157, .inr (17, [.int t0_0, .ref (q 158), .int t0_1, .int t0_2, .ref (q 159), .ref (q 160), .ref (q 161), .ref (q 162), .ref (q 163), .int t0_3, .ref (q 164), .int t0_4, .int t0_5, .int t0_6, .int z.2.2, .int t0_8, .int t0_9, .int t0_10, .int t0_11, .int t0_12, .int t0_13, .int t0_14, .int t0_15, .int t0_16, .ref (q 165), .int t0_17, .int t0_18, .int t0_19, .ref (q 166), .int t0_20, .int t0_21])) : Option (Nat × va_E)) ∧ w36[158]? = (some (q 158, .inl (g 0, (256 : Int32).toNatClampNeg, .inl t1_0)) : Option (Nat × va_E)) ∧ F_VR_number_L2 t0_0 t0_1 t0_2 t0_3 t0_4 t0_5 t0_6 t0_7 t0_8 t0_9 t0_10 t0_11 t0_12 t0_13 t0_14 t0_15 t0_16 t0_17 t0_18 t0_19 t0_20 t0_21 t1_0 z.1 z.2.1 z.2.2 = (F_VR_number t0_0 t0_1 t0_2 t0_3 t0_4 t0_5 t0_6 t0_7 t0_8 t0_9 t0_10 t0_11 t0_12 t0_13 t0_14 t0_15 t0_16 t0_17 t0_18 t0_19 t0_20 t0_21 t1_0) ∧ True ∧ S_VR_number_L2 t0_0 t0_1 t0_2 t0_3 t0_4 t0_5 t0_6 t0_7 t0_8 t0_9 t0_10 t0_11 t0_12 t0_13 t0_14 t0_15 t0_16 t0_17 t0_18 t0_19 t0_20 t0_21 t1_0 z.1 z.2.1 z.2.2) (fun z => z.1) ?_ ((1000000 : Nat), (0 : Int32), (t0_7 : Int32)) _ _ _ ws ⟨V, q_lw hl (q_lw1 0 rfl (q_lw1 1 rfl q_lw0)), hI, hF, hT0, hT1, (show F_VR_number_L2 t0_0 t0_1 t0_2 t0_3 t0_4 t0_5 t0_6 t0_7 t0_8 t0_9 t0_10 t0_11 t0_12 t0_13 t0_14 t0_15 t0_16 t0_17 t0_18 t0_19 t0_20 t0_21 t1_0 1000000 0 t0_7 = (F_VR_number t0_0 t0_1 t0_2 t0_3 t0_4 t0_5 t0_6 t0_7 t0_8 t0_9 t0_10 t0_11 t0_12 t0_13 t0_14 t0_15 t0_16 t0_17 t0_18 t0_19 t0_20 t0_21 t1_0) from (by rw [F_VR_number.eq_1])), (show True ∧ S_VR_number_L2 t0_0 t0_1 t0_2 t0_3 t0_4 t0_5 t0_6 t0_7 t0_8 t0_9 t0_10 t0_11 t0_12 t0_13 t0_14 t0_15 t0_16 t0_17 t0_18 t0_19 t0_20 t0_21 t1_0 1000000 0 t0_7 from (by have h := hS; rw [S_VR_number.eq_1] at h; with_reducible exact h))⟩
  rintro ⟨fu41, lx33, lx34⟩ H locs ls w36 ⟨V, hl, hI, hF, hO37, hO38, hR39, hS40⟩ ih35
  obtain ⟨fm43, rfl⟩ : ∃ m, fu41 = m + 1 := Nat.exists_eq_succ_of_ne_zero (fun e => by subst e; rw [S_VR_number_L2.eq_1] at hS40; exact hS40.2)
  replace hl : lv_has ls 2 [(1, .int lx33), (0, .ref (q 157))] := hl
  replace hO37 : w36[157]? = (some (q 157, .inr (17, [.int t0_0, .ref (q 158), .int t0_1, .int t0_2, .ref (q 159), .ref (q 160), .ref (q 161), .ref (q 162), .ref (q 163), .int t0_3, .ref (q 164), .int t0_4, .int t0_5, .int t0_6, .int lx34, .int t0_8, .int t0_9, .int t0_10, .int t0_11, .int t0_12, .int t0_13, .int t0_14, .int t0_15, .int t0_16, .ref (q 165), .int t0_17, .int t0_18, .int t0_19, .ref (q 166), .int t0_20, .int t0_21])) : Option (Nat × va_E)) := hO37
  replace hO38 : w36[158]? = (some (q 158, .inl (g 0, (256 : Int32).toNatClampNeg, .inl t1_0)) : Option (Nat × va_E)) := hO38
  refine lv_aload_n hx hb d_16_15_2 rfl (lv_at hl 1 rfl) ?_
  have ob44 : True ∧ S_VR_isDigit t0_0 t0_1 t0_2 t0_3 t0_4 t0_5 t0_6 lx34 t0_8 t0_9 t0_10 t0_11 t0_12 t0_13 t0_14 t0_15 t0_16 t0_17 t0_18 t0_19 t0_20 t0_21 t1_0 := (by have h := hS40; rw [S_VR_number_L2.eq_2] at h; with_reducible exact h.2.1)
  refine q_goi V (q_runV (As := []) (rest := []) (d := 2) (mc := 0) (ms := 0) (ci := 17) C0 V rfl LV_VR_64 (X_VR_isDigit l D g q w36   hI t0_0 t0_1 t0_2 t0_3 t0_4 t0_5 t0_6 lx34 t0_8 t0_9 t0_10 t0_11 t0_12 t0_13 t0_14 t0_15 t0_16 t0_17 t0_18 t0_19 t0_20 t0_21 hO37 t1_0 hO38 ob44 _) rfl rfl hO37 rfl hl.1 rfl (Nat.le_of_ble_eq_true rfl) ⟨by decide, by decide⟩ ⟨Nat.le_of_ble_eq_true rfl, Nat.le_of_ble_eq_true rfl⟩ d_16_15_3) (fun a47 u45 H locs hp46 V => ?_)
  obtain ⟨rfl, b48, b49, hE50⟩ := hp46
  have e51 : a47 = (F_VR_isDigit t0_0 t0_1 t0_2 t0_3 t0_4 t0_5 t0_6 lx34 t0_8 t0_9 t0_10 t0_11 t0_12 t0_13 t0_14 t0_15 t0_16 t0_17 t0_18 t0_19 t0_20 t0_21 t1_0) := hE50
  clear b48
  clear b49
  refine lv_if_eq (tgt := 46) hx hb d_16_15_6 (by decide) (fun c52 => ?_) (fun c52 => ?_)
  ·
    refine lv_iload_n hx hb d_16_15_46 rfl (lv_at hl 0 rfl) ?_
    refine lv_sipush (v := 9999) hx hb d_16_15_47 (by decide) ?_
    refine lv_icmp_le (tgt := 59) hx hb d_16_15_50 (by decide) (fun c54 => ?_) (fun c54 => ?_)
    ·
      have b55 : q_F (lx33.toInt ≤ 9999) := (q_leI c54)
      refine lv_iload_n hx hb d_16_15_59 rfl (lv_at hl 0 rfl) ?_
      exact q_reti C0 V (⟨hI, hF, lx34, hO37, (show lx33.toInt ≤ 9999 from (by first | with_reducible exact q_fe b55 | (have t1 : lx33.toInt ≤ 9999 := b55; omega))), (show (lx33, lx34) = (F_VR_number t0_0 t0_1 t0_2 t0_3 t0_4 t0_5 t0_6 t0_7 t0_8 t0_9 t0_10 t0_11 t0_12 t0_13 t0_14 t0_15 t0_16 t0_17 t0_18 t0_19 t0_20 t0_21 t1_0) from Eq.trans (by have c52x := c52; rw [e51] at c52x; rw [F_VR_number_L2.eq_2, if_pos c52x, if_pos c54]) hR39)⟩) d_16_15_60
    ·
      refine lv_sipush (v := 9999) hx hb d_16_15_53 (by decide) ?_
      refine lv_goto (tgt := 60) hx hb d_16_15_56 (by decide) ?_
      exact q_reti C0 V (⟨hI, hF, lx34, hO37, (show (9999 : Int32).toInt ≤ 9999 from (by have z23 : (9999 : Int32).toInt = 9999 := rfl; omega)), (show ((9999 : Int32), lx34) = (F_VR_number t0_0 t0_1 t0_2 t0_3 t0_4 t0_5 t0_6 t0_7 t0_8 t0_9 t0_10 t0_11 t0_12 t0_13 t0_14 t0_15 t0_16 t0_17 t0_18 t0_19 t0_20 t0_21 t1_0) from Eq.trans (by have c52x := c52; rw [e51] at c52x; rw [F_VR_number_L2.eq_2, if_pos c52x, if_neg c54]) hR39)⟩) d_16_15_60
  ·
    refine lv_iload_n hx hb d_16_15_9 rfl (lv_at hl 0 rfl) ?_
    refine lv_sipush (v := 9999) hx hb d_16_15_10 (by decide) ?_
    refine lv_icmp_le (tgt := 20) hx hb d_16_15_13 (by decide) (fun c58 => ?_) (fun c58 => ?_)
    ·
      refine lv_bipush (v := 10) hx hb d_16_15_20 (by decide) ?_
      refine lv_iload_n hx hb d_16_15_22 rfl (lv_at hl 0 rfl) ?_
      refine lv_imul hx hb d_16_15_23 ?_
      obtain ⟨a60, e61⟩ := q_nm (10 * lx33 : Int32)
      refine q_ti (v := a60) e61 ?_
      refine lv_aload_n hx hb d_16_15_24 rfl (lv_at hl 1 rfl) ?_
      have ob62 : True ∧ S_VR_here t0_0 t0_1 t0_2 t0_3 t0_4 t0_5 t0_6 lx34 t0_8 t0_9 t0_10 t0_11 t0_12 t0_13 t0_14 t0_15 t0_16 t0_17 t0_18 t0_19 t0_20 t0_21 t1_0 := (by have h := hS40; rw [S_VR_number_L2.eq_2] at h; replace h := q_s2 h; have c52x := c52; rw [e51] at c52x; rw [if_neg c52x] at h; rw [if_pos c58] at h; with_reducible exact h.2.1)
      refine q_goi V (q_runV (As := []) (rest := [.int a60]) (d := 1) (mc := 0) (ms := 0) (ci := 17) C0 V rfl LV_VR_60 (X_VR_here l D g q w36   hI t0_0 t0_1 t0_2 t0_3 t0_4 t0_5 t0_6 lx34 t0_8 t0_9 t0_10 t0_11 t0_12 t0_13 t0_14 t0_15 t0_16 t0_17 t0_18 t0_19 t0_20 t0_21 hO37 t1_0 hO38 ob62 _) rfl rfl hO37 rfl hl.1 rfl (Nat.le_of_ble_eq_true rfl) ⟨by decide, by decide⟩ ⟨Nat.le_of_ble_eq_true rfl, Nat.le_of_ble_eq_true rfl⟩ d_16_15_25) (fun a65 u63 H locs hp64 V => ?_)
      obtain ⟨rfl, hE66⟩ := hp64
      have e67 : a65 = (F_VR_here t0_0 t0_1 t0_2 t0_3 t0_4 t0_5 t0_6 lx34 t0_8 t0_9 t0_10 t0_11 t0_12 t0_13 t0_14 t0_15 t0_16 t0_17 t0_18 t0_19 t0_20 t0_21 t1_0) := hE66
      refine lv_iadd hx hb d_16_15_28 ?_
      obtain ⟨a68, e69⟩ := q_nm (a60 + a65 : Int32)
      refine q_ti (v := a68) e69 ?_
      refine lv_bipush (v := 48) hx hb d_16_15_29 (by decide) ?_
      refine lv_isub hx hb d_16_15_31 ?_
      obtain ⟨a70, e71⟩ := q_nm (a68 - 48 : Int32)
      refine q_ti (v := a70) e71 ?_
      refine lv_istore_n (lv' := [(1, .int a70), (0, .ref (q 157))]) hx hb d_16_15_32 rfl hl (by decide) rfl (fun ls hl => ?_)
      refine lv_aload_n hx hb d_16_15_33 rfl (lv_at hl 1 rfl) ?_
      refine lv_dup hx hb d_16_15_34 rfl ?_
      refine q_get (ci := 17) (j := 14) (v := .int lx34) C0 V i_VR rfl rfl hO37 (by decide) w_2218 rfl d_16_15_35 ?_
      refine lv_iconst (v := 1) hx hb d_16_15_38 (by decide) ?_
      refine lv_iadd hx hb d_16_15_39 ?_
      obtain ⟨a72, e73⟩ := q_nm (lx34 + 1 : Int32)
      refine q_ti (v := a72) e73 ?_
      refine q_put (ci := 17) (j := 14) (v := .int a72) (ty := .int) C0 V i_VR o_VR n_VR rfl rfl hO37 (by decide) w_2218 rfl rfl rfl rfl (Nat.le_of_ble_eq_true rfl) d_16_15_40 (fun H locs w74 hu75 hO37 V => ?_)
      replace hO37 : w74[157]? = (some (q 157, .inr (17, [.int t0_0, .ref (q 158), .int t0_1, .int t0_2, .ref (q 159), .ref (q 160), .ref (q 161), .ref (q 162), .ref (q 163), .int t0_3, .ref (q 164), .int t0_4, .int t0_5, .int t0_6, .int a72, .int t0_8, .int t0_9, .int t0_10, .int t0_11, .int t0_12, .int t0_13, .int t0_14, .int t0_15, .int t0_16, .ref (q 165), .int t0_17, .int t0_18, .int t0_19, .ref (q 166), .int t0_20, .int t0_21])) : Option (Nat × va_E)) := hO37
      replace hI := n_p157 hI hu75 hO37 (by first | with_reducible exact q_fe btt0_1 | exact ⟨(by have t1 : 0 ≤ t0_1.toInt ∧ t0_1.toInt ≤ 256 := btt0_1; omega), (by have t1 : 0 ≤ t0_1.toInt ∧ t0_1.toInt ≤ 256 := btt0_1; omega)⟩) (by first | with_reducible exact q_fe btt0_2 | exact ⟨(by have t1 : 0 ≤ t0_2.toInt ∧ t0_2.toInt ≤ 9 := btt0_2; omega), (by have t1 : 0 ≤ t0_2.toInt ∧ t0_2.toInt ≤ 9 := btt0_2; omega)⟩) (by first | with_reducible exact q_fe btt0_3 | exact ⟨(by have t1 : 0 ≤ t0_3.toInt ∧ t0_3.toInt ≤ 4096 := btt0_3; omega), (by have t1 : 0 ≤ t0_3.toInt ∧ t0_3.toInt ≤ 4096 := btt0_3; omega)⟩) (by first | with_reducible exact q_fe btt0_10 | exact ⟨(by have t1 : 0 ≤ t0_10.toInt ∧ t0_10.toInt ≤ 1 := btt0_10; omega), (by have t1 : 0 ≤ t0_10.toInt ∧ t0_10.toInt ≤ 1 := btt0_10; omega)⟩) (by first | with_reducible exact q_fe btt0_19 | exact ⟨(by have t1 : 0 ≤ t0_19.toInt ∧ t0_19.toInt ≤ 1 := btt0_19; omega), (by have t1 : 0 ≤ t0_19.toInt ∧ t0_19.toInt ≤ 1 := btt0_19; omega)⟩)
      replace hO38 := (hu75 _ (by decide)).trans hO38
      replace hF := q_us hF hu75 (by simp)
      refine lv_goto (tgt := 2) hx hb d_16_15_43 (by decide) ?_
      exact ih35 ((fm43 : Nat), (a70 : Int32), (a72 : Int32)) _ _ _ _ (Nat.lt_succ_self _) ⟨V, q_lw hl (q_lw1 0 rfl (q_lw1 1 rfl q_lw0)), hI, hF, hO37, hO38, (show F_VR_number_L2 t0_0 t0_1 t0_2 t0_3 t0_4 t0_5 t0_6 t0_7 t0_8 t0_9 t0_10 t0_11 t0_12 t0_13 t0_14 t0_15 t0_16 t0_17 t0_18 t0_19 t0_20 t0_21 t1_0 fm43 a70 a72 = (F_VR_number t0_0 t0_1 t0_2 t0_3 t0_4 t0_5 t0_6 t0_7 t0_8 t0_9 t0_10 t0_11 t0_12 t0_13 t0_14 t0_15 t0_16 t0_17 t0_18 t0_19 t0_20 t0_21 t1_0) from Eq.trans (by have c52x := c52; rw [e51] at c52x; rw [← e73, ← e71, ← e69, e67, ← e61, F_VR_number_L2.eq_2, if_neg c52x, if_pos c58]) hR39), (show True ∧ S_VR_number_L2 t0_0 t0_1 t0_2 t0_3 t0_4 t0_5 t0_6 t0_7 t0_8 t0_9 t0_10 t0_11 t0_12 t0_13 t0_14 t0_15 t0_16 t0_17 t0_18 t0_19 t0_20 t0_21 t1_0 fm43 a70 a72 from (by rw [← e73, ← e71, ← e69, e67, ← e61]; have h := hS40; rw [S_VR_number_L2.eq_2] at h; replace h := q_s2 h; have c52x := c52; rw [e51] at c52x; rw [if_neg c52x] at h; rw [if_pos c58] at h; replace h := q_s2 h; with_reducible exact h))⟩
    ·
      refine lv_iload_n hx hb d_16_15_16 rfl (lv_at hl 0 rfl) ?_
      refine lv_goto (tgt := 32) hx hb d_16_15_17 (by decide) ?_
      refine lv_istore_n (lv' := [(1, .int lx33), (0, .ref (q 157))]) hx hb d_16_15_32 rfl hl (by decide) rfl (fun ls hl => ?_)
      refine lv_aload_n hx hb d_16_15_33 rfl (lv_at hl 1 rfl) ?_
      refine lv_dup hx hb d_16_15_34 rfl ?_
      refine q_get (ci := 17) (j := 14) (v := .int lx34) C0 V i_VR rfl rfl hO37 (by decide) w_2218 rfl d_16_15_35 ?_
      refine lv_iconst (v := 1) hx hb d_16_15_38 (by decide) ?_
      refine lv_iadd hx hb d_16_15_39 ?_
      obtain ⟨a77, e78⟩ := q_nm (lx34 + 1 : Int32)
      refine q_ti (v := a77) e78 ?_
      refine q_put (ci := 17) (j := 14) (v := .int a77) (ty := .int) C0 V i_VR o_VR n_VR rfl rfl hO37 (by decide) w_2218 rfl rfl rfl rfl (Nat.le_of_ble_eq_true rfl) d_16_15_40 (fun H locs w79 hu80 hO37 V => ?_)
      replace hO37 : w79[157]? = (some (q 157, .inr (17, [.int t0_0, .ref (q 158), .int t0_1, .int t0_2, .ref (q 159), .ref (q 160), .ref (q 161), .ref (q 162), .ref (q 163), .int t0_3, .ref (q 164), .int t0_4, .int t0_5, .int t0_6, .int a77, .int t0_8, .int t0_9, .int t0_10, .int t0_11, .int t0_12, .int t0_13, .int t0_14, .int t0_15, .int t0_16, .ref (q 165), .int t0_17, .int t0_18, .int t0_19, .ref (q 166), .int t0_20, .int t0_21])) : Option (Nat × va_E)) := hO37
      replace hI := n_p157 hI hu80 hO37 (by first | with_reducible exact q_fe btt0_1 | exact ⟨(by have t1 : 0 ≤ t0_1.toInt ∧ t0_1.toInt ≤ 256 := btt0_1; omega), (by have t1 : 0 ≤ t0_1.toInt ∧ t0_1.toInt ≤ 256 := btt0_1; omega)⟩) (by first | with_reducible exact q_fe btt0_2 | exact ⟨(by have t1 : 0 ≤ t0_2.toInt ∧ t0_2.toInt ≤ 9 := btt0_2; omega), (by have t1 : 0 ≤ t0_2.toInt ∧ t0_2.toInt ≤ 9 := btt0_2; omega)⟩) (by first | with_reducible exact q_fe btt0_3 | exact ⟨(by have t1 : 0 ≤ t0_3.toInt ∧ t0_3.toInt ≤ 4096 := btt0_3; omega), (by have t1 : 0 ≤ t0_3.toInt ∧ t0_3.toInt ≤ 4096 := btt0_3; omega)⟩) (by first | with_reducible exact q_fe btt0_10 | exact ⟨(by have t1 : 0 ≤ t0_10.toInt ∧ t0_10.toInt ≤ 1 := btt0_10; omega), (by have t1 : 0 ≤ t0_10.toInt ∧ t0_10.toInt ≤ 1 := btt0_10; omega)⟩) (by first | with_reducible exact q_fe btt0_19 | exact ⟨(by have t1 : 0 ≤ t0_19.toInt ∧ t0_19.toInt ≤ 1 := btt0_19; omega), (by have t1 : 0 ≤ t0_19.toInt ∧ t0_19.toInt ≤ 1 := btt0_19; omega)⟩)
      replace hO38 := (hu80 _ (by decide)).trans hO38
      replace hF := q_us hF hu80 (by simp)
      refine lv_goto (tgt := 2) hx hb d_16_15_43 (by decide) ?_
      exact ih35 ((fm43 : Nat), (lx33 : Int32), (a77 : Int32)) _ _ _ _ (Nat.lt_succ_self _) ⟨V, q_lw hl (q_lw1 0 rfl (q_lw1 1 rfl q_lw0)), hI, hF, hO37, hO38, (show F_VR_number_L2 t0_0 t0_1 t0_2 t0_3 t0_4 t0_5 t0_6 t0_7 t0_8 t0_9 t0_10 t0_11 t0_12 t0_13 t0_14 t0_15 t0_16 t0_17 t0_18 t0_19 t0_20 t0_21 t1_0 fm43 lx33 a77 = (F_VR_number t0_0 t0_1 t0_2 t0_3 t0_4 t0_5 t0_6 t0_7 t0_8 t0_9 t0_10 t0_11 t0_12 t0_13 t0_14 t0_15 t0_16 t0_17 t0_18 t0_19 t0_20 t0_21 t1_0) from Eq.trans (by have c52x := c52; rw [e51] at c52x; rw [← e78, F_VR_number_L2.eq_2, if_neg c52x, if_neg c58]) hR39), (show True ∧ S_VR_number_L2 t0_0 t0_1 t0_2 t0_3 t0_4 t0_5 t0_6 t0_7 t0_8 t0_9 t0_10 t0_11 t0_12 t0_13 t0_14 t0_15 t0_16 t0_17 t0_18 t0_19 t0_20 t0_21 t1_0 fm43 lx33 a77 from (by rw [← e78]; have h := hS40; rw [S_VR_number_L2.eq_2] at h; replace h := q_s2 h; have c52x := c52; rw [e51] at c52x; rw [if_neg c52x] at h; rw [if_neg c58] at h; with_reducible exact h))⟩
theorem d_16_16_0 : decode prog_16_method_16_code 0 = .ok (.iload_n 0, 1) := by decide +kernel
theorem d_16_16_1 : decode prog_16_method_16_code 1 = .ok (.bipush 45, 2) := by decide +kernel
theorem d_16_16_3 : decode prog_16_method_16_code 3 = .ok (.if_icmp .ne 7, 3) := by decide +kernel
theorem d_16_16_10 : decode prog_16_method_16_code 10 = .ok (.iload_n 0, 1) := by decide +kernel
theorem d_16_16_11 : decode prog_16_method_16_code 11 = .ok (.bipush 35, 2) := by decide +kernel
theorem d_16_16_13 : decode prog_16_method_16_code 13 = .ok (.if_icmp .ne 7, 3) := by decide +kernel
theorem d_16_16_20 : decode prog_16_method_16_code 20 = .ok (.iload_n 0, 1) := by decide +kernel
theorem d_16_16_21 : decode prog_16_method_16_code 21 = .ok (.bipush 43, 2) := by decide +kernel
theorem d_16_16_23 : decode prog_16_method_16_code 23 = .ok (.if_icmp .ne 7, 3) := by decide +kernel
theorem d_16_16_30 : decode prog_16_method_16_code 30 = .ok (.iload_n 0, 1) := by decide +kernel
theorem d_16_16_31 : decode prog_16_method_16_code 31 = .ok (.bipush 48, 2) := by decide +kernel
theorem d_16_16_33 : decode prog_16_method_16_code 33 = .ok (.if_icmp .ne 8, 3) := by decide +kernel
theorem d_16_16_41 : decode prog_16_method_16_code 41 = .ok (.iload_n 0, 1) := by decide +kernel
theorem d_16_16_42 : decode prog_16_method_16_code 42 = .ok (.bipush 44, 2) := by decide +kernel
theorem d_16_16_44 : decode prog_16_method_16_code 44 = .ok (.if_icmp .ne 8, 3) := by decide +kernel
theorem d_16_16_52 : decode prog_16_method_16_code 52 = .ok (.iload_n 0, 1) := by decide +kernel
theorem d_16_16_53 : decode prog_16_method_16_code 53 = .ok (.bipush 40, 2) := by decide +kernel
theorem d_16_16_55 : decode prog_16_method_16_code 55 = .ok (.if_icmp .ne 8, 3) := by decide +kernel
theorem d_16_16_63 : decode prog_16_method_16_code 63 = .ok (.iload_n 0, 1) := by decide +kernel
theorem d_16_16_64 : decode prog_16_method_16_code 64 = .ok (.bipush 60, 2) := by decide +kernel
theorem d_16_16_66 : decode prog_16_method_16_code 66 = .ok (.if_icmp .ne 8, 3) := by decide +kernel
theorem d_16_16_74 : decode prog_16_method_16_code 74 = .ok (.iload_n 0, 1) := by decide +kernel
theorem d_16_16_75 : decode prog_16_method_16_code 75 = .ok (.bipush 32, 2) := by decide +kernel
theorem d_16_16_77 : decode prog_16_method_16_code 77 = .ok (.if_icmp .ne 9, 3) := by decide +kernel
theorem d_16_16_86 : decode prog_16_method_16_code 86 = .ok (.iconst 0, 1) := by decide +kernel
theorem d_16_16_87 : decode prog_16_method_16_code 87 = .ok (.ireturn, 1) := by decide +kernel
theorem d_16_16_80 : decode prog_16_method_16_code 80 = .ok (.sipush 128, 3) := by decide +kernel
theorem d_16_16_83 : decode prog_16_method_16_code 83 = .ok (.goto 4, 3) := by decide +kernel
theorem d_16_16_69 : decode prog_16_method_16_code 69 = .ok (.bipush 64, 2) := by decide +kernel
theorem d_16_16_71 : decode prog_16_method_16_code 71 = .ok (.goto 16, 3) := by decide +kernel
theorem d_16_16_58 : decode prog_16_method_16_code 58 = .ok (.bipush 32, 2) := by decide +kernel
theorem d_16_16_60 : decode prog_16_method_16_code 60 = .ok (.goto 27, 3) := by decide +kernel
theorem d_16_16_47 : decode prog_16_method_16_code 47 = .ok (.bipush 16, 2) := by decide +kernel
theorem d_16_16_49 : decode prog_16_method_16_code 49 = .ok (.goto 38, 3) := by decide +kernel
theorem d_16_16_36 : decode prog_16_method_16_code 36 = .ok (.bipush 8, 2) := by decide +kernel
theorem d_16_16_38 : decode prog_16_method_16_code 38 = .ok (.goto 49, 3) := by decide +kernel
theorem d_16_16_26 : decode prog_16_method_16_code 26 = .ok (.iconst 4, 1) := by decide +kernel
theorem d_16_16_27 : decode prog_16_method_16_code 27 = .ok (.goto 60, 3) := by decide +kernel
theorem d_16_16_16 : decode prog_16_method_16_code 16 = .ok (.iconst 2, 1) := by decide +kernel
theorem d_16_16_17 : decode prog_16_method_16_code 17 = .ok (.goto 70, 3) := by decide +kernel
theorem d_16_16_6 : decode prog_16_method_16_code 6 = .ok (.iconst 1, 1) := by decide +kernel
theorem d_16_16_7 : decode prog_16_method_16_code 7 = .ok (.goto 80, 3) := by decide +kernel
def y_VR_flag : MethodName := ⟨"NumberHouseModel$DirectiveRows", "flag", "(I)I"⟩
def F_VR_flag (x1 : Int32) : Int32 := if x1 = (45 : Int32) then ((1 : Int32)) else (if x1 = (35 : Int32) then ((2 : Int32)) else (if x1 = (43 : Int32) then ((4 : Int32)) else (if x1 = (48 : Int32) then ((8 : Int32)) else (if x1 = (44 : Int32) then ((16 : Int32)) else (if x1 = (40 : Int32) then ((32 : Int32)) else (if x1 = (60 : Int32) then ((64 : Int32)) else (if x1 = (32 : Int32) then ((128 : Int32)) else ((0 : Int32)))))))))
set_option maxRecDepth 100000 in
set_option maxHeartbeats 4000000 in
theorem X_VR_flag (l : Launch) (D : va_G) (g : Nat → ClassId) (q : Nat → Nat) (ws : va_W) (x1 : Int32) (hI : q_I (msh g q) q ws) : q_mI l y_VR_flag prog_16_method_16_code 1 (.int) 1 0 0 D g [.int x1] ws (fun r u => ws = u ∧ (0 ≤ r.toInt) ∧ (r.toInt ≤ 128) ∧ r = (F_VR_flag x1)) := by
  intro sz
  refine q_into (by decide) (Nat.le_of_ble_eq_true rfl) ?_
  intro p e s m below meth c ls hsz C0 V hl
  have hx := C0.1
  have hb := C0.2.1
  have hl : lv_has ls 1 [(0, .int x1)] := hl
  refine lv_iload_n hx hb d_16_16_0 rfl (lv_at hl 0 rfl) ?_
  refine lv_bipush (v := 45) hx hb d_16_16_1 (by decide) ?_
  refine lv_icmp_ne (tgt := 10) hx hb d_16_16_3 (by decide) (fun c1 => ?_) (fun c1 => ?_)
  ·
    refine lv_iload_n hx hb d_16_16_10 rfl (lv_at hl 0 rfl) ?_
    refine lv_bipush (v := 35) hx hb d_16_16_11 (by decide) ?_
    refine lv_icmp_ne (tgt := 20) hx hb d_16_16_13 (by decide) (fun c3 => ?_) (fun c3 => ?_)
    ·
      refine lv_iload_n hx hb d_16_16_20 rfl (lv_at hl 0 rfl) ?_
      refine lv_bipush (v := 43) hx hb d_16_16_21 (by decide) ?_
      refine lv_icmp_ne (tgt := 30) hx hb d_16_16_23 (by decide) (fun c5 => ?_) (fun c5 => ?_)
      ·
        refine lv_iload_n hx hb d_16_16_30 rfl (lv_at hl 0 rfl) ?_
        refine lv_bipush (v := 48) hx hb d_16_16_31 (by decide) ?_
        refine lv_icmp_ne (tgt := 41) hx hb d_16_16_33 (by decide) (fun c7 => ?_) (fun c7 => ?_)
        ·
          refine lv_iload_n hx hb d_16_16_41 rfl (lv_at hl 0 rfl) ?_
          refine lv_bipush (v := 44) hx hb d_16_16_42 (by decide) ?_
          refine lv_icmp_ne (tgt := 52) hx hb d_16_16_44 (by decide) (fun c9 => ?_) (fun c9 => ?_)
          ·
            refine lv_iload_n hx hb d_16_16_52 rfl (lv_at hl 0 rfl) ?_
            refine lv_bipush (v := 40) hx hb d_16_16_53 (by decide) ?_
            refine lv_icmp_ne (tgt := 63) hx hb d_16_16_55 (by decide) (fun c11 => ?_) (fun c11 => ?_)
            ·
              refine lv_iload_n hx hb d_16_16_63 rfl (lv_at hl 0 rfl) ?_
              refine lv_bipush (v := 60) hx hb d_16_16_64 (by decide) ?_
              refine lv_icmp_ne (tgt := 74) hx hb d_16_16_66 (by decide) (fun c13 => ?_) (fun c13 => ?_)
              ·
                refine lv_iload_n hx hb d_16_16_74 rfl (lv_at hl 0 rfl) ?_
                refine lv_bipush (v := 32) hx hb d_16_16_75 (by decide) ?_
                refine lv_icmp_ne (tgt := 86) hx hb d_16_16_77 (by decide) (fun c15 => ?_) (fun c15 => ?_)
                ·
                  refine lv_iconst (v := 0) hx hb d_16_16_86 (by decide) ?_
                  exact q_reti C0 V (⟨rfl, (show 0 ≤ (0 : Int32).toInt from (by have z1 : (0 : Int32).toInt = 0 := rfl; omega)), (show (0 : Int32).toInt ≤ 128 from (by have z1 : (0 : Int32).toInt = 0 := rfl; omega)), (show (0 : Int32) = (F_VR_flag x1) from (by rw [F_VR_flag.eq_1, if_neg c1, if_neg c3, if_neg c5, if_neg c7, if_neg c9, if_neg c11, if_neg c13, if_neg c15]))⟩) d_16_16_87
                ·
                  refine lv_sipush (v := 128) hx hb d_16_16_80 (by decide) ?_
                  refine lv_goto (tgt := 87) hx hb d_16_16_83 (by decide) ?_
                  exact q_reti C0 V (⟨rfl, (show 0 ≤ (128 : Int32).toInt from (by have z1 : (128 : Int32).toInt = 128 := rfl; omega)), (show (128 : Int32).toInt ≤ 128 from (by have z1 : (128 : Int32).toInt = 128 := rfl; omega)), (show (128 : Int32) = (F_VR_flag x1) from (by rw [F_VR_flag.eq_1, if_neg c1, if_neg c3, if_neg c5, if_neg c7, if_neg c9, if_neg c11, if_neg c13, if_pos c15]))⟩) d_16_16_87
              ·
                refine lv_bipush (v := 64) hx hb d_16_16_69 (by decide) ?_
                refine lv_goto (tgt := 87) hx hb d_16_16_71 (by decide) ?_
                exact q_reti C0 V (⟨rfl, (show 0 ≤ (64 : Int32).toInt from (by have z1 : (64 : Int32).toInt = 64 := rfl; omega)), (show (64 : Int32).toInt ≤ 128 from (by have z1 : (64 : Int32).toInt = 64 := rfl; omega)), (show (64 : Int32) = (F_VR_flag x1) from (by rw [F_VR_flag.eq_1, if_neg c1, if_neg c3, if_neg c5, if_neg c7, if_neg c9, if_neg c11, if_pos c13]))⟩) d_16_16_87
            ·
              refine lv_bipush (v := 32) hx hb d_16_16_58 (by decide) ?_
              refine lv_goto (tgt := 87) hx hb d_16_16_60 (by decide) ?_
              exact q_reti C0 V (⟨rfl, (show 0 ≤ (32 : Int32).toInt from (by have z1 : (32 : Int32).toInt = 32 := rfl; omega)), (show (32 : Int32).toInt ≤ 128 from (by have z1 : (32 : Int32).toInt = 32 := rfl; omega)), (show (32 : Int32) = (F_VR_flag x1) from (by rw [F_VR_flag.eq_1, if_neg c1, if_neg c3, if_neg c5, if_neg c7, if_neg c9, if_pos c11]))⟩) d_16_16_87
          ·
            refine lv_bipush (v := 16) hx hb d_16_16_47 (by decide) ?_
            refine lv_goto (tgt := 87) hx hb d_16_16_49 (by decide) ?_
            exact q_reti C0 V (⟨rfl, (show 0 ≤ (16 : Int32).toInt from (by have z1 : (16 : Int32).toInt = 16 := rfl; omega)), (show (16 : Int32).toInt ≤ 128 from (by have z1 : (16 : Int32).toInt = 16 := rfl; omega)), (show (16 : Int32) = (F_VR_flag x1) from (by rw [F_VR_flag.eq_1, if_neg c1, if_neg c3, if_neg c5, if_neg c7, if_pos c9]))⟩) d_16_16_87
        ·
          refine lv_bipush (v := 8) hx hb d_16_16_36 (by decide) ?_
          refine lv_goto (tgt := 87) hx hb d_16_16_38 (by decide) ?_
          exact q_reti C0 V (⟨rfl, (show 0 ≤ (8 : Int32).toInt from (by have z1 : (8 : Int32).toInt = 8 := rfl; omega)), (show (8 : Int32).toInt ≤ 128 from (by have z1 : (8 : Int32).toInt = 8 := rfl; omega)), (show (8 : Int32) = (F_VR_flag x1) from (by rw [F_VR_flag.eq_1, if_neg c1, if_neg c3, if_neg c5, if_pos c7]))⟩) d_16_16_87
      ·
        refine lv_iconst (v := 4) hx hb d_16_16_26 (by decide) ?_
        refine lv_goto (tgt := 87) hx hb d_16_16_27 (by decide) ?_
        exact q_reti C0 V (⟨rfl, (show 0 ≤ (4 : Int32).toInt from (by have z1 : (4 : Int32).toInt = 4 := rfl; omega)), (show (4 : Int32).toInt ≤ 128 from (by have z1 : (4 : Int32).toInt = 4 := rfl; omega)), (show (4 : Int32) = (F_VR_flag x1) from (by rw [F_VR_flag.eq_1, if_neg c1, if_neg c3, if_pos c5]))⟩) d_16_16_87
    ·
      refine lv_iconst (v := 2) hx hb d_16_16_16 (by decide) ?_
      refine lv_goto (tgt := 87) hx hb d_16_16_17 (by decide) ?_
      exact q_reti C0 V (⟨rfl, (show 0 ≤ (2 : Int32).toInt from (by have z1 : (2 : Int32).toInt = 2 := rfl; omega)), (show (2 : Int32).toInt ≤ 128 from (by have z1 : (2 : Int32).toInt = 2 := rfl; omega)), (show (2 : Int32) = (F_VR_flag x1) from (by rw [F_VR_flag.eq_1, if_neg c1, if_pos c3]))⟩) d_16_16_87
  ·
    refine lv_iconst (v := 1) hx hb d_16_16_6 (by decide) ?_
    refine lv_goto (tgt := 87) hx hb d_16_16_7 (by decide) ?_
    exact q_reti C0 V (⟨rfl, (show 0 ≤ (1 : Int32).toInt from (by have z1 : (1 : Int32).toInt = 1 := rfl; omega)), (show (1 : Int32).toInt ≤ 128 from (by have z1 : (1 : Int32).toInt = 1 := rfl; omega)), (show (1 : Int32) = (F_VR_flag x1) from (by rw [F_VR_flag.eq_1, if_pos c1]))⟩) d_16_16_87
theorem d_16_17_0 : decode prog_16_method_17_code 0 = .ok (.aload_n 0, 1) := by decide +kernel
theorem d_16_17_1 : decode prog_16_method_17_code 1 = .ok (.getfield 68, 3) := by decide +kernel
set_option maxRecDepth 100000 in
theorem w_2220 : (Cond.fieldLink "NumberHouseModel$DirectiveRows" (68 : Nat) "NumberHouseModel$DirectiveRows" "flags" "I") ∈ q_tbl := q_of10 60 rfl (by decide +kernel)
theorem d_16_17_4 : decode prog_16_method_17_code 4 = .ok (.iload_n 1, 1) := by decide +kernel
theorem d_16_17_5 : decode prog_16_method_17_code 5 = .ok (.invokestatic 71, 3) := by decide +kernel
set_option maxRecDepth 100000 in
theorem w_3138 : (Cond.code ({ cls := "NumberHouseModel$DirectiveRows", name := "flag", desc := "(I)I" } : MethodName) prog_16_method_16_code (1 : Nat) (some .int)) ∈ q_tbl := q_of14 18 rfl (by decide +kernel)
set_option maxRecDepth 100000 in
theorem w_3136 : (Cond.methodLink "NumberHouseModel$DirectiveRows" (71 : Nat) ({ cls := "NumberHouseModel$DirectiveRows", name := "flag", desc := "(I)I" } : MethodName)) ∈ q_tbl := q_of14 16 rfl (by decide +kernel)
set_option maxRecDepth 100000 in
theorem w_3137 : (Cond.static ({ cls := "NumberHouseModel$DirectiveRows", name := "flag", desc := "(I)I" } : MethodName)) ∈ q_tbl := q_of14 17 rfl (by decide +kernel)
theorem LS_VR_71 : q_LS "NumberHouseModel$DirectiveRows" 71 y_VR_flag prog_16_method_16_code 1 (some .int) 1 := ⟨w_3138, w_19, w_3136, w_3137, ⟨by decide, by decide, by decide +kernel⟩⟩
theorem d_16_17_8 : decode prog_16_method_17_code 8 = .ok (.iand, 1) := by decide +kernel
theorem d_16_17_9 : decode prog_16_method_17_code 9 = .ok (.ifCond .eq 7, 3) := by decide +kernel
theorem d_16_17_16 : decode prog_16_method_17_code 16 = .ok (.iconst 0, 1) := by decide +kernel
theorem d_16_17_17 : decode prog_16_method_17_code 17 = .ok (.ireturn, 1) := by decide +kernel
theorem d_16_17_12 : decode prog_16_method_17_code 12 = .ok (.iconst 1, 1) := by decide +kernel
theorem d_16_17_13 : decode prog_16_method_17_code 13 = .ok (.goto 4, 3) := by decide +kernel
def y_VR_has : MethodName := ⟨"NumberHouseModel$DirectiveRows", "has", "(I)Z"⟩
def F_VR_has (x2 : Int32) (t0_0 : Int32) (t0_1 : Int32) (t0_2 : Int32) (t0_3 : Int32) (t0_4 : Int32) (t0_5 : Int32) (t0_6 : Int32) (t0_7 : Int32) (t0_8 : Int32) (t0_9 : Int32) (t0_10 : Int32) (t0_11 : Int32) (t0_12 : Int32) (t0_13 : Int32) (t0_14 : Int32) (t0_15 : Int32) (t0_16 : Int32) (t0_17 : Int32) (t0_18 : Int32) (t0_19 : Int32) (t0_20 : Int32) (t0_21 : Int32) : Int32 := if (t0_9 &&& ((F_VR_flag x2) : Int32) : Int32) = (0 : Int32) then ((0 : Int32)) else ((1 : Int32))
set_option maxRecDepth 100000 in
set_option maxHeartbeats 4000000 in
theorem X_VR_has (l : Launch) (D : va_G) (g : Nat → ClassId) (q : Nat → Nat) (ws : va_W) (x2 : Int32) (hI : q_I (msh g q) q ws) (t0_0 : Int32) (t0_1 : Int32) (t0_2 : Int32) (t0_3 : Int32) (t0_4 : Int32) (t0_5 : Int32) (t0_6 : Int32) (t0_7 : Int32) (t0_8 : Int32) (t0_9 : Int32) (t0_10 : Int32) (t0_11 : Int32) (t0_12 : Int32) (t0_13 : Int32) (t0_14 : Int32) (t0_15 : Int32) (t0_16 : Int32) (t0_17 : Int32) (t0_18 : Int32) (t0_19 : Int32) (t0_20 : Int32) (t0_21 : Int32) (hT0 : ws[157]? = (some (q 157, .inr (17, [.int t0_0, .ref (q 158), .int t0_1, .int t0_2, .ref (q 159), .ref (q 160), .ref (q 161), .ref (q 162), .ref (q 163), .int t0_3, .ref (q 164), .int t0_4, .int t0_5, .int t0_6, .int t0_7, .int t0_8, .int t0_9, .int t0_10, .int t0_11, .int t0_12, .int t0_13, .int t0_14, .int t0_15, .int t0_16, .ref (q 165), .int t0_17, .int t0_18, .int t0_19, .ref (q 166), .int t0_20, .int t0_21])) : Option (Nat × va_E))) : q_mI l y_VR_has prog_16_method_17_code 2 (.boolean) 2 0 0 D g [.ref (q 157), .int x2] ws (fun r u => ws = u ∧ (0 ≤ r.toInt) ∧ (r.toInt ≤ 1) ∧ r = (F_VR_has x2 t0_0 t0_1 t0_2 t0_3 t0_4 t0_5 t0_6 t0_7 t0_8 t0_9 t0_10 t0_11 t0_12 t0_13 t0_14 t0_15 t0_16 t0_17 t0_18 t0_19 t0_20 t0_21)) := by
  intro sz
  refine q_into (by decide) (Nat.le_of_ble_eq_true rfl) ?_
  intro p e s m below meth c ls hsz C0 V hl
  have hx := C0.1
  have hb := C0.2.1
  have hZ9 := (n_w157 hI hT0).2.2.2
  obtain ⟨-, btt0_19⟩ := hZ9
  clear btt0_19
  have hl : lv_has ls 2 [(0, .ref (q 157)), (1, .int x2)] := hl
  refine lv_aload_n hx hb d_16_17_0 rfl (lv_at hl 0 rfl) ?_
  refine q_get (ci := 17) (j := 16) (v := .int t0_9) C0 V i_VR rfl rfl hT0 (by decide) w_2220 rfl d_16_17_1 ?_
  refine lv_iload_n hx hb d_16_17_4 rfl (lv_at hl 1 rfl) ?_
  refine q_goi V (q_runS (As := [.int x2]) (rest := [.int t0_9]) (d := 1) (mc := 0) (ms := 0) C0 V rfl LS_VR_71 (X_VR_flag l D g q ws  x2 hI   _) rfl hl.1 rfl (Nat.le_of_ble_eq_true rfl) ⟨by decide, by decide⟩ ⟨Nat.le_of_ble_eq_true rfl, Nat.le_of_ble_eq_true rfl⟩ d_16_17_5) (fun a31 u29 H locs hp30 V => ?_)
  obtain ⟨rfl, b32, b33, hE34⟩ := hp30
  have e35 : a31 = (F_VR_flag x2) := hE34
  clear b32
  clear b33
  refine lv_iand hx hb d_16_17_8 ?_
  obtain ⟨a36, e37⟩ := q_nm (t0_9 &&& a31 : Int32)
  refine q_ti (v := a36) e37 ?_
  refine lv_if_eq (tgt := 16) hx hb d_16_17_9 (by decide) (fun c39 => ?_) (fun c39 => ?_)
  ·
    refine lv_iconst (v := 0) hx hb d_16_17_16 (by decide) ?_
    exact q_retz C0 V (by decide) (⟨rfl, (show 0 ≤ (0 : Int32).toInt from (by have z23 : (0 : Int32).toInt = 0 := rfl; omega)), (show (0 : Int32).toInt ≤ 1 from (by have z23 : (0 : Int32).toInt = 0 := rfl; omega)), (show (0 : Int32) = (F_VR_has x2 t0_0 t0_1 t0_2 t0_3 t0_4 t0_5 t0_6 t0_7 t0_8 t0_9 t0_10 t0_11 t0_12 t0_13 t0_14 t0_15 t0_16 t0_17 t0_18 t0_19 t0_20 t0_21) from (by have c39x := c39; rw [← e37, e35] at c39x; rw [F_VR_has.eq_1, if_pos c39x]))⟩) d_16_17_17
  ·
    refine lv_iconst (v := 1) hx hb d_16_17_12 (by decide) ?_
    refine lv_goto (tgt := 17) hx hb d_16_17_13 (by decide) ?_
    exact q_retz C0 V (by decide) (⟨rfl, (show 0 ≤ (1 : Int32).toInt from (by have z23 : (1 : Int32).toInt = 1 := rfl; omega)), (show (1 : Int32).toInt ≤ 1 from (by have z23 : (1 : Int32).toInt = 1 := rfl; omega)), (show (1 : Int32) = (F_VR_has x2 t0_0 t0_1 t0_2 t0_3 t0_4 t0_5 t0_6 t0_7 t0_8 t0_9 t0_10 t0_11 t0_12 t0_13 t0_14 t0_15 t0_16 t0_17 t0_18 t0_19 t0_20 t0_21) from (by have c39x := c39; rw [← e37, e35] at c39x; rw [F_VR_has.eq_1, if_neg c39x]))⟩) d_16_17_17
theorem d_16_18_0 : decode prog_16_method_18_code 0 = .ok (.aload_n 0, 1) := by decide +kernel
theorem d_16_18_1 : decode prog_16_method_18_code 1 = .ok (.iconst 0, 1) := by decide +kernel
theorem d_16_18_2 : decode prog_16_method_18_code 2 = .ok (.putfield 75, 3) := by decide +kernel
set_option maxRecDepth 100000 in
theorem w_2219 : (Cond.fieldLink "NumberHouseModel$DirectiveRows" (75 : Nat) "NumberHouseModel$DirectiveRows" "index" "I") ∈ q_tbl := q_of10 59 rfl (by decide +kernel)
theorem d_16_18_5 : decode prog_16_method_18_code 5 = .ok (.aload_n 0, 1) := by decide +kernel
theorem d_16_18_6 : decode prog_16_method_18_code 6 = .ok (.iconst 0, 1) := by decide +kernel
theorem d_16_18_7 : decode prog_16_method_18_code 7 = .ok (.putfield 68, 3) := by decide +kernel
theorem d_16_18_10 : decode prog_16_method_18_code 10 = .ok (.aload_n 0, 1) := by decide +kernel
theorem d_16_18_11 : decode prog_16_method_18_code 11 = .ok (.iconst 0, 1) := by decide +kernel
theorem d_16_18_12 : decode prog_16_method_18_code 12 = .ok (.putfield 78, 3) := by decide +kernel
set_option maxRecDepth 100000 in
theorem w_2221 : (Cond.fieldLink "NumberHouseModel$DirectiveRows" (78 : Nat) "NumberHouseModel$DirectiveRows" "twice" "Z") ∈ q_tbl := q_of10 61 rfl (by decide +kernel)
theorem d_16_18_15 : decode prog_16_method_18_code 15 = .ok (.aload_n 0, 1) := by decide +kernel
theorem d_16_18_16 : decode prog_16_method_18_code 16 = .ok (.iconst (-1), 1) := by decide +kernel
theorem d_16_18_17 : decode prog_16_method_18_code 17 = .ok (.putfield 82, 3) := by decide +kernel
set_option maxRecDepth 100000 in
theorem w_2222 : (Cond.fieldLink "NumberHouseModel$DirectiveRows" (82 : Nat) "NumberHouseModel$DirectiveRows" "width" "I") ∈ q_tbl := q_of10 62 rfl (by decide +kernel)
theorem d_16_18_20 : decode prog_16_method_18_code 20 = .ok (.aload_n 0, 1) := by decide +kernel
theorem d_16_18_21 : decode prog_16_method_18_code 21 = .ok (.iconst (-1), 1) := by decide +kernel
theorem d_16_18_22 : decode prog_16_method_18_code 22 = .ok (.putfield 85, 3) := by decide +kernel
set_option maxRecDepth 100000 in
theorem w_2223 : (Cond.fieldLink "NumberHouseModel$DirectiveRows" (85 : Nat) "NumberHouseModel$DirectiveRows" "precision" "I") ∈ q_tbl := q_of10 63 rfl (by decide +kernel)
theorem d_16_18_25 : decode prog_16_method_18_code 25 = .ok (.aload_n 0, 1) := by decide +kernel
theorem d_16_18_26 : decode prog_16_method_18_code 26 = .ok (.getfield 57, 3) := by decide +kernel
theorem d_16_18_29 : decode prog_16_method_18_code 29 = .ok (.istore_n 1, 1) := by decide +kernel
theorem d_16_18_30 : decode prog_16_method_18_code 30 = .ok (.aload_n 0, 1) := by decide +kernel
theorem d_16_18_31 : decode prog_16_method_18_code 31 = .ok (.invokevirtual 64, 3) := by decide +kernel
theorem d_16_18_86 : decode prog_16_method_18_code 86 = .ok (.aload_n 0, 1) := by decide +kernel
theorem d_16_18_87 : decode prog_16_method_18_code 87 = .ok (.invokevirtual 60, 3) := by decide +kernel
theorem d_16_18_90 : decode prog_16_method_18_code 90 = .ok (.invokestatic 71, 3) := by decide +kernel
theorem d_16_18_93 : decode prog_16_method_18_code 93 = .ok (.ifCond .eq 59, 3) := by decide +kernel
theorem d_16_18_152 : decode prog_16_method_18_code 152 = .ok (.aload_n 0, 1) := by decide +kernel
theorem d_16_18_153 : decode prog_16_method_18_code 153 = .ok (.invokevirtual 64, 3) := by decide +kernel
theorem d_16_18_167 : decode prog_16_method_18_code 167 = .ok (.aload_n 0, 1) := by decide +kernel
theorem d_16_18_168 : decode prog_16_method_18_code 168 = .ok (.invokevirtual 60, 3) := by decide +kernel
theorem d_16_18_171 : decode prog_16_method_18_code 171 = .ok (.bipush 46, 2) := by decide +kernel
theorem d_16_18_239 : decode prog_16_method_18_code 239 = .ok (.aload_n 0, 1) := by decide +kernel
theorem d_16_18_240 : decode prog_16_method_18_code 240 = .ok (.aload_n 0, 1) := by decide +kernel
theorem d_16_18_241 : decode prog_16_method_18_code 241 = .ok (.invokevirtual 60, 3) := by decide +kernel
theorem d_16_18_244 : decode prog_16_method_18_code 244 = .ok (.putfield 95, 3) := by decide +kernel
set_option maxRecDepth 100000 in
theorem w_2224 : (Cond.fieldLink "NumberHouseModel$DirectiveRows" (95 : Nat) "NumberHouseModel$DirectiveRows" "conversion" "I") ∈ q_tbl := q_of10 64 rfl (by decide +kernel)
theorem d_16_18_247 : decode prog_16_method_18_code 247 = .ok (.aload_n 0, 1) := by decide +kernel
theorem d_16_18_248 : decode prog_16_method_18_code 248 = .ok (.aload_n 0, 1) := by decide +kernel
theorem d_16_18_249 : decode prog_16_method_18_code 249 = .ok (.getfield 95, 3) := by decide +kernel
theorem d_16_18_252 : decode prog_16_method_18_code 252 = .ok (.ifCond .ge 10, 3) := by decide +kernel
theorem d_16_18_262 : decode prog_16_method_18_code 262 = .ok (.aload_n 0, 1) := by decide +kernel
theorem d_16_18_263 : decode prog_16_method_18_code 263 = .ok (.getfield 57, 3) := by decide +kernel
theorem d_16_18_266 : decode prog_16_method_18_code 266 = .ok (.iconst 1, 1) := by decide +kernel
theorem d_16_18_267 : decode prog_16_method_18_code 267 = .ok (.iadd, 1) := by decide +kernel
theorem d_16_18_268 : decode prog_16_method_18_code 268 = .ok (.putfield 57, 3) := by decide +kernel
theorem d_16_18_271 : decode prog_16_method_18_code 271 = .ok (.return_, 1) := by decide +kernel
theorem d_16_18_255 : decode prog_16_method_18_code 255 = .ok (.aload_n 0, 1) := by decide +kernel
theorem d_16_18_256 : decode prog_16_method_18_code 256 = .ok (.getfield 57, 3) := by decide +kernel
theorem d_16_18_259 : decode prog_16_method_18_code 259 = .ok (.goto 9, 3) := by decide +kernel
theorem d_16_18_173 : decode prog_16_method_18_code 173 = .ok (.if_icmp .ne 66, 3) := by decide +kernel
theorem d_16_18_176 : decode prog_16_method_18_code 176 = .ok (.aload_n 0, 1) := by decide +kernel
theorem d_16_18_177 : decode prog_16_method_18_code 177 = .ok (.getfield 57, 3) := by decide +kernel
theorem d_16_18_180 : decode prog_16_method_18_code 180 = .ok (.iconst 1, 1) := by decide +kernel
theorem d_16_18_181 : decode prog_16_method_18_code 181 = .ok (.iadd, 1) := by decide +kernel
theorem d_16_18_182 : decode prog_16_method_18_code 182 = .ok (.aload_n 0, 1) := by decide +kernel
theorem d_16_18_183 : decode prog_16_method_18_code 183 = .ok (.getfield 45, 3) := by decide +kernel
theorem d_16_18_186 : decode prog_16_method_18_code 186 = .ok (.if_icmp .ge 53, 3) := by decide +kernel
theorem d_16_18_189 : decode prog_16_method_18_code 189 = .ok (.aload_n 0, 1) := by decide +kernel
theorem d_16_18_190 : decode prog_16_method_18_code 190 = .ok (.getfield 7, 3) := by decide +kernel
theorem d_16_18_193 : decode prog_16_method_18_code 193 = .ok (.aload_n 0, 1) := by decide +kernel
theorem d_16_18_194 : decode prog_16_method_18_code 194 = .ok (.getfield 57, 3) := by decide +kernel
theorem d_16_18_197 : decode prog_16_method_18_code 197 = .ok (.iconst 1, 1) := by decide +kernel
theorem d_16_18_198 : decode prog_16_method_18_code 198 = .ok (.iadd, 1) := by decide +kernel
theorem d_16_18_199 : decode prog_16_method_18_code 199 = .ok (.iaload, 1) := by decide +kernel
theorem d_16_18_200 : decode prog_16_method_18_code 200 = .ok (.bipush 48, 2) := by decide +kernel
theorem d_16_18_202 : decode prog_16_method_18_code 202 = .ok (.if_icmp .lt 37, 3) := by decide +kernel
theorem d_16_18_205 : decode prog_16_method_18_code 205 = .ok (.aload_n 0, 1) := by decide +kernel
theorem d_16_18_206 : decode prog_16_method_18_code 206 = .ok (.getfield 7, 3) := by decide +kernel
theorem d_16_18_209 : decode prog_16_method_18_code 209 = .ok (.aload_n 0, 1) := by decide +kernel
theorem d_16_18_210 : decode prog_16_method_18_code 210 = .ok (.getfield 57, 3) := by decide +kernel
theorem d_16_18_213 : decode prog_16_method_18_code 213 = .ok (.iconst 1, 1) := by decide +kernel
theorem d_16_18_214 : decode prog_16_method_18_code 214 = .ok (.iadd, 1) := by decide +kernel
theorem d_16_18_215 : decode prog_16_method_18_code 215 = .ok (.iaload, 1) := by decide +kernel
theorem d_16_18_216 : decode prog_16_method_18_code 216 = .ok (.bipush 57, 2) := by decide +kernel
theorem d_16_18_218 : decode prog_16_method_18_code 218 = .ok (.if_icmp .gt 21, 3) := by decide +kernel
theorem d_16_18_221 : decode prog_16_method_18_code 221 = .ok (.aload_n 0, 1) := by decide +kernel
theorem d_16_18_222 : decode prog_16_method_18_code 222 = .ok (.dup, 1) := by decide +kernel
theorem d_16_18_223 : decode prog_16_method_18_code 223 = .ok (.getfield 57, 3) := by decide +kernel
theorem d_16_18_226 : decode prog_16_method_18_code 226 = .ok (.iconst 1, 1) := by decide +kernel
theorem d_16_18_227 : decode prog_16_method_18_code 227 = .ok (.iadd, 1) := by decide +kernel
theorem d_16_18_228 : decode prog_16_method_18_code 228 = .ok (.putfield 57, 3) := by decide +kernel
theorem d_16_18_231 : decode prog_16_method_18_code 231 = .ok (.aload_n 0, 1) := by decide +kernel
theorem d_16_18_232 : decode prog_16_method_18_code 232 = .ok (.aload_n 0, 1) := by decide +kernel
theorem d_16_18_233 : decode prog_16_method_18_code 233 = .ok (.invokevirtual 88, 3) := by decide +kernel
set_option maxRecDepth 100000 in
theorem w_3135 : (Cond.code ({ cls := "NumberHouseModel$DirectiveRows", name := "number", desc := "()I" } : MethodName) prog_16_method_15_code (2 : Nat) (some .int)) ∈ q_tbl := q_of14 15 rfl (by decide +kernel)
set_option maxRecDepth 100000 in
theorem w_3132 : (Cond.methodLink "NumberHouseModel$DirectiveRows" (88 : Nat) ({ cls := "NumberHouseModel$DirectiveRows", name := "number", desc := "()I" } : MethodName)) ∈ q_tbl := q_of14 12 rfl (by decide +kernel)
set_option maxRecDepth 100000 in
theorem w_3134 : (Cond.instanceMethod ({ cls := "NumberHouseModel$DirectiveRows", name := "number", desc := "()I" } : MethodName)) ∈ q_tbl := q_of14 14 rfl (by decide +kernel)
theorem ws_155 : Cond.selects "NumberHouseModel$DirectiveRows" (⟨"NumberHouseModel$DirectiveRows", "number", "()I"⟩ : MethodName) (⟨"NumberHouseModel$DirectiveRows", "number", "()I"⟩ : MethodName) ∈ q_tbl := q_ofs 155 (by decide +kernel) (by decide +kernel)
theorem LV_VR_88 : q_LV "NumberHouseModel$DirectiveRows" 88 y_VR_number prog_16_method_15_code 2 (some .int) 0 := ⟨w_3135, w_19, w_3132, w_3134, ws_155, ⟨by decide, by decide, by decide +kernel⟩⟩
theorem d_16_18_236 : decode prog_16_method_18_code 236 = .ok (.putfield 85, 3) := by decide +kernel
theorem d_16_18_156 : decode prog_16_method_18_code 156 = .ok (.ifCond .eq 11, 3) := by decide +kernel
theorem d_16_18_159 : decode prog_16_method_18_code 159 = .ok (.aload_n 0, 1) := by decide +kernel
theorem d_16_18_160 : decode prog_16_method_18_code 160 = .ok (.aload_n 0, 1) := by decide +kernel
theorem d_16_18_161 : decode prog_16_method_18_code 161 = .ok (.invokevirtual 88, 3) := by decide +kernel
theorem d_16_18_164 : decode prog_16_method_18_code 164 = .ok (.putfield 82, 3) := by decide +kernel
theorem d_16_18_96 : decode prog_16_method_18_code 96 = .ok (.aload_n 0, 1) := by decide +kernel
theorem d_16_18_97 : decode prog_16_method_18_code 97 = .ok (.aload_n 0, 1) := by decide +kernel
theorem d_16_18_98 : decode prog_16_method_18_code 98 = .ok (.getfield 78, 3) := by decide +kernel
theorem d_16_18_120 : decode prog_16_method_18_code 120 = .ok (.putfield 78, 3) := by decide +kernel
theorem d_16_18_123 : decode prog_16_method_18_code 123 = .ok (.aload_n 0, 1) := by decide +kernel
theorem d_16_18_124 : decode prog_16_method_18_code 124 = .ok (.aload_n 0, 1) := by decide +kernel
theorem d_16_18_125 : decode prog_16_method_18_code 125 = .ok (.getfield 68, 3) := by decide +kernel
theorem d_16_18_128 : decode prog_16_method_18_code 128 = .ok (.aload_n 0, 1) := by decide +kernel
theorem d_16_18_129 : decode prog_16_method_18_code 129 = .ok (.invokevirtual 60, 3) := by decide +kernel
theorem d_16_18_132 : decode prog_16_method_18_code 132 = .ok (.invokestatic 71, 3) := by decide +kernel
theorem d_16_18_135 : decode prog_16_method_18_code 135 = .ok (.ior, 1) := by decide +kernel
theorem d_16_18_136 : decode prog_16_method_18_code 136 = .ok (.putfield 68, 3) := by decide +kernel
theorem d_16_18_139 : decode prog_16_method_18_code 139 = .ok (.aload_n 0, 1) := by decide +kernel
theorem d_16_18_140 : decode prog_16_method_18_code 140 = .ok (.dup, 1) := by decide +kernel
theorem d_16_18_141 : decode prog_16_method_18_code 141 = .ok (.getfield 57, 3) := by decide +kernel
theorem d_16_18_144 : decode prog_16_method_18_code 144 = .ok (.iconst 1, 1) := by decide +kernel
theorem d_16_18_145 : decode prog_16_method_18_code 145 = .ok (.iadd, 1) := by decide +kernel
theorem d_16_18_146 : decode prog_16_method_18_code 146 = .ok (.putfield 57, 3) := by decide +kernel
theorem d_16_18_149 : decode prog_16_method_18_code 149 = .ok (.goto (-63), 3) := by decide +kernel
theorem d_16_18_115 : decode prog_16_method_18_code 115 = .ok (.iconst 1, 1) := by decide +kernel
theorem d_16_18_116 : decode prog_16_method_18_code 116 = .ok (.goto 4, 3) := by decide +kernel
theorem d_16_18_101 : decode prog_16_method_18_code 101 = .ok (.ifCond .ne 14, 3) := by decide +kernel
theorem d_16_18_104 : decode prog_16_method_18_code 104 = .ok (.aload_n 0, 1) := by decide +kernel
theorem d_16_18_105 : decode prog_16_method_18_code 105 = .ok (.aload_n 0, 1) := by decide +kernel
theorem d_16_18_106 : decode prog_16_method_18_code 106 = .ok (.invokevirtual 60, 3) := by decide +kernel
theorem d_16_18_109 : decode prog_16_method_18_code 109 = .ok (.invokevirtual 91, 3) := by decide +kernel
set_option maxRecDepth 100000 in
theorem w_3142 : (Cond.code ({ cls := "NumberHouseModel$DirectiveRows", name := "has", desc := "(I)Z" } : MethodName) prog_16_method_17_code (2 : Nat) (some .boolean)) ∈ q_tbl := q_of14 22 rfl (by decide +kernel)
set_option maxRecDepth 100000 in
theorem w_3139 : (Cond.methodLink "NumberHouseModel$DirectiveRows" (91 : Nat) ({ cls := "NumberHouseModel$DirectiveRows", name := "has", desc := "(I)Z" } : MethodName)) ∈ q_tbl := q_of14 19 rfl (by decide +kernel)
set_option maxRecDepth 100000 in
theorem w_3141 : (Cond.instanceMethod ({ cls := "NumberHouseModel$DirectiveRows", name := "has", desc := "(I)Z" } : MethodName)) ∈ q_tbl := q_of14 21 rfl (by decide +kernel)
theorem ws_156 : Cond.selects "NumberHouseModel$DirectiveRows" (⟨"NumberHouseModel$DirectiveRows", "has", "(I)Z"⟩ : MethodName) (⟨"NumberHouseModel$DirectiveRows", "has", "(I)Z"⟩ : MethodName) ∈ q_tbl := q_ofs 156 (by decide +kernel) (by decide +kernel)
theorem LV_VR_91 : q_LV "NumberHouseModel$DirectiveRows" 91 y_VR_has prog_16_method_17_code 2 (some .boolean) 1 := ⟨w_3142, w_19, w_3139, w_3141, ws_156, ⟨by decide, by decide, by decide +kernel⟩⟩
theorem d_16_18_112 : decode prog_16_method_18_code 112 = .ok (.ifCond .eq 7, 3) := by decide +kernel
theorem d_16_18_119 : decode prog_16_method_18_code 119 = .ok (.iconst 0, 1) := by decide +kernel
theorem d_16_18_34 : decode prog_16_method_18_code 34 = .ok (.ifCond .eq 52, 3) := by decide +kernel
theorem d_16_18_37 : decode prog_16_method_18_code 37 = .ok (.aload_n 0, 1) := by decide +kernel
theorem d_16_18_38 : decode prog_16_method_18_code 38 = .ok (.invokevirtual 60, 3) := by decide +kernel
theorem d_16_18_41 : decode prog_16_method_18_code 41 = .ok (.bipush 48, 2) := by decide +kernel
theorem d_16_18_43 : decode prog_16_method_18_code 43 = .ok (.if_icmp .eq 43, 3) := by decide +kernel
theorem d_16_18_46 : decode prog_16_method_18_code 46 = .ok (.aload_n 0, 1) := by decide +kernel
theorem d_16_18_47 : decode prog_16_method_18_code 47 = .ok (.aload_n 0, 1) := by decide +kernel
theorem d_16_18_48 : decode prog_16_method_18_code 48 = .ok (.invokevirtual 88, 3) := by decide +kernel
theorem d_16_18_51 : decode prog_16_method_18_code 51 = .ok (.putfield 75, 3) := by decide +kernel
theorem d_16_18_54 : decode prog_16_method_18_code 54 = .ok (.aload_n 0, 1) := by decide +kernel
theorem d_16_18_55 : decode prog_16_method_18_code 55 = .ok (.invokevirtual 60, 3) := by decide +kernel
theorem d_16_18_58 : decode prog_16_method_18_code 58 = .ok (.bipush 36, 2) := by decide +kernel
theorem d_16_18_60 : decode prog_16_method_18_code 60 = .ok (.if_icmp .ne 16, 3) := by decide +kernel
theorem d_16_18_76 : decode prog_16_method_18_code 76 = .ok (.aload_n 0, 1) := by decide +kernel
theorem d_16_18_77 : decode prog_16_method_18_code 77 = .ok (.iconst 0, 1) := by decide +kernel
theorem d_16_18_78 : decode prog_16_method_18_code 78 = .ok (.putfield 75, 3) := by decide +kernel
theorem d_16_18_81 : decode prog_16_method_18_code 81 = .ok (.aload_n 0, 1) := by decide +kernel
theorem d_16_18_82 : decode prog_16_method_18_code 82 = .ok (.iload_n 1, 1) := by decide +kernel
theorem d_16_18_83 : decode prog_16_method_18_code 83 = .ok (.putfield 57, 3) := by decide +kernel
theorem d_16_18_63 : decode prog_16_method_18_code 63 = .ok (.aload_n 0, 1) := by decide +kernel
theorem d_16_18_64 : decode prog_16_method_18_code 64 = .ok (.dup, 1) := by decide +kernel
theorem d_16_18_65 : decode prog_16_method_18_code 65 = .ok (.getfield 57, 3) := by decide +kernel
theorem d_16_18_68 : decode prog_16_method_18_code 68 = .ok (.iconst 1, 1) := by decide +kernel
theorem d_16_18_69 : decode prog_16_method_18_code 69 = .ok (.iadd, 1) := by decide +kernel
theorem d_16_18_70 : decode prog_16_method_18_code 70 = .ok (.putfield 57, 3) := by decide +kernel
theorem d_16_18_73 : decode prog_16_method_18_code 73 = .ok (.goto 13, 3) := by decide +kernel
def y_VR_take : MethodName := ⟨"NumberHouseModel$DirectiveRows", "take", "()V"⟩
def F_VR_take_J239 (K_F_VR_take_L86 : Int32 → Int32 → Int32 → (Int32 × Int32 × Int32 × Int32 × Int32 × Int32 × Int32)) (t0_0 : Int32) (t0_1 : Int32) (t0_2 : Int32) (t0_3 : Int32) (t0_4 : Int32) (t0_5 : Int32) (t0_6 : Int32) (t0_7 : Int32) (t0_8 : Int32) (t0_9 : Int32) (t0_10 : Int32) (t0_11 : Int32) (t0_12 : Int32) (t0_13 : Int32) (t0_14 : Int32) (t0_15 : Int32) (t0_16 : Int32) (t0_17 : Int32) (t0_18 : Int32) (t0_19 : Int32) (t0_20 : Int32) (t0_21 : Int32) (t1_0 : (Nat → Int32)) (lx50 : Int32) (lx51 : Int32) (lx62 : Int32) (lx63 : Int32) (lx64 : Int32) (lx100 : Int32) (lx101 : Int32) (lx118 : Int32) (lx119 : Int32) : Int32 × Int32 × Int32 × Int32 × Int32 × Int32 × Int32 := if (0 : Int32) ≤ ((F_VR_here t0_0 t0_1 t0_2 t0_3 t0_4 t0_5 t0_6 lx118 lx51 lx63 lx64 lx101 lx119 t0_13 t0_14 t0_15 t0_16 t0_17 t0_18 t0_19 t0_20 t0_21 t1_0) : Int32) then (((lx118 + 1 : Int32), lx51, lx63, lx64, lx101, lx119, ((F_VR_here t0_0 t0_1 t0_2 t0_3 t0_4 t0_5 t0_6 lx118 lx51 lx63 lx64 lx101 lx119 t0_13 t0_14 t0_15 t0_16 t0_17 t0_18 t0_19 t0_20 t0_21 t1_0) : Int32))) else ((lx118, lx51, lx63, lx64, lx101, lx119, ((F_VR_here t0_0 t0_1 t0_2 t0_3 t0_4 t0_5 t0_6 lx118 lx51 lx63 lx64 lx101 lx119 t0_13 t0_14 t0_15 t0_16 t0_17 t0_18 t0_19 t0_20 t0_21 t1_0) : Int32)))
def F_VR_take_c233 (K_F_VR_take_L86 : Int32 → Int32 → Int32 → (Int32 × Int32 × Int32 × Int32 × Int32 × Int32 × Int32)) (t0_0 : Int32) (t0_1 : Int32) (t0_2 : Int32) (t0_3 : Int32) (t0_4 : Int32) (t0_5 : Int32) (t0_6 : Int32) (t0_7 : Int32) (t0_8 : Int32) (t0_9 : Int32) (t0_10 : Int32) (t0_11 : Int32) (t0_12 : Int32) (t0_13 : Int32) (t0_14 : Int32) (t0_15 : Int32) (t0_16 : Int32) (t0_17 : Int32) (t0_18 : Int32) (t0_19 : Int32) (t0_20 : Int32) (t0_21 : Int32) (t1_0 : (Nat → Int32)) (lx50 : Int32) (lx51 : Int32) (lx62 : Int32) (lx63 : Int32) (lx64 : Int32) (lx100 : Int32) (lx101 : Int32) (p186 : (Int32 × Int32)) : Int32 × Int32 × Int32 × Int32 × Int32 × Int32 × Int32 := F_VR_take_J239 K_F_VR_take_L86 t0_0 t0_1 t0_2 t0_3 t0_4 t0_5 t0_6 t0_7 t0_8 t0_9 t0_10 t0_11 t0_12 t0_13 t0_14 t0_15 t0_16 t0_17 t0_18 t0_19 t0_20 t0_21 t1_0 lx50 lx51 lx62 lx63 lx64 lx100 lx101 (p186.2 : Int32) (p186.1 : Int32)
def F_VR_take_J167 (K_F_VR_take_L86 : Int32 → Int32 → Int32 → (Int32 × Int32 × Int32 × Int32 × Int32 × Int32 × Int32)) (t0_0 : Int32) (t0_1 : Int32) (t0_2 : Int32) (t0_3 : Int32) (t0_4 : Int32) (t0_5 : Int32) (t0_6 : Int32) (t0_7 : Int32) (t0_8 : Int32) (t0_9 : Int32) (t0_10 : Int32) (t0_11 : Int32) (t0_12 : Int32) (t0_13 : Int32) (t0_14 : Int32) (t0_15 : Int32) (t0_16 : Int32) (t0_17 : Int32) (t0_18 : Int32) (t0_19 : Int32) (t0_20 : Int32) (t0_21 : Int32) (t1_0 : (Nat → Int32)) (lx50 : Int32) (lx51 : Int32) (lx62 : Int32) (lx63 : Int32) (lx64 : Int32) (lx100 : Int32) (lx101 : Int32) : Int32 × Int32 × Int32 × Int32 × Int32 × Int32 × Int32 := if ((F_VR_here t0_0 t0_1 t0_2 t0_3 t0_4 t0_5 t0_6 lx100 lx51 lx63 lx64 lx101 (-1 : Int32) t0_13 t0_14 t0_15 t0_16 t0_17 t0_18 t0_19 t0_20 t0_21 t1_0) : Int32) = (46 : Int32) then (if t0_1 ≤ (lx100 + 1 : Int32) then (F_VR_take_J239 K_F_VR_take_L86 t0_0 t0_1 t0_2 t0_3 t0_4 t0_5 t0_6 t0_7 t0_8 t0_9 t0_10 t0_11 t0_12 t0_13 t0_14 t0_15 t0_16 t0_17 t0_18 t0_19 t0_20 t0_21 t1_0 lx50 lx51 lx62 lx63 lx64 lx100 lx101 lx100 (-1)) else (if (t1_0 (lx100 + 1 : Int32).toNatClampNeg : Int32) < (48 : Int32) then (F_VR_take_J239 K_F_VR_take_L86 t0_0 t0_1 t0_2 t0_3 t0_4 t0_5 t0_6 t0_7 t0_8 t0_9 t0_10 t0_11 t0_12 t0_13 t0_14 t0_15 t0_16 t0_17 t0_18 t0_19 t0_20 t0_21 t1_0 lx50 lx51 lx62 lx63 lx64 lx100 lx101 lx100 (-1)) else (if (57 : Int32) < (t1_0 (lx100 + 1 : Int32).toNatClampNeg : Int32) then (F_VR_take_J239 K_F_VR_take_L86 t0_0 t0_1 t0_2 t0_3 t0_4 t0_5 t0_6 t0_7 t0_8 t0_9 t0_10 t0_11 t0_12 t0_13 t0_14 t0_15 t0_16 t0_17 t0_18 t0_19 t0_20 t0_21 t1_0 lx50 lx51 lx62 lx63 lx64 lx100 lx101 lx100 (-1)) else (F_VR_take_c233 K_F_VR_take_L86 t0_0 t0_1 t0_2 t0_3 t0_4 t0_5 t0_6 t0_7 t0_8 t0_9 t0_10 t0_11 t0_12 t0_13 t0_14 t0_15 t0_16 t0_17 t0_18 t0_19 t0_20 t0_21 t1_0 lx50 lx51 lx62 lx63 lx64 lx100 lx101 ((F_VR_number t0_0 t0_1 t0_2 t0_3 t0_4 t0_5 t0_6 (lx100 + 1 : Int32) lx51 lx63 lx64 lx101 (-1 : Int32) t0_13 t0_14 t0_15 t0_16 t0_17 t0_18 t0_19 t0_20 t0_21 t1_0) : (Int32 × Int32)))))) else (F_VR_take_J239 K_F_VR_take_L86 t0_0 t0_1 t0_2 t0_3 t0_4 t0_5 t0_6 t0_7 t0_8 t0_9 t0_10 t0_11 t0_12 t0_13 t0_14 t0_15 t0_16 t0_17 t0_18 t0_19 t0_20 t0_21 t1_0 lx50 lx51 lx62 lx63 lx64 lx100 lx101 lx100 (-1))
def F_VR_take_c161 (K_F_VR_take_L86 : Int32 → Int32 → Int32 → (Int32 × Int32 × Int32 × Int32 × Int32 × Int32 × Int32)) (t0_0 : Int32) (t0_1 : Int32) (t0_2 : Int32) (t0_3 : Int32) (t0_4 : Int32) (t0_5 : Int32) (t0_6 : Int32) (t0_7 : Int32) (t0_8 : Int32) (t0_9 : Int32) (t0_10 : Int32) (t0_11 : Int32) (t0_12 : Int32) (t0_13 : Int32) (t0_14 : Int32) (t0_15 : Int32) (t0_16 : Int32) (t0_17 : Int32) (t0_18 : Int32) (t0_19 : Int32) (t0_20 : Int32) (t0_21 : Int32) (t1_0 : (Nat → Int32)) (lx50 : Int32) (lx51 : Int32) (lx62 : Int32) (lx63 : Int32) (lx64 : Int32) (p209 : (Int32 × Int32)) : Int32 × Int32 × Int32 × Int32 × Int32 × Int32 × Int32 := F_VR_take_J167 K_F_VR_take_L86 t0_0 t0_1 t0_2 t0_3 t0_4 t0_5 t0_6 t0_7 t0_8 t0_9 t0_10 t0_11 t0_12 t0_13 t0_14 t0_15 t0_16 t0_17 t0_18 t0_19 t0_20 t0_21 t1_0 lx50 lx51 lx62 lx63 lx64 (p209.2 : Int32) (p209.1 : Int32)
def F_VR_take_J120 (K_F_VR_take_L86 : Int32 → Int32 → Int32 → (Int32 × Int32 × Int32 × Int32 × Int32 × Int32 × Int32)) (t0_0 : Int32) (t0_1 : Int32) (t0_2 : Int32) (t0_3 : Int32) (t0_4 : Int32) (t0_5 : Int32) (t0_6 : Int32) (t0_7 : Int32) (t0_8 : Int32) (t0_9 : Int32) (t0_10 : Int32) (t0_11 : Int32) (t0_12 : Int32) (t0_13 : Int32) (t0_14 : Int32) (t0_15 : Int32) (t0_16 : Int32) (t0_17 : Int32) (t0_18 : Int32) (t0_19 : Int32) (t0_20 : Int32) (t0_21 : Int32) (t1_0 : (Nat → Int32)) (lx50 : Int32) (lx51 : Int32) (lx62 : Int32) (lx63 : Int32) (lx64 : Int32) (lx221 : Int32) : Int32 × Int32 × Int32 × Int32 × Int32 × Int32 × Int32 := K_F_VR_take_L86 (lx62 + 1 : Int32) (lx63 ||| ((F_VR_flag ((F_VR_here t0_0 t0_1 t0_2 t0_3 t0_4 t0_5 t0_6 lx62 lx51 lx63 lx221 (-1 : Int32) (-1 : Int32) t0_13 t0_14 t0_15 t0_16 t0_17 t0_18 t0_19 t0_20 t0_21 t1_0) : Int32)) : Int32) : Int32) lx221
def F_VR_take_J115 (K_F_VR_take_L86 : Int32 → Int32 → Int32 → (Int32 × Int32 × Int32 × Int32 × Int32 × Int32 × Int32)) (t0_0 : Int32) (t0_1 : Int32) (t0_2 : Int32) (t0_3 : Int32) (t0_4 : Int32) (t0_5 : Int32) (t0_6 : Int32) (t0_7 : Int32) (t0_8 : Int32) (t0_9 : Int32) (t0_10 : Int32) (t0_11 : Int32) (t0_12 : Int32) (t0_13 : Int32) (t0_14 : Int32) (t0_15 : Int32) (t0_16 : Int32) (t0_17 : Int32) (t0_18 : Int32) (t0_19 : Int32) (t0_20 : Int32) (t0_21 : Int32) (t1_0 : (Nat → Int32)) (lx50 : Int32) (lx51 : Int32) (lx62 : Int32) (lx63 : Int32) (lx64 : Int32) : Int32 × Int32 × Int32 × Int32 × Int32 × Int32 × Int32 := F_VR_take_J120 K_F_VR_take_L86 t0_0 t0_1 t0_2 t0_3 t0_4 t0_5 t0_6 t0_7 t0_8 t0_9 t0_10 t0_11 t0_12 t0_13 t0_14 t0_15 t0_16 t0_17 t0_18 t0_19 t0_20 t0_21 t1_0 lx50 lx51 lx62 lx63 lx64 1
def F_VR_take_L86 (t0_0 : Int32) (t0_1 : Int32) (t0_2 : Int32) (t0_3 : Int32) (t0_4 : Int32) (t0_5 : Int32) (t0_6 : Int32) (t0_7 : Int32) (t0_8 : Int32) (t0_9 : Int32) (t0_10 : Int32) (t0_11 : Int32) (t0_12 : Int32) (t0_13 : Int32) (t0_14 : Int32) (t0_15 : Int32) (t0_16 : Int32) (t0_17 : Int32) (t0_18 : Int32) (t0_19 : Int32) (t0_20 : Int32) (t0_21 : Int32) (t1_0 : (Nat → Int32)) (lx50 : Int32) (lx51 : Int32) : Nat → Int32 → Int32 → Int32 → (Int32 × Int32 × Int32 × Int32 × Int32 × Int32 × Int32)
  | 0, _, _, _ => default
  | fm + 1, lx62, lx63, lx64 => if ((F_VR_flag ((F_VR_here t0_0 t0_1 t0_2 t0_3 t0_4 t0_5 t0_6 lx62 lx51 lx63 lx64 (-1 : Int32) (-1 : Int32) t0_13 t0_14 t0_15 t0_16 t0_17 t0_18 t0_19 t0_20 t0_21 t1_0) : Int32)) : Int32) = (0 : Int32) then (if ((F_VR_isDigit t0_0 t0_1 t0_2 t0_3 t0_4 t0_5 t0_6 lx62 lx51 lx63 lx64 (-1 : Int32) (-1 : Int32) t0_13 t0_14 t0_15 t0_16 t0_17 t0_18 t0_19 t0_20 t0_21 t1_0) : Int32) = (0 : Int32) then (F_VR_take_J167 (F_VR_take_L86 t0_0 t0_1 t0_2 t0_3 t0_4 t0_5 t0_6 t0_7 t0_8 t0_9 t0_10 t0_11 t0_12 t0_13 t0_14 t0_15 t0_16 t0_17 t0_18 t0_19 t0_20 t0_21 t1_0 lx50 lx51 fm) t0_0 t0_1 t0_2 t0_3 t0_4 t0_5 t0_6 t0_7 t0_8 t0_9 t0_10 t0_11 t0_12 t0_13 t0_14 t0_15 t0_16 t0_17 t0_18 t0_19 t0_20 t0_21 t1_0 lx50 lx51 lx62 lx63 lx64 lx62 (-1)) else (F_VR_take_c161 (F_VR_take_L86 t0_0 t0_1 t0_2 t0_3 t0_4 t0_5 t0_6 t0_7 t0_8 t0_9 t0_10 t0_11 t0_12 t0_13 t0_14 t0_15 t0_16 t0_17 t0_18 t0_19 t0_20 t0_21 t1_0 lx50 lx51 fm) t0_0 t0_1 t0_2 t0_3 t0_4 t0_5 t0_6 t0_7 t0_8 t0_9 t0_10 t0_11 t0_12 t0_13 t0_14 t0_15 t0_16 t0_17 t0_18 t0_19 t0_20 t0_21 t1_0 lx50 lx51 lx62 lx63 lx64 ((F_VR_number t0_0 t0_1 t0_2 t0_3 t0_4 t0_5 t0_6 lx62 lx51 lx63 lx64 (-1 : Int32) (-1 : Int32) t0_13 t0_14 t0_15 t0_16 t0_17 t0_18 t0_19 t0_20 t0_21 t1_0) : (Int32 × Int32)))) else (if lx64 = (0 : Int32) then (if ((F_VR_has ((F_VR_here t0_0 t0_1 t0_2 t0_3 t0_4 t0_5 t0_6 lx62 lx51 lx63 lx64 (-1 : Int32) (-1 : Int32) t0_13 t0_14 t0_15 t0_16 t0_17 t0_18 t0_19 t0_20 t0_21 t1_0) : Int32) t0_0 t0_1 t0_2 t0_3 t0_4 t0_5 t0_6 lx62 lx51 lx63 lx64 (-1 : Int32) (-1 : Int32) t0_13 t0_14 t0_15 t0_16 t0_17 t0_18 t0_19 t0_20 t0_21) : Int32) = (0 : Int32) then (F_VR_take_J120 (F_VR_take_L86 t0_0 t0_1 t0_2 t0_3 t0_4 t0_5 t0_6 t0_7 t0_8 t0_9 t0_10 t0_11 t0_12 t0_13 t0_14 t0_15 t0_16 t0_17 t0_18 t0_19 t0_20 t0_21 t1_0 lx50 lx51 fm) t0_0 t0_1 t0_2 t0_3 t0_4 t0_5 t0_6 t0_7 t0_8 t0_9 t0_10 t0_11 t0_12 t0_13 t0_14 t0_15 t0_16 t0_17 t0_18 t0_19 t0_20 t0_21 t1_0 lx50 lx51 lx62 lx63 lx64 0) else (F_VR_take_J115 (F_VR_take_L86 t0_0 t0_1 t0_2 t0_3 t0_4 t0_5 t0_6 t0_7 t0_8 t0_9 t0_10 t0_11 t0_12 t0_13 t0_14 t0_15 t0_16 t0_17 t0_18 t0_19 t0_20 t0_21 t1_0 lx50 lx51 fm) t0_0 t0_1 t0_2 t0_3 t0_4 t0_5 t0_6 t0_7 t0_8 t0_9 t0_10 t0_11 t0_12 t0_13 t0_14 t0_15 t0_16 t0_17 t0_18 t0_19 t0_20 t0_21 t1_0 lx50 lx51 lx62 lx63 lx64)) else (F_VR_take_J115 (F_VR_take_L86 t0_0 t0_1 t0_2 t0_3 t0_4 t0_5 t0_6 t0_7 t0_8 t0_9 t0_10 t0_11 t0_12 t0_13 t0_14 t0_15 t0_16 t0_17 t0_18 t0_19 t0_20 t0_21 t1_0 lx50 lx51 fm) t0_0 t0_1 t0_2 t0_3 t0_4 t0_5 t0_6 t0_7 t0_8 t0_9 t0_10 t0_11 t0_12 t0_13 t0_14 t0_15 t0_16 t0_17 t0_18 t0_19 t0_20 t0_21 t1_0 lx50 lx51 lx62 lx63 lx64))
def F_VR_take_J86 (t0_0 : Int32) (t0_1 : Int32) (t0_2 : Int32) (t0_3 : Int32) (t0_4 : Int32) (t0_5 : Int32) (t0_6 : Int32) (t0_7 : Int32) (t0_8 : Int32) (t0_9 : Int32) (t0_10 : Int32) (t0_11 : Int32) (t0_12 : Int32) (t0_13 : Int32) (t0_14 : Int32) (t0_15 : Int32) (t0_16 : Int32) (t0_17 : Int32) (t0_18 : Int32) (t0_19 : Int32) (t0_20 : Int32) (t0_21 : Int32) (t1_0 : (Nat → Int32)) (lx50 : Int32) (lx51 : Int32) : Int32 × Int32 × Int32 × Int32 × Int32 × Int32 × Int32 := F_VR_take_L86 t0_0 t0_1 t0_2 t0_3 t0_4 t0_5 t0_6 t0_7 t0_8 t0_9 t0_10 t0_11 t0_12 t0_13 t0_14 t0_15 t0_16 t0_17 t0_18 t0_19 t0_20 t0_21 t1_0 lx50 lx51 1000000 lx50 0 0
def F_VR_take_c48 (t0_0 : Int32) (t0_1 : Int32) (t0_2 : Int32) (t0_3 : Int32) (t0_4 : Int32) (t0_5 : Int32) (t0_6 : Int32) (t0_7 : Int32) (t0_8 : Int32) (t0_9 : Int32) (t0_10 : Int32) (t0_11 : Int32) (t0_12 : Int32) (t0_13 : Int32) (t0_14 : Int32) (t0_15 : Int32) (t0_16 : Int32) (t0_17 : Int32) (t0_18 : Int32) (t0_19 : Int32) (t0_20 : Int32) (t0_21 : Int32) (t1_0 : (Nat → Int32)) (p304 : (Int32 × Int32)) : Int32 × Int32 × Int32 × Int32 × Int32 × Int32 × Int32 := if ((F_VR_here t0_0 t0_1 t0_2 t0_3 t0_4 t0_5 t0_6 (p304.2 : Int32) (p304.1 : Int32) (0 : Int32) (0 : Int32) (-1 : Int32) (-1 : Int32) t0_13 t0_14 t0_15 t0_16 t0_17 t0_18 t0_19 t0_20 t0_21 t1_0) : Int32) = (36 : Int32) then (F_VR_take_J86 t0_0 t0_1 t0_2 t0_3 t0_4 t0_5 t0_6 t0_7 t0_8 t0_9 t0_10 t0_11 t0_12 t0_13 t0_14 t0_15 t0_16 t0_17 t0_18 t0_19 t0_20 t0_21 t1_0 ((p304.2 : Int32) + 1 : Int32) (p304.1 : Int32)) else (F_VR_take_J86 t0_0 t0_1 t0_2 t0_3 t0_4 t0_5 t0_6 t0_7 t0_8 t0_9 t0_10 t0_11 t0_12 t0_13 t0_14 t0_15 t0_16 t0_17 t0_18 t0_19 t0_20 t0_21 t1_0 t0_7 0)
def F_VR_take (t0_0 : Int32) (t0_1 : Int32) (t0_2 : Int32) (t0_3 : Int32) (t0_4 : Int32) (t0_5 : Int32) (t0_6 : Int32) (t0_7 : Int32) (t0_8 : Int32) (t0_9 : Int32) (t0_10 : Int32) (t0_11 : Int32) (t0_12 : Int32) (t0_13 : Int32) (t0_14 : Int32) (t0_15 : Int32) (t0_16 : Int32) (t0_17 : Int32) (t0_18 : Int32) (t0_19 : Int32) (t0_20 : Int32) (t0_21 : Int32) (t1_0 : (Nat → Int32)) : Int32 × Int32 × Int32 × Int32 × Int32 × Int32 × Int32 := if ((F_VR_isDigit t0_0 t0_1 t0_2 t0_3 t0_4 t0_5 t0_6 t0_7 (0 : Int32) (0 : Int32) (0 : Int32) (-1 : Int32) (-1 : Int32) t0_13 t0_14 t0_15 t0_16 t0_17 t0_18 t0_19 t0_20 t0_21 t1_0) : Int32) = (0 : Int32) then (F_VR_take_J86 t0_0 t0_1 t0_2 t0_3 t0_4 t0_5 t0_6 t0_7 t0_8 t0_9 t0_10 t0_11 t0_12 t0_13 t0_14 t0_15 t0_16 t0_17 t0_18 t0_19 t0_20 t0_21 t1_0 t0_7 0) else (if ((F_VR_here t0_0 t0_1 t0_2 t0_3 t0_4 t0_5 t0_6 t0_7 (0 : Int32) (0 : Int32) (0 : Int32) (-1 : Int32) (-1 : Int32) t0_13 t0_14 t0_15 t0_16 t0_17 t0_18 t0_19 t0_20 t0_21 t1_0) : Int32) = (48 : Int32) then (F_VR_take_J86 t0_0 t0_1 t0_2 t0_3 t0_4 t0_5 t0_6 t0_7 t0_8 t0_9 t0_10 t0_11 t0_12 t0_13 t0_14 t0_15 t0_16 t0_17 t0_18 t0_19 t0_20 t0_21 t1_0 t0_7 0) else (F_VR_take_c48 t0_0 t0_1 t0_2 t0_3 t0_4 t0_5 t0_6 t0_7 t0_8 t0_9 t0_10 t0_11 t0_12 t0_13 t0_14 t0_15 t0_16 t0_17 t0_18 t0_19 t0_20 t0_21 t1_0 ((F_VR_number t0_0 t0_1 t0_2 t0_3 t0_4 t0_5 t0_6 t0_7 (0 : Int32) (0 : Int32) (0 : Int32) (-1 : Int32) (-1 : Int32) t0_13 t0_14 t0_15 t0_16 t0_17 t0_18 t0_19 t0_20 t0_21 t1_0) : (Int32 × Int32))))
def S_VR_take_J239 (K_S_VR_take_L86 : Int32 → Int32 → Int32 → Prop) (t0_0 : Int32) (t0_1 : Int32) (t0_2 : Int32) (t0_3 : Int32) (t0_4 : Int32) (t0_5 : Int32) (t0_6 : Int32) (t0_7 : Int32) (t0_8 : Int32) (t0_9 : Int32) (t0_10 : Int32) (t0_11 : Int32) (t0_12 : Int32) (t0_13 : Int32) (t0_14 : Int32) (t0_15 : Int32) (t0_16 : Int32) (t0_17 : Int32) (t0_18 : Int32) (t0_19 : Int32) (t0_20 : Int32) (t0_21 : Int32) (t1_0 : (Nat → Int32)) (lx50 : Int32) (lx51 : Int32) (lx62 : Int32) (lx63 : Int32) (lx64 : Int32) (lx100 : Int32) (lx101 : Int32) (lx118 : Int32) (lx119 : Int32) : Prop := (True ∧ S_VR_here t0_0 t0_1 t0_2 t0_3 t0_4 t0_5 t0_6 lx118 lx51 lx63 lx64 lx101 lx119 t0_13 t0_14 t0_15 t0_16 t0_17 t0_18 t0_19 t0_20 t0_21 t1_0) ∧ (if (0 : Int32) ≤ ((F_VR_here t0_0 t0_1 t0_2 t0_3 t0_4 t0_5 t0_6 lx118 lx51 lx63 lx64 lx101 lx119 t0_13 t0_14 t0_15 t0_16 t0_17 t0_18 t0_19 t0_20 t0_21 t1_0) : Int32) then (True) else (True))
def S_VR_take_c233 (K_S_VR_take_L86 : Int32 → Int32 → Int32 → Prop) (t0_0 : Int32) (t0_1 : Int32) (t0_2 : Int32) (t0_3 : Int32) (t0_4 : Int32) (t0_5 : Int32) (t0_6 : Int32) (t0_7 : Int32) (t0_8 : Int32) (t0_9 : Int32) (t0_10 : Int32) (t0_11 : Int32) (t0_12 : Int32) (t0_13 : Int32) (t0_14 : Int32) (t0_15 : Int32) (t0_16 : Int32) (t0_17 : Int32) (t0_18 : Int32) (t0_19 : Int32) (t0_20 : Int32) (t0_21 : Int32) (t1_0 : (Nat → Int32)) (lx50 : Int32) (lx51 : Int32) (lx62 : Int32) (lx63 : Int32) (lx64 : Int32) (lx100 : Int32) (lx101 : Int32) (p186 : (Int32 × Int32)) : Prop := S_VR_take_J239 K_S_VR_take_L86 t0_0 t0_1 t0_2 t0_3 t0_4 t0_5 t0_6 t0_7 t0_8 t0_9 t0_10 t0_11 t0_12 t0_13 t0_14 t0_15 t0_16 t0_17 t0_18 t0_19 t0_20 t0_21 t1_0 lx50 lx51 lx62 lx63 lx64 lx100 lx101 (p186.2 : Int32) (p186.1 : Int32)
def S_VR_take_J167 (K_S_VR_take_L86 : Int32 → Int32 → Int32 → Prop) (t0_0 : Int32) (t0_1 : Int32) (t0_2 : Int32) (t0_3 : Int32) (t0_4 : Int32) (t0_5 : Int32) (t0_6 : Int32) (t0_7 : Int32) (t0_8 : Int32) (t0_9 : Int32) (t0_10 : Int32) (t0_11 : Int32) (t0_12 : Int32) (t0_13 : Int32) (t0_14 : Int32) (t0_15 : Int32) (t0_16 : Int32) (t0_17 : Int32) (t0_18 : Int32) (t0_19 : Int32) (t0_20 : Int32) (t0_21 : Int32) (t1_0 : (Nat → Int32)) (lx50 : Int32) (lx51 : Int32) (lx62 : Int32) (lx63 : Int32) (lx64 : Int32) (lx100 : Int32) (lx101 : Int32) : Prop := (True ∧ S_VR_here t0_0 t0_1 t0_2 t0_3 t0_4 t0_5 t0_6 lx100 lx51 lx63 lx64 lx101 (-1 : Int32) t0_13 t0_14 t0_15 t0_16 t0_17 t0_18 t0_19 t0_20 t0_21 t1_0) ∧ (if ((F_VR_here t0_0 t0_1 t0_2 t0_3 t0_4 t0_5 t0_6 lx100 lx51 lx63 lx64 lx101 (-1 : Int32) t0_13 t0_14 t0_15 t0_16 t0_17 t0_18 t0_19 t0_20 t0_21 t1_0) : Int32) = (46 : Int32) then (if t0_1 ≤ (lx100 + 1 : Int32) then (S_VR_take_J239 K_S_VR_take_L86 t0_0 t0_1 t0_2 t0_3 t0_4 t0_5 t0_6 t0_7 t0_8 t0_9 t0_10 t0_11 t0_12 t0_13 t0_14 t0_15 t0_16 t0_17 t0_18 t0_19 t0_20 t0_21 t1_0 lx50 lx51 lx62 lx63 lx64 lx100 lx101 lx100 (-1)) else ((0 ≤ (lx100 + 1 : Int32).toInt) ∧ (((lx100 + 1 : Int32).toInt ≤ 255) ∧ (if (t1_0 (lx100 + 1 : Int32).toNatClampNeg : Int32) < (48 : Int32) then (S_VR_take_J239 K_S_VR_take_L86 t0_0 t0_1 t0_2 t0_3 t0_4 t0_5 t0_6 t0_7 t0_8 t0_9 t0_10 t0_11 t0_12 t0_13 t0_14 t0_15 t0_16 t0_17 t0_18 t0_19 t0_20 t0_21 t1_0 lx50 lx51 lx62 lx63 lx64 lx100 lx101 lx100 (-1)) else ((0 ≤ (lx100 + 1 : Int32).toInt) ∧ (((lx100 + 1 : Int32).toInt ≤ 255) ∧ (if (57 : Int32) < (t1_0 (lx100 + 1 : Int32).toNatClampNeg : Int32) then (S_VR_take_J239 K_S_VR_take_L86 t0_0 t0_1 t0_2 t0_3 t0_4 t0_5 t0_6 t0_7 t0_8 t0_9 t0_10 t0_11 t0_12 t0_13 t0_14 t0_15 t0_16 t0_17 t0_18 t0_19 t0_20 t0_21 t1_0 lx50 lx51 lx62 lx63 lx64 lx100 lx101 lx100 (-1)) else ((True ∧ S_VR_number t0_0 t0_1 t0_2 t0_3 t0_4 t0_5 t0_6 (lx100 + 1 : Int32) lx51 lx63 lx64 lx101 (-1 : Int32) t0_13 t0_14 t0_15 t0_16 t0_17 t0_18 t0_19 t0_20 t0_21 t1_0) ∧ (S_VR_take_c233 K_S_VR_take_L86 t0_0 t0_1 t0_2 t0_3 t0_4 t0_5 t0_6 t0_7 t0_8 t0_9 t0_10 t0_11 t0_12 t0_13 t0_14 t0_15 t0_16 t0_17 t0_18 t0_19 t0_20 t0_21 t1_0 lx50 lx51 lx62 lx63 lx64 lx100 lx101 ((F_VR_number t0_0 t0_1 t0_2 t0_3 t0_4 t0_5 t0_6 (lx100 + 1 : Int32) lx51 lx63 lx64 lx101 (-1 : Int32) t0_13 t0_14 t0_15 t0_16 t0_17 t0_18 t0_19 t0_20 t0_21 t1_0) : (Int32 × Int32))))))))))) else (S_VR_take_J239 K_S_VR_take_L86 t0_0 t0_1 t0_2 t0_3 t0_4 t0_5 t0_6 t0_7 t0_8 t0_9 t0_10 t0_11 t0_12 t0_13 t0_14 t0_15 t0_16 t0_17 t0_18 t0_19 t0_20 t0_21 t1_0 lx50 lx51 lx62 lx63 lx64 lx100 lx101 lx100 (-1)))
def S_VR_take_c161 (K_S_VR_take_L86 : Int32 → Int32 → Int32 → Prop) (t0_0 : Int32) (t0_1 : Int32) (t0_2 : Int32) (t0_3 : Int32) (t0_4 : Int32) (t0_5 : Int32) (t0_6 : Int32) (t0_7 : Int32) (t0_8 : Int32) (t0_9 : Int32) (t0_10 : Int32) (t0_11 : Int32) (t0_12 : Int32) (t0_13 : Int32) (t0_14 : Int32) (t0_15 : Int32) (t0_16 : Int32) (t0_17 : Int32) (t0_18 : Int32) (t0_19 : Int32) (t0_20 : Int32) (t0_21 : Int32) (t1_0 : (Nat → Int32)) (lx50 : Int32) (lx51 : Int32) (lx62 : Int32) (lx63 : Int32) (lx64 : Int32) (p209 : (Int32 × Int32)) : Prop := S_VR_take_J167 K_S_VR_take_L86 t0_0 t0_1 t0_2 t0_3 t0_4 t0_5 t0_6 t0_7 t0_8 t0_9 t0_10 t0_11 t0_12 t0_13 t0_14 t0_15 t0_16 t0_17 t0_18 t0_19 t0_20 t0_21 t1_0 lx50 lx51 lx62 lx63 lx64 (p209.2 : Int32) (p209.1 : Int32)
def S_VR_take_J120 (K_S_VR_take_L86 : Int32 → Int32 → Int32 → Prop) (t0_0 : Int32) (t0_1 : Int32) (t0_2 : Int32) (t0_3 : Int32) (t0_4 : Int32) (t0_5 : Int32) (t0_6 : Int32) (t0_7 : Int32) (t0_8 : Int32) (t0_9 : Int32) (t0_10 : Int32) (t0_11 : Int32) (t0_12 : Int32) (t0_13 : Int32) (t0_14 : Int32) (t0_15 : Int32) (t0_16 : Int32) (t0_17 : Int32) (t0_18 : Int32) (t0_19 : Int32) (t0_20 : Int32) (t0_21 : Int32) (t1_0 : (Nat → Int32)) (lx50 : Int32) (lx51 : Int32) (lx62 : Int32) (lx63 : Int32) (lx64 : Int32) (lx221 : Int32) : Prop := (True ∧ S_VR_here t0_0 t0_1 t0_2 t0_3 t0_4 t0_5 t0_6 lx62 lx51 lx63 lx221 (-1 : Int32) (-1 : Int32) t0_13 t0_14 t0_15 t0_16 t0_17 t0_18 t0_19 t0_20 t0_21 t1_0) ∧ (K_S_VR_take_L86 (lx62 + 1 : Int32) (lx63 ||| ((F_VR_flag ((F_VR_here t0_0 t0_1 t0_2 t0_3 t0_4 t0_5 t0_6 lx62 lx51 lx63 lx221 (-1 : Int32) (-1 : Int32) t0_13 t0_14 t0_15 t0_16 t0_17 t0_18 t0_19 t0_20 t0_21 t1_0) : Int32)) : Int32) : Int32) lx221)
def S_VR_take_J115 (K_S_VR_take_L86 : Int32 → Int32 → Int32 → Prop) (t0_0 : Int32) (t0_1 : Int32) (t0_2 : Int32) (t0_3 : Int32) (t0_4 : Int32) (t0_5 : Int32) (t0_6 : Int32) (t0_7 : Int32) (t0_8 : Int32) (t0_9 : Int32) (t0_10 : Int32) (t0_11 : Int32) (t0_12 : Int32) (t0_13 : Int32) (t0_14 : Int32) (t0_15 : Int32) (t0_16 : Int32) (t0_17 : Int32) (t0_18 : Int32) (t0_19 : Int32) (t0_20 : Int32) (t0_21 : Int32) (t1_0 : (Nat → Int32)) (lx50 : Int32) (lx51 : Int32) (lx62 : Int32) (lx63 : Int32) (lx64 : Int32) : Prop := S_VR_take_J120 K_S_VR_take_L86 t0_0 t0_1 t0_2 t0_3 t0_4 t0_5 t0_6 t0_7 t0_8 t0_9 t0_10 t0_11 t0_12 t0_13 t0_14 t0_15 t0_16 t0_17 t0_18 t0_19 t0_20 t0_21 t1_0 lx50 lx51 lx62 lx63 lx64 1
def S_VR_take_L86 (t0_0 : Int32) (t0_1 : Int32) (t0_2 : Int32) (t0_3 : Int32) (t0_4 : Int32) (t0_5 : Int32) (t0_6 : Int32) (t0_7 : Int32) (t0_8 : Int32) (t0_9 : Int32) (t0_10 : Int32) (t0_11 : Int32) (t0_12 : Int32) (t0_13 : Int32) (t0_14 : Int32) (t0_15 : Int32) (t0_16 : Int32) (t0_17 : Int32) (t0_18 : Int32) (t0_19 : Int32) (t0_20 : Int32) (t0_21 : Int32) (t1_0 : (Nat → Int32)) (lx50 : Int32) (lx51 : Int32) : Nat → Int32 → Int32 → Int32 → Prop
  | 0, _, _, _ => False
  | fm + 1, lx62, lx63, lx64 => (True ∧ S_VR_here t0_0 t0_1 t0_2 t0_3 t0_4 t0_5 t0_6 lx62 lx51 lx63 lx64 (-1 : Int32) (-1 : Int32) t0_13 t0_14 t0_15 t0_16 t0_17 t0_18 t0_19 t0_20 t0_21 t1_0) ∧ (if ((F_VR_flag ((F_VR_here t0_0 t0_1 t0_2 t0_3 t0_4 t0_5 t0_6 lx62 lx51 lx63 lx64 (-1 : Int32) (-1 : Int32) t0_13 t0_14 t0_15 t0_16 t0_17 t0_18 t0_19 t0_20 t0_21 t1_0) : Int32)) : Int32) = (0 : Int32) then ((True ∧ S_VR_isDigit t0_0 t0_1 t0_2 t0_3 t0_4 t0_5 t0_6 lx62 lx51 lx63 lx64 (-1 : Int32) (-1 : Int32) t0_13 t0_14 t0_15 t0_16 t0_17 t0_18 t0_19 t0_20 t0_21 t1_0) ∧ (if ((F_VR_isDigit t0_0 t0_1 t0_2 t0_3 t0_4 t0_5 t0_6 lx62 lx51 lx63 lx64 (-1 : Int32) (-1 : Int32) t0_13 t0_14 t0_15 t0_16 t0_17 t0_18 t0_19 t0_20 t0_21 t1_0) : Int32) = (0 : Int32) then (S_VR_take_J167 (S_VR_take_L86 t0_0 t0_1 t0_2 t0_3 t0_4 t0_5 t0_6 t0_7 t0_8 t0_9 t0_10 t0_11 t0_12 t0_13 t0_14 t0_15 t0_16 t0_17 t0_18 t0_19 t0_20 t0_21 t1_0 lx50 lx51 fm) t0_0 t0_1 t0_2 t0_3 t0_4 t0_5 t0_6 t0_7 t0_8 t0_9 t0_10 t0_11 t0_12 t0_13 t0_14 t0_15 t0_16 t0_17 t0_18 t0_19 t0_20 t0_21 t1_0 lx50 lx51 lx62 lx63 lx64 lx62 (-1)) else ((True ∧ S_VR_number t0_0 t0_1 t0_2 t0_3 t0_4 t0_5 t0_6 lx62 lx51 lx63 lx64 (-1 : Int32) (-1 : Int32) t0_13 t0_14 t0_15 t0_16 t0_17 t0_18 t0_19 t0_20 t0_21 t1_0) ∧ (S_VR_take_c161 (S_VR_take_L86 t0_0 t0_1 t0_2 t0_3 t0_4 t0_5 t0_6 t0_7 t0_8 t0_9 t0_10 t0_11 t0_12 t0_13 t0_14 t0_15 t0_16 t0_17 t0_18 t0_19 t0_20 t0_21 t1_0 lx50 lx51 fm) t0_0 t0_1 t0_2 t0_3 t0_4 t0_5 t0_6 t0_7 t0_8 t0_9 t0_10 t0_11 t0_12 t0_13 t0_14 t0_15 t0_16 t0_17 t0_18 t0_19 t0_20 t0_21 t1_0 lx50 lx51 lx62 lx63 lx64 ((F_VR_number t0_0 t0_1 t0_2 t0_3 t0_4 t0_5 t0_6 lx62 lx51 lx63 lx64 (-1 : Int32) (-1 : Int32) t0_13 t0_14 t0_15 t0_16 t0_17 t0_18 t0_19 t0_20 t0_21 t1_0) : (Int32 × Int32)))))) else (if lx64 = (0 : Int32) then ((True ∧ S_VR_here t0_0 t0_1 t0_2 t0_3 t0_4 t0_5 t0_6 lx62 lx51 lx63 lx64 (-1 : Int32) (-1 : Int32) t0_13 t0_14 t0_15 t0_16 t0_17 t0_18 t0_19 t0_20 t0_21 t1_0) ∧ (if ((F_VR_has ((F_VR_here t0_0 t0_1 t0_2 t0_3 t0_4 t0_5 t0_6 lx62 lx51 lx63 lx64 (-1 : Int32) (-1 : Int32) t0_13 t0_14 t0_15 t0_16 t0_17 t0_18 t0_19 t0_20 t0_21 t1_0) : Int32) t0_0 t0_1 t0_2 t0_3 t0_4 t0_5 t0_6 lx62 lx51 lx63 lx64 (-1 : Int32) (-1 : Int32) t0_13 t0_14 t0_15 t0_16 t0_17 t0_18 t0_19 t0_20 t0_21) : Int32) = (0 : Int32) then (S_VR_take_J120 (S_VR_take_L86 t0_0 t0_1 t0_2 t0_3 t0_4 t0_5 t0_6 t0_7 t0_8 t0_9 t0_10 t0_11 t0_12 t0_13 t0_14 t0_15 t0_16 t0_17 t0_18 t0_19 t0_20 t0_21 t1_0 lx50 lx51 fm) t0_0 t0_1 t0_2 t0_3 t0_4 t0_5 t0_6 t0_7 t0_8 t0_9 t0_10 t0_11 t0_12 t0_13 t0_14 t0_15 t0_16 t0_17 t0_18 t0_19 t0_20 t0_21 t1_0 lx50 lx51 lx62 lx63 lx64 0) else (S_VR_take_J115 (S_VR_take_L86 t0_0 t0_1 t0_2 t0_3 t0_4 t0_5 t0_6 t0_7 t0_8 t0_9 t0_10 t0_11 t0_12 t0_13 t0_14 t0_15 t0_16 t0_17 t0_18 t0_19 t0_20 t0_21 t1_0 lx50 lx51 fm) t0_0 t0_1 t0_2 t0_3 t0_4 t0_5 t0_6 t0_7 t0_8 t0_9 t0_10 t0_11 t0_12 t0_13 t0_14 t0_15 t0_16 t0_17 t0_18 t0_19 t0_20 t0_21 t1_0 lx50 lx51 lx62 lx63 lx64))) else (S_VR_take_J115 (S_VR_take_L86 t0_0 t0_1 t0_2 t0_3 t0_4 t0_5 t0_6 t0_7 t0_8 t0_9 t0_10 t0_11 t0_12 t0_13 t0_14 t0_15 t0_16 t0_17 t0_18 t0_19 t0_20 t0_21 t1_0 lx50 lx51 fm) t0_0 t0_1 t0_2 t0_3 t0_4 t0_5 t0_6 t0_7 t0_8 t0_9 t0_10 t0_11 t0_12 t0_13 t0_14 t0_15 t0_16 t0_17 t0_18 t0_19 t0_20 t0_21 t1_0 lx50 lx51 lx62 lx63 lx64)))
def S_VR_take_J86 (t0_0 : Int32) (t0_1 : Int32) (t0_2 : Int32) (t0_3 : Int32) (t0_4 : Int32) (t0_5 : Int32) (t0_6 : Int32) (t0_7 : Int32) (t0_8 : Int32) (t0_9 : Int32) (t0_10 : Int32) (t0_11 : Int32) (t0_12 : Int32) (t0_13 : Int32) (t0_14 : Int32) (t0_15 : Int32) (t0_16 : Int32) (t0_17 : Int32) (t0_18 : Int32) (t0_19 : Int32) (t0_20 : Int32) (t0_21 : Int32) (t1_0 : (Nat → Int32)) (lx50 : Int32) (lx51 : Int32) : Prop := S_VR_take_L86 t0_0 t0_1 t0_2 t0_3 t0_4 t0_5 t0_6 t0_7 t0_8 t0_9 t0_10 t0_11 t0_12 t0_13 t0_14 t0_15 t0_16 t0_17 t0_18 t0_19 t0_20 t0_21 t1_0 lx50 lx51 1000000 lx50 0 0
def S_VR_take_c48 (t0_0 : Int32) (t0_1 : Int32) (t0_2 : Int32) (t0_3 : Int32) (t0_4 : Int32) (t0_5 : Int32) (t0_6 : Int32) (t0_7 : Int32) (t0_8 : Int32) (t0_9 : Int32) (t0_10 : Int32) (t0_11 : Int32) (t0_12 : Int32) (t0_13 : Int32) (t0_14 : Int32) (t0_15 : Int32) (t0_16 : Int32) (t0_17 : Int32) (t0_18 : Int32) (t0_19 : Int32) (t0_20 : Int32) (t0_21 : Int32) (t1_0 : (Nat → Int32)) (p304 : (Int32 × Int32)) : Prop := (True ∧ S_VR_here t0_0 t0_1 t0_2 t0_3 t0_4 t0_5 t0_6 (p304.2 : Int32) (p304.1 : Int32) (0 : Int32) (0 : Int32) (-1 : Int32) (-1 : Int32) t0_13 t0_14 t0_15 t0_16 t0_17 t0_18 t0_19 t0_20 t0_21 t1_0) ∧ (if ((F_VR_here t0_0 t0_1 t0_2 t0_3 t0_4 t0_5 t0_6 (p304.2 : Int32) (p304.1 : Int32) (0 : Int32) (0 : Int32) (-1 : Int32) (-1 : Int32) t0_13 t0_14 t0_15 t0_16 t0_17 t0_18 t0_19 t0_20 t0_21 t1_0) : Int32) = (36 : Int32) then (S_VR_take_J86 t0_0 t0_1 t0_2 t0_3 t0_4 t0_5 t0_6 t0_7 t0_8 t0_9 t0_10 t0_11 t0_12 t0_13 t0_14 t0_15 t0_16 t0_17 t0_18 t0_19 t0_20 t0_21 t1_0 ((p304.2 : Int32) + 1 : Int32) (p304.1 : Int32)) else (S_VR_take_J86 t0_0 t0_1 t0_2 t0_3 t0_4 t0_5 t0_6 t0_7 t0_8 t0_9 t0_10 t0_11 t0_12 t0_13 t0_14 t0_15 t0_16 t0_17 t0_18 t0_19 t0_20 t0_21 t1_0 t0_7 0))
def S_VR_take (t0_0 : Int32) (t0_1 : Int32) (t0_2 : Int32) (t0_3 : Int32) (t0_4 : Int32) (t0_5 : Int32) (t0_6 : Int32) (t0_7 : Int32) (t0_8 : Int32) (t0_9 : Int32) (t0_10 : Int32) (t0_11 : Int32) (t0_12 : Int32) (t0_13 : Int32) (t0_14 : Int32) (t0_15 : Int32) (t0_16 : Int32) (t0_17 : Int32) (t0_18 : Int32) (t0_19 : Int32) (t0_20 : Int32) (t0_21 : Int32) (t1_0 : (Nat → Int32)) : Prop := (True ∧ S_VR_isDigit t0_0 t0_1 t0_2 t0_3 t0_4 t0_5 t0_6 t0_7 (0 : Int32) (0 : Int32) (0 : Int32) (-1 : Int32) (-1 : Int32) t0_13 t0_14 t0_15 t0_16 t0_17 t0_18 t0_19 t0_20 t0_21 t1_0) ∧ (if ((F_VR_isDigit t0_0 t0_1 t0_2 t0_3 t0_4 t0_5 t0_6 t0_7 (0 : Int32) (0 : Int32) (0 : Int32) (-1 : Int32) (-1 : Int32) t0_13 t0_14 t0_15 t0_16 t0_17 t0_18 t0_19 t0_20 t0_21 t1_0) : Int32) = (0 : Int32) then (S_VR_take_J86 t0_0 t0_1 t0_2 t0_3 t0_4 t0_5 t0_6 t0_7 t0_8 t0_9 t0_10 t0_11 t0_12 t0_13 t0_14 t0_15 t0_16 t0_17 t0_18 t0_19 t0_20 t0_21 t1_0 t0_7 0) else ((True ∧ S_VR_here t0_0 t0_1 t0_2 t0_3 t0_4 t0_5 t0_6 t0_7 (0 : Int32) (0 : Int32) (0 : Int32) (-1 : Int32) (-1 : Int32) t0_13 t0_14 t0_15 t0_16 t0_17 t0_18 t0_19 t0_20 t0_21 t1_0) ∧ (if ((F_VR_here t0_0 t0_1 t0_2 t0_3 t0_4 t0_5 t0_6 t0_7 (0 : Int32) (0 : Int32) (0 : Int32) (-1 : Int32) (-1 : Int32) t0_13 t0_14 t0_15 t0_16 t0_17 t0_18 t0_19 t0_20 t0_21 t1_0) : Int32) = (48 : Int32) then (S_VR_take_J86 t0_0 t0_1 t0_2 t0_3 t0_4 t0_5 t0_6 t0_7 t0_8 t0_9 t0_10 t0_11 t0_12 t0_13 t0_14 t0_15 t0_16 t0_17 t0_18 t0_19 t0_20 t0_21 t1_0 t0_7 0) else ((True ∧ S_VR_number t0_0 t0_1 t0_2 t0_3 t0_4 t0_5 t0_6 t0_7 (0 : Int32) (0 : Int32) (0 : Int32) (-1 : Int32) (-1 : Int32) t0_13 t0_14 t0_15 t0_16 t0_17 t0_18 t0_19 t0_20 t0_21 t1_0) ∧ (S_VR_take_c48 t0_0 t0_1 t0_2 t0_3 t0_4 t0_5 t0_6 t0_7 t0_8 t0_9 t0_10 t0_11 t0_12 t0_13 t0_14 t0_15 t0_16 t0_17 t0_18 t0_19 t0_20 t0_21 t1_0 ((F_VR_number t0_0 t0_1 t0_2 t0_3 t0_4 t0_5 t0_6 t0_7 (0 : Int32) (0 : Int32) (0 : Int32) (-1 : Int32) (-1 : Int32) t0_13 t0_14 t0_15 t0_16 t0_17 t0_18 t0_19 t0_20 t0_21 t1_0) : (Int32 × Int32)))))))
set_option maxRecDepth 100000 in
set_option maxHeartbeats 4000000 in
theorem X_VR_take (l : Launch) (D : va_G) (g : Nat → ClassId) (q : Nat → Nat) (ws : va_W) (hI : q_I (msh g q) q ws) (t0_0 : Int32) (t0_1 : Int32) (t0_2 : Int32) (t0_3 : Int32) (t0_4 : Int32) (t0_5 : Int32) (t0_6 : Int32) (t0_7 : Int32) (t0_8 : Int32) (t0_9 : Int32) (t0_10 : Int32) (t0_11 : Int32) (t0_12 : Int32) (t0_13 : Int32) (t0_14 : Int32) (t0_15 : Int32) (t0_16 : Int32) (t0_17 : Int32) (t0_18 : Int32) (t0_19 : Int32) (t0_20 : Int32) (t0_21 : Int32) (hT0 : ws[157]? = (some (q 157, .inr (17, [.int t0_0, .ref (q 158), .int t0_1, .int t0_2, .ref (q 159), .ref (q 160), .ref (q 161), .ref (q 162), .ref (q 163), .int t0_3, .ref (q 164), .int t0_4, .int t0_5, .int t0_6, .int t0_7, .int t0_8, .int t0_9, .int t0_10, .int t0_11, .int t0_12, .int t0_13, .int t0_14, .int t0_15, .int t0_16, .ref (q 165), .int t0_17, .int t0_18, .int t0_19, .ref (q 166), .int t0_20, .int t0_21])) : Option (Nat × va_E))) (t1_0 : (Nat → Int32)) (hT1 : ws[158]? = (some (q 158, .inl (g 0, (256 : Int32).toNatClampNeg, .inl t1_0)) : Option (Nat × va_E))) (hS : True ∧ S_VR_take t0_0 t0_1 t0_2 t0_3 t0_4 t0_5 t0_6 t0_7 t0_8 t0_9 t0_10 t0_11 t0_12 t0_13 t0_14 t0_15 t0_16 t0_17 t0_18 t0_19 t0_20 t0_21 t1_0) : q_mV l y_VR_take prog_16_method_18_code 2 4 0 0 D g [.ref (q 157)] ws (fun u => q_I (msh g q) q u ∧ q_un ws u [157] ∧ ∃ (u0_7 : Int32) (u0_8 : Int32) (u0_9 : Int32) (u0_10 : Int32) (u0_11 : Int32) (u0_12 : Int32) (u0_13 : Int32), u[157]? = (some (q 157, .inr (17, [.int t0_0, .ref (q 158), .int t0_1, .int t0_2, .ref (q 159), .ref (q 160), .ref (q 161), .ref (q 162), .ref (q 163), .int t0_3, .ref (q 164), .int t0_4, .int t0_5, .int t0_6, .int u0_7, .int u0_8, .int u0_9, .int u0_10, .int u0_11, .int u0_12, .int u0_13, .int t0_14, .int t0_15, .int t0_16, .ref (q 165), .int t0_17, .int t0_18, .int t0_19, .ref (q 166), .int t0_20, .int t0_21])) : Option (Nat × va_E)) ∧ (u0_8.toInt ≤ 9999) ∧ (0 ≤ u0_9.toInt) ∧ (0 ≤ u0_10.toInt) ∧ (u0_10.toInt ≤ 1) ∧ (u0_11.toInt ≤ 9999) ∧ (u0_12.toInt ≤ 9999) ∧ (u0_7, u0_8, u0_9, u0_10, u0_11, u0_12, u0_13) = (F_VR_take t0_0 t0_1 t0_2 t0_3 t0_4 t0_5 t0_6 t0_7 t0_8 t0_9 t0_10 t0_11 t0_12 t0_13 t0_14 t0_15 t0_16 t0_17 t0_18 t0_19 t0_20 t0_21 t1_0)) := by
  intro sz
  refine q_into (by decide) (Nat.le_of_ble_eq_true rfl) ?_
  intro p e s m below meth c ls hsz C0 V hl
  have hx := C0.1
  have hb := C0.2.1
  obtain ⟨btt0_1, hZ9⟩ := n_w157 hI hT0
  obtain ⟨btt0_2, hZ9⟩ := hZ9
  obtain ⟨btt0_3, hZ9⟩ := hZ9
  obtain ⟨btt0_10, btt0_19⟩ := hZ9
  replace btt0_1 : q_F (0 ≤ t0_1.toInt ∧ t0_1.toInt ≤ 256) := btt0_1
  replace btt0_2 : q_F (0 ≤ t0_2.toInt ∧ t0_2.toInt ≤ 9) := btt0_2
  replace btt0_3 : q_F (0 ≤ t0_3.toInt ∧ t0_3.toInt ≤ 4096) := btt0_3
  replace btt0_10 : q_F (0 ≤ t0_10.toInt ∧ t0_10.toInt ≤ 1) := btt0_10
  replace btt0_19 : q_F (0 ≤ t0_19.toInt ∧ t0_19.toInt ≤ 1) := btt0_19
  have hF : q_un ws ws [157] := q_u0
  have hl : lv_has ls 2 [(0, .ref (q 157))] := hl
  refine lv_aload_n hx hb d_16_18_0 rfl (lv_at hl 0 rfl) ?_
  refine lv_iconst (v := 0) hx hb d_16_18_1 (by decide) ?_
  refine q_put (ci := 17) (j := 15) (v := .int 0) (ty := .int) C0 V i_VR o_VR n_VR rfl rfl hT0 (by decide) w_2219 rfl rfl rfl rfl (Nat.le_of_ble_eq_true rfl) d_16_18_2 (fun H locs w32 hu33 hT0 V => ?_)
  replace hT0 : w32[157]? = (some (q 157, .inr (17, [.int t0_0, .ref (q 158), .int t0_1, .int t0_2, .ref (q 159), .ref (q 160), .ref (q 161), .ref (q 162), .ref (q 163), .int t0_3, .ref (q 164), .int t0_4, .int t0_5, .int t0_6, .int t0_7, .int 0, .int t0_9, .int t0_10, .int t0_11, .int t0_12, .int t0_13, .int t0_14, .int t0_15, .int t0_16, .ref (q 165), .int t0_17, .int t0_18, .int t0_19, .ref (q 166), .int t0_20, .int t0_21])) : Option (Nat × va_E)) := hT0
  replace hI := n_p157 hI hu33 hT0 (by first | with_reducible exact q_fe btt0_1 | exact ⟨(by have t1 : 0 ≤ t0_1.toInt ∧ t0_1.toInt ≤ 256 := btt0_1; omega), (by have t1 : 0 ≤ t0_1.toInt ∧ t0_1.toInt ≤ 256 := btt0_1; omega)⟩) (by first | with_reducible exact q_fe btt0_2 | exact ⟨(by have t1 : 0 ≤ t0_2.toInt ∧ t0_2.toInt ≤ 9 := btt0_2; omega), (by have t1 : 0 ≤ t0_2.toInt ∧ t0_2.toInt ≤ 9 := btt0_2; omega)⟩) (by first | with_reducible exact q_fe btt0_3 | exact ⟨(by have t1 : 0 ≤ t0_3.toInt ∧ t0_3.toInt ≤ 4096 := btt0_3; omega), (by have t1 : 0 ≤ t0_3.toInt ∧ t0_3.toInt ≤ 4096 := btt0_3; omega)⟩) (by first | with_reducible exact q_fe btt0_10 | exact ⟨(by have t1 : 0 ≤ t0_10.toInt ∧ t0_10.toInt ≤ 1 := btt0_10; omega), (by have t1 : 0 ≤ t0_10.toInt ∧ t0_10.toInt ≤ 1 := btt0_10; omega)⟩) (by first | with_reducible exact q_fe btt0_19 | exact ⟨(by have t1 : 0 ≤ t0_19.toInt ∧ t0_19.toInt ≤ 1 := btt0_19; omega), (by have t1 : 0 ≤ t0_19.toInt ∧ t0_19.toInt ≤ 1 := btt0_19; omega)⟩)
  replace hT1 := (hu33 _ (by decide)).trans hT1
  replace hF := q_us hF hu33 (by simp)
  refine lv_aload_n hx hb d_16_18_5 rfl (lv_at hl 0 rfl) ?_
  refine lv_iconst (v := 0) hx hb d_16_18_6 (by decide) ?_
  refine q_put (ci := 17) (j := 16) (v := .int 0) (ty := .int) C0 V i_VR o_VR n_VR rfl rfl hT0 (by decide) w_2220 rfl rfl rfl rfl (Nat.le_of_ble_eq_true rfl) d_16_18_7 (fun H locs w34 hu35 hT0 V => ?_)
  replace hT0 : w34[157]? = (some (q 157, .inr (17, [.int t0_0, .ref (q 158), .int t0_1, .int t0_2, .ref (q 159), .ref (q 160), .ref (q 161), .ref (q 162), .ref (q 163), .int t0_3, .ref (q 164), .int t0_4, .int t0_5, .int t0_6, .int t0_7, .int 0, .int 0, .int t0_10, .int t0_11, .int t0_12, .int t0_13, .int t0_14, .int t0_15, .int t0_16, .ref (q 165), .int t0_17, .int t0_18, .int t0_19, .ref (q 166), .int t0_20, .int t0_21])) : Option (Nat × va_E)) := hT0
  replace hI := n_p157 hI hu35 hT0 (by first | with_reducible exact q_fe btt0_1 | exact ⟨(by have t1 : 0 ≤ t0_1.toInt ∧ t0_1.toInt ≤ 256 := btt0_1; omega), (by have t1 : 0 ≤ t0_1.toInt ∧ t0_1.toInt ≤ 256 := btt0_1; omega)⟩) (by first | with_reducible exact q_fe btt0_2 | exact ⟨(by have t1 : 0 ≤ t0_2.toInt ∧ t0_2.toInt ≤ 9 := btt0_2; omega), (by have t1 : 0 ≤ t0_2.toInt ∧ t0_2.toInt ≤ 9 := btt0_2; omega)⟩) (by first | with_reducible exact q_fe btt0_3 | exact ⟨(by have t1 : 0 ≤ t0_3.toInt ∧ t0_3.toInt ≤ 4096 := btt0_3; omega), (by have t1 : 0 ≤ t0_3.toInt ∧ t0_3.toInt ≤ 4096 := btt0_3; omega)⟩) (by first | with_reducible exact q_fe btt0_10 | exact ⟨(by have t1 : 0 ≤ t0_10.toInt ∧ t0_10.toInt ≤ 1 := btt0_10; omega), (by have t1 : 0 ≤ t0_10.toInt ∧ t0_10.toInt ≤ 1 := btt0_10; omega)⟩) (by first | with_reducible exact q_fe btt0_19 | exact ⟨(by have t1 : 0 ≤ t0_19.toInt ∧ t0_19.toInt ≤ 1 := btt0_19; omega), (by have t1 : 0 ≤ t0_19.toInt ∧ t0_19.toInt ≤ 1 := btt0_19; omega)⟩)
  replace hT1 := (hu35 _ (by decide)).trans hT1
  replace hF := q_us hF hu35 (by simp)
  refine lv_aload_n hx hb d_16_18_10 rfl (lv_at hl 0 rfl) ?_
  refine lv_iconst (v := 0) hx hb d_16_18_11 (by decide) ?_
  refine q_put (ci := 17) (j := 17) (v := .int 0) (ty := .boolean) C0 V i_VR o_VR n_VR rfl rfl hT0 (by decide) w_2221 rfl rfl rfl rfl (Nat.le_of_ble_eq_true rfl) d_16_18_12 (fun H locs w36 hu37 hT0 V => ?_)
  replace hT0 : w36[157]? = (some (q 157, .inr (17, [.int t0_0, .ref (q 158), .int t0_1, .int t0_2, .ref (q 159), .ref (q 160), .ref (q 161), .ref (q 162), .ref (q 163), .int t0_3, .ref (q 164), .int t0_4, .int t0_5, .int t0_6, .int t0_7, .int 0, .int 0, .int 0, .int t0_11, .int t0_12, .int t0_13, .int t0_14, .int t0_15, .int t0_16, .ref (q 165), .int t0_17, .int t0_18, .int t0_19, .ref (q 166), .int t0_20, .int t0_21])) : Option (Nat × va_E)) := hT0
  replace hI := n_p157 hI hu37 hT0 (by first | with_reducible exact q_fe btt0_1 | exact ⟨(by have t1 : 0 ≤ t0_1.toInt ∧ t0_1.toInt ≤ 256 := btt0_1; omega), (by have t1 : 0 ≤ t0_1.toInt ∧ t0_1.toInt ≤ 256 := btt0_1; omega)⟩) (by first | with_reducible exact q_fe btt0_2 | exact ⟨(by have t1 : 0 ≤ t0_2.toInt ∧ t0_2.toInt ≤ 9 := btt0_2; omega), (by have t1 : 0 ≤ t0_2.toInt ∧ t0_2.toInt ≤ 9 := btt0_2; omega)⟩) (by first | with_reducible exact q_fe btt0_3 | exact ⟨(by have t1 : 0 ≤ t0_3.toInt ∧ t0_3.toInt ≤ 4096 := btt0_3; omega), (by have t1 : 0 ≤ t0_3.toInt ∧ t0_3.toInt ≤ 4096 := btt0_3; omega)⟩) ⟨(by have z9 : (0 : Int32).toInt = 0 := rfl; omega), (by have z9 : (0 : Int32).toInt = 0 := rfl; omega)⟩ (by first | with_reducible exact q_fe btt0_19 | exact ⟨(by have t1 : 0 ≤ t0_19.toInt ∧ t0_19.toInt ≤ 1 := btt0_19; omega), (by have t1 : 0 ≤ t0_19.toInt ∧ t0_19.toInt ≤ 1 := btt0_19; omega)⟩)
  replace hT1 := (hu37 _ (by decide)).trans hT1
  replace hF := q_us hF hu37 (by simp)
  refine lv_aload_n hx hb d_16_18_15 rfl (lv_at hl 0 rfl) ?_
  refine lv_iconst (v := (-1)) hx hb d_16_18_16 (by decide) ?_
  refine q_put (ci := 17) (j := 18) (v := .int (-1)) (ty := .int) C0 V i_VR o_VR n_VR rfl rfl hT0 (by decide) w_2222 rfl rfl rfl rfl (Nat.le_of_ble_eq_true rfl) d_16_18_17 (fun H locs w38 hu39 hT0 V => ?_)
  replace hT0 : w38[157]? = (some (q 157, .inr (17, [.int t0_0, .ref (q 158), .int t0_1, .int t0_2, .ref (q 159), .ref (q 160), .ref (q 161), .ref (q 162), .ref (q 163), .int t0_3, .ref (q 164), .int t0_4, .int t0_5, .int t0_6, .int t0_7, .int 0, .int 0, .int 0, .int (-1), .int t0_12, .int t0_13, .int t0_14, .int t0_15, .int t0_16, .ref (q 165), .int t0_17, .int t0_18, .int t0_19, .ref (q 166), .int t0_20, .int t0_21])) : Option (Nat × va_E)) := hT0
  replace hI := n_p157 hI hu39 hT0 (by first | with_reducible exact q_fe btt0_1 | exact ⟨(by have t1 : 0 ≤ t0_1.toInt ∧ t0_1.toInt ≤ 256 := btt0_1; omega), (by have t1 : 0 ≤ t0_1.toInt ∧ t0_1.toInt ≤ 256 := btt0_1; omega)⟩) (by first | with_reducible exact q_fe btt0_2 | exact ⟨(by have t1 : 0 ≤ t0_2.toInt ∧ t0_2.toInt ≤ 9 := btt0_2; omega), (by have t1 : 0 ≤ t0_2.toInt ∧ t0_2.toInt ≤ 9 := btt0_2; omega)⟩) (by first | with_reducible exact q_fe btt0_3 | exact ⟨(by have t1 : 0 ≤ t0_3.toInt ∧ t0_3.toInt ≤ 4096 := btt0_3; omega), (by have t1 : 0 ≤ t0_3.toInt ∧ t0_3.toInt ≤ 4096 := btt0_3; omega)⟩) ⟨(by have z9 : (0 : Int32).toInt = 0 := rfl; omega), (by have z9 : (0 : Int32).toInt = 0 := rfl; omega)⟩ (by first | with_reducible exact q_fe btt0_19 | exact ⟨(by have t1 : 0 ≤ t0_19.toInt ∧ t0_19.toInt ≤ 1 := btt0_19; omega), (by have t1 : 0 ≤ t0_19.toInt ∧ t0_19.toInt ≤ 1 := btt0_19; omega)⟩)
  replace hT1 := (hu39 _ (by decide)).trans hT1
  replace hF := q_us hF hu39 (by simp)
  refine lv_aload_n hx hb d_16_18_20 rfl (lv_at hl 0 rfl) ?_
  refine lv_iconst (v := (-1)) hx hb d_16_18_21 (by decide) ?_
  refine q_put (ci := 17) (j := 19) (v := .int (-1)) (ty := .int) C0 V i_VR o_VR n_VR rfl rfl hT0 (by decide) w_2223 rfl rfl rfl rfl (Nat.le_of_ble_eq_true rfl) d_16_18_22 (fun H locs w40 hu41 hT0 V => ?_)
  replace hT0 : w40[157]? = (some (q 157, .inr (17, [.int t0_0, .ref (q 158), .int t0_1, .int t0_2, .ref (q 159), .ref (q 160), .ref (q 161), .ref (q 162), .ref (q 163), .int t0_3, .ref (q 164), .int t0_4, .int t0_5, .int t0_6, .int t0_7, .int 0, .int 0, .int 0, .int (-1), .int (-1), .int t0_13, .int t0_14, .int t0_15, .int t0_16, .ref (q 165), .int t0_17, .int t0_18, .int t0_19, .ref (q 166), .int t0_20, .int t0_21])) : Option (Nat × va_E)) := hT0
  replace hI := n_p157 hI hu41 hT0 (by first | with_reducible exact q_fe btt0_1 | exact ⟨(by have t1 : 0 ≤ t0_1.toInt ∧ t0_1.toInt ≤ 256 := btt0_1; omega), (by have t1 : 0 ≤ t0_1.toInt ∧ t0_1.toInt ≤ 256 := btt0_1; omega)⟩) (by first | with_reducible exact q_fe btt0_2 | exact ⟨(by have t1 : 0 ≤ t0_2.toInt ∧ t0_2.toInt ≤ 9 := btt0_2; omega), (by have t1 : 0 ≤ t0_2.toInt ∧ t0_2.toInt ≤ 9 := btt0_2; omega)⟩) (by first | with_reducible exact q_fe btt0_3 | exact ⟨(by have t1 : 0 ≤ t0_3.toInt ∧ t0_3.toInt ≤ 4096 := btt0_3; omega), (by have t1 : 0 ≤ t0_3.toInt ∧ t0_3.toInt ≤ 4096 := btt0_3; omega)⟩) ⟨(by have z9 : (0 : Int32).toInt = 0 := rfl; omega), (by have z9 : (0 : Int32).toInt = 0 := rfl; omega)⟩ (by first | with_reducible exact q_fe btt0_19 | exact ⟨(by have t1 : 0 ≤ t0_19.toInt ∧ t0_19.toInt ≤ 1 := btt0_19; omega), (by have t1 : 0 ≤ t0_19.toInt ∧ t0_19.toInt ≤ 1 := btt0_19; omega)⟩)
  replace hT1 := (hu41 _ (by decide)).trans hT1
  replace hF := q_us hF hu41 (by simp)
  refine lv_aload_n hx hb d_16_18_25 rfl (lv_at hl 0 rfl) ?_
  refine q_get (ci := 17) (j := 14) (v := .int t0_7) C0 V i_VR rfl rfl hT0 (by decide) w_2218 rfl d_16_18_26 ?_
  refine lv_istore_n (lv' := [(1, .int t0_7), (0, .ref (q 157))]) hx hb d_16_18_29 rfl hl (by decide) rfl (fun ls hl => ?_)
  refine lv_aload_n hx hb d_16_18_30 rfl (lv_at hl 1 rfl) ?_
  have ob42 : True ∧ S_VR_isDigit t0_0 t0_1 t0_2 t0_3 t0_4 t0_5 t0_6 t0_7 (0 : Int32) (0 : Int32) (0 : Int32) (-1 : Int32) (-1 : Int32) t0_13 t0_14 t0_15 t0_16 t0_17 t0_18 t0_19 t0_20 t0_21 t1_0 := (by have h := hS; rw [S_VR_take.eq_1] at h; with_reducible exact h.2.1)
  refine q_goi V (q_runV (As := []) (rest := []) (d := 2) (mc := 0) (ms := 0) (ci := 17) C0 V rfl LV_VR_64 (X_VR_isDigit l D g q w40   hI t0_0 t0_1 t0_2 t0_3 t0_4 t0_5 t0_6 t0_7 0 0 0 (-1) (-1) t0_13 t0_14 t0_15 t0_16 t0_17 t0_18 t0_19 t0_20 t0_21 hT0 t1_0 hT1 ob42 _) rfl rfl hT0 rfl hl.1 rfl (Nat.le_of_ble_eq_true rfl) ⟨by decide, by decide⟩ ⟨Nat.le_of_ble_eq_true rfl, Nat.le_of_ble_eq_true rfl⟩ d_16_18_31) (fun a45 u43 H locs hp44 V => ?_)
  obtain ⟨rfl, b46, b47, hE48⟩ := hp44
  have e49 : a45 = (F_VR_isDigit t0_0 t0_1 t0_2 t0_3 t0_4 t0_5 t0_6 t0_7 (0 : Int32) (0 : Int32) (0 : Int32) (-1 : Int32) (-1 : Int32) t0_13 t0_14 t0_15 t0_16 t0_17 t0_18 t0_19 t0_20 t0_21 t1_0) := hE48
  clear b46
  clear b47
  refine q_join (X := Int32 × Int32) (fun z H locs ls w56 => q_F (z.2.toInt ≤ 9999) ∧ q_Wd D g (va_A ws sz) s w56 H locs ∧ lv_has ls 2 [(0, .ref (q 157))] ∧ q_I (msh g q) q w56 ∧ q_un ws w56 [157] ∧ w56[157]? = (some (q 157, .inr (17, [.int t0_0, .ref (q 158), .int t0_1, .int t0_2, .ref (q 159), .ref (q 160), .ref (q 161), .ref (q 162), .ref (q 163), .int t0_3, .ref (q 164), .int t0_4, .int t0_5, .int t0_6, .int z.1, .int z.2, .int 0, .int 0, .int (-1), .int (-1), .int t0_13, .int t0_14, .int t0_15, .int t0_16, .ref (q 165), .int t0_17, .int t0_18, .int t0_19, .ref (q 166), .int t0_20, .int t0_21])) : Option (Nat × va_E)) ∧ w56[158]? = (some (q 158, .inl (g 0, (256 : Int32).toNatClampNeg, .inl t1_0)) : Option (Nat × va_E)) ∧ F_VR_take_J86 t0_0 t0_1 t0_2 t0_3 t0_4 t0_5 t0_6 t0_7 t0_8 t0_9 t0_10 t0_11 t0_12 t0_13 t0_14 t0_15 t0_16 t0_17 t0_18 t0_19 t0_20 t0_21 t1_0 z.1 z.2 = (F_VR_take t0_0 t0_1 t0_2 t0_3 t0_4 t0_5 t0_6 t0_7 t0_8 t0_9 t0_10 t0_11 t0_12 t0_13 t0_14 t0_15 t0_16 t0_17 t0_18 t0_19 t0_20 t0_21 t1_0) ∧ True ∧ S_VR_take_J86 t0_0 t0_1 t0_2 t0_3 t0_4 t0_5 t0_6 t0_7 t0_8 t0_9 t0_10 t0_11 t0_12 t0_13 t0_14 t0_15 t0_16 t0_17 t0_18 t0_19 t0_20 t0_21 t1_0 z.1 z.2) (fun z => []) 86 0 0 ?_ ?_
  ·
    rintro ⟨lx50, lx51⟩ H locs ls w56 ⟨i55, V, hl, hI, hF, hO52, hA53, hR57, hS58⟩
    replace i55 : q_F (lx51.toInt ≤ 9999) := i55
    replace hl : lv_has ls 2 [(0, .ref (q 157))] := hl
    replace hO52 : w56[157]? = (some (q 157, .inr (17, [.int t0_0, .ref (q 158), .int t0_1, .int t0_2, .ref (q 159), .ref (q 160), .ref (q 161), .ref (q 162), .ref (q 163), .int t0_3, .ref (q 164), .int t0_4, .int t0_5, .int t0_6, .int lx50, .int lx51, .int 0, .int 0, .int (-1), .int (-1), .int t0_13, .int t0_14, .int t0_15, .int t0_16, .ref (q 165), .int t0_17, .int t0_18, .int t0_19, .ref (q 166), .int t0_20, .int t0_21])) : Option (Nat × va_E)) := hO52
    replace hA53 : w56[158]? = (some (q 158, .inl (g 0, (256 : Int32).toNatClampNeg, .inl t1_0)) : Option (Nat × va_E)) := hA53
    refine q_loop (X := Nat × Int32 × Int32 × Int32) (fun z H locs ls w69 => q_F (0 ≤ z.2.2.1.toInt) ∧ q_F (0 ≤ z.2.2.2.toInt) ∧ q_F (z.2.2.2.toInt ≤ 1) ∧ q_Wd D g (va_A ws sz) s w69 H locs ∧ lv_has ls 2 [(0, .ref (q 157))] ∧ q_I (msh g q) q w69 ∧ q_un ws w69 [157] ∧ w69[157]? = (some (q 157, .inr (17, [.int t0_0, .ref (q 158), .int t0_1, .int t0_2, .ref (q 159), .ref (q 160), .ref (q 161), .ref (q 162), .ref (q 163), .int t0_3, .ref (q 164), .int t0_4, .int t0_5, .int t0_6, .int z.2.1, .int lx51, .int z.2.2.1, .int z.2.2.2, .int (-1), .int (-1), .int t0_13, .int t0_14, .int t0_15, .int t0_16, .ref (q 165), .int t0_17, .int t0_18, .int t0_19, .ref (q 166), .int t0_20, .int t0_21])) : Option (Nat × va_E)) ∧ w69[158]? = (some (q 158, .inl (g 0, (256 : Int32).toNatClampNeg, .inl t1_0)) : Option (Nat × va_E)) ∧ F_VR_take_L86 t0_0 t0_1 t0_2 t0_3 t0_4 t0_5 t0_6 t0_7 t0_8 t0_9 t0_10 t0_11 t0_12 t0_13 t0_14 t0_15 t0_16 t0_17 t0_18 t0_19 t0_20 t0_21 t1_0 lx50 lx51 z.1 z.2.1 z.2.2.1 z.2.2.2 = (F_VR_take t0_0 t0_1 t0_2 t0_3 t0_4 t0_5 t0_6 t0_7 t0_8 t0_9 t0_10 t0_11 t0_12 t0_13 t0_14 t0_15 t0_16 t0_17 t0_18 t0_19 t0_20 t0_21 t1_0) ∧ True ∧ S_VR_take_L86 t0_0 t0_1 t0_2 t0_3 t0_4 t0_5 t0_6 t0_7 t0_8 t0_9 t0_10 t0_11 t0_12 t0_13 t0_14 t0_15 t0_16 t0_17 t0_18 t0_19 t0_20 t0_21 t1_0 lx50 lx51 z.1 z.2.1 z.2.2.1 z.2.2.2) (fun z => z.1) ?_ ((1000000 : Nat), (lx50 : Int32), (0 : Int32), (0 : Int32)) _ _ _ w56 ⟨(show q_F (0 ≤ 0) from (show 0 ≤ 0 from by omega)), (show q_F (0 ≤ 0) from (show 0 ≤ 0 from by omega)), (show q_F (0 ≤ 1) from (show 0 ≤ 1 from by omega)), V, q_lw hl (q_lw1 0 rfl q_lw0), hI, hF, hO52, hA53, (show F_VR_take_L86 t0_0 t0_1 t0_2 t0_3 t0_4 t0_5 t0_6 t0_7 t0_8 t0_9 t0_10 t0_11 t0_12 t0_13 t0_14 t0_15 t0_16 t0_17 t0_18 t0_19 t0_20 t0_21 t1_0 lx50 lx51 1000000 lx50 0 0 = (F_VR_take t0_0 t0_1 t0_2 t0_3 t0_4 t0_5 t0_6 t0_7 t0_8 t0_9 t0_10 t0_11 t0_12 t0_13 t0_14 t0_15 t0_16 t0_17 t0_18 t0_19 t0_20 t0_21 t1_0) from Eq.trans (by rw [F_VR_take_J86.eq_1]) hR57), (show True ∧ S_VR_take_L86 t0_0 t0_1 t0_2 t0_3 t0_4 t0_5 t0_6 t0_7 t0_8 t0_9 t0_10 t0_11 t0_12 t0_13 t0_14 t0_15 t0_16 t0_17 t0_18 t0_19 t0_20 t0_21 t1_0 lx50 lx51 1000000 lx50 0 0 from (by have h := hS58; rw [S_VR_take_J86.eq_1] at h; with_reducible exact h))⟩
    rintro ⟨fu74, lx62, lx63, lx64⟩ H locs ls w69 ⟨i65, i66, i67, V, hl, hI, hF, hO70, hO71, hR72, hS73⟩ ih68
    obtain ⟨fm76, rfl⟩ : ∃ m, fu74 = m + 1 := Nat.exists_eq_succ_of_ne_zero (fun e => by subst e; rw [S_VR_take_L86.eq_1] at hS73; exact hS73.2)
    replace i65 : q_F (0 ≤ lx63.toInt) := i65
    replace i66 : q_F (0 ≤ lx64.toInt) := i66
    replace i67 : q_F (lx64.toInt ≤ 1) := i67
    replace hl : lv_has ls 2 [(0, .ref (q 157))] := hl
    replace hO70 : w69[157]? = (some (q 157, .inr (17, [.int t0_0, .ref (q 158), .int t0_1, .int t0_2, .ref (q 159), .ref (q 160), .ref (q 161), .ref (q 162), .ref (q 163), .int t0_3, .ref (q 164), .int t0_4, .int t0_5, .int t0_6, .int lx62, .int lx51, .int lx63, .int lx64, .int (-1), .int (-1), .int t0_13, .int t0_14, .int t0_15, .int t0_16, .ref (q 165), .int t0_17, .int t0_18, .int t0_19, .ref (q 166), .int t0_20, .int t0_21])) : Option (Nat × va_E)) := hO70
    replace hO71 : w69[158]? = (some (q 158, .inl (g 0, (256 : Int32).toNatClampNeg, .inl t1_0)) : Option (Nat × va_E)) := hO71
    refine lv_aload_n hx hb d_16_18_86 rfl (lv_at hl 0 rfl) ?_
    have ob77 : True ∧ S_VR_here t0_0 t0_1 t0_2 t0_3 t0_4 t0_5 t0_6 lx62 lx51 lx63 lx64 (-1 : Int32) (-1 : Int32) t0_13 t0_14 t0_15 t0_16 t0_17 t0_18 t0_19 t0_20 t0_21 t1_0 := (by have h := hS73; rw [S_VR_take_L86.eq_2] at h; with_reducible exact h.2.1)
    refine q_goi V (q_runV (As := []) (rest := []) (d := 1) (mc := 0) (ms := 0) (ci := 17) C0 V rfl LV_VR_60 (X_VR_here l D g q w69   hI t0_0 t0_1 t0_2 t0_3 t0_4 t0_5 t0_6 lx62 lx51 lx63 lx64 (-1) (-1) t0_13 t0_14 t0_15 t0_16 t0_17 t0_18 t0_19 t0_20 t0_21 hO70 t1_0 hO71 ob77 _) rfl rfl hO70 rfl hl.1 rfl (Nat.le_of_ble_eq_true rfl) ⟨by decide, by decide⟩ ⟨Nat.le_of_ble_eq_true rfl, Nat.le_of_ble_eq_true rfl⟩ d_16_18_87) (fun a80 u78 H locs hp79 V => ?_)
    obtain ⟨rfl, hE81⟩ := hp79
    have e82 : a80 = (F_VR_here t0_0 t0_1 t0_2 t0_3 t0_4 t0_5 t0_6 lx62 lx51 lx63 lx64 (-1 : Int32) (-1 : Int32) t0_13 t0_14 t0_15 t0_16 t0_17 t0_18 t0_19 t0_20 t0_21 t1_0) := hE81
    refine q_goi V (q_runS (As := [.int a80]) (rest := []) (d := 1) (mc := 0) (ms := 0) C0 V rfl LS_VR_71 (X_VR_flag l D g q w69  a80 hI   _) rfl hl.1 rfl (Nat.le_of_ble_eq_true rfl) ⟨by decide, by decide⟩ ⟨Nat.le_of_ble_eq_true rfl, Nat.le_of_ble_eq_true rfl⟩ d_16_18_90) (fun a85 u83 H locs hp84 V => ?_)
    obtain ⟨rfl, b86, b87, hE88⟩ := hp84
    have e89 : a85 = (F_VR_flag a80) := hE88
    clear b86
    clear b87
    refine lv_if_eq (tgt := 152) hx hb d_16_18_93 (by decide) (fun c90 => ?_) (fun c90 => ?_)
    ·
      refine lv_aload_n hx hb d_16_18_152 rfl (lv_at hl 0 rfl) ?_
      have ob92 : True ∧ S_VR_isDigit t0_0 t0_1 t0_2 t0_3 t0_4 t0_5 t0_6 lx62 lx51 lx63 lx64 (-1 : Int32) (-1 : Int32) t0_13 t0_14 t0_15 t0_16 t0_17 t0_18 t0_19 t0_20 t0_21 t1_0 := (by have h := hS73; rw [S_VR_take_L86.eq_2] at h; replace h := q_s2 h; have c90x := c90; rw [e89, e82] at c90x; rw [if_pos c90x] at h; with_reducible exact h.2.1)
      refine q_goi V (q_runV (As := []) (rest := []) (d := 2) (mc := 0) (ms := 0) (ci := 17) C0 V rfl LV_VR_64 (X_VR_isDigit l D g q w69   hI t0_0 t0_1 t0_2 t0_3 t0_4 t0_5 t0_6 lx62 lx51 lx63 lx64 (-1) (-1) t0_13 t0_14 t0_15 t0_16 t0_17 t0_18 t0_19 t0_20 t0_21 hO70 t1_0 hO71 ob92 _) rfl rfl hO70 rfl hl.1 rfl (Nat.le_of_ble_eq_true rfl) ⟨by decide, by decide⟩ ⟨Nat.le_of_ble_eq_true rfl, Nat.le_of_ble_eq_true rfl⟩ d_16_18_153) (fun a95 u93 H locs hp94 V => ?_)
      obtain ⟨rfl, b96, b97, hE98⟩ := hp94
      have e99 : a95 = (F_VR_isDigit t0_0 t0_1 t0_2 t0_3 t0_4 t0_5 t0_6 lx62 lx51 lx63 lx64 (-1 : Int32) (-1 : Int32) t0_13 t0_14 t0_15 t0_16 t0_17 t0_18 t0_19 t0_20 t0_21 t1_0) := hE98
      clear b96
      clear b97
      refine q_join (X := Int32 × Int32) (fun z H locs ls w106 => q_F (z.2.toInt ≤ 9999) ∧ q_Wd D g (va_A ws sz) s w106 H locs ∧ lv_has ls 2 [(0, .ref (q 157))] ∧ q_I (msh g q) q w106 ∧ q_un ws w106 [157] ∧ w106[157]? = (some (q 157, .inr (17, [.int t0_0, .ref (q 158), .int t0_1, .int t0_2, .ref (q 159), .ref (q 160), .ref (q 161), .ref (q 162), .ref (q 163), .int t0_3, .ref (q 164), .int t0_4, .int t0_5, .int t0_6, .int z.1, .int lx51, .int lx63, .int lx64, .int z.2, .int (-1), .int t0_13, .int t0_14, .int t0_15, .int t0_16, .ref (q 165), .int t0_17, .int t0_18, .int t0_19, .ref (q 166), .int t0_20, .int t0_21])) : Option (Nat × va_E)) ∧ w106[158]? = (some (q 158, .inl (g 0, (256 : Int32).toNatClampNeg, .inl t1_0)) : Option (Nat × va_E)) ∧ F_VR_take_J167 (F_VR_take_L86 t0_0 t0_1 t0_2 t0_3 t0_4 t0_5 t0_6 t0_7 t0_8 t0_9 t0_10 t0_11 t0_12 t0_13 t0_14 t0_15 t0_16 t0_17 t0_18 t0_19 t0_20 t0_21 t1_0 lx50 lx51 fm76) t0_0 t0_1 t0_2 t0_3 t0_4 t0_5 t0_6 t0_7 t0_8 t0_9 t0_10 t0_11 t0_12 t0_13 t0_14 t0_15 t0_16 t0_17 t0_18 t0_19 t0_20 t0_21 t1_0 lx50 lx51 lx62 lx63 lx64 z.1 z.2 = (F_VR_take t0_0 t0_1 t0_2 t0_3 t0_4 t0_5 t0_6 t0_7 t0_8 t0_9 t0_10 t0_11 t0_12 t0_13 t0_14 t0_15 t0_16 t0_17 t0_18 t0_19 t0_20 t0_21 t1_0) ∧ True ∧ S_VR_take_J167 (S_VR_take_L86 t0_0 t0_1 t0_2 t0_3 t0_4 t0_5 t0_6 t0_7 t0_8 t0_9 t0_10 t0_11 t0_12 t0_13 t0_14 t0_15 t0_16 t0_17 t0_18 t0_19 t0_20 t0_21 t1_0 lx50 lx51 fm76) t0_0 t0_1 t0_2 t0_3 t0_4 t0_5 t0_6 t0_7 t0_8 t0_9 t0_10 t0_11 t0_12 t0_13 t0_14 t0_15 t0_16 t0_17 t0_18 t0_19 t0_20 t0_21 t1_0 lx50 lx51 lx62 lx63 lx64 z.1 z.2) (fun z => []) 167 0 0 ?_ ?_
      ·
        rintro ⟨lx100, lx101⟩ H locs ls w106 ⟨i105, V, hl, hI, hF, hO102, hA103, hR107, hS108⟩
        replace i105 : q_F (lx101.toInt ≤ 9999) := i105
        replace hl : lv_has ls 2 [(0, .ref (q 157))] := hl
        replace hO102 : w106[157]? = (some (q 157, .inr (17, [.int t0_0, .ref (q 158), .int t0_1, .int t0_2, .ref (q 159), .ref (q 160), .ref (q 161), .ref (q 162), .ref (q 163), .int t0_3, .ref (q 164), .int t0_4, .int t0_5, .int t0_6, .int lx100, .int lx51, .int lx63, .int lx64, .int lx101, .int (-1), .int t0_13, .int t0_14, .int t0_15, .int t0_16, .ref (q 165), .int t0_17, .int t0_18, .int t0_19, .ref (q 166), .int t0_20, .int t0_21])) : Option (Nat × va_E)) := hO102
        replace hA103 : w106[158]? = (some (q 158, .inl (g 0, (256 : Int32).toNatClampNeg, .inl t1_0)) : Option (Nat × va_E)) := hA103
        refine lv_aload_n hx hb d_16_18_167 rfl (lv_at hl 0 rfl) ?_
        have ob112 : True ∧ S_VR_here t0_0 t0_1 t0_2 t0_3 t0_4 t0_5 t0_6 lx100 lx51 lx63 lx64 lx101 (-1 : Int32) t0_13 t0_14 t0_15 t0_16 t0_17 t0_18 t0_19 t0_20 t0_21 t1_0 := (by have h := hS108; rw [S_VR_take_J167.eq_1] at h; with_reducible exact h.2.1)
        refine q_goi V (q_runV (As := []) (rest := []) (d := 1) (mc := 0) (ms := 0) (ci := 17) C0 V rfl LV_VR_60 (X_VR_here l D g q w106   hI t0_0 t0_1 t0_2 t0_3 t0_4 t0_5 t0_6 lx100 lx51 lx63 lx64 lx101 (-1) t0_13 t0_14 t0_15 t0_16 t0_17 t0_18 t0_19 t0_20 t0_21 hO102 t1_0 hA103 ob112 _) rfl rfl hO102 rfl hl.1 rfl (Nat.le_of_ble_eq_true rfl) ⟨by decide, by decide⟩ ⟨Nat.le_of_ble_eq_true rfl, Nat.le_of_ble_eq_true rfl⟩ d_16_18_168) (fun a115 u113 H locs hp114 V => ?_)
        obtain ⟨rfl, hE116⟩ := hp114
        have e117 : a115 = (F_VR_here t0_0 t0_1 t0_2 t0_3 t0_4 t0_5 t0_6 lx100 lx51 lx63 lx64 lx101 (-1 : Int32) t0_13 t0_14 t0_15 t0_16 t0_17 t0_18 t0_19 t0_20 t0_21 t1_0) := hE116
        refine lv_bipush (v := 46) hx hb d_16_18_171 (by decide) ?_
        refine q_join (X := Int32 × Int32) (fun z H locs ls w124 => q_F (z.2.toInt ≤ 9999) ∧ q_Wd D g (va_A ws sz) s w124 H locs ∧ lv_has ls 2 [(0, .ref (q 157))] ∧ q_I (msh g q) q w124 ∧ q_un ws w124 [157] ∧ w124[157]? = (some (q 157, .inr (17, [.int t0_0, .ref (q 158), .int t0_1, .int t0_2, .ref (q 159), .ref (q 160), .ref (q 161), .ref (q 162), .ref (q 163), .int t0_3, .ref (q 164), .int t0_4, .int t0_5, .int t0_6, .int z.1, .int lx51, .int lx63, .int lx64, .int lx101, .int z.2, .int t0_13, .int t0_14, .int t0_15, .int t0_16, .ref (q 165), .int t0_17, .int t0_18, .int t0_19, .ref (q 166), .int t0_20, .int t0_21])) : Option (Nat × va_E)) ∧ w124[158]? = (some (q 158, .inl (g 0, (256 : Int32).toNatClampNeg, .inl t1_0)) : Option (Nat × va_E)) ∧ F_VR_take_J239 (F_VR_take_L86 t0_0 t0_1 t0_2 t0_3 t0_4 t0_5 t0_6 t0_7 t0_8 t0_9 t0_10 t0_11 t0_12 t0_13 t0_14 t0_15 t0_16 t0_17 t0_18 t0_19 t0_20 t0_21 t1_0 lx50 lx51 fm76) t0_0 t0_1 t0_2 t0_3 t0_4 t0_5 t0_6 t0_7 t0_8 t0_9 t0_10 t0_11 t0_12 t0_13 t0_14 t0_15 t0_16 t0_17 t0_18 t0_19 t0_20 t0_21 t1_0 lx50 lx51 lx62 lx63 lx64 lx100 lx101 z.1 z.2 = (F_VR_take t0_0 t0_1 t0_2 t0_3 t0_4 t0_5 t0_6 t0_7 t0_8 t0_9 t0_10 t0_11 t0_12 t0_13 t0_14 t0_15 t0_16 t0_17 t0_18 t0_19 t0_20 t0_21 t1_0) ∧ True ∧ S_VR_take_J239 (S_VR_take_L86 t0_0 t0_1 t0_2 t0_3 t0_4 t0_5 t0_6 t0_7 t0_8 t0_9 t0_10 t0_11 t0_12 t0_13 t0_14 t0_15 t0_16 t0_17 t0_18 t0_19 t0_20 t0_21 t1_0 lx50 lx51 fm76) t0_0 t0_1 t0_2 t0_3 t0_4 t0_5 t0_6 t0_7 t0_8 t0_9 t0_10 t0_11 t0_12 t0_13 t0_14 t0_15 t0_16 t0_17 t0_18 t0_19 t0_20 t0_21 t1_0 lx50 lx51 lx62 lx63 lx64 lx100 lx101 z.1 z.2) (fun z => []) 239 0 0 ?_ ?_
        ·
          rintro ⟨lx118, lx119⟩ H locs ls w124 ⟨i123, V, hl, hI, hF, hO120, hA121, hR125, hS126⟩
          replace i123 : q_F (lx119.toInt ≤ 9999) := i123
          replace hl : lv_has ls 2 [(0, .ref (q 157))] := hl
          replace hO120 : w124[157]? = (some (q 157, .inr (17, [.int t0_0, .ref (q 158), .int t0_1, .int t0_2, .ref (q 159), .ref (q 160), .ref (q 161), .ref (q 162), .ref (q 163), .int t0_3, .ref (q 164), .int t0_4, .int t0_5, .int t0_6, .int lx118, .int lx51, .int lx63, .int lx64, .int lx101, .int lx119, .int t0_13, .int t0_14, .int t0_15, .int t0_16, .ref (q 165), .int t0_17, .int t0_18, .int t0_19, .ref (q 166), .int t0_20, .int t0_21])) : Option (Nat × va_E)) := hO120
          replace hA121 : w124[158]? = (some (q 158, .inl (g 0, (256 : Int32).toNatClampNeg, .inl t1_0)) : Option (Nat × va_E)) := hA121
          refine lv_aload_n hx hb d_16_18_239 rfl (lv_at hl 0 rfl) ?_
          refine lv_aload_n hx hb d_16_18_240 rfl (lv_at hl 0 rfl) ?_
          have ob130 : True ∧ S_VR_here t0_0 t0_1 t0_2 t0_3 t0_4 t0_5 t0_6 lx118 lx51 lx63 lx64 lx101 lx119 t0_13 t0_14 t0_15 t0_16 t0_17 t0_18 t0_19 t0_20 t0_21 t1_0 := (by have h := hS126; rw [S_VR_take_J239.eq_1] at h; with_reducible exact h.2.1)
          refine q_goi V (q_runV (As := []) (rest := [.ref (q 157)]) (d := 1) (mc := 0) (ms := 0) (ci := 17) C0 V rfl LV_VR_60 (X_VR_here l D g q w124   hI t0_0 t0_1 t0_2 t0_3 t0_4 t0_5 t0_6 lx118 lx51 lx63 lx64 lx101 lx119 t0_13 t0_14 t0_15 t0_16 t0_17 t0_18 t0_19 t0_20 t0_21 hO120 t1_0 hA121 ob130 _) rfl rfl hO120 rfl hl.1 rfl (Nat.le_of_ble_eq_true rfl) ⟨by decide, by decide⟩ ⟨Nat.le_of_ble_eq_true rfl, Nat.le_of_ble_eq_true rfl⟩ d_16_18_241) (fun a133 u131 H locs hp132 V => ?_)
          obtain ⟨rfl, hE134⟩ := hp132
          have e135 : a133 = (F_VR_here t0_0 t0_1 t0_2 t0_3 t0_4 t0_5 t0_6 lx118 lx51 lx63 lx64 lx101 lx119 t0_13 t0_14 t0_15 t0_16 t0_17 t0_18 t0_19 t0_20 t0_21 t1_0) := hE134
          refine q_put (ci := 17) (j := 20) (v := .int a133) (ty := .int) C0 V i_VR o_VR n_VR rfl rfl hO120 (by decide) w_2224 rfl rfl rfl rfl (Nat.le_of_ble_eq_true rfl) d_16_18_244 (fun H locs w136 hu137 hO120 V => ?_)
          replace hO120 : w136[157]? = (some (q 157, .inr (17, [.int t0_0, .ref (q 158), .int t0_1, .int t0_2, .ref (q 159), .ref (q 160), .ref (q 161), .ref (q 162), .ref (q 163), .int t0_3, .ref (q 164), .int t0_4, .int t0_5, .int t0_6, .int lx118, .int lx51, .int lx63, .int lx64, .int lx101, .int lx119, .int a133, .int t0_14, .int t0_15, .int t0_16, .ref (q 165), .int t0_17, .int t0_18, .int t0_19, .ref (q 166), .int t0_20, .int t0_21])) : Option (Nat × va_E)) := hO120
          replace hI := n_p157 hI hu137 hO120 (by first | with_reducible exact q_fe btt0_1 | exact ⟨(by have t1 : 0 ≤ t0_1.toInt ∧ t0_1.toInt ≤ 256 := btt0_1; omega), (by have t1 : 0 ≤ t0_1.toInt ∧ t0_1.toInt ≤ 256 := btt0_1; omega)⟩) (by first | with_reducible exact q_fe btt0_2 | exact ⟨(by have t1 : 0 ≤ t0_2.toInt ∧ t0_2.toInt ≤ 9 := btt0_2; omega), (by have t1 : 0 ≤ t0_2.toInt ∧ t0_2.toInt ≤ 9 := btt0_2; omega)⟩) (by first | with_reducible exact q_fe btt0_3 | exact ⟨(by have t1 : 0 ≤ t0_3.toInt ∧ t0_3.toInt ≤ 4096 := btt0_3; omega), (by have t1 : 0 ≤ t0_3.toInt ∧ t0_3.toInt ≤ 4096 := btt0_3; omega)⟩) ⟨(by first | with_reducible exact q_fe i66 | (have t1 : 0 ≤ lx64.toInt := i66; omega)), (by first | with_reducible exact q_fe i67 | (have t1 : lx64.toInt ≤ 1 := i67; omega))⟩ (by first | with_reducible exact q_fe btt0_19 | exact ⟨(by have t1 : 0 ≤ t0_19.toInt ∧ t0_19.toInt ≤ 1 := btt0_19; omega), (by have t1 : 0 ≤ t0_19.toInt ∧ t0_19.toInt ≤ 1 := btt0_19; omega)⟩)
          replace hF := q_us hF hu137 (by simp)
          refine lv_aload_n hx hb d_16_18_247 rfl (lv_at hl 0 rfl) ?_
          refine lv_aload_n hx hb d_16_18_248 rfl (lv_at hl 0 rfl) ?_
          refine q_get (ci := 17) (j := 20) (v := .int a133) C0 V i_VR rfl rfl hO120 (by decide) w_2224 rfl d_16_18_249 ?_
          refine lv_if_ge (tgt := 262) hx hb d_16_18_252 (by decide) (fun c138 => ?_) (fun c138 => ?_)
          ·
            refine lv_aload_n hx hb d_16_18_262 rfl (lv_at hl 0 rfl) ?_
            refine q_get (ci := 17) (j := 14) (v := .int lx118) C0 V i_VR rfl rfl hO120 (by decide) w_2218 rfl d_16_18_263 ?_
            refine lv_iconst (v := 1) hx hb d_16_18_266 (by decide) ?_
            refine lv_iadd hx hb d_16_18_267 ?_
            obtain ⟨a140, e141⟩ := q_nm (lx118 + 1 : Int32)
            refine q_ti (v := a140) e141 ?_
            refine q_put (ci := 17) (j := 14) (v := .int a140) (ty := .int) C0 V i_VR o_VR n_VR rfl rfl hO120 (by decide) w_2218 rfl rfl rfl rfl (Nat.le_of_ble_eq_true rfl) d_16_18_268 (fun H locs w142 hu143 hO120 V => ?_)
            replace hO120 : w142[157]? = (some (q 157, .inr (17, [.int t0_0, .ref (q 158), .int t0_1, .int t0_2, .ref (q 159), .ref (q 160), .ref (q 161), .ref (q 162), .ref (q 163), .int t0_3, .ref (q 164), .int t0_4, .int t0_5, .int t0_6, .int a140, .int lx51, .int lx63, .int lx64, .int lx101, .int lx119, .int a133, .int t0_14, .int t0_15, .int t0_16, .ref (q 165), .int t0_17, .int t0_18, .int t0_19, .ref (q 166), .int t0_20, .int t0_21])) : Option (Nat × va_E)) := hO120
            replace hI := n_p157 hI hu143 hO120 (by first | with_reducible exact q_fe btt0_1 | exact ⟨(by have t1 : 0 ≤ t0_1.toInt ∧ t0_1.toInt ≤ 256 := btt0_1; omega), (by have t1 : 0 ≤ t0_1.toInt ∧ t0_1.toInt ≤ 256 := btt0_1; omega)⟩) (by first | with_reducible exact q_fe btt0_2 | exact ⟨(by have t1 : 0 ≤ t0_2.toInt ∧ t0_2.toInt ≤ 9 := btt0_2; omega), (by have t1 : 0 ≤ t0_2.toInt ∧ t0_2.toInt ≤ 9 := btt0_2; omega)⟩) (by first | with_reducible exact q_fe btt0_3 | exact ⟨(by have t1 : 0 ≤ t0_3.toInt ∧ t0_3.toInt ≤ 4096 := btt0_3; omega), (by have t1 : 0 ≤ t0_3.toInt ∧ t0_3.toInt ≤ 4096 := btt0_3; omega)⟩) ⟨(by first | with_reducible exact q_fe i66 | (have t1 : 0 ≤ lx64.toInt := i66; omega)), (by first | with_reducible exact q_fe i67 | (have t1 : lx64.toInt ≤ 1 := i67; omega))⟩ (by first | with_reducible exact q_fe btt0_19 | exact ⟨(by have t1 : 0 ≤ t0_19.toInt ∧ t0_19.toInt ≤ 1 := btt0_19; omega), (by have t1 : 0 ≤ t0_19.toInt ∧ t0_19.toInt ≤ 1 := btt0_19; omega)⟩)
            replace hF := q_us hF hu143 (by simp)
            exact q_retv C0 V (⟨hI, hF, a140, lx51, lx63, lx64, lx101, lx119, a133, hO120, (show lx51.toInt ≤ 9999 from (by first | with_reducible exact q_fe i55 | (have t1 : lx51.toInt ≤ 9999 := i55; omega))), (show 0 ≤ lx63.toInt from (by first | with_reducible exact q_fe i65 | (have t1 : 0 ≤ lx63.toInt := i65; omega))), (show 0 ≤ lx64.toInt from (by first | with_reducible exact q_fe i66 | (have t1 : 0 ≤ lx64.toInt := i66; omega))), (show lx64.toInt ≤ 1 from (by first | with_reducible exact q_fe i67 | (have t1 : lx64.toInt ≤ 1 := i67; omega))), (show lx101.toInt ≤ 9999 from (by first | with_reducible exact q_fe i105 | (have t1 : lx101.toInt ≤ 9999 := i105; omega))), (show lx119.toInt ≤ 9999 from (by first | with_reducible exact q_fe i123 | (have t1 : lx119.toInt ≤ 9999 := i123; omega))), (show (a140, lx51, lx63, lx64, lx101, lx119, a133) = (F_VR_take t0_0 t0_1 t0_2 t0_3 t0_4 t0_5 t0_6 t0_7 t0_8 t0_9 t0_10 t0_11 t0_12 t0_13 t0_14 t0_15 t0_16 t0_17 t0_18 t0_19 t0_20 t0_21 t1_0) from Eq.trans (by have c138x := c138; rw [e135] at c138x; rw [← e141, e135, F_VR_take_J239.eq_1, if_pos c138x]) hR125)⟩) d_16_18_271
          ·
            refine lv_aload_n hx hb d_16_18_255 rfl (lv_at hl 0 rfl) ?_
            refine q_get (ci := 17) (j := 14) (v := .int lx118) C0 V i_VR rfl rfl hO120 (by decide) w_2218 rfl d_16_18_256 ?_
            refine lv_goto (tgt := 268) hx hb d_16_18_259 (by decide) ?_
            refine q_put (ci := 17) (j := 14) (v := .int lx118) (ty := .int) C0 V i_VR o_VR n_VR rfl rfl hO120 (by decide) w_2218 rfl rfl rfl rfl (Nat.le_of_ble_eq_true rfl) d_16_18_268 (fun H locs w145 hu146 hO120 V => ?_)
            replace hO120 : w145[157]? = (some (q 157, .inr (17, [.int t0_0, .ref (q 158), .int t0_1, .int t0_2, .ref (q 159), .ref (q 160), .ref (q 161), .ref (q 162), .ref (q 163), .int t0_3, .ref (q 164), .int t0_4, .int t0_5, .int t0_6, .int lx118, .int lx51, .int lx63, .int lx64, .int lx101, .int lx119, .int a133, .int t0_14, .int t0_15, .int t0_16, .ref (q 165), .int t0_17, .int t0_18, .int t0_19, .ref (q 166), .int t0_20, .int t0_21])) : Option (Nat × va_E)) := hO120
            replace hI := n_p157 hI hu146 hO120 (by first | with_reducible exact q_fe btt0_1 | exact ⟨(by have t1 : 0 ≤ t0_1.toInt ∧ t0_1.toInt ≤ 256 := btt0_1; omega), (by have t1 : 0 ≤ t0_1.toInt ∧ t0_1.toInt ≤ 256 := btt0_1; omega)⟩) (by first | with_reducible exact q_fe btt0_2 | exact ⟨(by have t1 : 0 ≤ t0_2.toInt ∧ t0_2.toInt ≤ 9 := btt0_2; omega), (by have t1 : 0 ≤ t0_2.toInt ∧ t0_2.toInt ≤ 9 := btt0_2; omega)⟩) (by first | with_reducible exact q_fe btt0_3 | exact ⟨(by have t1 : 0 ≤ t0_3.toInt ∧ t0_3.toInt ≤ 4096 := btt0_3; omega), (by have t1 : 0 ≤ t0_3.toInt ∧ t0_3.toInt ≤ 4096 := btt0_3; omega)⟩) ⟨(by first | with_reducible exact q_fe i66 | (have t1 : 0 ≤ lx64.toInt := i66; omega)), (by first | with_reducible exact q_fe i67 | (have t1 : lx64.toInt ≤ 1 := i67; omega))⟩ (by first | with_reducible exact q_fe btt0_19 | exact ⟨(by have t1 : 0 ≤ t0_19.toInt ∧ t0_19.toInt ≤ 1 := btt0_19; omega), (by have t1 : 0 ≤ t0_19.toInt ∧ t0_19.toInt ≤ 1 := btt0_19; omega)⟩)
            replace hF := q_us hF hu146 (by simp)
            exact q_retv C0 V (⟨hI, hF, lx118, lx51, lx63, lx64, lx101, lx119, a133, hO120, (show lx51.toInt ≤ 9999 from (by first | with_reducible exact q_fe i55 | (have t1 : lx51.toInt ≤ 9999 := i55; omega))), (show 0 ≤ lx63.toInt from (by first | with_reducible exact q_fe i65 | (have t1 : 0 ≤ lx63.toInt := i65; omega))), (show 0 ≤ lx64.toInt from (by first | with_reducible exact q_fe i66 | (have t1 : 0 ≤ lx64.toInt := i66; omega))), (show lx64.toInt ≤ 1 from (by first | with_reducible exact q_fe i67 | (have t1 : lx64.toInt ≤ 1 := i67; omega))), (show lx101.toInt ≤ 9999 from (by first | with_reducible exact q_fe i105 | (have t1 : lx101.toInt ≤ 9999 := i105; omega))), (show lx119.toInt ≤ 9999 from (by first | with_reducible exact q_fe i123 | (have t1 : lx119.toInt ≤ 9999 := i123; omega))), (show (lx118, lx51, lx63, lx64, lx101, lx119, a133) = (F_VR_take t0_0 t0_1 t0_2 t0_3 t0_4 t0_5 t0_6 t0_7 t0_8 t0_9 t0_10 t0_11 t0_12 t0_13 t0_14 t0_15 t0_16 t0_17 t0_18 t0_19 t0_20 t0_21 t1_0) from Eq.trans (by have c138x := c138; rw [e135] at c138x; rw [e135, F_VR_take_J239.eq_1, if_neg c138x]) hR125)⟩) d_16_18_271
        ·
          intro J122
          refine lv_icmp_ne (tgt := 239) hx hb d_16_18_173 (by decide) (fun c147 => ?_) (fun c147 => ?_)
          ·
            exact J122 ((lx100 : Int32), ((-1) : Int32)) _ _ _ _ ⟨(show q_F ((-1) ≤ 9999) from (show (-1) ≤ 9999 from by omega)), V, q_lw hl (q_lw1 0 rfl q_lw0), hI, hF, hO102, hA103, (show F_VR_take_J239 (F_VR_take_L86 t0_0 t0_1 t0_2 t0_3 t0_4 t0_5 t0_6 t0_7 t0_8 t0_9 t0_10 t0_11 t0_12 t0_13 t0_14 t0_15 t0_16 t0_17 t0_18 t0_19 t0_20 t0_21 t1_0 lx50 lx51 fm76) t0_0 t0_1 t0_2 t0_3 t0_4 t0_5 t0_6 t0_7 t0_8 t0_9 t0_10 t0_11 t0_12 t0_13 t0_14 t0_15 t0_16 t0_17 t0_18 t0_19 t0_20 t0_21 t1_0 lx50 lx51 lx62 lx63 lx64 lx100 lx101 lx100 (-1) = (F_VR_take t0_0 t0_1 t0_2 t0_3 t0_4 t0_5 t0_6 t0_7 t0_8 t0_9 t0_10 t0_11 t0_12 t0_13 t0_14 t0_15 t0_16 t0_17 t0_18 t0_19 t0_20 t0_21 t1_0) from Eq.trans (by have c147x := c147; rw [e117] at c147x; rw [F_VR_take_J167.eq_1, if_neg c147x]) hR107), (show True ∧ S_VR_take_J239 (S_VR_take_L86 t0_0 t0_1 t0_2 t0_3 t0_4 t0_5 t0_6 t0_7 t0_8 t0_9 t0_10 t0_11 t0_12 t0_13 t0_14 t0_15 t0_16 t0_17 t0_18 t0_19 t0_20 t0_21 t1_0 lx50 lx51 fm76) t0_0 t0_1 t0_2 t0_3 t0_4 t0_5 t0_6 t0_7 t0_8 t0_9 t0_10 t0_11 t0_12 t0_13 t0_14 t0_15 t0_16 t0_17 t0_18 t0_19 t0_20 t0_21 t1_0 lx50 lx51 lx62 lx63 lx64 lx100 lx101 lx100 (-1) from (by have h := hS108; rw [S_VR_take_J167.eq_1] at h; replace h := q_s2 h; have c147x := c147; rw [e117] at c147x; rw [if_neg c147x] at h; with_reducible exact h))⟩
          ·
            refine lv_aload_n hx hb d_16_18_176 rfl (lv_at hl 0 rfl) ?_
            refine q_get (ci := 17) (j := 14) (v := .int lx100) C0 V i_VR rfl rfl hO102 (by decide) w_2218 rfl d_16_18_177 ?_
            refine lv_iconst (v := 1) hx hb d_16_18_180 (by decide) ?_
            refine lv_iadd hx hb d_16_18_181 ?_
            obtain ⟨a150, e151⟩ := q_nm (lx100 + 1 : Int32)
            refine q_ti (v := a150) e151 ?_
            refine lv_aload_n hx hb d_16_18_182 rfl (lv_at hl 0 rfl) ?_
            refine q_get (ci := 17) (j := 2) (v := .int t0_1) C0 V i_VR rfl rfl hO102 (by decide) w_2201 rfl d_16_18_183 ?_
            refine lv_icmp_ge (tgt := 239) hx hb d_16_18_186 (by decide) (fun c152 => ?_) (fun c152 => ?_)
            ·
              exact J122 ((lx100 : Int32), ((-1) : Int32)) _ _ _ _ ⟨(show q_F ((-1) ≤ 9999) from (show (-1) ≤ 9999 from by omega)), V, q_lw hl (q_lw1 0 rfl q_lw0), hI, hF, hO102, hA103, (show F_VR_take_J239 (F_VR_take_L86 t0_0 t0_1 t0_2 t0_3 t0_4 t0_5 t0_6 t0_7 t0_8 t0_9 t0_10 t0_11 t0_12 t0_13 t0_14 t0_15 t0_16 t0_17 t0_18 t0_19 t0_20 t0_21 t1_0 lx50 lx51 fm76) t0_0 t0_1 t0_2 t0_3 t0_4 t0_5 t0_6 t0_7 t0_8 t0_9 t0_10 t0_11 t0_12 t0_13 t0_14 t0_15 t0_16 t0_17 t0_18 t0_19 t0_20 t0_21 t1_0 lx50 lx51 lx62 lx63 lx64 lx100 lx101 lx100 (-1) = (F_VR_take t0_0 t0_1 t0_2 t0_3 t0_4 t0_5 t0_6 t0_7 t0_8 t0_9 t0_10 t0_11 t0_12 t0_13 t0_14 t0_15 t0_16 t0_17 t0_18 t0_19 t0_20 t0_21 t1_0) from Eq.trans (by have c147x := c147; rw [e117] at c147x; have c152x := c152; rw [← e151] at c152x; rw [F_VR_take_J167.eq_1, if_pos c147x, if_pos c152x]) hR107), (show True ∧ S_VR_take_J239 (S_VR_take_L86 t0_0 t0_1 t0_2 t0_3 t0_4 t0_5 t0_6 t0_7 t0_8 t0_9 t0_10 t0_11 t0_12 t0_13 t0_14 t0_15 t0_16 t0_17 t0_18 t0_19 t0_20 t0_21 t1_0 lx50 lx51 fm76) t0_0 t0_1 t0_2 t0_3 t0_4 t0_5 t0_6 t0_7 t0_8 t0_9 t0_10 t0_11 t0_12 t0_13 t0_14 t0_15 t0_16 t0_17 t0_18 t0_19 t0_20 t0_21 t1_0 lx50 lx51 lx62 lx63 lx64 lx100 lx101 lx100 (-1) from (by have h := hS108; rw [S_VR_take_J167.eq_1] at h; replace h := q_s2 h; have c147x := c147; rw [e117] at c147x; rw [if_pos c147x] at h; have c152x := c152; rw [← e151] at c152x; rw [if_pos c152x] at h; with_reducible exact h))⟩
            ·
              refine lv_aload_n hx hb d_16_18_189 rfl (lv_at hl 0 rfl) ?_
              refine q_get (ci := 17) (j := 1) (v := .ref (q 158)) C0 V i_VR rfl rfl hO102 (by decide) w_2199 rfl d_16_18_190 ?_
              refine lv_aload_n hx hb d_16_18_193 rfl (lv_at hl 0 rfl) ?_
              refine q_get (ci := 17) (j := 14) (v := .int lx100) C0 V i_VR rfl rfl hO102 (by decide) w_2218 rfl d_16_18_194 ?_
              refine lv_iconst (v := 1) hx hb d_16_18_197 (by decide) ?_
              refine lv_iadd hx hb d_16_18_198 ?_
              obtain ⟨a155, e156⟩ := q_nm (lx100 + 1 : Int32)
              refine q_ti (v := a155) e156 ?_
              have ob157 : q_F (0 ≤ a155.toInt) := (by rw [← e156]; have h := hS108; rw [S_VR_take_J167.eq_1] at h; replace h := q_s2 h; have c147x := c147; rw [e117] at c147x; rw [if_pos c147x] at h; have c152x := c152; rw [← e151] at c152x; rw [if_neg c152x] at h; exact h.2.1)
              have ob158 : q_F (a155.toInt ≤ 255) := (by rw [← e156]; have h := hS108; rw [S_VR_take_J167.eq_1] at h; replace h := q_s2 h; have c147x := c147; rw [e117] at c147x; rw [if_pos c147x] at h; have c152x := c152; rw [← e151] at c152x; rw [if_neg c152x] at h; replace h := q_s2 h; exact h.2.1)
              refine q_iald C0 V hA103 (q_ix (x := a155.toInt) rfl (by first | with_reducible exact q_fe ob157 | (have t1 : 0 ≤ a155.toInt := ob157; omega)) (by have t1 : 0 ≤ a155.toInt := ob157; have t2 : a155.toInt ≤ 255 := ob158; have e9 : (((256 : Int32).toNatClampNeg : Nat) : Int) = 256 := (by decide); omega)) d_16_18_199 ?_
              obtain ⟨a159, e160⟩ := q_nm (t1_0 a155.toNatClampNeg : Int32)
              refine q_ti (v := a159) e160 ?_
              refine lv_bipush (v := 48) hx hb d_16_18_200 (by decide) ?_
              refine lv_icmp_lt (tgt := 239) hx hb d_16_18_202 (by decide) (fun c161 => ?_) (fun c161 => ?_)
              ·
                exact J122 ((lx100 : Int32), ((-1) : Int32)) _ _ _ _ ⟨(show q_F ((-1) ≤ 9999) from (show (-1) ≤ 9999 from by omega)), V, q_lw hl (q_lw1 0 rfl q_lw0), hI, hF, hO102, hA103, (show F_VR_take_J239 (F_VR_take_L86 t0_0 t0_1 t0_2 t0_3 t0_4 t0_5 t0_6 t0_7 t0_8 t0_9 t0_10 t0_11 t0_12 t0_13 t0_14 t0_15 t0_16 t0_17 t0_18 t0_19 t0_20 t0_21 t1_0 lx50 lx51 fm76) t0_0 t0_1 t0_2 t0_3 t0_4 t0_5 t0_6 t0_7 t0_8 t0_9 t0_10 t0_11 t0_12 t0_13 t0_14 t0_15 t0_16 t0_17 t0_18 t0_19 t0_20 t0_21 t1_0 lx50 lx51 lx62 lx63 lx64 lx100 lx101 lx100 (-1) = (F_VR_take t0_0 t0_1 t0_2 t0_3 t0_4 t0_5 t0_6 t0_7 t0_8 t0_9 t0_10 t0_11 t0_12 t0_13 t0_14 t0_15 t0_16 t0_17 t0_18 t0_19 t0_20 t0_21 t1_0) from Eq.trans (by have c147x := c147; rw [e117] at c147x; have c152x := c152; rw [← e151] at c152x; have c161x := c161; rw [← e160, ← e156] at c161x; rw [F_VR_take_J167.eq_1, if_pos c147x, if_neg c152x, if_pos c161x]) hR107), (show True ∧ S_VR_take_J239 (S_VR_take_L86 t0_0 t0_1 t0_2 t0_3 t0_4 t0_5 t0_6 t0_7 t0_8 t0_9 t0_10 t0_11 t0_12 t0_13 t0_14 t0_15 t0_16 t0_17 t0_18 t0_19 t0_20 t0_21 t1_0 lx50 lx51 fm76) t0_0 t0_1 t0_2 t0_3 t0_4 t0_5 t0_6 t0_7 t0_8 t0_9 t0_10 t0_11 t0_12 t0_13 t0_14 t0_15 t0_16 t0_17 t0_18 t0_19 t0_20 t0_21 t1_0 lx50 lx51 lx62 lx63 lx64 lx100 lx101 lx100 (-1) from (by have h := hS108; rw [S_VR_take_J167.eq_1] at h; replace h := q_s2 h; have c147x := c147; rw [e117] at c147x; rw [if_pos c147x] at h; have c152x := c152; rw [← e151] at c152x; rw [if_neg c152x] at h; replace h := q_s2 h; replace h := q_s2 h; have c161x := c161; rw [← e160, ← e156] at c161x; rw [if_pos c161x] at h; with_reducible exact h))⟩
              ·
                refine lv_aload_n hx hb d_16_18_205 rfl (lv_at hl 0 rfl) ?_
                refine q_get (ci := 17) (j := 1) (v := .ref (q 158)) C0 V i_VR rfl rfl hO102 (by decide) w_2199 rfl d_16_18_206 ?_
                refine lv_aload_n hx hb d_16_18_209 rfl (lv_at hl 0 rfl) ?_
                refine q_get (ci := 17) (j := 14) (v := .int lx100) C0 V i_VR rfl rfl hO102 (by decide) w_2218 rfl d_16_18_210 ?_
                refine lv_iconst (v := 1) hx hb d_16_18_213 (by decide) ?_
                refine lv_iadd hx hb d_16_18_214 ?_
                obtain ⟨a164, e165⟩ := q_nm (lx100 + 1 : Int32)
                refine q_ti (v := a164) e165 ?_
                have ob166 : q_F (0 ≤ a164.toInt) := (by rw [← e165]; have h := hS108; rw [S_VR_take_J167.eq_1] at h; replace h := q_s2 h; have c147x := c147; rw [e117] at c147x; rw [if_pos c147x] at h; have c152x := c152; rw [← e151] at c152x; rw [if_neg c152x] at h; replace h := q_s2 h; replace h := q_s2 h; have c161x := c161; rw [← e160, ← e156] at c161x; rw [if_neg c161x] at h; exact h.2.1)
                have ob167 : q_F (a164.toInt ≤ 255) := (by rw [← e165]; have h := hS108; rw [S_VR_take_J167.eq_1] at h; replace h := q_s2 h; have c147x := c147; rw [e117] at c147x; rw [if_pos c147x] at h; have c152x := c152; rw [← e151] at c152x; rw [if_neg c152x] at h; replace h := q_s2 h; replace h := q_s2 h; have c161x := c161; rw [← e160, ← e156] at c161x; rw [if_neg c161x] at h; replace h := q_s2 h; exact h.2.1)
                refine q_iald C0 V hA103 (q_ix (x := a164.toInt) rfl (by first | with_reducible exact q_fe ob166 | (have t1 : 0 ≤ a164.toInt := ob166; omega)) (by have t1 : 0 ≤ a164.toInt := ob166; have t2 : a164.toInt ≤ 255 := ob167; have e9 : (((256 : Int32).toNatClampNeg : Nat) : Int) = 256 := (by decide); omega)) d_16_18_215 ?_
                obtain ⟨a168, e169⟩ := q_nm (t1_0 a164.toNatClampNeg : Int32)
                refine q_ti (v := a168) e169 ?_
                refine lv_bipush (v := 57) hx hb d_16_18_216 (by decide) ?_
                refine lv_icmp_gt (tgt := 239) hx hb d_16_18_218 (by decide) (fun c170 => ?_) (fun c170 => ?_)
                ·
                  exact J122 ((lx100 : Int32), ((-1) : Int32)) _ _ _ _ ⟨(show q_F ((-1) ≤ 9999) from (show (-1) ≤ 9999 from by omega)), V, q_lw hl (q_lw1 0 rfl q_lw0), hI, hF, hO102, hA103, (show F_VR_take_J239 (F_VR_take_L86 t0_0 t0_1 t0_2 t0_3 t0_4 t0_5 t0_6 t0_7 t0_8 t0_9 t0_10 t0_11 t0_12 t0_13 t0_14 t0_15 t0_16 t0_17 t0_18 t0_19 t0_20 t0_21 t1_0 lx50 lx51 fm76) t0_0 t0_1 t0_2 t0_3 t0_4 t0_5 t0_6 t0_7 t0_8 t0_9 t0_10 t0_11 t0_12 t0_13 t0_14 t0_15 t0_16 t0_17 t0_18 t0_19 t0_20 t0_21 t1_0 lx50 lx51 lx62 lx63 lx64 lx100 lx101 lx100 (-1) = (F_VR_take t0_0 t0_1 t0_2 t0_3 t0_4 t0_5 t0_6 t0_7 t0_8 t0_9 t0_10 t0_11 t0_12 t0_13 t0_14 t0_15 t0_16 t0_17 t0_18 t0_19 t0_20 t0_21 t1_0) from Eq.trans (by have c147x := c147; rw [e117] at c147x; have c152x := c152; rw [← e151] at c152x; have c161x := c161; rw [← e160, ← e156] at c161x; have c170x := c170; rw [← e169, ← e165] at c170x; rw [F_VR_take_J167.eq_1, if_pos c147x, if_neg c152x, if_neg c161x, if_pos c170x]) hR107), (show True ∧ S_VR_take_J239 (S_VR_take_L86 t0_0 t0_1 t0_2 t0_3 t0_4 t0_5 t0_6 t0_7 t0_8 t0_9 t0_10 t0_11 t0_12 t0_13 t0_14 t0_15 t0_16 t0_17 t0_18 t0_19 t0_20 t0_21 t1_0 lx50 lx51 fm76) t0_0 t0_1 t0_2 t0_3 t0_4 t0_5 t0_6 t0_7 t0_8 t0_9 t0_10 t0_11 t0_12 t0_13 t0_14 t0_15 t0_16 t0_17 t0_18 t0_19 t0_20 t0_21 t1_0 lx50 lx51 lx62 lx63 lx64 lx100 lx101 lx100 (-1) from (by have h := hS108; rw [S_VR_take_J167.eq_1] at h; replace h := q_s2 h; have c147x := c147; rw [e117] at c147x; rw [if_pos c147x] at h; have c152x := c152; rw [← e151] at c152x; rw [if_neg c152x] at h; replace h := q_s2 h; replace h := q_s2 h; have c161x := c161; rw [← e160, ← e156] at c161x; rw [if_neg c161x] at h; replace h := q_s2 h; replace h := q_s2 h; have c170x := c170; rw [← e169, ← e165] at c170x; rw [if_pos c170x] at h; with_reducible exact h))⟩
                ·
                  refine lv_aload_n hx hb d_16_18_221 rfl (lv_at hl 0 rfl) ?_
                  refine lv_dup hx hb d_16_18_222 rfl ?_
                  refine q_get (ci := 17) (j := 14) (v := .int lx100) C0 V i_VR rfl rfl hO102 (by decide) w_2218 rfl d_16_18_223 ?_
                  refine lv_iconst (v := 1) hx hb d_16_18_226 (by decide) ?_
                  refine lv_iadd hx hb d_16_18_227 ?_
                  obtain ⟨a173, e174⟩ := q_nm (lx100 + 1 : Int32)
                  refine q_ti (v := a173) e174 ?_
                  refine q_put (ci := 17) (j := 14) (v := .int a173) (ty := .int) C0 V i_VR o_VR n_VR rfl rfl hO102 (by decide) w_2218 rfl rfl rfl rfl (Nat.le_of_ble_eq_true rfl) d_16_18_228 (fun H locs w175 hu176 hO102 V => ?_)
                  replace hO102 : w175[157]? = (some (q 157, .inr (17, [.int t0_0, .ref (q 158), .int t0_1, .int t0_2, .ref (q 159), .ref (q 160), .ref (q 161), .ref (q 162), .ref (q 163), .int t0_3, .ref (q 164), .int t0_4, .int t0_5, .int t0_6, .int a173, .int lx51, .int lx63, .int lx64, .int lx101, .int (-1), .int t0_13, .int t0_14, .int t0_15, .int t0_16, .ref (q 165), .int t0_17, .int t0_18, .int t0_19, .ref (q 166), .int t0_20, .int t0_21])) : Option (Nat × va_E)) := hO102
                  replace hI := n_p157 hI hu176 hO102 (by first | with_reducible exact q_fe btt0_1 | exact ⟨(by have t1 : 0 ≤ t0_1.toInt ∧ t0_1.toInt ≤ 256 := btt0_1; omega), (by have t1 : 0 ≤ t0_1.toInt ∧ t0_1.toInt ≤ 256 := btt0_1; omega)⟩) (by first | with_reducible exact q_fe btt0_2 | exact ⟨(by have t1 : 0 ≤ t0_2.toInt ∧ t0_2.toInt ≤ 9 := btt0_2; omega), (by have t1 : 0 ≤ t0_2.toInt ∧ t0_2.toInt ≤ 9 := btt0_2; omega)⟩) (by first | with_reducible exact q_fe btt0_3 | exact ⟨(by have t1 : 0 ≤ t0_3.toInt ∧ t0_3.toInt ≤ 4096 := btt0_3; omega), (by have t1 : 0 ≤ t0_3.toInt ∧ t0_3.toInt ≤ 4096 := btt0_3; omega)⟩) ⟨(by first | with_reducible exact q_fe i66 | (have t1 : 0 ≤ lx64.toInt := i66; omega)), (by first | with_reducible exact q_fe i67 | (have t1 : lx64.toInt ≤ 1 := i67; omega))⟩ (by first | with_reducible exact q_fe btt0_19 | exact ⟨(by have t1 : 0 ≤ t0_19.toInt ∧ t0_19.toInt ≤ 1 := btt0_19; omega), (by have t1 : 0 ≤ t0_19.toInt ∧ t0_19.toInt ≤ 1 := btt0_19; omega)⟩)
                  replace hA103 := (hu176 _ (by decide)).trans hA103
                  replace hF := q_us hF hu176 (by simp)
                  refine lv_aload_n hx hb d_16_18_231 rfl (lv_at hl 0 rfl) ?_
                  refine lv_aload_n hx hb d_16_18_232 rfl (lv_at hl 0 rfl) ?_
                  have ob177 : True ∧ S_VR_number t0_0 t0_1 t0_2 t0_3 t0_4 t0_5 t0_6 a173 lx51 lx63 lx64 lx101 (-1 : Int32) t0_13 t0_14 t0_15 t0_16 t0_17 t0_18 t0_19 t0_20 t0_21 t1_0 := (by rw [← e174]; have h := hS108; rw [S_VR_take_J167.eq_1] at h; replace h := q_s2 h; have c147x := c147; rw [e117] at c147x; rw [if_pos c147x] at h; have c152x := c152; rw [← e151] at c152x; rw [if_neg c152x] at h; replace h := q_s2 h; replace h := q_s2 h; have c161x := c161; rw [← e160, ← e156] at c161x; rw [if_neg c161x] at h; replace h := q_s2 h; replace h := q_s2 h; have c170x := c170; rw [← e169, ← e165] at c170x; rw [if_neg c170x] at h; with_reducible exact h.2.1)
                  refine q_goi V (q_runV (As := []) (rest := [.ref (q 157)]) (d := 3) (mc := 0) (ms := 0) (ci := 17) C0 V rfl LV_VR_88 (X_VR_number l D g q w175   hI t0_0 t0_1 t0_2 t0_3 t0_4 t0_5 t0_6 a173 lx51 lx63 lx64 lx101 (-1) t0_13 t0_14 t0_15 t0_16 t0_17 t0_18 t0_19 t0_20 t0_21 hO102 t1_0 hA103 ob177 _) rfl rfl hO102 rfl hl.1 rfl (Nat.le_of_ble_eq_true rfl) ⟨by decide, by decide⟩ ⟨Nat.le_of_ble_eq_true rfl, Nat.le_of_ble_eq_true rfl⟩ d_16_18_233) (fun a180 u178 H locs hp179 V => ?_)
                  obtain ⟨hI, hZ9⟩ := hp179
                  obtain ⟨hu185, hZ9⟩ := hZ9
                  obtain ⟨y182, hZ9⟩ := hZ9
                  obtain ⟨hO181, hZ9⟩ := hZ9
                  obtain ⟨b183, hE184⟩ := hZ9
                  replace hO181 : u178[157]? = (some (q 157, .inr (17, [.int t0_0, .ref (q 158), .int t0_1, .int t0_2, .ref (q 159), .ref (q 160), .ref (q 161), .ref (q 162), .ref (q 163), .int t0_3, .ref (q 164), .int t0_4, .int t0_5, .int t0_6, .int y182, .int lx51, .int lx63, .int lx64, .int lx101, .int (-1), .int t0_13, .int t0_14, .int t0_15, .int t0_16, .ref (q 165), .int t0_17, .int t0_18, .int t0_19, .ref (q 166), .int t0_20, .int t0_21])) : Option (Nat × va_E)) := hO181
                  obtain ⟨p186, e187⟩ : ∃ z, z = (F_VR_number t0_0 t0_1 t0_2 t0_3 t0_4 t0_5 t0_6 a173 lx51 lx63 lx64 lx101 (-1 : Int32) t0_13 t0_14 t0_15 t0_16 t0_17 t0_18 t0_19 t0_20 t0_21 t1_0) := ⟨_, rfl⟩
                  have e188 : a180 = p186.1 := congrArg (fun z => z.1) (hE184.trans e187.symm)
                  have e189 : y182 = p186.2 := congrArg (fun z => z.2) (hE184.trans e187.symm)
                  replace b183 : q_F (a180.toInt ≤ 9999) := b183
                  replace hA103 := (hu185 _ (by decide)).trans hA103
                  replace hF := q_uc hF hu185 (by simp)
                  have hR190 := (show F_VR_take_c233 (F_VR_take_L86 t0_0 t0_1 t0_2 t0_3 t0_4 t0_5 t0_6 t0_7 t0_8 t0_9 t0_10 t0_11 t0_12 t0_13 t0_14 t0_15 t0_16 t0_17 t0_18 t0_19 t0_20 t0_21 t1_0 lx50 lx51 fm76) t0_0 t0_1 t0_2 t0_3 t0_4 t0_5 t0_6 t0_7 t0_8 t0_9 t0_10 t0_11 t0_12 t0_13 t0_14 t0_15 t0_16 t0_17 t0_18 t0_19 t0_20 t0_21 t1_0 lx50 lx51 lx62 lx63 lx64 lx100 lx101 p186 = (F_VR_take t0_0 t0_1 t0_2 t0_3 t0_4 t0_5 t0_6 t0_7 t0_8 t0_9 t0_10 t0_11 t0_12 t0_13 t0_14 t0_15 t0_16 t0_17 t0_18 t0_19 t0_20 t0_21 t1_0) from Eq.trans (by have c147x := c147; rw [e117] at c147x; have c152x := c152; rw [← e151] at c152x; have c161x := c161; rw [← e160, ← e156] at c161x; have c170x := c170; rw [← e169, ← e165] at c170x; rw [e187, ← e174, F_VR_take_J167.eq_1, if_pos c147x, if_neg c152x, if_neg c161x, if_neg c170x]) hR107)
                  have hS191 := (show True ∧ S_VR_take_c233 (S_VR_take_L86 t0_0 t0_1 t0_2 t0_3 t0_4 t0_5 t0_6 t0_7 t0_8 t0_9 t0_10 t0_11 t0_12 t0_13 t0_14 t0_15 t0_16 t0_17 t0_18 t0_19 t0_20 t0_21 t1_0 lx50 lx51 fm76) t0_0 t0_1 t0_2 t0_3 t0_4 t0_5 t0_6 t0_7 t0_8 t0_9 t0_10 t0_11 t0_12 t0_13 t0_14 t0_15 t0_16 t0_17 t0_18 t0_19 t0_20 t0_21 t1_0 lx50 lx51 lx62 lx63 lx64 lx100 lx101 p186 from (by rw [e187, ← e174]; have h := hS108; rw [S_VR_take_J167.eq_1] at h; replace h := q_s2 h; have c147x := c147; rw [e117] at c147x; rw [if_pos c147x] at h; have c152x := c152; rw [← e151] at c152x; rw [if_neg c152x] at h; replace h := q_s2 h; replace h := q_s2 h; have c161x := c161; rw [← e160, ← e156] at c161x; rw [if_neg c161x] at h; replace h := q_s2 h; replace h := q_s2 h; have c170x := c170; rw [← e169, ← e165] at c170x; rw [if_neg c170x] at h; replace h := q_s2 h; with_reducible exact h))
                  refine q_put (ci := 17) (j := 19) (v := .int a180) (ty := .int) C0 V i_VR o_VR n_VR rfl rfl hO181 (by decide) w_2223 rfl rfl rfl rfl (Nat.le_of_ble_eq_true rfl) d_16_18_236 (fun H locs w195 hu196 hO181 V => ?_)
                  replace hO181 : w195[157]? = (some (q 157, .inr (17, [.int t0_0, .ref (q 158), .int t0_1, .int t0_2, .ref (q 159), .ref (q 160), .ref (q 161), .ref (q 162), .ref (q 163), .int t0_3, .ref (q 164), .int t0_4, .int t0_5, .int t0_6, .int y182, .int lx51, .int lx63, .int lx64, .int lx101, .int a180, .int t0_13, .int t0_14, .int t0_15, .int t0_16, .ref (q 165), .int t0_17, .int t0_18, .int t0_19, .ref (q 166), .int t0_20, .int t0_21])) : Option (Nat × va_E)) := hO181
                  replace hI := n_p157 hI hu196 hO181 (by first | with_reducible exact q_fe btt0_1 | exact ⟨(by have t1 : 0 ≤ t0_1.toInt ∧ t0_1.toInt ≤ 256 := btt0_1; omega), (by have t1 : 0 ≤ t0_1.toInt ∧ t0_1.toInt ≤ 256 := btt0_1; omega)⟩) (by first | with_reducible exact q_fe btt0_2 | exact ⟨(by have t1 : 0 ≤ t0_2.toInt ∧ t0_2.toInt ≤ 9 := btt0_2; omega), (by have t1 : 0 ≤ t0_2.toInt ∧ t0_2.toInt ≤ 9 := btt0_2; omega)⟩) (by first | with_reducible exact q_fe btt0_3 | exact ⟨(by have t1 : 0 ≤ t0_3.toInt ∧ t0_3.toInt ≤ 4096 := btt0_3; omega), (by have t1 : 0 ≤ t0_3.toInt ∧ t0_3.toInt ≤ 4096 := btt0_3; omega)⟩) ⟨(by first | with_reducible exact q_fe i66 | (have t1 : 0 ≤ lx64.toInt := i66; omega)), (by first | with_reducible exact q_fe i67 | (have t1 : lx64.toInt ≤ 1 := i67; omega))⟩ (by first | with_reducible exact q_fe btt0_19 | exact ⟨(by have t1 : 0 ≤ t0_19.toInt ∧ t0_19.toInt ≤ 1 := btt0_19; omega), (by have t1 : 0 ≤ t0_19.toInt ∧ t0_19.toInt ≤ 1 := btt0_19; omega)⟩)
                  replace hA103 := (hu196 _ (by decide)).trans hA103
                  replace hF := q_us hF hu196 (by simp)
                  exact J122 ((y182 : Int32), (a180 : Int32)) _ _ _ _ ⟨(show q_F (a180.toInt ≤ 9999) from (show a180.toInt ≤ 9999 from by have t1 : a180.toInt ≤ 9999 := b183; omega)), V, q_lw hl (q_lw1 0 rfl q_lw0), hI, hF, hO181, hA103, (show F_VR_take_J239 (F_VR_take_L86 t0_0 t0_1 t0_2 t0_3 t0_4 t0_5 t0_6 t0_7 t0_8 t0_9 t0_10 t0_11 t0_12 t0_13 t0_14 t0_15 t0_16 t0_17 t0_18 t0_19 t0_20 t0_21 t1_0 lx50 lx51 fm76) t0_0 t0_1 t0_2 t0_3 t0_4 t0_5 t0_6 t0_7 t0_8 t0_9 t0_10 t0_11 t0_12 t0_13 t0_14 t0_15 t0_16 t0_17 t0_18 t0_19 t0_20 t0_21 t1_0 lx50 lx51 lx62 lx63 lx64 lx100 lx101 y182 a180 = (F_VR_take t0_0 t0_1 t0_2 t0_3 t0_4 t0_5 t0_6 t0_7 t0_8 t0_9 t0_10 t0_11 t0_12 t0_13 t0_14 t0_15 t0_16 t0_17 t0_18 t0_19 t0_20 t0_21 t1_0) from Eq.trans (by rw [e189, e188, F_VR_take_c233.eq_1]) hR190), (show True ∧ S_VR_take_J239 (S_VR_take_L86 t0_0 t0_1 t0_2 t0_3 t0_4 t0_5 t0_6 t0_7 t0_8 t0_9 t0_10 t0_11 t0_12 t0_13 t0_14 t0_15 t0_16 t0_17 t0_18 t0_19 t0_20 t0_21 t1_0 lx50 lx51 fm76) t0_0 t0_1 t0_2 t0_3 t0_4 t0_5 t0_6 t0_7 t0_8 t0_9 t0_10 t0_11 t0_12 t0_13 t0_14 t0_15 t0_16 t0_17 t0_18 t0_19 t0_20 t0_21 t1_0 lx50 lx51 lx62 lx63 lx64 lx100 lx101 y182 a180 from (by rw [e189, e188]; have h := hS191; rw [S_VR_take_c233.eq_1] at h; with_reducible exact h))⟩
      ·
        intro J104
        refine lv_if_eq (tgt := 167) hx hb d_16_18_156 (by decide) (fun c197 => ?_) (fun c197 => ?_)
        ·
          exact J104 ((lx62 : Int32), ((-1) : Int32)) _ _ _ _ ⟨(show q_F ((-1) ≤ 9999) from (show (-1) ≤ 9999 from by omega)), V, q_lw hl (q_lw1 0 rfl q_lw0), hI, hF, hO70, hO71, (show F_VR_take_J167 (F_VR_take_L86 t0_0 t0_1 t0_2 t0_3 t0_4 t0_5 t0_6 t0_7 t0_8 t0_9 t0_10 t0_11 t0_12 t0_13 t0_14 t0_15 t0_16 t0_17 t0_18 t0_19 t0_20 t0_21 t1_0 lx50 lx51 fm76) t0_0 t0_1 t0_2 t0_3 t0_4 t0_5 t0_6 t0_7 t0_8 t0_9 t0_10 t0_11 t0_12 t0_13 t0_14 t0_15 t0_16 t0_17 t0_18 t0_19 t0_20 t0_21 t1_0 lx50 lx51 lx62 lx63 lx64 lx62 (-1) = (F_VR_take t0_0 t0_1 t0_2 t0_3 t0_4 t0_5 t0_6 t0_7 t0_8 t0_9 t0_10 t0_11 t0_12 t0_13 t0_14 t0_15 t0_16 t0_17 t0_18 t0_19 t0_20 t0_21 t1_0) from Eq.trans (by have c90x := c90; rw [e89, e82] at c90x; have c197x := c197; rw [e99] at c197x; rw [F_VR_take_L86.eq_2, if_pos c90x, if_pos c197x]) hR72), (show True ∧ S_VR_take_J167 (S_VR_take_L86 t0_0 t0_1 t0_2 t0_3 t0_4 t0_5 t0_6 t0_7 t0_8 t0_9 t0_10 t0_11 t0_12 t0_13 t0_14 t0_15 t0_16 t0_17 t0_18 t0_19 t0_20 t0_21 t1_0 lx50 lx51 fm76) t0_0 t0_1 t0_2 t0_3 t0_4 t0_5 t0_6 t0_7 t0_8 t0_9 t0_10 t0_11 t0_12 t0_13 t0_14 t0_15 t0_16 t0_17 t0_18 t0_19 t0_20 t0_21 t1_0 lx50 lx51 lx62 lx63 lx64 lx62 (-1) from (by have h := hS73; rw [S_VR_take_L86.eq_2] at h; replace h := q_s2 h; have c90x := c90; rw [e89, e82] at c90x; rw [if_pos c90x] at h; replace h := q_s2 h; have c197x := c197; rw [e99] at c197x; rw [if_pos c197x] at h; with_reducible exact h))⟩
        ·
          refine lv_aload_n hx hb d_16_18_159 rfl (lv_at hl 0 rfl) ?_
          refine lv_aload_n hx hb d_16_18_160 rfl (lv_at hl 0 rfl) ?_
          have ob200 : True ∧ S_VR_number t0_0 t0_1 t0_2 t0_3 t0_4 t0_5 t0_6 lx62 lx51 lx63 lx64 (-1 : Int32) (-1 : Int32) t0_13 t0_14 t0_15 t0_16 t0_17 t0_18 t0_19 t0_20 t0_21 t1_0 := (by have h := hS73; rw [S_VR_take_L86.eq_2] at h; replace h := q_s2 h; have c90x := c90; rw [e89, e82] at c90x; rw [if_pos c90x] at h; replace h := q_s2 h; have c197x := c197; rw [e99] at c197x; rw [if_neg c197x] at h; with_reducible exact h.2.1)
          refine q_goi V (q_runV (As := []) (rest := [.ref (q 157)]) (d := 3) (mc := 0) (ms := 0) (ci := 17) C0 V rfl LV_VR_88 (X_VR_number l D g q w69   hI t0_0 t0_1 t0_2 t0_3 t0_4 t0_5 t0_6 lx62 lx51 lx63 lx64 (-1) (-1) t0_13 t0_14 t0_15 t0_16 t0_17 t0_18 t0_19 t0_20 t0_21 hO70 t1_0 hO71 ob200 _) rfl rfl hO70 rfl hl.1 rfl (Nat.le_of_ble_eq_true rfl) ⟨by decide, by decide⟩ ⟨Nat.le_of_ble_eq_true rfl, Nat.le_of_ble_eq_true rfl⟩ d_16_18_161) (fun a203 u201 H locs hp202 V => ?_)
          obtain ⟨hI, hZ9⟩ := hp202
          obtain ⟨hu208, hZ9⟩ := hZ9
          obtain ⟨y205, hZ9⟩ := hZ9
          obtain ⟨hO204, hZ9⟩ := hZ9
          obtain ⟨b206, hE207⟩ := hZ9
          replace hO204 : u201[157]? = (some (q 157, .inr (17, [.int t0_0, .ref (q 158), .int t0_1, .int t0_2, .ref (q 159), .ref (q 160), .ref (q 161), .ref (q 162), .ref (q 163), .int t0_3, .ref (q 164), .int t0_4, .int t0_5, .int t0_6, .int y205, .int lx51, .int lx63, .int lx64, .int (-1), .int (-1), .int t0_13, .int t0_14, .int t0_15, .int t0_16, .ref (q 165), .int t0_17, .int t0_18, .int t0_19, .ref (q 166), .int t0_20, .int t0_21])) : Option (Nat × va_E)) := hO204
          obtain ⟨p209, e210⟩ : ∃ z, z = (F_VR_number t0_0 t0_1 t0_2 t0_3 t0_4 t0_5 t0_6 lx62 lx51 lx63 lx64 (-1 : Int32) (-1 : Int32) t0_13 t0_14 t0_15 t0_16 t0_17 t0_18 t0_19 t0_20 t0_21 t1_0) := ⟨_, rfl⟩
          have e211 : a203 = p209.1 := congrArg (fun z => z.1) (hE207.trans e210.symm)
          have e212 : y205 = p209.2 := congrArg (fun z => z.2) (hE207.trans e210.symm)
          replace b206 : q_F (a203.toInt ≤ 9999) := b206
          replace hO71 := (hu208 _ (by decide)).trans hO71
          replace hF := q_uc hF hu208 (by simp)
          have hR213 := (show F_VR_take_c161 (F_VR_take_L86 t0_0 t0_1 t0_2 t0_3 t0_4 t0_5 t0_6 t0_7 t0_8 t0_9 t0_10 t0_11 t0_12 t0_13 t0_14 t0_15 t0_16 t0_17 t0_18 t0_19 t0_20 t0_21 t1_0 lx50 lx51 fm76) t0_0 t0_1 t0_2 t0_3 t0_4 t0_5 t0_6 t0_7 t0_8 t0_9 t0_10 t0_11 t0_12 t0_13 t0_14 t0_15 t0_16 t0_17 t0_18 t0_19 t0_20 t0_21 t1_0 lx50 lx51 lx62 lx63 lx64 p209 = (F_VR_take t0_0 t0_1 t0_2 t0_3 t0_4 t0_5 t0_6 t0_7 t0_8 t0_9 t0_10 t0_11 t0_12 t0_13 t0_14 t0_15 t0_16 t0_17 t0_18 t0_19 t0_20 t0_21 t1_0) from Eq.trans (by have c90x := c90; rw [e89, e82] at c90x; have c197x := c197; rw [e99] at c197x; rw [e210, F_VR_take_L86.eq_2, if_pos c90x, if_neg c197x]) hR72)
          have hS214 := (show True ∧ S_VR_take_c161 (S_VR_take_L86 t0_0 t0_1 t0_2 t0_3 t0_4 t0_5 t0_6 t0_7 t0_8 t0_9 t0_10 t0_11 t0_12 t0_13 t0_14 t0_15 t0_16 t0_17 t0_18 t0_19 t0_20 t0_21 t1_0 lx50 lx51 fm76) t0_0 t0_1 t0_2 t0_3 t0_4 t0_5 t0_6 t0_7 t0_8 t0_9 t0_10 t0_11 t0_12 t0_13 t0_14 t0_15 t0_16 t0_17 t0_18 t0_19 t0_20 t0_21 t1_0 lx50 lx51 lx62 lx63 lx64 p209 from (by rw [e210]; have h := hS73; rw [S_VR_take_L86.eq_2] at h; replace h := q_s2 h; have c90x := c90; rw [e89, e82] at c90x; rw [if_pos c90x] at h; replace h := q_s2 h; have c197x := c197; rw [e99] at c197x; rw [if_neg c197x] at h; replace h := q_s2 h; with_reducible exact h))
          refine q_put (ci := 17) (j := 18) (v := .int a203) (ty := .int) C0 V i_VR o_VR n_VR rfl rfl hO204 (by decide) w_2222 rfl rfl rfl rfl (Nat.le_of_ble_eq_true rfl) d_16_18_164 (fun H locs w218 hu219 hO204 V => ?_)
          replace hO204 : w218[157]? = (some (q 157, .inr (17, [.int t0_0, .ref (q 158), .int t0_1, .int t0_2, .ref (q 159), .ref (q 160), .ref (q 161), .ref (q 162), .ref (q 163), .int t0_3, .ref (q 164), .int t0_4, .int t0_5, .int t0_6, .int y205, .int lx51, .int lx63, .int lx64, .int a203, .int (-1), .int t0_13, .int t0_14, .int t0_15, .int t0_16, .ref (q 165), .int t0_17, .int t0_18, .int t0_19, .ref (q 166), .int t0_20, .int t0_21])) : Option (Nat × va_E)) := hO204
          replace hI := n_p157 hI hu219 hO204 (by first | with_reducible exact q_fe btt0_1 | exact ⟨(by have t1 : 0 ≤ t0_1.toInt ∧ t0_1.toInt ≤ 256 := btt0_1; omega), (by have t1 : 0 ≤ t0_1.toInt ∧ t0_1.toInt ≤ 256 := btt0_1; omega)⟩) (by first | with_reducible exact q_fe btt0_2 | exact ⟨(by have t1 : 0 ≤ t0_2.toInt ∧ t0_2.toInt ≤ 9 := btt0_2; omega), (by have t1 : 0 ≤ t0_2.toInt ∧ t0_2.toInt ≤ 9 := btt0_2; omega)⟩) (by first | with_reducible exact q_fe btt0_3 | exact ⟨(by have t1 : 0 ≤ t0_3.toInt ∧ t0_3.toInt ≤ 4096 := btt0_3; omega), (by have t1 : 0 ≤ t0_3.toInt ∧ t0_3.toInt ≤ 4096 := btt0_3; omega)⟩) ⟨(by first | with_reducible exact q_fe i66 | (have t1 : 0 ≤ lx64.toInt := i66; omega)), (by first | with_reducible exact q_fe i67 | (have t1 : lx64.toInt ≤ 1 := i67; omega))⟩ (by first | with_reducible exact q_fe btt0_19 | exact ⟨(by have t1 : 0 ≤ t0_19.toInt ∧ t0_19.toInt ≤ 1 := btt0_19; omega), (by have t1 : 0 ≤ t0_19.toInt ∧ t0_19.toInt ≤ 1 := btt0_19; omega)⟩)
          replace hO71 := (hu219 _ (by decide)).trans hO71
          replace hF := q_us hF hu219 (by simp)
          exact J104 ((y205 : Int32), (a203 : Int32)) _ _ _ _ ⟨(show q_F (a203.toInt ≤ 9999) from (show a203.toInt ≤ 9999 from by have t1 : a203.toInt ≤ 9999 := b206; omega)), V, q_lw hl (q_lw1 0 rfl q_lw0), hI, hF, hO204, hO71, (show F_VR_take_J167 (F_VR_take_L86 t0_0 t0_1 t0_2 t0_3 t0_4 t0_5 t0_6 t0_7 t0_8 t0_9 t0_10 t0_11 t0_12 t0_13 t0_14 t0_15 t0_16 t0_17 t0_18 t0_19 t0_20 t0_21 t1_0 lx50 lx51 fm76) t0_0 t0_1 t0_2 t0_3 t0_4 t0_5 t0_6 t0_7 t0_8 t0_9 t0_10 t0_11 t0_12 t0_13 t0_14 t0_15 t0_16 t0_17 t0_18 t0_19 t0_20 t0_21 t1_0 lx50 lx51 lx62 lx63 lx64 y205 a203 = (F_VR_take t0_0 t0_1 t0_2 t0_3 t0_4 t0_5 t0_6 t0_7 t0_8 t0_9 t0_10 t0_11 t0_12 t0_13 t0_14 t0_15 t0_16 t0_17 t0_18 t0_19 t0_20 t0_21 t1_0) from Eq.trans (by rw [e212, e211, F_VR_take_c161.eq_1]) hR213), (show True ∧ S_VR_take_J167 (S_VR_take_L86 t0_0 t0_1 t0_2 t0_3 t0_4 t0_5 t0_6 t0_7 t0_8 t0_9 t0_10 t0_11 t0_12 t0_13 t0_14 t0_15 t0_16 t0_17 t0_18 t0_19 t0_20 t0_21 t1_0 lx50 lx51 fm76) t0_0 t0_1 t0_2 t0_3 t0_4 t0_5 t0_6 t0_7 t0_8 t0_9 t0_10 t0_11 t0_12 t0_13 t0_14 t0_15 t0_16 t0_17 t0_18 t0_19 t0_20 t0_21 t1_0 lx50 lx51 lx62 lx63 lx64 y205 a203 from (by rw [e212, e211]; have h := hS214; rw [S_VR_take_c161.eq_1] at h; with_reducible exact h))⟩
    ·
      refine lv_aload_n hx hb d_16_18_96 rfl (lv_at hl 0 rfl) ?_
      refine lv_aload_n hx hb d_16_18_97 rfl (lv_at hl 0 rfl) ?_
      refine q_get (ci := 17) (j := 17) (v := .int lx64) C0 V i_VR rfl rfl hO70 (by decide) w_2221 rfl d_16_18_98 ?_
      refine q_join (X := Int32) (fun z H locs ls _ => q_F (z.toInt ≤ 1) ∧ q_F (lx64.toInt ≤ z.toInt) ∧ q_Wd D g (va_A ws sz) s w69 H locs ∧ lv_has ls 2 [(0, .ref (q 157))] ∧ F_VR_take_J120 (F_VR_take_L86 t0_0 t0_1 t0_2 t0_3 t0_4 t0_5 t0_6 t0_7 t0_8 t0_9 t0_10 t0_11 t0_12 t0_13 t0_14 t0_15 t0_16 t0_17 t0_18 t0_19 t0_20 t0_21 t1_0 lx50 lx51 fm76) t0_0 t0_1 t0_2 t0_3 t0_4 t0_5 t0_6 t0_7 t0_8 t0_9 t0_10 t0_11 t0_12 t0_13 t0_14 t0_15 t0_16 t0_17 t0_18 t0_19 t0_20 t0_21 t1_0 lx50 lx51 lx62 lx63 lx64 z = (F_VR_take t0_0 t0_1 t0_2 t0_3 t0_4 t0_5 t0_6 t0_7 t0_8 t0_9 t0_10 t0_11 t0_12 t0_13 t0_14 t0_15 t0_16 t0_17 t0_18 t0_19 t0_20 t0_21 t1_0) ∧ True ∧ S_VR_take_J120 (S_VR_take_L86 t0_0 t0_1 t0_2 t0_3 t0_4 t0_5 t0_6 t0_7 t0_8 t0_9 t0_10 t0_11 t0_12 t0_13 t0_14 t0_15 t0_16 t0_17 t0_18 t0_19 t0_20 t0_21 t1_0 lx50 lx51 fm76) t0_0 t0_1 t0_2 t0_3 t0_4 t0_5 t0_6 t0_7 t0_8 t0_9 t0_10 t0_11 t0_12 t0_13 t0_14 t0_15 t0_16 t0_17 t0_18 t0_19 t0_20 t0_21 t1_0 lx50 lx51 lx62 lx63 lx64 z) (fun z => [.int z, .ref (q 157)]) 120 0 0 ?_ ?_
      ·
        rintro lx221 H locs ls _ hZ9
        obtain ⟨i225, hZ9⟩ := hZ9
        obtain ⟨i226, hZ9⟩ := hZ9
        obtain ⟨V, hZ9⟩ := hZ9
        obtain ⟨hl, hZ9⟩ := hZ9
        obtain ⟨hR227, hS228⟩ := hZ9
        replace i225 : q_F (lx221.toInt ≤ 1) := i225
        replace i226 : q_F (lx64.toInt ≤ lx221.toInt) := i226
        replace hl : lv_has ls 2 [(0, .ref (q 157))] := hl
        refine q_put (ci := 17) (j := 17) (v := .int lx221) (ty := .boolean) C0 V i_VR o_VR n_VR rfl rfl hO70 (by decide) w_2221 rfl rfl (q_nz01 (q_Ile (x := 0) (y := lx221.toInt) (by decide) rfl (by have t1 : 0 ≤ lx64.toInt := i66; have t2 : lx64.toInt ≤ lx221.toInt := i226; omega)) (q_Ile (x := lx221.toInt) (y := 1) rfl (by decide) (by first | with_reducible exact q_fe i225 | (have t1 : lx221.toInt ≤ 1 := i225; omega)))) (q_fz01 (q_Ile (x := 0) (y := lx221.toInt) (by decide) rfl (by have t1 : 0 ≤ lx64.toInt := i66; have t2 : lx64.toInt ≤ lx221.toInt := i226; omega)) (q_Ile (x := lx221.toInt) (y := 1) rfl (by decide) (by first | with_reducible exact q_fe i225 | (have t1 : lx221.toInt ≤ 1 := i225; omega)))) (Nat.le_of_ble_eq_true rfl) d_16_18_120 (fun H locs w232 hu233 hO70 V => ?_)
        replace hO70 : w232[157]? = (some (q 157, .inr (17, [.int t0_0, .ref (q 158), .int t0_1, .int t0_2, .ref (q 159), .ref (q 160), .ref (q 161), .ref (q 162), .ref (q 163), .int t0_3, .ref (q 164), .int t0_4, .int t0_5, .int t0_6, .int lx62, .int lx51, .int lx63, .int lx221, .int (-1), .int (-1), .int t0_13, .int t0_14, .int t0_15, .int t0_16, .ref (q 165), .int t0_17, .int t0_18, .int t0_19, .ref (q 166), .int t0_20, .int t0_21])) : Option (Nat × va_E)) := hO70
        replace hI := n_p157 hI hu233 hO70 (by first | with_reducible exact q_fe btt0_1 | exact ⟨(by have t1 : 0 ≤ t0_1.toInt ∧ t0_1.toInt ≤ 256 := btt0_1; omega), (by have t1 : 0 ≤ t0_1.toInt ∧ t0_1.toInt ≤ 256 := btt0_1; omega)⟩) (by first | with_reducible exact q_fe btt0_2 | exact ⟨(by have t1 : 0 ≤ t0_2.toInt ∧ t0_2.toInt ≤ 9 := btt0_2; omega), (by have t1 : 0 ≤ t0_2.toInt ∧ t0_2.toInt ≤ 9 := btt0_2; omega)⟩) (by first | with_reducible exact q_fe btt0_3 | exact ⟨(by have t1 : 0 ≤ t0_3.toInt ∧ t0_3.toInt ≤ 4096 := btt0_3; omega), (by have t1 : 0 ≤ t0_3.toInt ∧ t0_3.toInt ≤ 4096 := btt0_3; omega)⟩) ⟨(by have t1 : 0 ≤ lx64.toInt := i66; have t2 : lx64.toInt ≤ lx221.toInt := i226; omega), (by first | with_reducible exact q_fe i225 | (have t1 : lx221.toInt ≤ 1 := i225; omega))⟩ (by first | with_reducible exact q_fe btt0_19 | exact ⟨(by have t1 : 0 ≤ t0_19.toInt ∧ t0_19.toInt ≤ 1 := btt0_19; omega), (by have t1 : 0 ≤ t0_19.toInt ∧ t0_19.toInt ≤ 1 := btt0_19; omega)⟩)
        replace hO71 := (hu233 _ (by decide)).trans hO71
        replace hF := q_us hF hu233 (by simp)
        refine lv_aload_n hx hb d_16_18_123 rfl (lv_at hl 0 rfl) ?_
        refine lv_aload_n hx hb d_16_18_124 rfl (lv_at hl 0 rfl) ?_
        refine q_get (ci := 17) (j := 16) (v := .int lx63) C0 V i_VR rfl rfl hO70 (by decide) w_2220 rfl d_16_18_125 ?_
        refine lv_aload_n hx hb d_16_18_128 rfl (lv_at hl 0 rfl) ?_
        have ob234 : True ∧ S_VR_here t0_0 t0_1 t0_2 t0_3 t0_4 t0_5 t0_6 lx62 lx51 lx63 lx221 (-1 : Int32) (-1 : Int32) t0_13 t0_14 t0_15 t0_16 t0_17 t0_18 t0_19 t0_20 t0_21 t1_0 := (by have h := hS228; rw [S_VR_take_J120.eq_1] at h; with_reducible exact h.2.1)
        refine q_goi V (q_runV (As := []) (rest := [.int lx63, .ref (q 157)]) (d := 1) (mc := 0) (ms := 0) (ci := 17) C0 V rfl LV_VR_60 (X_VR_here l D g q w232   hI t0_0 t0_1 t0_2 t0_3 t0_4 t0_5 t0_6 lx62 lx51 lx63 lx221 (-1) (-1) t0_13 t0_14 t0_15 t0_16 t0_17 t0_18 t0_19 t0_20 t0_21 hO70 t1_0 hO71 ob234 _) rfl rfl hO70 rfl hl.1 rfl (Nat.le_of_ble_eq_true rfl) ⟨by decide, by decide⟩ ⟨Nat.le_of_ble_eq_true rfl, Nat.le_of_ble_eq_true rfl⟩ d_16_18_129) (fun a237 u235 H locs hp236 V => ?_)
        obtain ⟨rfl, hE238⟩ := hp236
        have e239 : a237 = (F_VR_here t0_0 t0_1 t0_2 t0_3 t0_4 t0_5 t0_6 lx62 lx51 lx63 lx221 (-1 : Int32) (-1 : Int32) t0_13 t0_14 t0_15 t0_16 t0_17 t0_18 t0_19 t0_20 t0_21 t1_0) := hE238
        refine q_goi V (q_runS (As := [.int a237]) (rest := [.int lx63, .ref (q 157)]) (d := 1) (mc := 0) (ms := 0) C0 V rfl LS_VR_71 (X_VR_flag l D g q w232  a237 hI   _) rfl hl.1 rfl (Nat.le_of_ble_eq_true rfl) ⟨by decide, by decide⟩ ⟨Nat.le_of_ble_eq_true rfl, Nat.le_of_ble_eq_true rfl⟩ d_16_18_132) (fun a242 u240 H locs hp241 V => ?_)
        obtain ⟨rfl, b243, b244, hE245⟩ := hp241
        have e246 : a242 = (F_VR_flag a237) := hE245
        replace b243 : q_F (0 ≤ a242.toInt) := b243
        replace b244 : q_F (a242.toInt ≤ 128) := b244
        refine lv_ior hx hb d_16_18_135 ?_
        obtain ⟨a247, e248⟩ := q_nm (lx63 ||| a242 : Int32)
        refine q_ti (v := a247) e248 ?_
        have b249 : q_F (0 ≤ a247.toInt ∧ a247.toInt ≤ 2147483647) := (by rw [← e248]; show 0 ≤ (lx63 ||| a242 : Int32).toInt ∧ (lx63 ||| a242 : Int32).toInt ≤ 2147483647; exact s_or' (x := lx63) (y := a242) 31 (by decide) 2147483647 (by decide) ⟨(by have t1 : 0 ≤ lx63.toInt := i65; have _ := q_lo32 (x := lx63); have _ := q_hi32 (x := lx63); omega), (by have t1 : 0 ≤ lx63.toInt := i65; have _ := q_lo32 (x := lx63); have _ := q_hi32 (x := lx63); omega)⟩ ⟨(by have t1 : 0 ≤ a242.toInt := b243; have t2 : a242.toInt ≤ 128 := b244; omega), (by have t1 : 0 ≤ a242.toInt := b243; have t2 : a242.toInt ≤ 128 := b244; omega)⟩)
        refine q_put (ci := 17) (j := 16) (v := .int a247) (ty := .int) C0 V i_VR o_VR n_VR rfl rfl hO70 (by decide) w_2220 rfl rfl rfl rfl (Nat.le_of_ble_eq_true rfl) d_16_18_136 (fun H locs w250 hu251 hO70 V => ?_)
        replace hO70 : w250[157]? = (some (q 157, .inr (17, [.int t0_0, .ref (q 158), .int t0_1, .int t0_2, .ref (q 159), .ref (q 160), .ref (q 161), .ref (q 162), .ref (q 163), .int t0_3, .ref (q 164), .int t0_4, .int t0_5, .int t0_6, .int lx62, .int lx51, .int a247, .int lx221, .int (-1), .int (-1), .int t0_13, .int t0_14, .int t0_15, .int t0_16, .ref (q 165), .int t0_17, .int t0_18, .int t0_19, .ref (q 166), .int t0_20, .int t0_21])) : Option (Nat × va_E)) := hO70
        replace hI := n_p157 hI hu251 hO70 (by first | with_reducible exact q_fe btt0_1 | exact ⟨(by have t1 : 0 ≤ t0_1.toInt ∧ t0_1.toInt ≤ 256 := btt0_1; omega), (by have t1 : 0 ≤ t0_1.toInt ∧ t0_1.toInt ≤ 256 := btt0_1; omega)⟩) (by first | with_reducible exact q_fe btt0_2 | exact ⟨(by have t1 : 0 ≤ t0_2.toInt ∧ t0_2.toInt ≤ 9 := btt0_2; omega), (by have t1 : 0 ≤ t0_2.toInt ∧ t0_2.toInt ≤ 9 := btt0_2; omega)⟩) (by first | with_reducible exact q_fe btt0_3 | exact ⟨(by have t1 : 0 ≤ t0_3.toInt ∧ t0_3.toInt ≤ 4096 := btt0_3; omega), (by have t1 : 0 ≤ t0_3.toInt ∧ t0_3.toInt ≤ 4096 := btt0_3; omega)⟩) ⟨(by have t1 : 0 ≤ lx64.toInt := i66; have t2 : lx64.toInt ≤ lx221.toInt := i226; omega), (by first | with_reducible exact q_fe i225 | (have t1 : lx221.toInt ≤ 1 := i225; omega))⟩ (by first | with_reducible exact q_fe btt0_19 | exact ⟨(by have t1 : 0 ≤ t0_19.toInt ∧ t0_19.toInt ≤ 1 := btt0_19; omega), (by have t1 : 0 ≤ t0_19.toInt ∧ t0_19.toInt ≤ 1 := btt0_19; omega)⟩)
        replace hO71 := (hu251 _ (by decide)).trans hO71
        replace hF := q_us hF hu251 (by simp)
        refine lv_aload_n hx hb d_16_18_139 rfl (lv_at hl 0 rfl) ?_
        refine lv_dup hx hb d_16_18_140 rfl ?_
        refine q_get (ci := 17) (j := 14) (v := .int lx62) C0 V i_VR rfl rfl hO70 (by decide) w_2218 rfl d_16_18_141 ?_
        refine lv_iconst (v := 1) hx hb d_16_18_144 (by decide) ?_
        refine lv_iadd hx hb d_16_18_145 ?_
        obtain ⟨a252, e253⟩ := q_nm (lx62 + 1 : Int32)
        refine q_ti (v := a252) e253 ?_
        refine q_put (ci := 17) (j := 14) (v := .int a252) (ty := .int) C0 V i_VR o_VR n_VR rfl rfl hO70 (by decide) w_2218 rfl rfl rfl rfl (Nat.le_of_ble_eq_true rfl) d_16_18_146 (fun H locs w254 hu255 hO70 V => ?_)
        replace hO70 : w254[157]? = (some (q 157, .inr (17, [.int t0_0, .ref (q 158), .int t0_1, .int t0_2, .ref (q 159), .ref (q 160), .ref (q 161), .ref (q 162), .ref (q 163), .int t0_3, .ref (q 164), .int t0_4, .int t0_5, .int t0_6, .int a252, .int lx51, .int a247, .int lx221, .int (-1), .int (-1), .int t0_13, .int t0_14, .int t0_15, .int t0_16, .ref (q 165), .int t0_17, .int t0_18, .int t0_19, .ref (q 166), .int t0_20, .int t0_21])) : Option (Nat × va_E)) := hO70
        replace hI := n_p157 hI hu255 hO70 (by first | with_reducible exact q_fe btt0_1 | exact ⟨(by have t1 : 0 ≤ t0_1.toInt ∧ t0_1.toInt ≤ 256 := btt0_1; omega), (by have t1 : 0 ≤ t0_1.toInt ∧ t0_1.toInt ≤ 256 := btt0_1; omega)⟩) (by first | with_reducible exact q_fe btt0_2 | exact ⟨(by have t1 : 0 ≤ t0_2.toInt ∧ t0_2.toInt ≤ 9 := btt0_2; omega), (by have t1 : 0 ≤ t0_2.toInt ∧ t0_2.toInt ≤ 9 := btt0_2; omega)⟩) (by first | with_reducible exact q_fe btt0_3 | exact ⟨(by have t1 : 0 ≤ t0_3.toInt ∧ t0_3.toInt ≤ 4096 := btt0_3; omega), (by have t1 : 0 ≤ t0_3.toInt ∧ t0_3.toInt ≤ 4096 := btt0_3; omega)⟩) ⟨(by have t1 : 0 ≤ lx64.toInt := i66; have t2 : lx64.toInt ≤ lx221.toInt := i226; omega), (by first | with_reducible exact q_fe i225 | (have t1 : lx221.toInt ≤ 1 := i225; omega))⟩ (by first | with_reducible exact q_fe btt0_19 | exact ⟨(by have t1 : 0 ≤ t0_19.toInt ∧ t0_19.toInt ≤ 1 := btt0_19; omega), (by have t1 : 0 ≤ t0_19.toInt ∧ t0_19.toInt ≤ 1 := btt0_19; omega)⟩)
        replace hO71 := (hu255 _ (by decide)).trans hO71
        replace hF := q_us hF hu255 (by simp)
        refine lv_goto (tgt := 86) hx hb d_16_18_149 (by decide) ?_
        exact ih68 ((fm76 : Nat), (a252 : Int32), (a247 : Int32), (lx221 : Int32)) _ _ _ _ (Nat.lt_succ_self _) ⟨(show q_F (0 ≤ a247.toInt) from (show 0 ≤ a247.toInt from by have t1 : 0 ≤ a247.toInt ∧ a247.toInt ≤ 2147483647 := b249; omega)), (show q_F (0 ≤ lx221.toInt) from (show 0 ≤ lx221.toInt from by have t1 : 0 ≤ lx64.toInt := i66; have t2 : lx64.toInt ≤ lx221.toInt := i226; omega)), (show q_F (lx221.toInt ≤ 1) from (show lx221.toInt ≤ 1 from by have t1 : lx221.toInt ≤ 1 := i225; omega)), V, q_lw hl (q_lw1 0 rfl q_lw0), hI, hF, hO70, hO71, (show F_VR_take_L86 t0_0 t0_1 t0_2 t0_3 t0_4 t0_5 t0_6 t0_7 t0_8 t0_9 t0_10 t0_11 t0_12 t0_13 t0_14 t0_15 t0_16 t0_17 t0_18 t0_19 t0_20 t0_21 t1_0 lx50 lx51 fm76 a252 a247 lx221 = (F_VR_take t0_0 t0_1 t0_2 t0_3 t0_4 t0_5 t0_6 t0_7 t0_8 t0_9 t0_10 t0_11 t0_12 t0_13 t0_14 t0_15 t0_16 t0_17 t0_18 t0_19 t0_20 t0_21 t1_0) from Eq.trans (by rw [← e253, ← e248, e246, e239, F_VR_take_J120.eq_1]) hR227), (show True ∧ S_VR_take_L86 t0_0 t0_1 t0_2 t0_3 t0_4 t0_5 t0_6 t0_7 t0_8 t0_9 t0_10 t0_11 t0_12 t0_13 t0_14 t0_15 t0_16 t0_17 t0_18 t0_19 t0_20 t0_21 t1_0 lx50 lx51 fm76 a252 a247 lx221 from (by rw [← e253, ← e248, e246, e239]; have h := hS228; rw [S_VR_take_J120.eq_1] at h; replace h := q_s2 h; with_reducible exact h))⟩
      ·
        intro J224
        refine q_join (X := Unit) (fun z H locs ls _ => q_Wd D g (va_A ws sz) s w69 H locs ∧ lv_has ls 2 [(0, .ref (q 157))] ∧ F_VR_take_J115 (F_VR_take_L86 t0_0 t0_1 t0_2 t0_3 t0_4 t0_5 t0_6 t0_7 t0_8 t0_9 t0_10 t0_11 t0_12 t0_13 t0_14 t0_15 t0_16 t0_17 t0_18 t0_19 t0_20 t0_21 t1_0 lx50 lx51 fm76) t0_0 t0_1 t0_2 t0_3 t0_4 t0_5 t0_6 t0_7 t0_8 t0_9 t0_10 t0_11 t0_12 t0_13 t0_14 t0_15 t0_16 t0_17 t0_18 t0_19 t0_20 t0_21 t1_0 lx50 lx51 lx62 lx63 lx64 = (F_VR_take t0_0 t0_1 t0_2 t0_3 t0_4 t0_5 t0_6 t0_7 t0_8 t0_9 t0_10 t0_11 t0_12 t0_13 t0_14 t0_15 t0_16 t0_17 t0_18 t0_19 t0_20 t0_21 t1_0) ∧ True ∧ S_VR_take_J115 (S_VR_take_L86 t0_0 t0_1 t0_2 t0_3 t0_4 t0_5 t0_6 t0_7 t0_8 t0_9 t0_10 t0_11 t0_12 t0_13 t0_14 t0_15 t0_16 t0_17 t0_18 t0_19 t0_20 t0_21 t1_0 lx50 lx51 fm76) t0_0 t0_1 t0_2 t0_3 t0_4 t0_5 t0_6 t0_7 t0_8 t0_9 t0_10 t0_11 t0_12 t0_13 t0_14 t0_15 t0_16 t0_17 t0_18 t0_19 t0_20 t0_21 t1_0 lx50 lx51 lx62 lx63 lx64) (fun z => [.ref (q 157)]) 115 0 0 ?_ ?_
        ·
          rintro _ H locs ls _ ⟨V, hl, hR259, hS260⟩
          replace hl : lv_has ls 2 [(0, .ref (q 157))] := hl
          refine lv_iconst (v := 1) hx hb d_16_18_115 (by decide) ?_
          refine lv_goto (tgt := 120) hx hb d_16_18_116 (by decide) ?_
          exact J224 ((1 : Int32)) _ _ _ w69 ⟨(show q_F (1 ≤ 1) from (show 1 ≤ 1 from by omega)), (show q_F (lx64.toInt ≤ 1) from (show lx64.toInt ≤ 1 from by have t1 : lx64.toInt ≤ 1 := i67; omega)), V, q_lw hl (q_lw1 0 rfl q_lw0), (show F_VR_take_J120 (F_VR_take_L86 t0_0 t0_1 t0_2 t0_3 t0_4 t0_5 t0_6 t0_7 t0_8 t0_9 t0_10 t0_11 t0_12 t0_13 t0_14 t0_15 t0_16 t0_17 t0_18 t0_19 t0_20 t0_21 t1_0 lx50 lx51 fm76) t0_0 t0_1 t0_2 t0_3 t0_4 t0_5 t0_6 t0_7 t0_8 t0_9 t0_10 t0_11 t0_12 t0_13 t0_14 t0_15 t0_16 t0_17 t0_18 t0_19 t0_20 t0_21 t1_0 lx50 lx51 lx62 lx63 lx64 1 = (F_VR_take t0_0 t0_1 t0_2 t0_3 t0_4 t0_5 t0_6 t0_7 t0_8 t0_9 t0_10 t0_11 t0_12 t0_13 t0_14 t0_15 t0_16 t0_17 t0_18 t0_19 t0_20 t0_21 t1_0) from Eq.trans (by rw [F_VR_take_J115.eq_1]) hR259), (show True ∧ S_VR_take_J120 (S_VR_take_L86 t0_0 t0_1 t0_2 t0_3 t0_4 t0_5 t0_6 t0_7 t0_8 t0_9 t0_10 t0_11 t0_12 t0_13 t0_14 t0_15 t0_16 t0_17 t0_18 t0_19 t0_20 t0_21 t1_0 lx50 lx51 fm76) t0_0 t0_1 t0_2 t0_3 t0_4 t0_5 t0_6 t0_7 t0_8 t0_9 t0_10 t0_11 t0_12 t0_13 t0_14 t0_15 t0_16 t0_17 t0_18 t0_19 t0_20 t0_21 t1_0 lx50 lx51 lx62 lx63 lx64 1 from (by have h := hS260; rw [S_VR_take_J115.eq_1] at h; with_reducible exact h))⟩
        ·
          intro J258
          refine lv_if_ne (tgt := 115) hx hb d_16_18_101 (by decide) (fun c264 => ?_) (fun c264 => ?_)
          ·
            exact J258 (()) _ _ _ w69 ⟨V, q_lw hl (q_lw1 0 rfl q_lw0), (show F_VR_take_J115 (F_VR_take_L86 t0_0 t0_1 t0_2 t0_3 t0_4 t0_5 t0_6 t0_7 t0_8 t0_9 t0_10 t0_11 t0_12 t0_13 t0_14 t0_15 t0_16 t0_17 t0_18 t0_19 t0_20 t0_21 t1_0 lx50 lx51 fm76) t0_0 t0_1 t0_2 t0_3 t0_4 t0_5 t0_6 t0_7 t0_8 t0_9 t0_10 t0_11 t0_12 t0_13 t0_14 t0_15 t0_16 t0_17 t0_18 t0_19 t0_20 t0_21 t1_0 lx50 lx51 lx62 lx63 lx64 = (F_VR_take t0_0 t0_1 t0_2 t0_3 t0_4 t0_5 t0_6 t0_7 t0_8 t0_9 t0_10 t0_11 t0_12 t0_13 t0_14 t0_15 t0_16 t0_17 t0_18 t0_19 t0_20 t0_21 t1_0) from Eq.trans (by have c90x := c90; rw [e89, e82] at c90x; rw [F_VR_take_L86.eq_2, if_neg c90x, if_neg c264]) hR72), (show True ∧ S_VR_take_J115 (S_VR_take_L86 t0_0 t0_1 t0_2 t0_3 t0_4 t0_5 t0_6 t0_7 t0_8 t0_9 t0_10 t0_11 t0_12 t0_13 t0_14 t0_15 t0_16 t0_17 t0_18 t0_19 t0_20 t0_21 t1_0 lx50 lx51 fm76) t0_0 t0_1 t0_2 t0_3 t0_4 t0_5 t0_6 t0_7 t0_8 t0_9 t0_10 t0_11 t0_12 t0_13 t0_14 t0_15 t0_16 t0_17 t0_18 t0_19 t0_20 t0_21 t1_0 lx50 lx51 lx62 lx63 lx64 from (by have h := hS73; rw [S_VR_take_L86.eq_2] at h; replace h := q_s2 h; have c90x := c90; rw [e89, e82] at c90x; rw [if_neg c90x] at h; rw [if_neg c264] at h; with_reducible exact h))⟩
          ·
            have b266 : q_F (lx64.toInt = 0) := (q_eqI c264)
            refine lv_aload_n hx hb d_16_18_104 rfl (lv_at hl 0 rfl) ?_
            refine lv_aload_n hx hb d_16_18_105 rfl (lv_at hl 0 rfl) ?_
            have ob267 : True ∧ S_VR_here t0_0 t0_1 t0_2 t0_3 t0_4 t0_5 t0_6 lx62 lx51 lx63 lx64 (-1 : Int32) (-1 : Int32) t0_13 t0_14 t0_15 t0_16 t0_17 t0_18 t0_19 t0_20 t0_21 t1_0 := (by have h := hS73; rw [S_VR_take_L86.eq_2] at h; replace h := q_s2 h; have c90x := c90; rw [e89, e82] at c90x; rw [if_neg c90x] at h; rw [if_pos c264] at h; with_reducible exact h.2.1)
            refine q_goi V (q_runV (As := []) (rest := [.ref (q 157), .ref (q 157)]) (d := 1) (mc := 0) (ms := 0) (ci := 17) C0 V rfl LV_VR_60 (X_VR_here l D g q w69   hI t0_0 t0_1 t0_2 t0_3 t0_4 t0_5 t0_6 lx62 lx51 lx63 lx64 (-1) (-1) t0_13 t0_14 t0_15 t0_16 t0_17 t0_18 t0_19 t0_20 t0_21 hO70 t1_0 hO71 ob267 _) rfl rfl hO70 rfl hl.1 rfl (Nat.le_of_ble_eq_true rfl) ⟨by decide, by decide⟩ ⟨Nat.le_of_ble_eq_true rfl, Nat.le_of_ble_eq_true rfl⟩ d_16_18_106) (fun a270 u268 H locs hp269 V => ?_)
            obtain ⟨rfl, hE271⟩ := hp269
            have e272 : a270 = (F_VR_here t0_0 t0_1 t0_2 t0_3 t0_4 t0_5 t0_6 lx62 lx51 lx63 lx64 (-1 : Int32) (-1 : Int32) t0_13 t0_14 t0_15 t0_16 t0_17 t0_18 t0_19 t0_20 t0_21 t1_0) := hE271
            obtain rfl : a80 = a270 := e82.trans e272.symm
            refine q_goi V (q_runV (As := [.int a80]) (rest := [.ref (q 157)]) (d := 2) (mc := 0) (ms := 0) (ci := 17) C0 V rfl LV_VR_91 (X_VR_has l D g q w69  a80 hI t0_0 t0_1 t0_2 t0_3 t0_4 t0_5 t0_6 lx62 lx51 lx63 lx64 (-1) (-1) t0_13 t0_14 t0_15 t0_16 t0_17 t0_18 t0_19 t0_20 t0_21 hO70  _) rfl rfl hO70 rfl hl.1 rfl (Nat.le_of_ble_eq_true rfl) ⟨by decide, by decide⟩ ⟨Nat.le_of_ble_eq_true rfl, Nat.le_of_ble_eq_true rfl⟩ d_16_18_109) (fun a275 u273 H locs hp274 V => ?_)
            obtain ⟨rfl, b276, b277, hE278⟩ := hp274
            have e279 : a275 = (F_VR_has a80 t0_0 t0_1 t0_2 t0_3 t0_4 t0_5 t0_6 lx62 lx51 lx63 lx64 (-1 : Int32) (-1 : Int32) t0_13 t0_14 t0_15 t0_16 t0_17 t0_18 t0_19 t0_20 t0_21) := hE278
            clear b276
            clear b277
            refine lv_if_eq (tgt := 119) hx hb d_16_18_112 (by decide) (fun c280 => ?_) (fun c280 => ?_)
            ·
              refine lv_iconst (v := 0) hx hb d_16_18_119 (by decide) ?_
              exact J224 ((0 : Int32)) _ _ _ w69 ⟨(show q_F (0 ≤ 1) from (show 0 ≤ 1 from by omega)), (show q_F (lx64.toInt ≤ 0) from (show lx64.toInt ≤ 0 from by have t1 : lx64.toInt = 0 := b266; omega)), V, q_lw hl (q_lw1 0 rfl q_lw0), (show F_VR_take_J120 (F_VR_take_L86 t0_0 t0_1 t0_2 t0_3 t0_4 t0_5 t0_6 t0_7 t0_8 t0_9 t0_10 t0_11 t0_12 t0_13 t0_14 t0_15 t0_16 t0_17 t0_18 t0_19 t0_20 t0_21 t1_0 lx50 lx51 fm76) t0_0 t0_1 t0_2 t0_3 t0_4 t0_5 t0_6 t0_7 t0_8 t0_9 t0_10 t0_11 t0_12 t0_13 t0_14 t0_15 t0_16 t0_17 t0_18 t0_19 t0_20 t0_21 t1_0 lx50 lx51 lx62 lx63 lx64 0 = (F_VR_take t0_0 t0_1 t0_2 t0_3 t0_4 t0_5 t0_6 t0_7 t0_8 t0_9 t0_10 t0_11 t0_12 t0_13 t0_14 t0_15 t0_16 t0_17 t0_18 t0_19 t0_20 t0_21 t1_0) from Eq.trans (by have c90x := c90; rw [e89, e82] at c90x; have c280x := c280; rw [e279, e82] at c280x; rw [F_VR_take_L86.eq_2, if_neg c90x, if_pos c264, if_pos c280x]) hR72), (show True ∧ S_VR_take_J120 (S_VR_take_L86 t0_0 t0_1 t0_2 t0_3 t0_4 t0_5 t0_6 t0_7 t0_8 t0_9 t0_10 t0_11 t0_12 t0_13 t0_14 t0_15 t0_16 t0_17 t0_18 t0_19 t0_20 t0_21 t1_0 lx50 lx51 fm76) t0_0 t0_1 t0_2 t0_3 t0_4 t0_5 t0_6 t0_7 t0_8 t0_9 t0_10 t0_11 t0_12 t0_13 t0_14 t0_15 t0_16 t0_17 t0_18 t0_19 t0_20 t0_21 t1_0 lx50 lx51 lx62 lx63 lx64 0 from (by have h := hS73; rw [S_VR_take_L86.eq_2] at h; replace h := q_s2 h; have c90x := c90; rw [e89, e82] at c90x; rw [if_neg c90x] at h; rw [if_pos c264] at h; replace h := q_s2 h; have c280x := c280; rw [e279, e82] at c280x; rw [if_pos c280x] at h; with_reducible exact h))⟩
            ·
              exact J258 (()) _ _ _ w69 ⟨V, q_lw hl (q_lw1 0 rfl q_lw0), (show F_VR_take_J115 (F_VR_take_L86 t0_0 t0_1 t0_2 t0_3 t0_4 t0_5 t0_6 t0_7 t0_8 t0_9 t0_10 t0_11 t0_12 t0_13 t0_14 t0_15 t0_16 t0_17 t0_18 t0_19 t0_20 t0_21 t1_0 lx50 lx51 fm76) t0_0 t0_1 t0_2 t0_3 t0_4 t0_5 t0_6 t0_7 t0_8 t0_9 t0_10 t0_11 t0_12 t0_13 t0_14 t0_15 t0_16 t0_17 t0_18 t0_19 t0_20 t0_21 t1_0 lx50 lx51 lx62 lx63 lx64 = (F_VR_take t0_0 t0_1 t0_2 t0_3 t0_4 t0_5 t0_6 t0_7 t0_8 t0_9 t0_10 t0_11 t0_12 t0_13 t0_14 t0_15 t0_16 t0_17 t0_18 t0_19 t0_20 t0_21 t1_0) from Eq.trans (by have c90x := c90; rw [e89, e82] at c90x; have c280x := c280; rw [e279, e82] at c280x; rw [F_VR_take_L86.eq_2, if_neg c90x, if_pos c264, if_neg c280x]) hR72), (show True ∧ S_VR_take_J115 (S_VR_take_L86 t0_0 t0_1 t0_2 t0_3 t0_4 t0_5 t0_6 t0_7 t0_8 t0_9 t0_10 t0_11 t0_12 t0_13 t0_14 t0_15 t0_16 t0_17 t0_18 t0_19 t0_20 t0_21 t1_0 lx50 lx51 fm76) t0_0 t0_1 t0_2 t0_3 t0_4 t0_5 t0_6 t0_7 t0_8 t0_9 t0_10 t0_11 t0_12 t0_13 t0_14 t0_15 t0_16 t0_17 t0_18 t0_19 t0_20 t0_21 t1_0 lx50 lx51 lx62 lx63 lx64 from (by have h := hS73; rw [S_VR_take_L86.eq_2] at h; replace h := q_s2 h; have c90x := c90; rw [e89, e82] at c90x; rw [if_neg c90x] at h; rw [if_pos c264] at h; replace h := q_s2 h; have c280x := c280; rw [e279, e82] at c280x; rw [if_neg c280x] at h; with_reducible exact h))⟩
  ·
    intro J54
    refine lv_if_eq (tgt := 86) hx hb d_16_18_34 (by decide) (fun c283 => ?_) (fun c283 => ?_)
    ·
      exact J54 ((t0_7 : Int32), (0 : Int32)) _ _ _ _ ⟨(show q_F (0 ≤ 9999) from (show 0 ≤ 9999 from by omega)), V, q_lw hl (q_lw1 1 rfl q_lw0), hI, hF, hT0, hT1, (show F_VR_take_J86 t0_0 t0_1 t0_2 t0_3 t0_4 t0_5 t0_6 t0_7 t0_8 t0_9 t0_10 t0_11 t0_12 t0_13 t0_14 t0_15 t0_16 t0_17 t0_18 t0_19 t0_20 t0_21 t1_0 t0_7 0 = (F_VR_take t0_0 t0_1 t0_2 t0_3 t0_4 t0_5 t0_6 t0_7 t0_8 t0_9 t0_10 t0_11 t0_12 t0_13 t0_14 t0_15 t0_16 t0_17 t0_18 t0_19 t0_20 t0_21 t1_0) from (by have c283x := c283; rw [e49] at c283x; rw [F_VR_take.eq_1, if_pos c283x])), (show True ∧ S_VR_take_J86 t0_0 t0_1 t0_2 t0_3 t0_4 t0_5 t0_6 t0_7 t0_8 t0_9 t0_10 t0_11 t0_12 t0_13 t0_14 t0_15 t0_16 t0_17 t0_18 t0_19 t0_20 t0_21 t1_0 t0_7 0 from (by have h := hS; rw [S_VR_take.eq_1] at h; replace h := q_s2 h; have c283x := c283; rw [e49] at c283x; rw [if_pos c283x] at h; with_reducible exact h))⟩
    ·
      refine lv_aload_n hx hb d_16_18_37 rfl (lv_at hl 1 rfl) ?_
      have ob286 : True ∧ S_VR_here t0_0 t0_1 t0_2 t0_3 t0_4 t0_5 t0_6 t0_7 (0 : Int32) (0 : Int32) (0 : Int32) (-1 : Int32) (-1 : Int32) t0_13 t0_14 t0_15 t0_16 t0_17 t0_18 t0_19 t0_20 t0_21 t1_0 := (by have h := hS; rw [S_VR_take.eq_1] at h; replace h := q_s2 h; have c283x := c283; rw [e49] at c283x; rw [if_neg c283x] at h; with_reducible exact h.2.1)
      refine q_goi V (q_runV (As := []) (rest := []) (d := 1) (mc := 0) (ms := 0) (ci := 17) C0 V rfl LV_VR_60 (X_VR_here l D g q w40   hI t0_0 t0_1 t0_2 t0_3 t0_4 t0_5 t0_6 t0_7 0 0 0 (-1) (-1) t0_13 t0_14 t0_15 t0_16 t0_17 t0_18 t0_19 t0_20 t0_21 hT0 t1_0 hT1 ob286 _) rfl rfl hT0 rfl hl.1 rfl (Nat.le_of_ble_eq_true rfl) ⟨by decide, by decide⟩ ⟨Nat.le_of_ble_eq_true rfl, Nat.le_of_ble_eq_true rfl⟩ d_16_18_38) (fun a289 u287 H locs hp288 V => ?_)
      obtain ⟨rfl, hE290⟩ := hp288
      have e291 : a289 = (F_VR_here t0_0 t0_1 t0_2 t0_3 t0_4 t0_5 t0_6 t0_7 (0 : Int32) (0 : Int32) (0 : Int32) (-1 : Int32) (-1 : Int32) t0_13 t0_14 t0_15 t0_16 t0_17 t0_18 t0_19 t0_20 t0_21 t1_0) := hE290
      refine lv_bipush (v := 48) hx hb d_16_18_41 (by decide) ?_
      refine lv_icmp_eq (tgt := 86) hx hb d_16_18_43 (by decide) (fun c292 => ?_) (fun c292 => ?_)
      ·
        exact J54 ((t0_7 : Int32), (0 : Int32)) _ _ _ _ ⟨(show q_F (0 ≤ 9999) from (show 0 ≤ 9999 from by omega)), V, q_lw hl (q_lw1 1 rfl q_lw0), hI, hF, hT0, hT1, (show F_VR_take_J86 t0_0 t0_1 t0_2 t0_3 t0_4 t0_5 t0_6 t0_7 t0_8 t0_9 t0_10 t0_11 t0_12 t0_13 t0_14 t0_15 t0_16 t0_17 t0_18 t0_19 t0_20 t0_21 t1_0 t0_7 0 = (F_VR_take t0_0 t0_1 t0_2 t0_3 t0_4 t0_5 t0_6 t0_7 t0_8 t0_9 t0_10 t0_11 t0_12 t0_13 t0_14 t0_15 t0_16 t0_17 t0_18 t0_19 t0_20 t0_21 t1_0) from (by have c283x := c283; rw [e49] at c283x; have c292x := c292; rw [e291] at c292x; rw [F_VR_take.eq_1, if_neg c283x, if_pos c292x])), (show True ∧ S_VR_take_J86 t0_0 t0_1 t0_2 t0_3 t0_4 t0_5 t0_6 t0_7 t0_8 t0_9 t0_10 t0_11 t0_12 t0_13 t0_14 t0_15 t0_16 t0_17 t0_18 t0_19 t0_20 t0_21 t1_0 t0_7 0 from (by have h := hS; rw [S_VR_take.eq_1] at h; replace h := q_s2 h; have c283x := c283; rw [e49] at c283x; rw [if_neg c283x] at h; replace h := q_s2 h; have c292x := c292; rw [e291] at c292x; rw [if_pos c292x] at h; with_reducible exact h))⟩
      ·
        refine lv_aload_n hx hb d_16_18_46 rfl (lv_at hl 1 rfl) ?_
        refine lv_aload_n hx hb d_16_18_47 rfl (lv_at hl 1 rfl) ?_
        have ob295 : True ∧ S_VR_number t0_0 t0_1 t0_2 t0_3 t0_4 t0_5 t0_6 t0_7 (0 : Int32) (0 : Int32) (0 : Int32) (-1 : Int32) (-1 : Int32) t0_13 t0_14 t0_15 t0_16 t0_17 t0_18 t0_19 t0_20 t0_21 t1_0 := (by have h := hS; rw [S_VR_take.eq_1] at h; replace h := q_s2 h; have c283x := c283; rw [e49] at c283x; rw [if_neg c283x] at h; replace h := q_s2 h; have c292x := c292; rw [e291] at c292x; rw [if_neg c292x] at h; with_reducible exact h.2.1)
        refine q_goi V (q_runV (As := []) (rest := [.ref (q 157)]) (d := 3) (mc := 0) (ms := 0) (ci := 17) C0 V rfl LV_VR_88 (X_VR_number l D g q w40   hI t0_0 t0_1 t0_2 t0_3 t0_4 t0_5 t0_6 t0_7 0 0 0 (-1) (-1) t0_13 t0_14 t0_15 t0_16 t0_17 t0_18 t0_19 t0_20 t0_21 hT0 t1_0 hT1 ob295 _) rfl rfl hT0 rfl hl.1 rfl (Nat.le_of_ble_eq_true rfl) ⟨by decide, by decide⟩ ⟨Nat.le_of_ble_eq_true rfl, Nat.le_of_ble_eq_true rfl⟩ d_16_18_48) (fun a298 u296 H locs hp297 V => ?_)
        obtain ⟨hI, hZ9⟩ := hp297
        obtain ⟨hu303, hZ9⟩ := hZ9
        obtain ⟨y300, hZ9⟩ := hZ9
        obtain ⟨hO299, hZ9⟩ := hZ9
        obtain ⟨b301, hE302⟩ := hZ9
        replace hO299 : u296[157]? = (some (q 157, .inr (17, [.int t0_0, .ref (q 158), .int t0_1, .int t0_2, .ref (q 159), .ref (q 160), .ref (q 161), .ref (q 162), .ref (q 163), .int t0_3, .ref (q 164), .int t0_4, .int t0_5, .int t0_6, .int y300, .int 0, .int 0, .int 0, .int (-1), .int (-1), .int t0_13, .int t0_14, .int t0_15, .int t0_16, .ref (q 165), .int t0_17, .int t0_18, .int t0_19, .ref (q 166), .int t0_20, .int t0_21])) : Option (Nat × va_E)) := hO299
        obtain ⟨p304, e305⟩ : ∃ z, z = (F_VR_number t0_0 t0_1 t0_2 t0_3 t0_4 t0_5 t0_6 t0_7 (0 : Int32) (0 : Int32) (0 : Int32) (-1 : Int32) (-1 : Int32) t0_13 t0_14 t0_15 t0_16 t0_17 t0_18 t0_19 t0_20 t0_21 t1_0) := ⟨_, rfl⟩
        have e306 : a298 = p304.1 := congrArg (fun z => z.1) (hE302.trans e305.symm)
        have e307 : y300 = p304.2 := congrArg (fun z => z.2) (hE302.trans e305.symm)
        replace b301 : q_F (a298.toInt ≤ 9999) := b301
        replace hT1 := (hu303 _ (by decide)).trans hT1
        replace hF := q_uc hF hu303 (by simp)
        have hR308 := (show F_VR_take_c48 t0_0 t0_1 t0_2 t0_3 t0_4 t0_5 t0_6 t0_7 t0_8 t0_9 t0_10 t0_11 t0_12 t0_13 t0_14 t0_15 t0_16 t0_17 t0_18 t0_19 t0_20 t0_21 t1_0 p304 = (F_VR_take t0_0 t0_1 t0_2 t0_3 t0_4 t0_5 t0_6 t0_7 t0_8 t0_9 t0_10 t0_11 t0_12 t0_13 t0_14 t0_15 t0_16 t0_17 t0_18 t0_19 t0_20 t0_21 t1_0) from (by have c283x := c283; rw [e49] at c283x; have c292x := c292; rw [e291] at c292x; rw [e305, F_VR_take.eq_1, if_neg c283x, if_neg c292x]))
        have hS309 := (show True ∧ S_VR_take_c48 t0_0 t0_1 t0_2 t0_3 t0_4 t0_5 t0_6 t0_7 t0_8 t0_9 t0_10 t0_11 t0_12 t0_13 t0_14 t0_15 t0_16 t0_17 t0_18 t0_19 t0_20 t0_21 t1_0 p304 from (by rw [e305]; have h := hS; rw [S_VR_take.eq_1] at h; replace h := q_s2 h; have c283x := c283; rw [e49] at c283x; rw [if_neg c283x] at h; replace h := q_s2 h; have c292x := c292; rw [e291] at c292x; rw [if_neg c292x] at h; replace h := q_s2 h; with_reducible exact h))
        refine q_put (ci := 17) (j := 15) (v := .int a298) (ty := .int) C0 V i_VR o_VR n_VR rfl rfl hO299 (by decide) w_2219 rfl rfl rfl rfl (Nat.le_of_ble_eq_true rfl) d_16_18_51 (fun H locs w313 hu314 hO299 V => ?_)
        replace hO299 : w313[157]? = (some (q 157, .inr (17, [.int t0_0, .ref (q 158), .int t0_1, .int t0_2, .ref (q 159), .ref (q 160), .ref (q 161), .ref (q 162), .ref (q 163), .int t0_3, .ref (q 164), .int t0_4, .int t0_5, .int t0_6, .int y300, .int a298, .int 0, .int 0, .int (-1), .int (-1), .int t0_13, .int t0_14, .int t0_15, .int t0_16, .ref (q 165), .int t0_17, .int t0_18, .int t0_19, .ref (q 166), .int t0_20, .int t0_21])) : Option (Nat × va_E)) := hO299
        replace hI := n_p157 hI hu314 hO299 (by first | with_reducible exact q_fe btt0_1 | exact ⟨(by have t1 : 0 ≤ t0_1.toInt ∧ t0_1.toInt ≤ 256 := btt0_1; omega), (by have t1 : 0 ≤ t0_1.toInt ∧ t0_1.toInt ≤ 256 := btt0_1; omega)⟩) (by first | with_reducible exact q_fe btt0_2 | exact ⟨(by have t1 : 0 ≤ t0_2.toInt ∧ t0_2.toInt ≤ 9 := btt0_2; omega), (by have t1 : 0 ≤ t0_2.toInt ∧ t0_2.toInt ≤ 9 := btt0_2; omega)⟩) (by first | with_reducible exact q_fe btt0_3 | exact ⟨(by have t1 : 0 ≤ t0_3.toInt ∧ t0_3.toInt ≤ 4096 := btt0_3; omega), (by have t1 : 0 ≤ t0_3.toInt ∧ t0_3.toInt ≤ 4096 := btt0_3; omega)⟩) ⟨(by have z9 : (0 : Int32).toInt = 0 := rfl; omega), (by have z9 : (0 : Int32).toInt = 0 := rfl; omega)⟩ (by first | with_reducible exact q_fe btt0_19 | exact ⟨(by have t1 : 0 ≤ t0_19.toInt ∧ t0_19.toInt ≤ 1 := btt0_19; omega), (by have t1 : 0 ≤ t0_19.toInt ∧ t0_19.toInt ≤ 1 := btt0_19; omega)⟩)
        replace hT1 := (hu314 _ (by decide)).trans hT1
        replace hF := q_us hF hu314 (by simp)
        refine lv_aload_n hx hb d_16_18_54 rfl (lv_at hl 1 rfl) ?_
        have ob315 : True ∧ S_VR_here t0_0 t0_1 t0_2 t0_3 t0_4 t0_5 t0_6 y300 a298 (0 : Int32) (0 : Int32) (-1 : Int32) (-1 : Int32) t0_13 t0_14 t0_15 t0_16 t0_17 t0_18 t0_19 t0_20 t0_21 t1_0 := (by rw [e307, e306]; have h := hS309; rw [S_VR_take_c48.eq_1] at h; with_reducible exact h.2.1)
        refine q_goi V (q_runV (As := []) (rest := []) (d := 1) (mc := 0) (ms := 0) (ci := 17) C0 V rfl LV_VR_60 (X_VR_here l D g q w313   hI t0_0 t0_1 t0_2 t0_3 t0_4 t0_5 t0_6 y300 a298 0 0 (-1) (-1) t0_13 t0_14 t0_15 t0_16 t0_17 t0_18 t0_19 t0_20 t0_21 hO299 t1_0 hT1 ob315 _) rfl rfl hO299 rfl hl.1 rfl (Nat.le_of_ble_eq_true rfl) ⟨by decide, by decide⟩ ⟨Nat.le_of_ble_eq_true rfl, Nat.le_of_ble_eq_true rfl⟩ d_16_18_55) (fun a318 u316 H locs hp317 V => ?_)
        obtain ⟨rfl, hE319⟩ := hp317
        have e320 : a318 = (F_VR_here t0_0 t0_1 t0_2 t0_3 t0_4 t0_5 t0_6 y300 a298 (0 : Int32) (0 : Int32) (-1 : Int32) (-1 : Int32) t0_13 t0_14 t0_15 t0_16 t0_17 t0_18 t0_19 t0_20 t0_21 t1_0) := hE319
        refine lv_bipush (v := 36) hx hb d_16_18_58 (by decide) ?_
        refine lv_icmp_ne (tgt := 76) hx hb d_16_18_60 (by decide) (fun c321 => ?_) (fun c321 => ?_)
        ·
          refine lv_aload_n hx hb d_16_18_76 rfl (lv_at hl 1 rfl) ?_
          refine lv_iconst (v := 0) hx hb d_16_18_77 (by decide) ?_
          refine q_put (ci := 17) (j := 15) (v := .int 0) (ty := .int) C0 V i_VR o_VR n_VR rfl rfl hO299 (by decide) w_2219 rfl rfl rfl rfl (Nat.le_of_ble_eq_true rfl) d_16_18_78 (fun H locs w323 hu324 hO299 V => ?_)
          replace hO299 : w323[157]? = (some (q 157, .inr (17, [.int t0_0, .ref (q 158), .int t0_1, .int t0_2, .ref (q 159), .ref (q 160), .ref (q 161), .ref (q 162), .ref (q 163), .int t0_3, .ref (q 164), .int t0_4, .int t0_5, .int t0_6, .int y300, .int 0, .int 0, .int 0, .int (-1), .int (-1), .int t0_13, .int t0_14, .int t0_15, .int t0_16, .ref (q 165), .int t0_17, .int t0_18, .int t0_19, .ref (q 166), .int t0_20, .int t0_21])) : Option (Nat × va_E)) := hO299
          replace hI := n_p157 hI hu324 hO299 (by first | with_reducible exact q_fe btt0_1 | exact ⟨(by have t1 : 0 ≤ t0_1.toInt ∧ t0_1.toInt ≤ 256 := btt0_1; omega), (by have t1 : 0 ≤ t0_1.toInt ∧ t0_1.toInt ≤ 256 := btt0_1; omega)⟩) (by first | with_reducible exact q_fe btt0_2 | exact ⟨(by have t1 : 0 ≤ t0_2.toInt ∧ t0_2.toInt ≤ 9 := btt0_2; omega), (by have t1 : 0 ≤ t0_2.toInt ∧ t0_2.toInt ≤ 9 := btt0_2; omega)⟩) (by first | with_reducible exact q_fe btt0_3 | exact ⟨(by have t1 : 0 ≤ t0_3.toInt ∧ t0_3.toInt ≤ 4096 := btt0_3; omega), (by have t1 : 0 ≤ t0_3.toInt ∧ t0_3.toInt ≤ 4096 := btt0_3; omega)⟩) ⟨(by have z9 : (0 : Int32).toInt = 0 := rfl; omega), (by have z9 : (0 : Int32).toInt = 0 := rfl; omega)⟩ (by first | with_reducible exact q_fe btt0_19 | exact ⟨(by have t1 : 0 ≤ t0_19.toInt ∧ t0_19.toInt ≤ 1 := btt0_19; omega), (by have t1 : 0 ≤ t0_19.toInt ∧ t0_19.toInt ≤ 1 := btt0_19; omega)⟩)
          replace hT1 := (hu324 _ (by decide)).trans hT1
          replace hF := q_us hF hu324 (by simp)
          refine lv_aload_n hx hb d_16_18_81 rfl (lv_at hl 1 rfl) ?_
          refine lv_iload_n hx hb d_16_18_82 rfl (lv_at hl 0 rfl) ?_
          refine q_put (ci := 17) (j := 14) (v := .int t0_7) (ty := .int) C0 V i_VR o_VR n_VR rfl rfl hO299 (by decide) w_2218 rfl rfl rfl rfl (Nat.le_of_ble_eq_true rfl) d_16_18_83 (fun H locs w325 hu326 hO299 V => ?_)
          replace hO299 : w325[157]? = (some (q 157, .inr (17, [.int t0_0, .ref (q 158), .int t0_1, .int t0_2, .ref (q 159), .ref (q 160), .ref (q 161), .ref (q 162), .ref (q 163), .int t0_3, .ref (q 164), .int t0_4, .int t0_5, .int t0_6, .int t0_7, .int 0, .int 0, .int 0, .int (-1), .int (-1), .int t0_13, .int t0_14, .int t0_15, .int t0_16, .ref (q 165), .int t0_17, .int t0_18, .int t0_19, .ref (q 166), .int t0_20, .int t0_21])) : Option (Nat × va_E)) := hO299
          replace hI := n_p157 hI hu326 hO299 (by first | with_reducible exact q_fe btt0_1 | exact ⟨(by have t1 : 0 ≤ t0_1.toInt ∧ t0_1.toInt ≤ 256 := btt0_1; omega), (by have t1 : 0 ≤ t0_1.toInt ∧ t0_1.toInt ≤ 256 := btt0_1; omega)⟩) (by first | with_reducible exact q_fe btt0_2 | exact ⟨(by have t1 : 0 ≤ t0_2.toInt ∧ t0_2.toInt ≤ 9 := btt0_2; omega), (by have t1 : 0 ≤ t0_2.toInt ∧ t0_2.toInt ≤ 9 := btt0_2; omega)⟩) (by first | with_reducible exact q_fe btt0_3 | exact ⟨(by have t1 : 0 ≤ t0_3.toInt ∧ t0_3.toInt ≤ 4096 := btt0_3; omega), (by have t1 : 0 ≤ t0_3.toInt ∧ t0_3.toInt ≤ 4096 := btt0_3; omega)⟩) ⟨(by have z9 : (0 : Int32).toInt = 0 := rfl; omega), (by have z9 : (0 : Int32).toInt = 0 := rfl; omega)⟩ (by first | with_reducible exact q_fe btt0_19 | exact ⟨(by have t1 : 0 ≤ t0_19.toInt ∧ t0_19.toInt ≤ 1 := btt0_19; omega), (by have t1 : 0 ≤ t0_19.toInt ∧ t0_19.toInt ≤ 1 := btt0_19; omega)⟩)
          replace hT1 := (hu326 _ (by decide)).trans hT1
          replace hF := q_us hF hu326 (by simp)
          exact J54 ((t0_7 : Int32), (0 : Int32)) _ _ _ _ ⟨(show q_F (0 ≤ 9999) from (show 0 ≤ 9999 from by omega)), V, q_lw hl (q_lw1 1 rfl q_lw0), hI, hF, hO299, hT1, (show F_VR_take_J86 t0_0 t0_1 t0_2 t0_3 t0_4 t0_5 t0_6 t0_7 t0_8 t0_9 t0_10 t0_11 t0_12 t0_13 t0_14 t0_15 t0_16 t0_17 t0_18 t0_19 t0_20 t0_21 t1_0 t0_7 0 = (F_VR_take t0_0 t0_1 t0_2 t0_3 t0_4 t0_5 t0_6 t0_7 t0_8 t0_9 t0_10 t0_11 t0_12 t0_13 t0_14 t0_15 t0_16 t0_17 t0_18 t0_19 t0_20 t0_21 t1_0) from Eq.trans (by have c321x := c321; rw [e320, e307, e306] at c321x; rw [F_VR_take_c48.eq_1, if_neg c321x]) hR308), (show True ∧ S_VR_take_J86 t0_0 t0_1 t0_2 t0_3 t0_4 t0_5 t0_6 t0_7 t0_8 t0_9 t0_10 t0_11 t0_12 t0_13 t0_14 t0_15 t0_16 t0_17 t0_18 t0_19 t0_20 t0_21 t1_0 t0_7 0 from (by have h := hS309; rw [S_VR_take_c48.eq_1] at h; replace h := q_s2 h; have c321x := c321; rw [e320, e307, e306] at c321x; rw [if_neg c321x] at h; with_reducible exact h))⟩
        ·
          refine lv_aload_n hx hb d_16_18_63 rfl (lv_at hl 1 rfl) ?_
          refine lv_dup hx hb d_16_18_64 rfl ?_
          refine q_get (ci := 17) (j := 14) (v := .int y300) C0 V i_VR rfl rfl hO299 (by decide) w_2218 rfl d_16_18_65 ?_
          refine lv_iconst (v := 1) hx hb d_16_18_68 (by decide) ?_
          refine lv_iadd hx hb d_16_18_69 ?_
          obtain ⟨a328, e329⟩ := q_nm (y300 + 1 : Int32)
          refine q_ti (v := a328) e329 ?_
          refine q_put (ci := 17) (j := 14) (v := .int a328) (ty := .int) C0 V i_VR o_VR n_VR rfl rfl hO299 (by decide) w_2218 rfl rfl rfl rfl (Nat.le_of_ble_eq_true rfl) d_16_18_70 (fun H locs w330 hu331 hO299 V => ?_)
          replace hO299 : w330[157]? = (some (q 157, .inr (17, [.int t0_0, .ref (q 158), .int t0_1, .int t0_2, .ref (q 159), .ref (q 160), .ref (q 161), .ref (q 162), .ref (q 163), .int t0_3, .ref (q 164), .int t0_4, .int t0_5, .int t0_6, .int a328, .int a298, .int 0, .int 0, .int (-1), .int (-1), .int t0_13, .int t0_14, .int t0_15, .int t0_16, .ref (q 165), .int t0_17, .int t0_18, .int t0_19, .ref (q 166), .int t0_20, .int t0_21])) : Option (Nat × va_E)) := hO299
          replace hI := n_p157 hI hu331 hO299 (by first | with_reducible exact q_fe btt0_1 | exact ⟨(by have t1 : 0 ≤ t0_1.toInt ∧ t0_1.toInt ≤ 256 := btt0_1; omega), (by have t1 : 0 ≤ t0_1.toInt ∧ t0_1.toInt ≤ 256 := btt0_1; omega)⟩) (by first | with_reducible exact q_fe btt0_2 | exact ⟨(by have t1 : 0 ≤ t0_2.toInt ∧ t0_2.toInt ≤ 9 := btt0_2; omega), (by have t1 : 0 ≤ t0_2.toInt ∧ t0_2.toInt ≤ 9 := btt0_2; omega)⟩) (by first | with_reducible exact q_fe btt0_3 | exact ⟨(by have t1 : 0 ≤ t0_3.toInt ∧ t0_3.toInt ≤ 4096 := btt0_3; omega), (by have t1 : 0 ≤ t0_3.toInt ∧ t0_3.toInt ≤ 4096 := btt0_3; omega)⟩) ⟨(by have z9 : (0 : Int32).toInt = 0 := rfl; omega), (by have z9 : (0 : Int32).toInt = 0 := rfl; omega)⟩ (by first | with_reducible exact q_fe btt0_19 | exact ⟨(by have t1 : 0 ≤ t0_19.toInt ∧ t0_19.toInt ≤ 1 := btt0_19; omega), (by have t1 : 0 ≤ t0_19.toInt ∧ t0_19.toInt ≤ 1 := btt0_19; omega)⟩)
          replace hT1 := (hu331 _ (by decide)).trans hT1
          replace hF := q_us hF hu331 (by simp)
          refine lv_goto (tgt := 86) hx hb d_16_18_73 (by decide) ?_
          exact J54 ((a328 : Int32), (a298 : Int32)) _ _ _ _ ⟨(show q_F (a298.toInt ≤ 9999) from (show a298.toInt ≤ 9999 from by have t1 : a298.toInt ≤ 9999 := b301; omega)), V, q_lw hl (q_lw1 1 rfl q_lw0), hI, hF, hO299, hT1, (show F_VR_take_J86 t0_0 t0_1 t0_2 t0_3 t0_4 t0_5 t0_6 t0_7 t0_8 t0_9 t0_10 t0_11 t0_12 t0_13 t0_14 t0_15 t0_16 t0_17 t0_18 t0_19 t0_20 t0_21 t1_0 a328 a298 = (F_VR_take t0_0 t0_1 t0_2 t0_3 t0_4 t0_5 t0_6 t0_7 t0_8 t0_9 t0_10 t0_11 t0_12 t0_13 t0_14 t0_15 t0_16 t0_17 t0_18 t0_19 t0_20 t0_21 t1_0) from Eq.trans (by have c321x := c321; rw [e320, e307, e306] at c321x; rw [← e329, e307, e306, F_VR_take_c48.eq_1, if_pos c321x]) hR308), (show True ∧ S_VR_take_J86 t0_0 t0_1 t0_2 t0_3 t0_4 t0_5 t0_6 t0_7 t0_8 t0_9 t0_10 t0_11 t0_12 t0_13 t0_14 t0_15 t0_16 t0_17 t0_18 t0_19 t0_20 t0_21 t1_0 a328 a298 from (by rw [← e329, e307, e306]; have h := hS309; rw [S_VR_take_c48.eq_1] at h; replace h := q_s2 h; have c321x := c321; rw [e320, e307, e306] at c321x; rw [if_pos c321x] at h; with_reducible exact h))⟩

