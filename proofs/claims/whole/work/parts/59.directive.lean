/-! Directive -/
/-- the figure of the tape at a place, -1 where there is none -/
def n_fig (ws : va_W) (p : Int32) : Int32 := if 48 ≤ (n_by ws 1 p.toInt64).toInt ∧ (n_by ws 1 p.toInt64).toInt ≤ 57 then n_by ws 1 p.toInt64 - 48 else (-1)
theorem d_6_7_0 : decode prog_6_method_7_code 0 = .ok (.aload_n 0, 1) := by decide +kernel
theorem d_6_7_1 : decode prog_6_method_7_code 1 = .ok (.getfield 9, 3) := by decide +kernel
theorem d_6_7_4 : decode prog_6_method_7_code 4 = .ok (.iload_n 1, 1) := by decide +kernel
theorem d_6_7_5 : decode prog_6_method_7_code 5 = .ok (.i2l, 1) := by decide +kernel
theorem d_6_7_6 : decode prog_6_method_7_code 6 = .ok (.invokevirtual 46, 3) := by decide +kernel
set_option maxRecDepth 100000 in
theorem w_1747 : (Cond.methodLink "NumberHouse$Directive" (46 : Nat) ({ cls := "NumberHouse$Sheet", name := "at", desc := "(J)I" } : MethodName)) ∈ q_tbl := q_of8 67 rfl (by decide +kernel)
theorem LV_Dir_46 : q_LV "NumberHouse$Directive" 46 y_She_at prog_11_method_8_code 3 (some .int) 1 := ⟨w_482, w_2, w_1747, w_480, w_481, ⟨by decide, by decide, by decide +kernel⟩⟩
theorem d_6_7_9 : decode prog_6_method_7_code 9 = .ok (.istore_n 2, 1) := by decide +kernel
theorem d_6_7_10 : decode prog_6_method_7_code 10 = .ok (.iload_n 2, 1) := by decide +kernel
theorem d_6_7_11 : decode prog_6_method_7_code 11 = .ok (.bipush 48, 2) := by decide +kernel
theorem d_6_7_13 : decode prog_6_method_7_code 13 = .ok (.if_icmp .lt 16, 3) := by decide +kernel
theorem d_6_7_29 : decode prog_6_method_7_code 29 = .ok (.iconst (-1), 1) := by decide +kernel
theorem d_6_7_30 : decode prog_6_method_7_code 30 = .ok (.ireturn, 1) := by decide +kernel
theorem d_6_7_16 : decode prog_6_method_7_code 16 = .ok (.iload_n 2, 1) := by decide +kernel
theorem d_6_7_17 : decode prog_6_method_7_code 17 = .ok (.bipush 57, 2) := by decide +kernel
theorem d_6_7_19 : decode prog_6_method_7_code 19 = .ok (.if_icmp .gt 10, 3) := by decide +kernel
theorem d_6_7_22 : decode prog_6_method_7_code 22 = .ok (.iload_n 2, 1) := by decide +kernel
theorem d_6_7_23 : decode prog_6_method_7_code 23 = .ok (.bipush 48, 2) := by decide +kernel
theorem d_6_7_25 : decode prog_6_method_7_code 25 = .ok (.isub, 1) := by decide +kernel
theorem d_6_7_26 : decode prog_6_method_7_code 26 = .ok (.goto 4, 3) := by decide +kernel
def y_Dir_figureAt : MethodName := ⟨"NumberHouse$Directive", "figureAt", "(I)I"⟩
set_option maxRecDepth 100000 in
set_option maxHeartbeats 4000000 in
theorem T_Dir_figureAt (l : Launch) (D : va_G) (g : Nat → ClassId) (q : Nat → Nat) (ws : va_W) (x2 : Int32) (hI : q_I (nsh g q) q ws) : q_mI l y_Dir_figureAt prog_6_method_7_code 3 (.int) 2 0 0 D g [.ref (q 47), .int x2] ws (fun r u => ws = u ∧ (0 ≤ r.toInt + 1) ∧ (r.toInt ≤ 9) ∧ r = n_fig ws x2) := by
  intro sz
  refine q_into (by decide) (Nat.le_of_ble_eq_true rfl) ?_
  intro p e s m below meth c ls hsz C0 V hl
  have hx := C0.1
  have hb := C0.2.1
  have hl : lv_has ls 3 [(0, .ref (q 47)), (1, .int x2)] := hl
  refine lv_aload_n hx hb d_6_7_0 rfl (lv_at hl 0 rfl) ?_
  obtain ⟨y2, y3, y4, y6, y8, y9, y10, hO1, b5, b7, b11⟩ := n_o47 hI
  replace b5 : q_F (-1 ≤ y4.toInt ∧ y4.toInt ≤ 9999) := b5
  replace b7 : q_F (-1 ≤ y6.toInt ∧ y6.toInt ≤ 9999) := b7
  replace b11 : q_F (0 ≤ y10.toInt ∧ y10.toInt ≤ 1) := b11
  refine q_get (ci := 10) (j := 6) (v := .ref (q 1)) C0 V i_Dir rfl rfl hO1 (by decide) w_365 rfl d_6_7_1 ?_
  refine lv_iload_n hx hb d_6_7_4 rfl (lv_at hl 1 rfl) ?_
  refine lv_i2l hx hb d_6_7_5 rfl ?_
  obtain ⟨j12, e13⟩ := q_nm (x2.toInt64 : Int64)
  refine q_tl (v := j12) e13 ?_
  have b14 : q_F (j12.toInt = x2.toInt) := (by rw [← e13]; show (x2.toInt64 : Int64).toInt = x2.toInt; exact q_i2l rfl)
  obtain ⟨y16, hO15, b17⟩ := n_shO hI (n_h1 g q)
  replace b17 : q_F (0 ≤ y16.toInt ∧ y16.toInt ≤ 4100) := b17
  refine q_goi V (q_runV (As := [.long j12]) (rest := []) (d := 1) (mc := 0) (ms := 0) (ci := 1) C0 V rfl LV_Dir_46 (T_She_at l D g q ws 1 4100 513 4100 (n_h1 g q) j12 hI   _) rfl rfl hO15 rfl hl.1 rfl (Nat.le_of_ble_eq_true rfl) ⟨by decide, by decide⟩ ⟨Nat.le_of_ble_eq_true rfl, Nat.le_of_ble_eq_true rfl⟩ d_6_7_6) (fun a20 u18 H locs hp19 V => ?_)
  obtain ⟨rfl, b21, b22, pu23⟩ := hp19
  replace b21 : q_F (0 ≤ a20.toInt) := b21
  replace b22 : q_F (a20.toInt ≤ 255) := b22
  refine lv_istore_n (lv' := [(2, .int a20), (0, .ref (q 47)), (1, .int x2)]) hx hb d_6_7_9 rfl hl (by decide) rfl (fun ls hl => ?_)
  refine lv_iload_n hx hb d_6_7_10 rfl (lv_at hl 0 rfl) ?_
  refine lv_bipush (v := 48) hx hb d_6_7_11 (by decide) ?_
  refine lv_icmp_lt (tgt := 29) hx hb d_6_7_13 (by decide) (fun c25 => ?_) (fun c25 => ?_)
  ·
    have b26 : q_F (a20.toInt < 48) := (q_ltI c25)
    refine lv_iconst (v := (-1)) hx hb d_6_7_29 (by decide) ?_
    exact q_reti C0 V (⟨rfl, (show 0 ≤ (-1 : Int32).toInt + 1 from (by have z1 : (-1 : Int32).toInt = -1 := rfl; omega)), (show (-1 : Int32).toInt ≤ 9 from (by have z1 : (-1 : Int32).toInt = -1 := rfl; omega)), (by have hp : a20 = n_by ws 1 x2.toInt64 := (by subst e13; exact pu23); unfold n_fig; rw [← hp]; have g : a20.toInt ≤ 47 := (by have t1 : a20.toInt < 48 := b26; omega); exact (if_neg (by rintro ⟨h1, h2⟩; omega)).symm)⟩) d_6_7_30
  ·
    have b27 : q_F (48 ≤ a20.toInt) := (q_nltI c25)
    refine lv_iload_n hx hb d_6_7_16 rfl (lv_at hl 0 rfl) ?_
    refine lv_bipush (v := 57) hx hb d_6_7_17 (by decide) ?_
    refine lv_icmp_gt (tgt := 29) hx hb d_6_7_19 (by decide) (fun c28 => ?_) (fun c28 => ?_)
    ·
      have b29 : q_F (57 < a20.toInt) := (q_ltI c28)
      refine lv_iconst (v := (-1)) hx hb d_6_7_29 (by decide) ?_
      exact q_reti C0 V (⟨rfl, (show 0 ≤ (-1 : Int32).toInt + 1 from (by have z1 : (-1 : Int32).toInt = -1 := rfl; omega)), (show (-1 : Int32).toInt ≤ 9 from (by have z1 : (-1 : Int32).toInt = -1 := rfl; omega)), (by have hp : a20 = n_by ws 1 x2.toInt64 := (by subst e13; exact pu23); unfold n_fig; rw [← hp]; have g : 58 ≤ a20.toInt := (by have t1 : 57 < a20.toInt := b29; omega); exact (if_neg (by rintro ⟨h1, h2⟩; omega)).symm)⟩) d_6_7_30
    ·
      have b30 : q_F (a20.toInt ≤ 57) := (q_nltI c28)
      refine lv_iload_n hx hb d_6_7_22 rfl (lv_at hl 0 rfl) ?_
      refine lv_bipush (v := 48) hx hb d_6_7_23 (by decide) ?_
      refine lv_isub hx hb d_6_7_25 ?_
      obtain ⟨a31, e32⟩ := q_nm (a20 - 48 : Int32)
      refine q_ti (v := a31) e32 ?_
      have b33 : q_F (a31.toInt = a20.toInt - 48) := (by rw [← e32]; show (a20 - 48 : Int32).toInt = a20.toInt - 48; exact q_subI (x := a20.toInt) (y := 48) rfl (by decide) (by have t1 : 0 ≤ a20.toInt := b21; have t2 : a20.toInt ≤ 255 := b22; omega) (by have t1 : 0 ≤ a20.toInt := b21; have t2 : a20.toInt ≤ 255 := b22; omega))
      refine lv_goto (tgt := 30) hx hb d_6_7_26 (by decide) ?_
      exact q_reti C0 V (⟨rfl, (show 0 ≤ a31.toInt + 1 from (by have t1 : 48 ≤ a20.toInt := b27; have t2 : a31.toInt = a20.toInt - 48 := b33; omega)), (show a31.toInt ≤ 9 from (by have t1 : a20.toInt ≤ 57 := b30; have t2 : a31.toInt = a20.toInt - 48 := b33; omega)), (by have hp : a20 = n_by ws 1 x2.toInt64 := (by subst e13; exact pu23); unfold n_fig; rw [← hp]; have g1 : 48 ≤ a20.toInt := (by have t1 : 48 ≤ a20.toInt := b27; omega); have g2 : a20.toInt ≤ 57 := (by have t1 : a20.toInt ≤ 57 := b30; omega); exact Eq.trans e32.symm (if_pos ⟨g1, g2⟩).symm)⟩) d_6_7_30
theorem d_6_8_0 : decode prog_6_method_8_code 0 = .ok (.aload_n 0, 1) := by decide +kernel
theorem d_6_8_1 : decode prog_6_method_8_code 1 = .ok (.getfield 19, 3) := by decide +kernel
set_option maxRecDepth 100000 in
theorem w_356 : (Cond.fieldLink "NumberHouse$Directive" (19 : Nat) "NumberHouse$Directive" "flags" "I") ∈ q_tbl := q_of2 116 rfl (by decide +kernel)
theorem d_6_8_4 : decode prog_6_method_8_code 4 = .ok (.iload_n 1, 1) := by decide +kernel
theorem d_6_8_5 : decode prog_6_method_8_code 5 = .ok (.iand, 1) := by decide +kernel
theorem d_6_8_6 : decode prog_6_method_8_code 6 = .ok (.ifCond .eq 7, 3) := by decide +kernel
theorem d_6_8_13 : decode prog_6_method_8_code 13 = .ok (.iconst 0, 1) := by decide +kernel
theorem d_6_8_14 : decode prog_6_method_8_code 14 = .ok (.ireturn, 1) := by decide +kernel
theorem d_6_8_9 : decode prog_6_method_8_code 9 = .ok (.iconst 1, 1) := by decide +kernel
theorem d_6_8_10 : decode prog_6_method_8_code 10 = .ok (.goto 4, 3) := by decide +kernel
def y_Dir_has : MethodName := ⟨"NumberHouse$Directive", "has", "(I)Z"⟩
set_option maxRecDepth 100000 in
set_option maxHeartbeats 4000000 in
theorem T_Dir_has (l : Launch) (D : va_G) (g : Nat → ClassId) (q : Nat → Nat) (ws : va_W) (x2 : Int32) (hI : q_I (nsh g q) q ws) : q_mI l y_Dir_has prog_6_method_8_code 2 (.boolean) 1 0 0 D g [.ref (q 47), .int x2] ws (fun r u => ws = u ∧ (0 ≤ r.toInt) ∧ (r.toInt ≤ 1)) := by
  intro sz
  refine q_into (by decide) (Nat.le_of_ble_eq_true rfl) ?_
  intro p e s m below meth c ls hsz C0 V hl
  have hx := C0.1
  have hb := C0.2.1
  have hl : lv_has ls 2 [(0, .ref (q 47)), (1, .int x2)] := hl
  refine lv_aload_n hx hb d_6_8_0 rfl (lv_at hl 0 rfl) ?_
  obtain ⟨y2, y3, y4, y6, y8, y9, y10, hO1, b5, b7, b11⟩ := n_o47 hI
  replace b5 : q_F (-1 ≤ y4.toInt ∧ y4.toInt ≤ 9999) := b5
  replace b7 : q_F (-1 ≤ y6.toInt ∧ y6.toInt ≤ 9999) := b7
  replace b11 : q_F (0 ≤ y10.toInt ∧ y10.toInt ≤ 1) := b11
  refine q_get (ci := 10) (j := 1) (v := .int y3) C0 V i_Dir rfl rfl hO1 (by decide) w_356 rfl d_6_8_1 ?_
  refine lv_iload_n hx hb d_6_8_4 rfl (lv_at hl 1 rfl) ?_
  refine lv_iand hx hb d_6_8_5 ?_
  obtain ⟨a12, e13⟩ := q_nm (y3 &&& x2 : Int32)
  refine q_ti (v := a12) e13 ?_
  refine lv_if_eq (tgt := 13) hx hb d_6_8_6 (by decide) (fun c14 => ?_) (fun c14 => ?_)
  ·
    have b15 : q_F (a12.toInt = 0) := (q_eqI c14)
    refine lv_iconst (v := 0) hx hb d_6_8_13 (by decide) ?_
    exact q_retz C0 V (by decide) (⟨rfl, (show 0 ≤ (0 : Int32).toInt from (by have z1 : (0 : Int32).toInt = 0 := rfl; omega)), (show (0 : Int32).toInt ≤ 1 from (by have z1 : (0 : Int32).toInt = 0 := rfl; omega))⟩) d_6_8_14
  ·
    have b16 : q_F (a12.toInt ≠ 0) := (q_neI c14)
    refine lv_iconst (v := 1) hx hb d_6_8_9 (by decide) ?_
    refine lv_goto (tgt := 14) hx hb d_6_8_10 (by decide) ?_
    exact q_retz C0 V (by decide) (⟨rfl, (show 0 ≤ (1 : Int32).toInt from (by have z1 : (1 : Int32).toInt = 1 := rfl; omega)), (show (1 : Int32).toInt ≤ 1 from (by have z1 : (1 : Int32).toInt = 1 := rfl; omega))⟩) d_6_8_14
theorem d_6_10_0 : decode prog_6_method_10_code 0 = .ok (.aload_n 0, 1) := by decide +kernel
theorem d_6_10_1 : decode prog_6_method_10_code 1 = .ok (.getfield 55, 3) := by decide +kernel
set_option maxRecDepth 100000 in
theorem w_361 : (Cond.fieldLink "NumberHouse$Directive" (55 : Nat) "NumberHouse$Directive" "conversion" "I") ∈ q_tbl := q_of2 121 rfl (by decide +kernel)
theorem d_6_10_4 : decode prog_6_method_10_code 4 = .ok (.bipush 65, 2) := by decide +kernel
theorem d_6_10_6 : decode prog_6_method_10_code 6 = .ok (.if_icmp .lt 16, 3) := by decide +kernel
theorem d_6_10_22 : decode prog_6_method_10_code 22 = .ok (.iconst 0, 1) := by decide +kernel
theorem d_6_10_23 : decode prog_6_method_10_code 23 = .ok (.ireturn, 1) := by decide +kernel
theorem d_6_10_9 : decode prog_6_method_10_code 9 = .ok (.aload_n 0, 1) := by decide +kernel
theorem d_6_10_10 : decode prog_6_method_10_code 10 = .ok (.getfield 55, 3) := by decide +kernel
theorem d_6_10_13 : decode prog_6_method_10_code 13 = .ok (.bipush 90, 2) := by decide +kernel
theorem d_6_10_15 : decode prog_6_method_10_code 15 = .ok (.if_icmp .gt 7, 3) := by decide +kernel
theorem d_6_10_18 : decode prog_6_method_10_code 18 = .ok (.iconst 1, 1) := by decide +kernel
theorem d_6_10_19 : decode prog_6_method_10_code 19 = .ok (.goto 4, 3) := by decide +kernel
def y_Dir_isLarge : MethodName := ⟨"NumberHouse$Directive", "isLarge", "()Z"⟩
set_option maxRecDepth 100000 in
set_option maxHeartbeats 4000000 in
theorem T_Dir_isLarge (l : Launch) (D : va_G) (g : Nat → ClassId) (q : Nat → Nat) (ws : va_W) (hI : q_I (nsh g q) q ws) : q_mI l y_Dir_isLarge prog_6_method_10_code 1 (.boolean) 1 0 0 D g [.ref (q 47)] ws (fun r u => ws = u ∧ (0 ≤ r.toInt) ∧ (r.toInt ≤ 1)) := by
  intro sz
  refine q_into (by decide) (Nat.le_of_ble_eq_true rfl) ?_
  intro p e s m below meth c ls hsz C0 V hl
  have hx := C0.1
  have hb := C0.2.1
  have hl : lv_has ls 1 [(0, .ref (q 47))] := hl
  refine lv_aload_n hx hb d_6_10_0 rfl (lv_at hl 0 rfl) ?_
  obtain ⟨y2, y3, y4, y6, y8, y9, y10, hO1, b5, b7, b11⟩ := n_o47 hI
  replace b5 : q_F (-1 ≤ y4.toInt ∧ y4.toInt ≤ 9999) := b5
  replace b7 : q_F (-1 ≤ y6.toInt ∧ y6.toInt ≤ 9999) := b7
  replace b11 : q_F (0 ≤ y10.toInt ∧ y10.toInt ≤ 1) := b11
  refine q_get (ci := 10) (j := 4) (v := .int y8) C0 V i_Dir rfl rfl hO1 (by decide) w_361 rfl d_6_10_1 ?_
  refine lv_bipush (v := 65) hx hb d_6_10_4 (by decide) ?_
  refine lv_icmp_lt (tgt := 22) hx hb d_6_10_6 (by decide) (fun c12 => ?_) (fun c12 => ?_)
  ·
    have b13 : q_F (y8.toInt < 65) := (q_ltI c12)
    refine lv_iconst (v := 0) hx hb d_6_10_22 (by decide) ?_
    exact q_retz C0 V (by decide) (⟨rfl, (show 0 ≤ (0 : Int32).toInt from (by have z0 : (0 : Int32).toInt = 0 := rfl; omega)), (show (0 : Int32).toInt ≤ 1 from (by have z0 : (0 : Int32).toInt = 0 := rfl; omega))⟩) d_6_10_23
  ·
    have b14 : q_F (65 ≤ y8.toInt) := (q_nltI c12)
    refine lv_aload_n hx hb d_6_10_9 rfl (lv_at hl 0 rfl) ?_
    refine q_get (ci := 10) (j := 4) (v := .int y8) C0 V i_Dir rfl rfl hO1 (by decide) w_361 rfl d_6_10_10 ?_
    refine lv_bipush (v := 90) hx hb d_6_10_13 (by decide) ?_
    refine lv_icmp_gt (tgt := 22) hx hb d_6_10_15 (by decide) (fun c15 => ?_) (fun c15 => ?_)
    ·
      have b16 : q_F (90 < y8.toInt) := (q_ltI c15)
      refine lv_iconst (v := 0) hx hb d_6_10_22 (by decide) ?_
      exact q_retz C0 V (by decide) (⟨rfl, (show 0 ≤ (0 : Int32).toInt from (by have z0 : (0 : Int32).toInt = 0 := rfl; omega)), (show (0 : Int32).toInt ≤ 1 from (by have z0 : (0 : Int32).toInt = 0 := rfl; omega))⟩) d_6_10_23
    ·
      have b17 : q_F (y8.toInt ≤ 90) := (q_nltI c15)
      refine lv_iconst (v := 1) hx hb d_6_10_18 (by decide) ?_
      refine lv_goto (tgt := 23) hx hb d_6_10_19 (by decide) ?_
      exact q_retz C0 V (by decide) (⟨rfl, (show 0 ≤ (1 : Int32).toInt from (by have z0 : (1 : Int32).toInt = 1 := rfl; omega)), (show (1 : Int32).toInt ≤ 1 from (by have z0 : (1 : Int32).toInt = 1 := rfl; omega))⟩) d_6_10_23
theorem d_6_9_0 : decode prog_6_method_9_code 0 = .ok (.aload_n 0, 1) := by decide +kernel
theorem d_6_9_1 : decode prog_6_method_9_code 1 = .ok (.getfield 55, 3) := by decide +kernel
theorem d_6_9_4 : decode prog_6_method_9_code 4 = .ok (.ifCond .lt 19, 3) := by decide +kernel
theorem d_6_9_23 : decode prog_6_method_9_code 23 = .ok (.iconst 0, 1) := by decide +kernel
theorem d_6_9_24 : decode prog_6_method_9_code 24 = .ok (.ireturn, 1) := by decide +kernel
theorem d_6_9_7 : decode prog_6_method_9_code 7 = .ok (.aload_n 1, 1) := by decide +kernel
theorem d_6_9_8 : decode prog_6_method_9_code 8 = .ok (.aload_n 0, 1) := by decide +kernel
theorem d_6_9_9 : decode prog_6_method_9_code 9 = .ok (.getfield 55, 3) := by decide +kernel
theorem d_6_9_12 : decode prog_6_method_9_code 12 = .ok (.i2c, 1) := by decide +kernel
theorem d_6_9_13 : decode prog_6_method_9_code 13 = .ok (.invokevirtual 63, 3) := by decide +kernel
set_option maxRecDepth 100000 in
theorem w_1761 : (Cond.code ({ cls := "java/lang/String", name := "indexOf", desc := "(I)I" } : MethodName) prog_31_method_79_code (2 : Nat) (some .int)) ∈ q_tbl := q_of8 81 rfl (by decide +kernel)
set_option maxRecDepth 100000 in
theorem w_1758 : (Cond.methodLink "NumberHouse$Directive" (63 : Nat) ({ cls := "java/lang/String", name := "indexOf", desc := "(I)I" } : MethodName)) ∈ q_tbl := q_of8 78 rfl (by decide +kernel)
set_option maxRecDepth 100000 in
theorem w_1759 : (Cond.instanceMethod ({ cls := "java/lang/String", name := "indexOf", desc := "(I)I" } : MethodName)) ∈ q_tbl := q_of8 79 rfl (by decide +kernel)
set_option maxRecDepth 100000 in
theorem w_1760 : (Cond.selects "java/lang/String" ({ cls := "java/lang/String", name := "indexOf", desc := "(I)I" } : MethodName) ({ cls := "java/lang/String", name := "indexOf", desc := "(I)I" } : MethodName)) ∈ q_tbl := q_of8 80 rfl (by decide +kernel)
theorem LV_Dir_63 : q_LV "NumberHouse$Directive" 63 y_jStr_indexOf_II prog_31_method_79_code 2 (some .int) 1 := ⟨w_1761, w_25, w_1758, w_1759, w_1760, ⟨by decide, by decide, by decide +kernel⟩⟩
theorem d_6_9_16 : decode prog_6_method_9_code 16 = .ok (.ifCond .lt 7, 3) := by decide +kernel
theorem d_6_9_19 : decode prog_6_method_9_code 19 = .ok (.iconst 1, 1) := by decide +kernel
theorem d_6_9_20 : decode prog_6_method_9_code 20 = .ok (.goto 4, 3) := by decide +kernel
def y_Dir_isOneOf : MethodName := ⟨"NumberHouse$Directive", "isOneOf", "(Ljava/lang/String;)Z"⟩
set_option maxRecDepth 100000 in
set_option maxHeartbeats 4000000 in
theorem T_Dir_isOneOf_1 (l : Launch) (D : va_G) (g : Nat → ClassId) (q : Nat → Nat) (ws : va_W) (hI : q_I (nsh g q) q ws) : q_mI l y_Dir_isOneOf prog_6_method_9_code 2 (.boolean) 5 0 0 D g [.ref (q 47), .ref (g (8 + 2 * 1))] ws (fun r u => ws = u ∧ (0 ≤ r.toInt) ∧ (r.toInt ≤ 1)) := by
  intro sz
  refine q_into (by decide) (Nat.le_of_ble_eq_true rfl) ?_
  intro p e s m below meth c ls hsz C0 V hl
  have hx := C0.1
  have hb := C0.2.1
  have hl : lv_has ls 2 [(0, .ref (q 47)), (1, .ref (g (8 + 2 * 1)))] := hl
  refine lv_aload_n hx hb d_6_9_0 rfl (lv_at hl 0 rfl) ?_
  obtain ⟨y2, y3, y4, y6, y8, y9, y10, hO1, b5, b7, b11⟩ := n_o47 hI
  replace b5 : q_F (-1 ≤ y4.toInt ∧ y4.toInt ≤ 9999) := b5
  replace b7 : q_F (-1 ≤ y6.toInt ∧ y6.toInt ≤ 9999) := b7
  replace b11 : q_F (0 ≤ y10.toInt ∧ y10.toInt ≤ 1) := b11
  refine q_get (ci := 10) (j := 4) (v := .int y8) C0 V i_Dir rfl rfl hO1 (by decide) w_361 rfl d_6_9_1 ?_
  refine lv_if_lt (tgt := 23) hx hb d_6_9_4 (by decide) (fun c12 => ?_) (fun c12 => ?_)
  ·
    have b13 : q_F (y8.toInt < 0) := (q_ltI c12)
    refine lv_iconst (v := 0) hx hb d_6_9_23 (by decide) ?_
    exact q_retz C0 V (by decide) (⟨rfl, (show 0 ≤ (0 : Int32).toInt from (by have z0 : (0 : Int32).toInt = 0 := rfl; omega)), (show (0 : Int32).toInt ≤ 1 from (by have z0 : (0 : Int32).toInt = 0 := rfl; omega))⟩) d_6_9_24
  ·
    have b14 : q_F (0 ≤ y8.toInt) := (q_nltI c12)
    refine lv_aload_n hx hb d_6_9_7 rfl (lv_at hl 1 rfl) ?_
    refine lv_aload_n hx hb d_6_9_8 rfl (lv_at hl 0 rfl) ?_
    refine q_get (ci := 10) (j := 4) (v := .int y8) C0 V i_Dir rfl rfl hO1 (by decide) w_361 rfl d_6_9_9 ?_
    refine lv_i2c hx hb d_6_9_12 rfl ?_
    obtain ⟨a15, e16⟩ := q_nm ((y8.toUInt32 % 65536).toInt32 : Int32)
    refine q_ti (v := a15) e16 ?_
    have b17 : q_F (0 ≤ a15.toInt ∧ a15.toInt ≤ 65535) := (by rw [← e16]; show 0 ≤ ((y8.toUInt32 % 65536).toInt32 : Int32).toInt ∧ ((y8.toUInt32 % 65536).toInt32 : Int32).toInt ≤ 65535; exact ⟨(n_i2c (x := y8)).1, (n_i2c (x := y8)).2.1⟩)
    refine q_goi V (q_runVs (As := [.int a15]) (rest := []) (d := 4) (mc := 0) (ms := 0) (i := 1) C0 V rfl LV_Dir_63 (T_jStr_indexOf_II_1 l D g q ws  a15 hI   _) rfl rfl rfl hl.1 rfl (Nat.le_of_ble_eq_true rfl) ⟨by decide, by decide⟩ ⟨Nat.le_of_ble_eq_true rfl, Nat.le_of_ble_eq_true rfl⟩ d_6_9_13) (fun a20 u18 H locs hp19 V => ?_)
    obtain ⟨rfl, b21, b22⟩ := hp19
    replace b21 : q_F (0 ≤ a20.toInt + 1) := b21
    replace b22 : q_F (a20.toInt ≤ 16) := b22
    refine lv_if_lt (tgt := 23) hx hb d_6_9_16 (by decide) (fun c24 => ?_) (fun c24 => ?_)
    ·
      have b25 : q_F (a20.toInt < 0) := (q_ltI c24)
      refine lv_iconst (v := 0) hx hb d_6_9_23 (by decide) ?_
      exact q_retz C0 V (by decide) (⟨rfl, (show 0 ≤ (0 : Int32).toInt from (by have z0 : (0 : Int32).toInt = 0 := rfl; omega)), (show (0 : Int32).toInt ≤ 1 from (by have z0 : (0 : Int32).toInt = 0 := rfl; omega))⟩) d_6_9_24
    ·
      have b26 : q_F (0 ≤ a20.toInt) := (q_nltI c24)
      refine lv_iconst (v := 1) hx hb d_6_9_19 (by decide) ?_
      refine lv_goto (tgt := 24) hx hb d_6_9_20 (by decide) ?_
      exact q_retz C0 V (by decide) (⟨rfl, (show 0 ≤ (1 : Int32).toInt from (by have z0 : (1 : Int32).toInt = 1 := rfl; omega)), (show (1 : Int32).toInt ≤ 1 from (by have z0 : (1 : Int32).toInt = 1 := rfl; omega))⟩) d_6_9_24
set_option maxRecDepth 100000 in
set_option maxHeartbeats 4000000 in
theorem T_Dir_isOneOf_2 (l : Launch) (D : va_G) (g : Nat → ClassId) (q : Nat → Nat) (ws : va_W) (hI : q_I (nsh g q) q ws) : q_mI l y_Dir_isOneOf prog_6_method_9_code 2 (.boolean) 5 0 0 D g [.ref (q 47), .ref (g (8 + 2 * 2))] ws (fun r u => ws = u ∧ (0 ≤ r.toInt) ∧ (r.toInt ≤ 1)) := by
  intro sz
  refine q_into (by decide) (Nat.le_of_ble_eq_true rfl) ?_
  intro p e s m below meth c ls hsz C0 V hl
  have hx := C0.1
  have hb := C0.2.1
  have hl : lv_has ls 2 [(0, .ref (q 47)), (1, .ref (g (8 + 2 * 2)))] := hl
  refine lv_aload_n hx hb d_6_9_0 rfl (lv_at hl 0 rfl) ?_
  obtain ⟨y2, y3, y4, y6, y8, y9, y10, hO1, b5, b7, b11⟩ := n_o47 hI
  replace b5 : q_F (-1 ≤ y4.toInt ∧ y4.toInt ≤ 9999) := b5
  replace b7 : q_F (-1 ≤ y6.toInt ∧ y6.toInt ≤ 9999) := b7
  replace b11 : q_F (0 ≤ y10.toInt ∧ y10.toInt ≤ 1) := b11
  refine q_get (ci := 10) (j := 4) (v := .int y8) C0 V i_Dir rfl rfl hO1 (by decide) w_361 rfl d_6_9_1 ?_
  refine lv_if_lt (tgt := 23) hx hb d_6_9_4 (by decide) (fun c12 => ?_) (fun c12 => ?_)
  ·
    have b13 : q_F (y8.toInt < 0) := (q_ltI c12)
    refine lv_iconst (v := 0) hx hb d_6_9_23 (by decide) ?_
    exact q_retz C0 V (by decide) (⟨rfl, (show 0 ≤ (0 : Int32).toInt from (by have z0 : (0 : Int32).toInt = 0 := rfl; omega)), (show (0 : Int32).toInt ≤ 1 from (by have z0 : (0 : Int32).toInt = 0 := rfl; omega))⟩) d_6_9_24
  ·
    have b14 : q_F (0 ≤ y8.toInt) := (q_nltI c12)
    refine lv_aload_n hx hb d_6_9_7 rfl (lv_at hl 1 rfl) ?_
    refine lv_aload_n hx hb d_6_9_8 rfl (lv_at hl 0 rfl) ?_
    refine q_get (ci := 10) (j := 4) (v := .int y8) C0 V i_Dir rfl rfl hO1 (by decide) w_361 rfl d_6_9_9 ?_
    refine lv_i2c hx hb d_6_9_12 rfl ?_
    obtain ⟨a15, e16⟩ := q_nm ((y8.toUInt32 % 65536).toInt32 : Int32)
    refine q_ti (v := a15) e16 ?_
    have b17 : q_F (0 ≤ a15.toInt ∧ a15.toInt ≤ 65535) := (by rw [← e16]; show 0 ≤ ((y8.toUInt32 % 65536).toInt32 : Int32).toInt ∧ ((y8.toUInt32 % 65536).toInt32 : Int32).toInt ≤ 65535; exact ⟨(n_i2c (x := y8)).1, (n_i2c (x := y8)).2.1⟩)
    refine q_goi V (q_runVs (As := [.int a15]) (rest := []) (d := 4) (mc := 0) (ms := 0) (i := 2) C0 V rfl LV_Dir_63 (T_jStr_indexOf_II_2 l D g q ws  a15 hI   _) rfl rfl rfl hl.1 rfl (Nat.le_of_ble_eq_true rfl) ⟨by decide, by decide⟩ ⟨Nat.le_of_ble_eq_true rfl, Nat.le_of_ble_eq_true rfl⟩ d_6_9_13) (fun a20 u18 H locs hp19 V => ?_)
    obtain ⟨rfl, b21, b22⟩ := hp19
    replace b21 : q_F (0 ≤ a20.toInt + 1) := b21
    replace b22 : q_F (a20.toInt ≤ 6) := b22
    refine lv_if_lt (tgt := 23) hx hb d_6_9_16 (by decide) (fun c24 => ?_) (fun c24 => ?_)
    ·
      have b25 : q_F (a20.toInt < 0) := (q_ltI c24)
      refine lv_iconst (v := 0) hx hb d_6_9_23 (by decide) ?_
      exact q_retz C0 V (by decide) (⟨rfl, (show 0 ≤ (0 : Int32).toInt from (by have z0 : (0 : Int32).toInt = 0 := rfl; omega)), (show (0 : Int32).toInt ≤ 1 from (by have z0 : (0 : Int32).toInt = 0 := rfl; omega))⟩) d_6_9_24
    ·
      have b26 : q_F (0 ≤ a20.toInt) := (q_nltI c24)
      refine lv_iconst (v := 1) hx hb d_6_9_19 (by decide) ?_
      refine lv_goto (tgt := 24) hx hb d_6_9_20 (by decide) ?_
      exact q_retz C0 V (by decide) (⟨rfl, (show 0 ≤ (1 : Int32).toInt from (by have z0 : (1 : Int32).toInt = 1 := rfl; omega)), (show (1 : Int32).toInt ≤ 1 from (by have z0 : (1 : Int32).toInt = 1 := rfl; omega))⟩) d_6_9_24
set_option maxRecDepth 100000 in
set_option maxHeartbeats 4000000 in
theorem T_Dir_isOneOf_3 (l : Launch) (D : va_G) (g : Nat → ClassId) (q : Nat → Nat) (ws : va_W) (hI : q_I (nsh g q) q ws) : q_mI l y_Dir_isOneOf prog_6_method_9_code 2 (.boolean) 5 0 0 D g [.ref (q 47), .ref (g (8 + 2 * 3))] ws (fun r u => ws = u ∧ (0 ≤ r.toInt) ∧ (r.toInt ≤ 1)) := by
  intro sz
  refine q_into (by decide) (Nat.le_of_ble_eq_true rfl) ?_
  intro p e s m below meth c ls hsz C0 V hl
  have hx := C0.1
  have hb := C0.2.1
  have hl : lv_has ls 2 [(0, .ref (q 47)), (1, .ref (g (8 + 2 * 3)))] := hl
  refine lv_aload_n hx hb d_6_9_0 rfl (lv_at hl 0 rfl) ?_
  obtain ⟨y2, y3, y4, y6, y8, y9, y10, hO1, b5, b7, b11⟩ := n_o47 hI
  replace b5 : q_F (-1 ≤ y4.toInt ∧ y4.toInt ≤ 9999) := b5
  replace b7 : q_F (-1 ≤ y6.toInt ∧ y6.toInt ≤ 9999) := b7
  replace b11 : q_F (0 ≤ y10.toInt ∧ y10.toInt ≤ 1) := b11
  refine q_get (ci := 10) (j := 4) (v := .int y8) C0 V i_Dir rfl rfl hO1 (by decide) w_361 rfl d_6_9_1 ?_
  refine lv_if_lt (tgt := 23) hx hb d_6_9_4 (by decide) (fun c12 => ?_) (fun c12 => ?_)
  ·
    have b13 : q_F (y8.toInt < 0) := (q_ltI c12)
    refine lv_iconst (v := 0) hx hb d_6_9_23 (by decide) ?_
    exact q_retz C0 V (by decide) (⟨rfl, (show 0 ≤ (0 : Int32).toInt from (by have z0 : (0 : Int32).toInt = 0 := rfl; omega)), (show (0 : Int32).toInt ≤ 1 from (by have z0 : (0 : Int32).toInt = 0 := rfl; omega))⟩) d_6_9_24
  ·
    have b14 : q_F (0 ≤ y8.toInt) := (q_nltI c12)
    refine lv_aload_n hx hb d_6_9_7 rfl (lv_at hl 1 rfl) ?_
    refine lv_aload_n hx hb d_6_9_8 rfl (lv_at hl 0 rfl) ?_
    refine q_get (ci := 10) (j := 4) (v := .int y8) C0 V i_Dir rfl rfl hO1 (by decide) w_361 rfl d_6_9_9 ?_
    refine lv_i2c hx hb d_6_9_12 rfl ?_
    obtain ⟨a15, e16⟩ := q_nm ((y8.toUInt32 % 65536).toInt32 : Int32)
    refine q_ti (v := a15) e16 ?_
    have b17 : q_F (0 ≤ a15.toInt ∧ a15.toInt ≤ 65535) := (by rw [← e16]; show 0 ≤ ((y8.toUInt32 % 65536).toInt32 : Int32).toInt ∧ ((y8.toUInt32 % 65536).toInt32 : Int32).toInt ≤ 65535; exact ⟨(n_i2c (x := y8)).1, (n_i2c (x := y8)).2.1⟩)
    refine q_goi V (q_runVs (As := [.int a15]) (rest := []) (d := 4) (mc := 0) (ms := 0) (i := 3) C0 V rfl LV_Dir_63 (T_jStr_indexOf_II_3 l D g q ws  a15 hI   _) rfl rfl rfl hl.1 rfl (Nat.le_of_ble_eq_true rfl) ⟨by decide, by decide⟩ ⟨Nat.le_of_ble_eq_true rfl, Nat.le_of_ble_eq_true rfl⟩ d_6_9_13) (fun a20 u18 H locs hp19 V => ?_)
    obtain ⟨rfl, b21, b22⟩ := hp19
    replace b21 : q_F (0 ≤ a20.toInt + 1) := b21
    replace b22 : q_F (a20.toInt ≤ 6) := b22
    refine lv_if_lt (tgt := 23) hx hb d_6_9_16 (by decide) (fun c24 => ?_) (fun c24 => ?_)
    ·
      have b25 : q_F (a20.toInt < 0) := (q_ltI c24)
      refine lv_iconst (v := 0) hx hb d_6_9_23 (by decide) ?_
      exact q_retz C0 V (by decide) (⟨rfl, (show 0 ≤ (0 : Int32).toInt from (by have z0 : (0 : Int32).toInt = 0 := rfl; omega)), (show (0 : Int32).toInt ≤ 1 from (by have z0 : (0 : Int32).toInt = 0 := rfl; omega))⟩) d_6_9_24
    ·
      have b26 : q_F (0 ≤ a20.toInt) := (q_nltI c24)
      refine lv_iconst (v := 1) hx hb d_6_9_19 (by decide) ?_
      refine lv_goto (tgt := 24) hx hb d_6_9_20 (by decide) ?_
      exact q_retz C0 V (by decide) (⟨rfl, (show 0 ≤ (1 : Int32).toInt from (by have z0 : (1 : Int32).toInt = 1 := rfl; omega)), (show (1 : Int32).toInt ≤ 1 from (by have z0 : (1 : Int32).toInt = 1 := rfl; omega))⟩) d_6_9_24
set_option maxRecDepth 100000 in
set_option maxHeartbeats 4000000 in
theorem T_Dir_isOneOf_4 (l : Launch) (D : va_G) (g : Nat → ClassId) (q : Nat → Nat) (ws : va_W) (hI : q_I (nsh g q) q ws) : q_mI l y_Dir_isOneOf prog_6_method_9_code 2 (.boolean) 5 0 0 D g [.ref (q 47), .ref (g (8 + 2 * 4))] ws (fun r u => ws = u ∧ (0 ≤ r.toInt) ∧ (r.toInt ≤ 1)) := by
  intro sz
  refine q_into (by decide) (Nat.le_of_ble_eq_true rfl) ?_
  intro p e s m below meth c ls hsz C0 V hl
  have hx := C0.1
  have hb := C0.2.1
  have hl : lv_has ls 2 [(0, .ref (q 47)), (1, .ref (g (8 + 2 * 4)))] := hl
  refine lv_aload_n hx hb d_6_9_0 rfl (lv_at hl 0 rfl) ?_
  obtain ⟨y2, y3, y4, y6, y8, y9, y10, hO1, b5, b7, b11⟩ := n_o47 hI
  replace b5 : q_F (-1 ≤ y4.toInt ∧ y4.toInt ≤ 9999) := b5
  replace b7 : q_F (-1 ≤ y6.toInt ∧ y6.toInt ≤ 9999) := b7
  replace b11 : q_F (0 ≤ y10.toInt ∧ y10.toInt ≤ 1) := b11
  refine q_get (ci := 10) (j := 4) (v := .int y8) C0 V i_Dir rfl rfl hO1 (by decide) w_361 rfl d_6_9_1 ?_
  refine lv_if_lt (tgt := 23) hx hb d_6_9_4 (by decide) (fun c12 => ?_) (fun c12 => ?_)
  ·
    have b13 : q_F (y8.toInt < 0) := (q_ltI c12)
    refine lv_iconst (v := 0) hx hb d_6_9_23 (by decide) ?_
    exact q_retz C0 V (by decide) (⟨rfl, (show 0 ≤ (0 : Int32).toInt from (by have z0 : (0 : Int32).toInt = 0 := rfl; omega)), (show (0 : Int32).toInt ≤ 1 from (by have z0 : (0 : Int32).toInt = 0 := rfl; omega))⟩) d_6_9_24
  ·
    have b14 : q_F (0 ≤ y8.toInt) := (q_nltI c12)
    refine lv_aload_n hx hb d_6_9_7 rfl (lv_at hl 1 rfl) ?_
    refine lv_aload_n hx hb d_6_9_8 rfl (lv_at hl 0 rfl) ?_
    refine q_get (ci := 10) (j := 4) (v := .int y8) C0 V i_Dir rfl rfl hO1 (by decide) w_361 rfl d_6_9_9 ?_
    refine lv_i2c hx hb d_6_9_12 rfl ?_
    obtain ⟨a15, e16⟩ := q_nm ((y8.toUInt32 % 65536).toInt32 : Int32)
    refine q_ti (v := a15) e16 ?_
    have b17 : q_F (0 ≤ a15.toInt ∧ a15.toInt ≤ 65535) := (by rw [← e16]; show 0 ≤ ((y8.toUInt32 % 65536).toInt32 : Int32).toInt ∧ ((y8.toUInt32 % 65536).toInt32 : Int32).toInt ≤ 65535; exact ⟨(n_i2c (x := y8)).1, (n_i2c (x := y8)).2.1⟩)
    refine q_goi V (q_runVs (As := [.int a15]) (rest := []) (d := 4) (mc := 0) (ms := 0) (i := 4) C0 V rfl LV_Dir_63 (T_jStr_indexOf_II_4 l D g q ws  a15 hI   _) rfl rfl rfl hl.1 rfl (Nat.le_of_ble_eq_true rfl) ⟨by decide, by decide⟩ ⟨Nat.le_of_ble_eq_true rfl, Nat.le_of_ble_eq_true rfl⟩ d_6_9_13) (fun a20 u18 H locs hp19 V => ?_)
    obtain ⟨rfl, b21, b22⟩ := hp19
    replace b21 : q_F (0 ≤ a20.toInt + 1) := b21
    replace b22 : q_F (a20.toInt ≤ 2) := b22
    refine lv_if_lt (tgt := 23) hx hb d_6_9_16 (by decide) (fun c24 => ?_) (fun c24 => ?_)
    ·
      have b25 : q_F (a20.toInt < 0) := (q_ltI c24)
      refine lv_iconst (v := 0) hx hb d_6_9_23 (by decide) ?_
      exact q_retz C0 V (by decide) (⟨rfl, (show 0 ≤ (0 : Int32).toInt from (by have z0 : (0 : Int32).toInt = 0 := rfl; omega)), (show (0 : Int32).toInt ≤ 1 from (by have z0 : (0 : Int32).toInt = 0 := rfl; omega))⟩) d_6_9_24
    ·
      have b26 : q_F (0 ≤ a20.toInt) := (q_nltI c24)
      refine lv_iconst (v := 1) hx hb d_6_9_19 (by decide) ?_
      refine lv_goto (tgt := 24) hx hb d_6_9_20 (by decide) ?_
      exact q_retz C0 V (by decide) (⟨rfl, (show 0 ≤ (1 : Int32).toInt from (by have z0 : (1 : Int32).toInt = 1 := rfl; omega)), (show (1 : Int32).toInt ≤ 1 from (by have z0 : (1 : Int32).toInt = 1 := rfl; omega))⟩) d_6_9_24
set_option maxRecDepth 100000 in
set_option maxHeartbeats 4000000 in
theorem T_Dir_isOneOf_5 (l : Launch) (D : va_G) (g : Nat → ClassId) (q : Nat → Nat) (ws : va_W) (hI : q_I (nsh g q) q ws) : q_mI l y_Dir_isOneOf prog_6_method_9_code 2 (.boolean) 5 0 0 D g [.ref (q 47), .ref (g (8 + 2 * 5))] ws (fun r u => ws = u ∧ (0 ≤ r.toInt) ∧ (r.toInt ≤ 1)) := by
  intro sz
  refine q_into (by decide) (Nat.le_of_ble_eq_true rfl) ?_
  intro p e s m below meth c ls hsz C0 V hl
  have hx := C0.1
  have hb := C0.2.1
  have hl : lv_has ls 2 [(0, .ref (q 47)), (1, .ref (g (8 + 2 * 5)))] := hl
  refine lv_aload_n hx hb d_6_9_0 rfl (lv_at hl 0 rfl) ?_
  obtain ⟨y2, y3, y4, y6, y8, y9, y10, hO1, b5, b7, b11⟩ := n_o47 hI
  replace b5 : q_F (-1 ≤ y4.toInt ∧ y4.toInt ≤ 9999) := b5
  replace b7 : q_F (-1 ≤ y6.toInt ∧ y6.toInt ≤ 9999) := b7
  replace b11 : q_F (0 ≤ y10.toInt ∧ y10.toInt ≤ 1) := b11
  refine q_get (ci := 10) (j := 4) (v := .int y8) C0 V i_Dir rfl rfl hO1 (by decide) w_361 rfl d_6_9_1 ?_
  refine lv_if_lt (tgt := 23) hx hb d_6_9_4 (by decide) (fun c12 => ?_) (fun c12 => ?_)
  ·
    have b13 : q_F (y8.toInt < 0) := (q_ltI c12)
    refine lv_iconst (v := 0) hx hb d_6_9_23 (by decide) ?_
    exact q_retz C0 V (by decide) (⟨rfl, (show 0 ≤ (0 : Int32).toInt from (by have z0 : (0 : Int32).toInt = 0 := rfl; omega)), (show (0 : Int32).toInt ≤ 1 from (by have z0 : (0 : Int32).toInt = 0 := rfl; omega))⟩) d_6_9_24
  ·
    have b14 : q_F (0 ≤ y8.toInt) := (q_nltI c12)
    refine lv_aload_n hx hb d_6_9_7 rfl (lv_at hl 1 rfl) ?_
    refine lv_aload_n hx hb d_6_9_8 rfl (lv_at hl 0 rfl) ?_
    refine q_get (ci := 10) (j := 4) (v := .int y8) C0 V i_Dir rfl rfl hO1 (by decide) w_361 rfl d_6_9_9 ?_
    refine lv_i2c hx hb d_6_9_12 rfl ?_
    obtain ⟨a15, e16⟩ := q_nm ((y8.toUInt32 % 65536).toInt32 : Int32)
    refine q_ti (v := a15) e16 ?_
    have b17 : q_F (0 ≤ a15.toInt ∧ a15.toInt ≤ 65535) := (by rw [← e16]; show 0 ≤ ((y8.toUInt32 % 65536).toInt32 : Int32).toInt ∧ ((y8.toUInt32 % 65536).toInt32 : Int32).toInt ≤ 65535; exact ⟨(n_i2c (x := y8)).1, (n_i2c (x := y8)).2.1⟩)
    refine q_goi V (q_runVs (As := [.int a15]) (rest := []) (d := 4) (mc := 0) (ms := 0) (i := 5) C0 V rfl LV_Dir_63 (T_jStr_indexOf_II_5 l D g q ws  a15 hI   _) rfl rfl rfl hl.1 rfl (Nat.le_of_ble_eq_true rfl) ⟨by decide, by decide⟩ ⟨Nat.le_of_ble_eq_true rfl, Nat.le_of_ble_eq_true rfl⟩ d_6_9_13) (fun a20 u18 H locs hp19 V => ?_)
    obtain ⟨rfl, b21, b22⟩ := hp19
    replace b21 : q_F (0 ≤ a20.toInt + 1) := b21
    replace b22 : q_F (a20.toInt ≤ 2) := b22
    refine lv_if_lt (tgt := 23) hx hb d_6_9_16 (by decide) (fun c24 => ?_) (fun c24 => ?_)
    ·
      have b25 : q_F (a20.toInt < 0) := (q_ltI c24)
      refine lv_iconst (v := 0) hx hb d_6_9_23 (by decide) ?_
      exact q_retz C0 V (by decide) (⟨rfl, (show 0 ≤ (0 : Int32).toInt from (by have z0 : (0 : Int32).toInt = 0 := rfl; omega)), (show (0 : Int32).toInt ≤ 1 from (by have z0 : (0 : Int32).toInt = 0 := rfl; omega))⟩) d_6_9_24
    ·
      have b26 : q_F (0 ≤ a20.toInt) := (q_nltI c24)
      refine lv_iconst (v := 1) hx hb d_6_9_19 (by decide) ?_
      refine lv_goto (tgt := 24) hx hb d_6_9_20 (by decide) ?_
      exact q_retz C0 V (by decide) (⟨rfl, (show 0 ≤ (1 : Int32).toInt from (by have z0 : (1 : Int32).toInt = 1 := rfl; omega)), (show (1 : Int32).toInt ≤ 1 from (by have z0 : (1 : Int32).toInt = 1 := rfl; omega))⟩) d_6_9_24
set_option maxRecDepth 100000 in
set_option maxHeartbeats 4000000 in
theorem T_Dir_isOneOf_6 (l : Launch) (D : va_G) (g : Nat → ClassId) (q : Nat → Nat) (ws : va_W) (hI : q_I (nsh g q) q ws) : q_mI l y_Dir_isOneOf prog_6_method_9_code 2 (.boolean) 5 0 0 D g [.ref (q 47), .ref (g (8 + 2 * 6))] ws (fun r u => ws = u ∧ (0 ≤ r.toInt) ∧ (r.toInt ≤ 1)) := by
  intro sz
  refine q_into (by decide) (Nat.le_of_ble_eq_true rfl) ?_
  intro p e s m below meth c ls hsz C0 V hl
  have hx := C0.1
  have hb := C0.2.1
  have hl : lv_has ls 2 [(0, .ref (q 47)), (1, .ref (g (8 + 2 * 6)))] := hl
  refine lv_aload_n hx hb d_6_9_0 rfl (lv_at hl 0 rfl) ?_
  obtain ⟨y2, y3, y4, y6, y8, y9, y10, hO1, b5, b7, b11⟩ := n_o47 hI
  replace b5 : q_F (-1 ≤ y4.toInt ∧ y4.toInt ≤ 9999) := b5
  replace b7 : q_F (-1 ≤ y6.toInt ∧ y6.toInt ≤ 9999) := b7
  replace b11 : q_F (0 ≤ y10.toInt ∧ y10.toInt ≤ 1) := b11
  refine q_get (ci := 10) (j := 4) (v := .int y8) C0 V i_Dir rfl rfl hO1 (by decide) w_361 rfl d_6_9_1 ?_
  refine lv_if_lt (tgt := 23) hx hb d_6_9_4 (by decide) (fun c12 => ?_) (fun c12 => ?_)
  ·
    have b13 : q_F (y8.toInt < 0) := (q_ltI c12)
    refine lv_iconst (v := 0) hx hb d_6_9_23 (by decide) ?_
    exact q_retz C0 V (by decide) (⟨rfl, (show 0 ≤ (0 : Int32).toInt from (by have z0 : (0 : Int32).toInt = 0 := rfl; omega)), (show (0 : Int32).toInt ≤ 1 from (by have z0 : (0 : Int32).toInt = 0 := rfl; omega))⟩) d_6_9_24
  ·
    have b14 : q_F (0 ≤ y8.toInt) := (q_nltI c12)
    refine lv_aload_n hx hb d_6_9_7 rfl (lv_at hl 1 rfl) ?_
    refine lv_aload_n hx hb d_6_9_8 rfl (lv_at hl 0 rfl) ?_
    refine q_get (ci := 10) (j := 4) (v := .int y8) C0 V i_Dir rfl rfl hO1 (by decide) w_361 rfl d_6_9_9 ?_
    refine lv_i2c hx hb d_6_9_12 rfl ?_
    obtain ⟨a15, e16⟩ := q_nm ((y8.toUInt32 % 65536).toInt32 : Int32)
    refine q_ti (v := a15) e16 ?_
    have b17 : q_F (0 ≤ a15.toInt ∧ a15.toInt ≤ 65535) := (by rw [← e16]; show 0 ≤ ((y8.toUInt32 % 65536).toInt32 : Int32).toInt ∧ ((y8.toUInt32 % 65536).toInt32 : Int32).toInt ≤ 65535; exact ⟨(n_i2c (x := y8)).1, (n_i2c (x := y8)).2.1⟩)
    refine q_goi V (q_runVs (As := [.int a15]) (rest := []) (d := 4) (mc := 0) (ms := 0) (i := 6) C0 V rfl LV_Dir_63 (T_jStr_indexOf_II_6 l D g q ws  a15 hI   _) rfl rfl rfl hl.1 rfl (Nat.le_of_ble_eq_true rfl) ⟨by decide, by decide⟩ ⟨Nat.le_of_ble_eq_true rfl, Nat.le_of_ble_eq_true rfl⟩ d_6_9_13) (fun a20 u18 H locs hp19 V => ?_)
    obtain ⟨rfl, b21, b22⟩ := hp19
    replace b21 : q_F (0 ≤ a20.toInt + 1) := b21
    replace b22 : q_F (a20.toInt ≤ 1) := b22
    refine lv_if_lt (tgt := 23) hx hb d_6_9_16 (by decide) (fun c24 => ?_) (fun c24 => ?_)
    ·
      have b25 : q_F (a20.toInt < 0) := (q_ltI c24)
      refine lv_iconst (v := 0) hx hb d_6_9_23 (by decide) ?_
      exact q_retz C0 V (by decide) (⟨rfl, (show 0 ≤ (0 : Int32).toInt from (by have z0 : (0 : Int32).toInt = 0 := rfl; omega)), (show (0 : Int32).toInt ≤ 1 from (by have z0 : (0 : Int32).toInt = 0 := rfl; omega))⟩) d_6_9_24
    ·
      have b26 : q_F (0 ≤ a20.toInt) := (q_nltI c24)
      refine lv_iconst (v := 1) hx hb d_6_9_19 (by decide) ?_
      refine lv_goto (tgt := 24) hx hb d_6_9_20 (by decide) ?_
      exact q_retz C0 V (by decide) (⟨rfl, (show 0 ≤ (1 : Int32).toInt from (by have z0 : (1 : Int32).toInt = 1 := rfl; omega)), (show (1 : Int32).toInt ≤ 1 from (by have z0 : (1 : Int32).toInt = 1 := rfl; omega))⟩) d_6_9_24
set_option maxRecDepth 100000 in
set_option maxHeartbeats 4000000 in
theorem T_Dir_isOneOf_7 (l : Launch) (D : va_G) (g : Nat → ClassId) (q : Nat → Nat) (ws : va_W) (hI : q_I (nsh g q) q ws) : q_mI l y_Dir_isOneOf prog_6_method_9_code 2 (.boolean) 5 0 0 D g [.ref (q 47), .ref (g (8 + 2 * 7))] ws (fun r u => ws = u ∧ (0 ≤ r.toInt) ∧ (r.toInt ≤ 1)) := by
  intro sz
  refine q_into (by decide) (Nat.le_of_ble_eq_true rfl) ?_
  intro p e s m below meth c ls hsz C0 V hl
  have hx := C0.1
  have hb := C0.2.1
  have hl : lv_has ls 2 [(0, .ref (q 47)), (1, .ref (g (8 + 2 * 7)))] := hl
  refine lv_aload_n hx hb d_6_9_0 rfl (lv_at hl 0 rfl) ?_
  obtain ⟨y2, y3, y4, y6, y8, y9, y10, hO1, b5, b7, b11⟩ := n_o47 hI
  replace b5 : q_F (-1 ≤ y4.toInt ∧ y4.toInt ≤ 9999) := b5
  replace b7 : q_F (-1 ≤ y6.toInt ∧ y6.toInt ≤ 9999) := b7
  replace b11 : q_F (0 ≤ y10.toInt ∧ y10.toInt ≤ 1) := b11
  refine q_get (ci := 10) (j := 4) (v := .int y8) C0 V i_Dir rfl rfl hO1 (by decide) w_361 rfl d_6_9_1 ?_
  refine lv_if_lt (tgt := 23) hx hb d_6_9_4 (by decide) (fun c12 => ?_) (fun c12 => ?_)
  ·
    have b13 : q_F (y8.toInt < 0) := (q_ltI c12)
    refine lv_iconst (v := 0) hx hb d_6_9_23 (by decide) ?_
    exact q_retz C0 V (by decide) (⟨rfl, (show 0 ≤ (0 : Int32).toInt from (by have z0 : (0 : Int32).toInt = 0 := rfl; omega)), (show (0 : Int32).toInt ≤ 1 from (by have z0 : (0 : Int32).toInt = 0 := rfl; omega))⟩) d_6_9_24
  ·
    have b14 : q_F (0 ≤ y8.toInt) := (q_nltI c12)
    refine lv_aload_n hx hb d_6_9_7 rfl (lv_at hl 1 rfl) ?_
    refine lv_aload_n hx hb d_6_9_8 rfl (lv_at hl 0 rfl) ?_
    refine q_get (ci := 10) (j := 4) (v := .int y8) C0 V i_Dir rfl rfl hO1 (by decide) w_361 rfl d_6_9_9 ?_
    refine lv_i2c hx hb d_6_9_12 rfl ?_
    obtain ⟨a15, e16⟩ := q_nm ((y8.toUInt32 % 65536).toInt32 : Int32)
    refine q_ti (v := a15) e16 ?_
    have b17 : q_F (0 ≤ a15.toInt ∧ a15.toInt ≤ 65535) := (by rw [← e16]; show 0 ≤ ((y8.toUInt32 % 65536).toInt32 : Int32).toInt ∧ ((y8.toUInt32 % 65536).toInt32 : Int32).toInt ≤ 65535; exact ⟨(n_i2c (x := y8)).1, (n_i2c (x := y8)).2.1⟩)
    refine q_goi V (q_runVs (As := [.int a15]) (rest := []) (d := 4) (mc := 0) (ms := 0) (i := 7) C0 V rfl LV_Dir_63 (T_jStr_indexOf_II_7 l D g q ws  a15 hI   _) rfl rfl rfl hl.1 rfl (Nat.le_of_ble_eq_true rfl) ⟨by decide, by decide⟩ ⟨Nat.le_of_ble_eq_true rfl, Nat.le_of_ble_eq_true rfl⟩ d_6_9_13) (fun a20 u18 H locs hp19 V => ?_)
    obtain ⟨rfl, b21, b22⟩ := hp19
    replace b21 : q_F (0 ≤ a20.toInt + 1) := b21
    replace b22 : q_F (a20.toInt ≤ 1) := b22
    refine lv_if_lt (tgt := 23) hx hb d_6_9_16 (by decide) (fun c24 => ?_) (fun c24 => ?_)
    ·
      have b25 : q_F (a20.toInt < 0) := (q_ltI c24)
      refine lv_iconst (v := 0) hx hb d_6_9_23 (by decide) ?_
      exact q_retz C0 V (by decide) (⟨rfl, (show 0 ≤ (0 : Int32).toInt from (by have z0 : (0 : Int32).toInt = 0 := rfl; omega)), (show (0 : Int32).toInt ≤ 1 from (by have z0 : (0 : Int32).toInt = 0 := rfl; omega))⟩) d_6_9_24
    ·
      have b26 : q_F (0 ≤ a20.toInt) := (q_nltI c24)
      refine lv_iconst (v := 1) hx hb d_6_9_19 (by decide) ?_
      refine lv_goto (tgt := 24) hx hb d_6_9_20 (by decide) ?_
      exact q_retz C0 V (by decide) (⟨rfl, (show 0 ≤ (1 : Int32).toInt from (by have z0 : (1 : Int32).toInt = 1 := rfl; omega)), (show (1 : Int32).toInt ≤ 1 from (by have z0 : (1 : Int32).toInt = 1 := rfl; omega))⟩) d_6_9_24
set_option maxRecDepth 100000 in
set_option maxHeartbeats 4000000 in
theorem T_Dir_isOneOf_8 (l : Launch) (D : va_G) (g : Nat → ClassId) (q : Nat → Nat) (ws : va_W) (hI : q_I (nsh g q) q ws) : q_mI l y_Dir_isOneOf prog_6_method_9_code 2 (.boolean) 5 0 0 D g [.ref (q 47), .ref (g (8 + 2 * 8))] ws (fun r u => ws = u ∧ (0 ≤ r.toInt) ∧ (r.toInt ≤ 1)) := by
  intro sz
  refine q_into (by decide) (Nat.le_of_ble_eq_true rfl) ?_
  intro p e s m below meth c ls hsz C0 V hl
  have hx := C0.1
  have hb := C0.2.1
  have hl : lv_has ls 2 [(0, .ref (q 47)), (1, .ref (g (8 + 2 * 8)))] := hl
  refine lv_aload_n hx hb d_6_9_0 rfl (lv_at hl 0 rfl) ?_
  obtain ⟨y2, y3, y4, y6, y8, y9, y10, hO1, b5, b7, b11⟩ := n_o47 hI
  replace b5 : q_F (-1 ≤ y4.toInt ∧ y4.toInt ≤ 9999) := b5
  replace b7 : q_F (-1 ≤ y6.toInt ∧ y6.toInt ≤ 9999) := b7
  replace b11 : q_F (0 ≤ y10.toInt ∧ y10.toInt ≤ 1) := b11
  refine q_get (ci := 10) (j := 4) (v := .int y8) C0 V i_Dir rfl rfl hO1 (by decide) w_361 rfl d_6_9_1 ?_
  refine lv_if_lt (tgt := 23) hx hb d_6_9_4 (by decide) (fun c12 => ?_) (fun c12 => ?_)
  ·
    have b13 : q_F (y8.toInt < 0) := (q_ltI c12)
    refine lv_iconst (v := 0) hx hb d_6_9_23 (by decide) ?_
    exact q_retz C0 V (by decide) (⟨rfl, (show 0 ≤ (0 : Int32).toInt from (by have z0 : (0 : Int32).toInt = 0 := rfl; omega)), (show (0 : Int32).toInt ≤ 1 from (by have z0 : (0 : Int32).toInt = 0 := rfl; omega))⟩) d_6_9_24
  ·
    have b14 : q_F (0 ≤ y8.toInt) := (q_nltI c12)
    refine lv_aload_n hx hb d_6_9_7 rfl (lv_at hl 1 rfl) ?_
    refine lv_aload_n hx hb d_6_9_8 rfl (lv_at hl 0 rfl) ?_
    refine q_get (ci := 10) (j := 4) (v := .int y8) C0 V i_Dir rfl rfl hO1 (by decide) w_361 rfl d_6_9_9 ?_
    refine lv_i2c hx hb d_6_9_12 rfl ?_
    obtain ⟨a15, e16⟩ := q_nm ((y8.toUInt32 % 65536).toInt32 : Int32)
    refine q_ti (v := a15) e16 ?_
    have b17 : q_F (0 ≤ a15.toInt ∧ a15.toInt ≤ 65535) := (by rw [← e16]; show 0 ≤ ((y8.toUInt32 % 65536).toInt32 : Int32).toInt ∧ ((y8.toUInt32 % 65536).toInt32 : Int32).toInt ≤ 65535; exact ⟨(n_i2c (x := y8)).1, (n_i2c (x := y8)).2.1⟩)
    refine q_goi V (q_runVs (As := [.int a15]) (rest := []) (d := 4) (mc := 0) (ms := 0) (i := 8) C0 V rfl LV_Dir_63 (T_jStr_indexOf_II_8 l D g q ws  a15 hI   _) rfl rfl rfl hl.1 rfl (Nat.le_of_ble_eq_true rfl) ⟨by decide, by decide⟩ ⟨Nat.le_of_ble_eq_true rfl, Nat.le_of_ble_eq_true rfl⟩ d_6_9_13) (fun a20 u18 H locs hp19 V => ?_)
    obtain ⟨rfl, b21, b22⟩ := hp19
    replace b21 : q_F (0 ≤ a20.toInt + 1) := b21
    replace b22 : q_F (a20.toInt ≤ 3) := b22
    refine lv_if_lt (tgt := 23) hx hb d_6_9_16 (by decide) (fun c24 => ?_) (fun c24 => ?_)
    ·
      have b25 : q_F (a20.toInt < 0) := (q_ltI c24)
      refine lv_iconst (v := 0) hx hb d_6_9_23 (by decide) ?_
      exact q_retz C0 V (by decide) (⟨rfl, (show 0 ≤ (0 : Int32).toInt from (by have z0 : (0 : Int32).toInt = 0 := rfl; omega)), (show (0 : Int32).toInt ≤ 1 from (by have z0 : (0 : Int32).toInt = 0 := rfl; omega))⟩) d_6_9_24
    ·
      have b26 : q_F (0 ≤ a20.toInt) := (q_nltI c24)
      refine lv_iconst (v := 1) hx hb d_6_9_19 (by decide) ?_
      refine lv_goto (tgt := 24) hx hb d_6_9_20 (by decide) ?_
      exact q_retz C0 V (by decide) (⟨rfl, (show 0 ≤ (1 : Int32).toInt from (by have z0 : (1 : Int32).toInt = 1 := rfl; omega)), (show (1 : Int32).toInt ≤ 1 from (by have z0 : (1 : Int32).toInt = 1 := rfl; omega))⟩) d_6_9_24
set_option maxRecDepth 100000 in
set_option maxHeartbeats 4000000 in
theorem T_Dir_isOneOf_9 (l : Launch) (D : va_G) (g : Nat → ClassId) (q : Nat → Nat) (ws : va_W) (hI : q_I (nsh g q) q ws) : q_mI l y_Dir_isOneOf prog_6_method_9_code 2 (.boolean) 5 0 0 D g [.ref (q 47), .ref (g (8 + 2 * 9))] ws (fun r u => ws = u ∧ (0 ≤ r.toInt) ∧ (r.toInt ≤ 1)) := by
  intro sz
  refine q_into (by decide) (Nat.le_of_ble_eq_true rfl) ?_
  intro p e s m below meth c ls hsz C0 V hl
  have hx := C0.1
  have hb := C0.2.1
  have hl : lv_has ls 2 [(0, .ref (q 47)), (1, .ref (g (8 + 2 * 9)))] := hl
  refine lv_aload_n hx hb d_6_9_0 rfl (lv_at hl 0 rfl) ?_
  obtain ⟨y2, y3, y4, y6, y8, y9, y10, hO1, b5, b7, b11⟩ := n_o47 hI
  replace b5 : q_F (-1 ≤ y4.toInt ∧ y4.toInt ≤ 9999) := b5
  replace b7 : q_F (-1 ≤ y6.toInt ∧ y6.toInt ≤ 9999) := b7
  replace b11 : q_F (0 ≤ y10.toInt ∧ y10.toInt ≤ 1) := b11
  refine q_get (ci := 10) (j := 4) (v := .int y8) C0 V i_Dir rfl rfl hO1 (by decide) w_361 rfl d_6_9_1 ?_
  refine lv_if_lt (tgt := 23) hx hb d_6_9_4 (by decide) (fun c12 => ?_) (fun c12 => ?_)
  ·
    have b13 : q_F (y8.toInt < 0) := (q_ltI c12)
    refine lv_iconst (v := 0) hx hb d_6_9_23 (by decide) ?_
    exact q_retz C0 V (by decide) (⟨rfl, (show 0 ≤ (0 : Int32).toInt from (by have z0 : (0 : Int32).toInt = 0 := rfl; omega)), (show (0 : Int32).toInt ≤ 1 from (by have z0 : (0 : Int32).toInt = 0 := rfl; omega))⟩) d_6_9_24
  ·
    have b14 : q_F (0 ≤ y8.toInt) := (q_nltI c12)
    refine lv_aload_n hx hb d_6_9_7 rfl (lv_at hl 1 rfl) ?_
    refine lv_aload_n hx hb d_6_9_8 rfl (lv_at hl 0 rfl) ?_
    refine q_get (ci := 10) (j := 4) (v := .int y8) C0 V i_Dir rfl rfl hO1 (by decide) w_361 rfl d_6_9_9 ?_
    refine lv_i2c hx hb d_6_9_12 rfl ?_
    obtain ⟨a15, e16⟩ := q_nm ((y8.toUInt32 % 65536).toInt32 : Int32)
    refine q_ti (v := a15) e16 ?_
    have b17 : q_F (0 ≤ a15.toInt ∧ a15.toInt ≤ 65535) := (by rw [← e16]; show 0 ≤ ((y8.toUInt32 % 65536).toInt32 : Int32).toInt ∧ ((y8.toUInt32 % 65536).toInt32 : Int32).toInt ≤ 65535; exact ⟨(n_i2c (x := y8)).1, (n_i2c (x := y8)).2.1⟩)
    refine q_goi V (q_runVs (As := [.int a15]) (rest := []) (d := 4) (mc := 0) (ms := 0) (i := 9) C0 V rfl LV_Dir_63 (T_jStr_indexOf_II_9 l D g q ws  a15 hI   _) rfl rfl rfl hl.1 rfl (Nat.le_of_ble_eq_true rfl) ⟨by decide, by decide⟩ ⟨Nat.le_of_ble_eq_true rfl, Nat.le_of_ble_eq_true rfl⟩ d_6_9_13) (fun a20 u18 H locs hp19 V => ?_)
    obtain ⟨rfl, b21, b22⟩ := hp19
    replace b21 : q_F (0 ≤ a20.toInt + 1) := b21
    replace b22 : q_F (a20.toInt ≤ 1) := b22
    refine lv_if_lt (tgt := 23) hx hb d_6_9_16 (by decide) (fun c24 => ?_) (fun c24 => ?_)
    ·
      have b25 : q_F (a20.toInt < 0) := (q_ltI c24)
      refine lv_iconst (v := 0) hx hb d_6_9_23 (by decide) ?_
      exact q_retz C0 V (by decide) (⟨rfl, (show 0 ≤ (0 : Int32).toInt from (by have z0 : (0 : Int32).toInt = 0 := rfl; omega)), (show (0 : Int32).toInt ≤ 1 from (by have z0 : (0 : Int32).toInt = 0 := rfl; omega))⟩) d_6_9_24
    ·
      have b26 : q_F (0 ≤ a20.toInt) := (q_nltI c24)
      refine lv_iconst (v := 1) hx hb d_6_9_19 (by decide) ?_
      refine lv_goto (tgt := 24) hx hb d_6_9_20 (by decide) ?_
      exact q_retz C0 V (by decide) (⟨rfl, (show 0 ≤ (1 : Int32).toInt from (by have z0 : (1 : Int32).toInt = 1 := rfl; omega)), (show (1 : Int32).toInt ≤ 1 from (by have z0 : (1 : Int32).toInt = 1 := rfl; omega))⟩) d_6_9_24
set_option maxRecDepth 100000 in
set_option maxHeartbeats 4000000 in
theorem T_Dir_isOneOf_10 (l : Launch) (D : va_G) (g : Nat → ClassId) (q : Nat → Nat) (ws : va_W) (hI : q_I (nsh g q) q ws) : q_mI l y_Dir_isOneOf prog_6_method_9_code 2 (.boolean) 5 0 0 D g [.ref (q 47), .ref (g (8 + 2 * 10))] ws (fun r u => ws = u ∧ (0 ≤ r.toInt) ∧ (r.toInt ≤ 1)) := by
  intro sz
  refine q_into (by decide) (Nat.le_of_ble_eq_true rfl) ?_
  intro p e s m below meth c ls hsz C0 V hl
  have hx := C0.1
  have hb := C0.2.1
  have hl : lv_has ls 2 [(0, .ref (q 47)), (1, .ref (g (8 + 2 * 10)))] := hl
  refine lv_aload_n hx hb d_6_9_0 rfl (lv_at hl 0 rfl) ?_
  obtain ⟨y2, y3, y4, y6, y8, y9, y10, hO1, b5, b7, b11⟩ := n_o47 hI
  replace b5 : q_F (-1 ≤ y4.toInt ∧ y4.toInt ≤ 9999) := b5
  replace b7 : q_F (-1 ≤ y6.toInt ∧ y6.toInt ≤ 9999) := b7
  replace b11 : q_F (0 ≤ y10.toInt ∧ y10.toInt ≤ 1) := b11
  refine q_get (ci := 10) (j := 4) (v := .int y8) C0 V i_Dir rfl rfl hO1 (by decide) w_361 rfl d_6_9_1 ?_
  refine lv_if_lt (tgt := 23) hx hb d_6_9_4 (by decide) (fun c12 => ?_) (fun c12 => ?_)
  ·
    have b13 : q_F (y8.toInt < 0) := (q_ltI c12)
    refine lv_iconst (v := 0) hx hb d_6_9_23 (by decide) ?_
    exact q_retz C0 V (by decide) (⟨rfl, (show 0 ≤ (0 : Int32).toInt from (by have z0 : (0 : Int32).toInt = 0 := rfl; omega)), (show (0 : Int32).toInt ≤ 1 from (by have z0 : (0 : Int32).toInt = 0 := rfl; omega))⟩) d_6_9_24
  ·
    have b14 : q_F (0 ≤ y8.toInt) := (q_nltI c12)
    refine lv_aload_n hx hb d_6_9_7 rfl (lv_at hl 1 rfl) ?_
    refine lv_aload_n hx hb d_6_9_8 rfl (lv_at hl 0 rfl) ?_
    refine q_get (ci := 10) (j := 4) (v := .int y8) C0 V i_Dir rfl rfl hO1 (by decide) w_361 rfl d_6_9_9 ?_
    refine lv_i2c hx hb d_6_9_12 rfl ?_
    obtain ⟨a15, e16⟩ := q_nm ((y8.toUInt32 % 65536).toInt32 : Int32)
    refine q_ti (v := a15) e16 ?_
    have b17 : q_F (0 ≤ a15.toInt ∧ a15.toInt ≤ 65535) := (by rw [← e16]; show 0 ≤ ((y8.toUInt32 % 65536).toInt32 : Int32).toInt ∧ ((y8.toUInt32 % 65536).toInt32 : Int32).toInt ≤ 65535; exact ⟨(n_i2c (x := y8)).1, (n_i2c (x := y8)).2.1⟩)
    refine q_goi V (q_runVs (As := [.int a15]) (rest := []) (d := 4) (mc := 0) (ms := 0) (i := 10) C0 V rfl LV_Dir_63 (T_jStr_indexOf_II_10 l D g q ws  a15 hI   _) rfl rfl rfl hl.1 rfl (Nat.le_of_ble_eq_true rfl) ⟨by decide, by decide⟩ ⟨Nat.le_of_ble_eq_true rfl, Nat.le_of_ble_eq_true rfl⟩ d_6_9_13) (fun a20 u18 H locs hp19 V => ?_)
    obtain ⟨rfl, b21, b22⟩ := hp19
    replace b21 : q_F (0 ≤ a20.toInt + 1) := b21
    replace b22 : q_F (a20.toInt ≤ 3) := b22
    refine lv_if_lt (tgt := 23) hx hb d_6_9_16 (by decide) (fun c24 => ?_) (fun c24 => ?_)
    ·
      have b25 : q_F (a20.toInt < 0) := (q_ltI c24)
      refine lv_iconst (v := 0) hx hb d_6_9_23 (by decide) ?_
      exact q_retz C0 V (by decide) (⟨rfl, (show 0 ≤ (0 : Int32).toInt from (by have z0 : (0 : Int32).toInt = 0 := rfl; omega)), (show (0 : Int32).toInt ≤ 1 from (by have z0 : (0 : Int32).toInt = 0 := rfl; omega))⟩) d_6_9_24
    ·
      have b26 : q_F (0 ≤ a20.toInt) := (q_nltI c24)
      refine lv_iconst (v := 1) hx hb d_6_9_19 (by decide) ?_
      refine lv_goto (tgt := 24) hx hb d_6_9_20 (by decide) ?_
      exact q_retz C0 V (by decide) (⟨rfl, (show 0 ≤ (1 : Int32).toInt from (by have z0 : (1 : Int32).toInt = 1 := rfl; omega)), (show (1 : Int32).toInt ≤ 1 from (by have z0 : (1 : Int32).toInt = 1 := rfl; omega))⟩) d_6_9_24
set_option maxRecDepth 100000 in
set_option maxHeartbeats 4000000 in
theorem T_Dir_isOneOf_11 (l : Launch) (D : va_G) (g : Nat → ClassId) (q : Nat → Nat) (ws : va_W) (hI : q_I (nsh g q) q ws) : q_mI l y_Dir_isOneOf prog_6_method_9_code 2 (.boolean) 5 0 0 D g [.ref (q 47), .ref (g (8 + 2 * 11))] ws (fun r u => ws = u ∧ (0 ≤ r.toInt) ∧ (r.toInt ≤ 1)) := by
  intro sz
  refine q_into (by decide) (Nat.le_of_ble_eq_true rfl) ?_
  intro p e s m below meth c ls hsz C0 V hl
  have hx := C0.1
  have hb := C0.2.1
  have hl : lv_has ls 2 [(0, .ref (q 47)), (1, .ref (g (8 + 2 * 11)))] := hl
  refine lv_aload_n hx hb d_6_9_0 rfl (lv_at hl 0 rfl) ?_
  obtain ⟨y2, y3, y4, y6, y8, y9, y10, hO1, b5, b7, b11⟩ := n_o47 hI
  replace b5 : q_F (-1 ≤ y4.toInt ∧ y4.toInt ≤ 9999) := b5
  replace b7 : q_F (-1 ≤ y6.toInt ∧ y6.toInt ≤ 9999) := b7
  replace b11 : q_F (0 ≤ y10.toInt ∧ y10.toInt ≤ 1) := b11
  refine q_get (ci := 10) (j := 4) (v := .int y8) C0 V i_Dir rfl rfl hO1 (by decide) w_361 rfl d_6_9_1 ?_
  refine lv_if_lt (tgt := 23) hx hb d_6_9_4 (by decide) (fun c12 => ?_) (fun c12 => ?_)
  ·
    have b13 : q_F (y8.toInt < 0) := (q_ltI c12)
    refine lv_iconst (v := 0) hx hb d_6_9_23 (by decide) ?_
    exact q_retz C0 V (by decide) (⟨rfl, (show 0 ≤ (0 : Int32).toInt from (by have z0 : (0 : Int32).toInt = 0 := rfl; omega)), (show (0 : Int32).toInt ≤ 1 from (by have z0 : (0 : Int32).toInt = 0 := rfl; omega))⟩) d_6_9_24
  ·
    have b14 : q_F (0 ≤ y8.toInt) := (q_nltI c12)
    refine lv_aload_n hx hb d_6_9_7 rfl (lv_at hl 1 rfl) ?_
    refine lv_aload_n hx hb d_6_9_8 rfl (lv_at hl 0 rfl) ?_
    refine q_get (ci := 10) (j := 4) (v := .int y8) C0 V i_Dir rfl rfl hO1 (by decide) w_361 rfl d_6_9_9 ?_
    refine lv_i2c hx hb d_6_9_12 rfl ?_
    obtain ⟨a15, e16⟩ := q_nm ((y8.toUInt32 % 65536).toInt32 : Int32)
    refine q_ti (v := a15) e16 ?_
    have b17 : q_F (0 ≤ a15.toInt ∧ a15.toInt ≤ 65535) := (by rw [← e16]; show 0 ≤ ((y8.toUInt32 % 65536).toInt32 : Int32).toInt ∧ ((y8.toUInt32 % 65536).toInt32 : Int32).toInt ≤ 65535; exact ⟨(n_i2c (x := y8)).1, (n_i2c (x := y8)).2.1⟩)
    refine q_goi V (q_runVs (As := [.int a15]) (rest := []) (d := 4) (mc := 0) (ms := 0) (i := 11) C0 V rfl LV_Dir_63 (T_jStr_indexOf_II_11 l D g q ws  a15 hI   _) rfl rfl rfl hl.1 rfl (Nat.le_of_ble_eq_true rfl) ⟨by decide, by decide⟩ ⟨Nat.le_of_ble_eq_true rfl, Nat.le_of_ble_eq_true rfl⟩ d_6_9_13) (fun a20 u18 H locs hp19 V => ?_)
    obtain ⟨rfl, b21, b22⟩ := hp19
    replace b21 : q_F (0 ≤ a20.toInt + 1) := b21
    replace b22 : q_F (a20.toInt ≤ 1) := b22
    refine lv_if_lt (tgt := 23) hx hb d_6_9_16 (by decide) (fun c24 => ?_) (fun c24 => ?_)
    ·
      have b25 : q_F (a20.toInt < 0) := (q_ltI c24)
      refine lv_iconst (v := 0) hx hb d_6_9_23 (by decide) ?_
      exact q_retz C0 V (by decide) (⟨rfl, (show 0 ≤ (0 : Int32).toInt from (by have z0 : (0 : Int32).toInt = 0 := rfl; omega)), (show (0 : Int32).toInt ≤ 1 from (by have z0 : (0 : Int32).toInt = 0 := rfl; omega))⟩) d_6_9_24
    ·
      have b26 : q_F (0 ≤ a20.toInt) := (q_nltI c24)
      refine lv_iconst (v := 1) hx hb d_6_9_19 (by decide) ?_
      refine lv_goto (tgt := 24) hx hb d_6_9_20 (by decide) ?_
      exact q_retz C0 V (by decide) (⟨rfl, (show 0 ≤ (1 : Int32).toInt from (by have z0 : (1 : Int32).toInt = 1 := rfl; omega)), (show (1 : Int32).toInt ≤ 1 from (by have z0 : (1 : Int32).toInt = 1 := rfl; omega))⟩) d_6_9_24
set_option maxRecDepth 100000 in
set_option maxHeartbeats 4000000 in
theorem T_Dir_isOneOf_14 (l : Launch) (D : va_G) (g : Nat → ClassId) (q : Nat → Nat) (ws : va_W) (hI : q_I (nsh g q) q ws) : q_mI l y_Dir_isOneOf prog_6_method_9_code 2 (.boolean) 5 0 0 D g [.ref (q 47), .ref (g (8 + 2 * 14))] ws (fun r u => ws = u ∧ (0 ≤ r.toInt) ∧ (r.toInt ≤ 1)) := by
  intro sz
  refine q_into (by decide) (Nat.le_of_ble_eq_true rfl) ?_
  intro p e s m below meth c ls hsz C0 V hl
  have hx := C0.1
  have hb := C0.2.1
  have hl : lv_has ls 2 [(0, .ref (q 47)), (1, .ref (g (8 + 2 * 14)))] := hl
  refine lv_aload_n hx hb d_6_9_0 rfl (lv_at hl 0 rfl) ?_
  obtain ⟨y2, y3, y4, y6, y8, y9, y10, hO1, b5, b7, b11⟩ := n_o47 hI
  replace b5 : q_F (-1 ≤ y4.toInt ∧ y4.toInt ≤ 9999) := b5
  replace b7 : q_F (-1 ≤ y6.toInt ∧ y6.toInt ≤ 9999) := b7
  replace b11 : q_F (0 ≤ y10.toInt ∧ y10.toInt ≤ 1) := b11
  refine q_get (ci := 10) (j := 4) (v := .int y8) C0 V i_Dir rfl rfl hO1 (by decide) w_361 rfl d_6_9_1 ?_
  refine lv_if_lt (tgt := 23) hx hb d_6_9_4 (by decide) (fun c12 => ?_) (fun c12 => ?_)
  ·
    have b13 : q_F (y8.toInt < 0) := (q_ltI c12)
    refine lv_iconst (v := 0) hx hb d_6_9_23 (by decide) ?_
    exact q_retz C0 V (by decide) (⟨rfl, (show 0 ≤ (0 : Int32).toInt from (by have z0 : (0 : Int32).toInt = 0 := rfl; omega)), (show (0 : Int32).toInt ≤ 1 from (by have z0 : (0 : Int32).toInt = 0 := rfl; omega))⟩) d_6_9_24
  ·
    have b14 : q_F (0 ≤ y8.toInt) := (q_nltI c12)
    refine lv_aload_n hx hb d_6_9_7 rfl (lv_at hl 1 rfl) ?_
    refine lv_aload_n hx hb d_6_9_8 rfl (lv_at hl 0 rfl) ?_
    refine q_get (ci := 10) (j := 4) (v := .int y8) C0 V i_Dir rfl rfl hO1 (by decide) w_361 rfl d_6_9_9 ?_
    refine lv_i2c hx hb d_6_9_12 rfl ?_
    obtain ⟨a15, e16⟩ := q_nm ((y8.toUInt32 % 65536).toInt32 : Int32)
    refine q_ti (v := a15) e16 ?_
    have b17 : q_F (0 ≤ a15.toInt ∧ a15.toInt ≤ 65535) := (by rw [← e16]; show 0 ≤ ((y8.toUInt32 % 65536).toInt32 : Int32).toInt ∧ ((y8.toUInt32 % 65536).toInt32 : Int32).toInt ≤ 65535; exact ⟨(n_i2c (x := y8)).1, (n_i2c (x := y8)).2.1⟩)
    refine q_goi V (q_runVs (As := [.int a15]) (rest := []) (d := 4) (mc := 0) (ms := 0) (i := 14) C0 V rfl LV_Dir_63 (T_jStr_indexOf_II_14 l D g q ws  a15 hI   _) rfl rfl rfl hl.1 rfl (Nat.le_of_ble_eq_true rfl) ⟨by decide, by decide⟩ ⟨Nat.le_of_ble_eq_true rfl, Nat.le_of_ble_eq_true rfl⟩ d_6_9_13) (fun a20 u18 H locs hp19 V => ?_)
    obtain ⟨rfl, b21, b22⟩ := hp19
    replace b21 : q_F (0 ≤ a20.toInt + 1) := b21
    replace b22 : q_F (a20.toInt ≤ 1) := b22
    refine lv_if_lt (tgt := 23) hx hb d_6_9_16 (by decide) (fun c24 => ?_) (fun c24 => ?_)
    ·
      have b25 : q_F (a20.toInt < 0) := (q_ltI c24)
      refine lv_iconst (v := 0) hx hb d_6_9_23 (by decide) ?_
      exact q_retz C0 V (by decide) (⟨rfl, (show 0 ≤ (0 : Int32).toInt from (by have z0 : (0 : Int32).toInt = 0 := rfl; omega)), (show (0 : Int32).toInt ≤ 1 from (by have z0 : (0 : Int32).toInt = 0 := rfl; omega))⟩) d_6_9_24
    ·
      have b26 : q_F (0 ≤ a20.toInt) := (q_nltI c24)
      refine lv_iconst (v := 1) hx hb d_6_9_19 (by decide) ?_
      refine lv_goto (tgt := 24) hx hb d_6_9_20 (by decide) ?_
      exact q_retz C0 V (by decide) (⟨rfl, (show 0 ≤ (1 : Int32).toInt from (by have z0 : (1 : Int32).toInt = 1 := rfl; omega)), (show (1 : Int32).toInt ≤ 1 from (by have z0 : (1 : Int32).toInt = 1 := rfl; omega))⟩) d_6_9_24
set_option maxRecDepth 100000 in
set_option maxHeartbeats 4000000 in
theorem T_Dir_isOneOf_16 (l : Launch) (D : va_G) (g : Nat → ClassId) (q : Nat → Nat) (ws : va_W) (hI : q_I (nsh g q) q ws) : q_mI l y_Dir_isOneOf prog_6_method_9_code 2 (.boolean) 5 0 0 D g [.ref (q 47), .ref (g (8 + 2 * 16))] ws (fun r u => ws = u ∧ (0 ≤ r.toInt) ∧ (r.toInt ≤ 1)) := by
  intro sz
  refine q_into (by decide) (Nat.le_of_ble_eq_true rfl) ?_
  intro p e s m below meth c ls hsz C0 V hl
  have hx := C0.1
  have hb := C0.2.1
  have hl : lv_has ls 2 [(0, .ref (q 47)), (1, .ref (g (8 + 2 * 16)))] := hl
  refine lv_aload_n hx hb d_6_9_0 rfl (lv_at hl 0 rfl) ?_
  obtain ⟨y2, y3, y4, y6, y8, y9, y10, hO1, b5, b7, b11⟩ := n_o47 hI
  replace b5 : q_F (-1 ≤ y4.toInt ∧ y4.toInt ≤ 9999) := b5
  replace b7 : q_F (-1 ≤ y6.toInt ∧ y6.toInt ≤ 9999) := b7
  replace b11 : q_F (0 ≤ y10.toInt ∧ y10.toInt ≤ 1) := b11
  refine q_get (ci := 10) (j := 4) (v := .int y8) C0 V i_Dir rfl rfl hO1 (by decide) w_361 rfl d_6_9_1 ?_
  refine lv_if_lt (tgt := 23) hx hb d_6_9_4 (by decide) (fun c12 => ?_) (fun c12 => ?_)
  ·
    have b13 : q_F (y8.toInt < 0) := (q_ltI c12)
    refine lv_iconst (v := 0) hx hb d_6_9_23 (by decide) ?_
    exact q_retz C0 V (by decide) (⟨rfl, (show 0 ≤ (0 : Int32).toInt from (by have z0 : (0 : Int32).toInt = 0 := rfl; omega)), (show (0 : Int32).toInt ≤ 1 from (by have z0 : (0 : Int32).toInt = 0 := rfl; omega))⟩) d_6_9_24
  ·
    have b14 : q_F (0 ≤ y8.toInt) := (q_nltI c12)
    refine lv_aload_n hx hb d_6_9_7 rfl (lv_at hl 1 rfl) ?_
    refine lv_aload_n hx hb d_6_9_8 rfl (lv_at hl 0 rfl) ?_
    refine q_get (ci := 10) (j := 4) (v := .int y8) C0 V i_Dir rfl rfl hO1 (by decide) w_361 rfl d_6_9_9 ?_
    refine lv_i2c hx hb d_6_9_12 rfl ?_
    obtain ⟨a15, e16⟩ := q_nm ((y8.toUInt32 % 65536).toInt32 : Int32)
    refine q_ti (v := a15) e16 ?_
    have b17 : q_F (0 ≤ a15.toInt ∧ a15.toInt ≤ 65535) := (by rw [← e16]; show 0 ≤ ((y8.toUInt32 % 65536).toInt32 : Int32).toInt ∧ ((y8.toUInt32 % 65536).toInt32 : Int32).toInt ≤ 65535; exact ⟨(n_i2c (x := y8)).1, (n_i2c (x := y8)).2.1⟩)
    refine q_goi V (q_runVs (As := [.int a15]) (rest := []) (d := 4) (mc := 0) (ms := 0) (i := 16) C0 V rfl LV_Dir_63 (T_jStr_indexOf_II_16 l D g q ws  a15 hI   _) rfl rfl rfl hl.1 rfl (Nat.le_of_ble_eq_true rfl) ⟨by decide, by decide⟩ ⟨Nat.le_of_ble_eq_true rfl, Nat.le_of_ble_eq_true rfl⟩ d_6_9_13) (fun a20 u18 H locs hp19 V => ?_)
    obtain ⟨rfl, b21, b22⟩ := hp19
    replace b21 : q_F (0 ≤ a20.toInt + 1) := b21
    replace b22 : q_F (a20.toInt ≤ 2) := b22
    refine lv_if_lt (tgt := 23) hx hb d_6_9_16 (by decide) (fun c24 => ?_) (fun c24 => ?_)
    ·
      have b25 : q_F (a20.toInt < 0) := (q_ltI c24)
      refine lv_iconst (v := 0) hx hb d_6_9_23 (by decide) ?_
      exact q_retz C0 V (by decide) (⟨rfl, (show 0 ≤ (0 : Int32).toInt from (by have z0 : (0 : Int32).toInt = 0 := rfl; omega)), (show (0 : Int32).toInt ≤ 1 from (by have z0 : (0 : Int32).toInt = 0 := rfl; omega))⟩) d_6_9_24
    ·
      have b26 : q_F (0 ≤ a20.toInt) := (q_nltI c24)
      refine lv_iconst (v := 1) hx hb d_6_9_19 (by decide) ?_
      refine lv_goto (tgt := 24) hx hb d_6_9_20 (by decide) ?_
      exact q_retz C0 V (by decide) (⟨rfl, (show 0 ≤ (1 : Int32).toInt from (by have z0 : (1 : Int32).toInt = 1 := rfl; omega)), (show (1 : Int32).toInt ≤ 1 from (by have z0 : (1 : Int32).toInt = 1 := rfl; omega))⟩) d_6_9_24
theorem d_6_3_0 : decode prog_6_method_3_code 0 = .ok (.aload_n 0, 1) := by decide +kernel
theorem d_6_3_1 : decode prog_6_method_3_code 1 = .ok (.iconst 0, 1) := by decide +kernel
theorem d_6_3_2 : decode prog_6_method_3_code 2 = .ok (.putfield 19, 3) := by decide +kernel
theorem d_6_3_5 : decode prog_6_method_3_code 5 = .ok (.aload_n 0, 1) := by decide +kernel
theorem d_6_3_6 : decode prog_6_method_3_code 6 = .ok (.iconst (-1), 1) := by decide +kernel
theorem d_6_3_7 : decode prog_6_method_3_code 7 = .ok (.putfield 40, 3) := by decide +kernel
set_option maxRecDepth 100000 in
theorem w_357 : (Cond.fieldLink "NumberHouse$Directive" (40 : Nat) "NumberHouse$Directive" "width" "I") ∈ q_tbl := q_of2 117 rfl (by decide +kernel)
theorem d_6_3_10 : decode prog_6_method_3_code 10 = .ok (.aload_n 0, 1) := by decide +kernel
theorem d_6_3_11 : decode prog_6_method_3_code 11 = .ok (.iconst (-1), 1) := by decide +kernel
theorem d_6_3_12 : decode prog_6_method_3_code 12 = .ok (.putfield 55, 3) := by decide +kernel
theorem d_6_3_15 : decode prog_6_method_3_code 15 = .ok (.return_, 1) := by decide +kernel
def y_Dir_setPlain : MethodName := ⟨"NumberHouse$Directive", "setPlain", "()V"⟩
set_option maxRecDepth 100000 in
set_option maxHeartbeats 4000000 in
theorem T_Dir_setPlain (l : Launch) (D : va_G) (g : Nat → ClassId) (q : Nat → Nat) (ws : va_W) (hI : q_I (nsh g q) q ws) (t0_0 : Int32) (t0_1 : Int32) (t0_2 : Int32) (t0_3 : Int32) (t0_4 : Int32) (t0_5 : Int32) (t0_6 : Int32) (hT0 : ws[47]? = (some (q 47, .inr (10, [.int t0_0, .int t0_1, .int t0_2, .int t0_3, .int t0_4, .int t0_5, .ref (q 1), .int t0_6])) : Option (Nat × va_E))) (t1_0 : Int32) (hT1 : ws[1]? = (some (q 1, .inr (1, [.ref (q 2), .int 4100, .int t1_0])) : Option (Nat × va_E))) : q_mV l y_Dir_setPlain prog_6_method_3_code 1 1 0 0 D g [.ref (q 47)] ws (fun u => q_I (nsh g q) q u ∧ q_un ws u [47] ∧ ∃ (u0_0 : Int32) (u0_1 : Int32) (u0_2 : Int32) (u0_3 : Int32) (u0_4 : Int32) (u0_5 : Int32) (u0_6 : Int32), u[47]? = (some (q 47, .inr (10, [.int u0_0, .int u0_1, .int u0_2, .int u0_3, .int u0_4, .int u0_5, .ref (q 1), .int u0_6])) : Option (Nat × va_E)) ∧ (0 ≤ u0_4.toInt + 1) ∧ (u0_4.toInt + 1 ≤ 0) ∧ (t0_0.toInt ≤ u0_0.toInt) ∧ (u0_0.toInt ≤ t0_0.toInt) ∧ (t0_3.toInt ≤ u0_3.toInt) ∧ (u0_3.toInt ≤ t0_3.toInt) ∧ (t0_5.toInt ≤ u0_5.toInt) ∧ (u0_5.toInt ≤ t0_5.toInt) ∧ (t0_6.toInt ≤ u0_6.toInt) ∧ (u0_6.toInt ≤ t0_6.toInt) ∧ (u0_4.toInt + 1 ≤ u0_1.toInt) ∧ (u0_1.toInt ≤ u0_4.toInt + 1) ∧ (u0_4.toInt ≤ u0_2.toInt) ∧ (u0_2.toInt ≤ u0_4.toInt)) := by
  intro sz
  refine q_into (by decide) (Nat.le_of_ble_eq_true rfl) ?_
  intro p e s m below meth c ls hsz C0 V hl
  have hx := C0.1
  have hb := C0.2.1
  obtain ⟨yy0_0, yy0_1, yy0_2, yy0_3, yy0_4, yy0_5, yy0_6, hh0, btt0_2, btt0_3, btt0_6⟩ := n_o47 hI
  obtain ⟨rfl, rfl, rfl, rfl, rfl, rfl, rfl⟩ : t0_0 = yy0_0 ∧ t0_1 = yy0_1 ∧ t0_2 = yy0_2 ∧ t0_3 = yy0_3 ∧ t0_4 = yy0_4 ∧ t0_5 = yy0_5 ∧ t0_6 = yy0_6 := by have z := Option.some.inj (hT0.symm.trans hh0); simpa using z
  replace btt0_2 : q_F (-1 ≤ t0_2.toInt ∧ t0_2.toInt ≤ 9999) := btt0_2
  replace btt0_3 : q_F (-1 ≤ t0_3.toInt ∧ t0_3.toInt ≤ 9999) := btt0_3
  replace btt0_6 : q_F (0 ≤ t0_6.toInt ∧ t0_6.toInt ≤ 1) := btt0_6
  obtain ⟨yy1_0, hh1, btt1_0⟩ := n_shO hI (n_h1 g q)
  obtain ⟨rfl⟩ : t1_0 = yy1_0 := by have z := Option.some.inj (hT1.symm.trans hh1); simpa using z
  replace btt1_0 : q_F (0 ≤ t1_0.toInt ∧ t1_0.toInt ≤ 4100) := btt1_0
  have hF : q_un ws ws [47] := q_u0
  have hl : lv_has ls 1 [(0, .ref (q 47))] := hl
  refine lv_aload_n hx hb d_6_3_0 rfl (lv_at hl 0 rfl) ?_
  refine lv_iconst (v := 0) hx hb d_6_3_1 (by decide) ?_
  refine q_put (ci := 10) (j := 1) (v := .int 0) (ty := .int) C0 V i_Dir o_Dir n_Dir rfl rfl hT0 (by decide) w_356 rfl rfl rfl rfl (Nat.le_of_ble_eq_true rfl) d_6_3_2 (fun H locs w15 hu16 hT0 V => ?_)
  replace hT0 : w15[47]? = (some (q 47, .inr (10, [.int t0_0, .int 0, .int t0_2, .int t0_3, .int t0_4, .int t0_5, .ref (q 1), .int t0_6])) : Option (Nat × va_E)) := hT0
  replace hI := n_p47 hI hu16 hT0 ⟨(by have t1 : -1 ≤ t0_2.toInt ∧ t0_2.toInt ≤ 9999 := btt0_2; omega), (by have t1 : -1 ≤ t0_2.toInt ∧ t0_2.toInt ≤ 9999 := btt0_2; omega)⟩ ⟨(by have t1 : -1 ≤ t0_3.toInt ∧ t0_3.toInt ≤ 9999 := btt0_3; omega), (by have t1 : -1 ≤ t0_3.toInt ∧ t0_3.toInt ≤ 9999 := btt0_3; omega)⟩ ⟨(by have t1 : 0 ≤ t0_6.toInt ∧ t0_6.toInt ≤ 1 := btt0_6; omega), (by have t1 : 0 ≤ t0_6.toInt ∧ t0_6.toInt ≤ 1 := btt0_6; omega)⟩
  replace hT1 := (hu16 _ (by decide)).trans hT1
  replace hF := q_us hF hu16 (by simp)
  refine lv_aload_n hx hb d_6_3_5 rfl (lv_at hl 0 rfl) ?_
  refine lv_iconst (v := (-1)) hx hb d_6_3_6 (by decide) ?_
  refine q_put (ci := 10) (j := 2) (v := .int (-1)) (ty := .int) C0 V i_Dir o_Dir n_Dir rfl rfl hT0 (by decide) w_357 rfl rfl rfl rfl (Nat.le_of_ble_eq_true rfl) d_6_3_7 (fun H locs w17 hu18 hT0 V => ?_)
  replace hT0 : w17[47]? = (some (q 47, .inr (10, [.int t0_0, .int 0, .int (-1), .int t0_3, .int t0_4, .int t0_5, .ref (q 1), .int t0_6])) : Option (Nat × va_E)) := hT0
  replace hI := n_p47 hI hu18 hT0 ⟨(by have z9 : (-1 : Int32).toInt = -1 := rfl; omega), (by have z9 : (-1 : Int32).toInt = -1 := rfl; omega)⟩ ⟨(by have t1 : -1 ≤ t0_3.toInt ∧ t0_3.toInt ≤ 9999 := btt0_3; omega), (by have t1 : -1 ≤ t0_3.toInt ∧ t0_3.toInt ≤ 9999 := btt0_3; omega)⟩ ⟨(by have t1 : 0 ≤ t0_6.toInt ∧ t0_6.toInt ≤ 1 := btt0_6; omega), (by have t1 : 0 ≤ t0_6.toInt ∧ t0_6.toInt ≤ 1 := btt0_6; omega)⟩
  replace hT1 := (hu18 _ (by decide)).trans hT1
  replace hF := q_us hF hu18 (by simp)
  refine lv_aload_n hx hb d_6_3_10 rfl (lv_at hl 0 rfl) ?_
  refine lv_iconst (v := (-1)) hx hb d_6_3_11 (by decide) ?_
  refine q_put (ci := 10) (j := 4) (v := .int (-1)) (ty := .int) C0 V i_Dir o_Dir n_Dir rfl rfl hT0 (by decide) w_361 rfl rfl rfl rfl (Nat.le_of_ble_eq_true rfl) d_6_3_12 (fun H locs w19 hu20 hT0 V => ?_)
  replace hT0 : w19[47]? = (some (q 47, .inr (10, [.int t0_0, .int 0, .int (-1), .int t0_3, .int (-1), .int t0_5, .ref (q 1), .int t0_6])) : Option (Nat × va_E)) := hT0
  replace hI := n_p47 hI hu20 hT0 ⟨(by have z9 : (-1 : Int32).toInt = -1 := rfl; omega), (by have z9 : (-1 : Int32).toInt = -1 := rfl; omega)⟩ ⟨(by have t1 : -1 ≤ t0_3.toInt ∧ t0_3.toInt ≤ 9999 := btt0_3; omega), (by have t1 : -1 ≤ t0_3.toInt ∧ t0_3.toInt ≤ 9999 := btt0_3; omega)⟩ ⟨(by have t1 : 0 ≤ t0_6.toInt ∧ t0_6.toInt ≤ 1 := btt0_6; omega), (by have t1 : 0 ≤ t0_6.toInt ∧ t0_6.toInt ≤ 1 := btt0_6; omega)⟩
  replace hT1 := (hu20 _ (by decide)).trans hT1
  replace hF := q_us hF hu20 (by simp)
  exact q_retv C0 V (⟨hI, hF, t0_0, 0, (-1), t0_3, (-1), t0_5, t0_6, hT0, (show 0 ≤ (-1 : Int32).toInt + 1 from (by have z9 : (0 : Int32).toInt = 0 := rfl; have z10 : (-1 : Int32).toInt = -1 := rfl; have z12 : (-1 : Int32).toInt = -1 := rfl; omega)), (show (-1 : Int32).toInt + 1 ≤ 0 from (by have z9 : (0 : Int32).toInt = 0 := rfl; have z10 : (-1 : Int32).toInt = -1 := rfl; have z12 : (-1 : Int32).toInt = -1 := rfl; omega)), (show t0_0.toInt ≤ t0_0.toInt from (by have z9 : (0 : Int32).toInt = 0 := rfl; have z10 : (-1 : Int32).toInt = -1 := rfl; have z12 : (-1 : Int32).toInt = -1 := rfl; omega)), (show t0_0.toInt ≤ t0_0.toInt from (by have z9 : (0 : Int32).toInt = 0 := rfl; have z10 : (-1 : Int32).toInt = -1 := rfl; have z12 : (-1 : Int32).toInt = -1 := rfl; omega)), (show t0_3.toInt ≤ t0_3.toInt from (by have z9 : (0 : Int32).toInt = 0 := rfl; have z10 : (-1 : Int32).toInt = -1 := rfl; have z12 : (-1 : Int32).toInt = -1 := rfl; omega)), (show t0_3.toInt ≤ t0_3.toInt from (by have z9 : (0 : Int32).toInt = 0 := rfl; have z10 : (-1 : Int32).toInt = -1 := rfl; have z12 : (-1 : Int32).toInt = -1 := rfl; omega)), (show t0_5.toInt ≤ t0_5.toInt from (by have z9 : (0 : Int32).toInt = 0 := rfl; have z10 : (-1 : Int32).toInt = -1 := rfl; have z12 : (-1 : Int32).toInt = -1 := rfl; omega)), (show t0_5.toInt ≤ t0_5.toInt from (by have z9 : (0 : Int32).toInt = 0 := rfl; have z10 : (-1 : Int32).toInt = -1 := rfl; have z12 : (-1 : Int32).toInt = -1 := rfl; omega)), (show t0_6.toInt ≤ t0_6.toInt from (by have z9 : (0 : Int32).toInt = 0 := rfl; have z10 : (-1 : Int32).toInt = -1 := rfl; have z12 : (-1 : Int32).toInt = -1 := rfl; omega)), (show t0_6.toInt ≤ t0_6.toInt from (by have z9 : (0 : Int32).toInt = 0 := rfl; have z10 : (-1 : Int32).toInt = -1 := rfl; have z12 : (-1 : Int32).toInt = -1 := rfl; omega)), (show (-1 : Int32).toInt + 1 ≤ (0 : Int32).toInt from (by have z9 : (0 : Int32).toInt = 0 := rfl; have z10 : (-1 : Int32).toInt = -1 := rfl; have z12 : (-1 : Int32).toInt = -1 := rfl; omega)), (show (0 : Int32).toInt ≤ (-1 : Int32).toInt + 1 from (by have z9 : (0 : Int32).toInt = 0 := rfl; have z10 : (-1 : Int32).toInt = -1 := rfl; have z12 : (-1 : Int32).toInt = -1 := rfl; omega)), (show (-1 : Int32).toInt ≤ (-1 : Int32).toInt from (by have z9 : (0 : Int32).toInt = 0 := rfl; have z10 : (-1 : Int32).toInt = -1 := rfl; have z12 : (-1 : Int32).toInt = -1 := rfl; omega)), (show (-1 : Int32).toInt ≤ (-1 : Int32).toInt from (by have z9 : (0 : Int32).toInt = 0 := rfl; have z10 : (-1 : Int32).toInt = -1 := rfl; have z12 : (-1 : Int32).toInt = -1 := rfl; omega))⟩) d_6_3_15
theorem d_6_6_0 : decode prog_6_method_6_code 0 = .ok (.iconst 0, 1) := by decide +kernel
theorem d_6_6_1 : decode prog_6_method_6_code 1 = .ok (.istore_n 1, 1) := by decide +kernel
theorem d_6_6_2 : decode prog_6_method_6_code 2 = .ok (.aload_n 0, 1) := by decide +kernel
theorem d_6_6_3 : decode prog_6_method_6_code 3 = .ok (.aload_n 0, 1) := by decide +kernel
theorem d_6_6_4 : decode prog_6_method_6_code 4 = .ok (.getfield 15, 3) := by decide +kernel
set_option maxRecDepth 100000 in
theorem w_363 : (Cond.fieldLink "NumberHouse$Directive" (15 : Nat) "NumberHouse$Directive" "place" "I") ∈ q_tbl := q_of2 123 rfl (by decide +kernel)
theorem d_6_6_7 : decode prog_6_method_6_code 7 = .ok (.invokevirtual 32, 3) := by decide +kernel
set_option maxRecDepth 100000 in
theorem w_1746 : (Cond.code ({ cls := "NumberHouse$Directive", name := "figureAt", desc := "(I)I" } : MethodName) prog_6_method_7_code (3 : Nat) (some .int)) ∈ q_tbl := q_of8 66 rfl (by decide +kernel)
set_option maxRecDepth 100000 in
theorem w_1743 : (Cond.methodLink "NumberHouse$Directive" (32 : Nat) ({ cls := "NumberHouse$Directive", name := "figureAt", desc := "(I)I" } : MethodName)) ∈ q_tbl := q_of8 63 rfl (by decide +kernel)
set_option maxRecDepth 100000 in
theorem w_1745 : (Cond.instanceMethod ({ cls := "NumberHouse$Directive", name := "figureAt", desc := "(I)I" } : MethodName)) ∈ q_tbl := q_of8 65 rfl (by decide +kernel)
theorem ws_46 : Cond.selects "NumberHouse$Directive" (⟨"NumberHouse$Directive", "figureAt", "(I)I"⟩ : MethodName) (⟨"NumberHouse$Directive", "figureAt", "(I)I"⟩ : MethodName) ∈ q_tbl := q_ofs 46 (by decide +kernel) (by decide +kernel)
theorem LV_Dir_32 : q_LV "NumberHouse$Directive" 32 y_Dir_figureAt prog_6_method_7_code 3 (some .int) 1 := ⟨w_1746, w_13, w_1743, w_1745, ws_46, ⟨by decide, by decide, by decide +kernel⟩⟩
theorem d_6_6_10 : decode prog_6_method_6_code 10 = .ok (.ifCond .lt 50, 3) := by decide +kernel
theorem d_6_6_60 : decode prog_6_method_6_code 60 = .ok (.iload_n 1, 1) := by decide +kernel
theorem d_6_6_61 : decode prog_6_method_6_code 61 = .ok (.ireturn, 1) := by decide +kernel
theorem d_6_6_13 : decode prog_6_method_6_code 13 = .ok (.aload_n 0, 1) := by decide +kernel
theorem d_6_6_14 : decode prog_6_method_6_code 14 = .ok (.getfield 15, 3) := by decide +kernel
theorem d_6_6_17 : decode prog_6_method_6_code 17 = .ok (.aload_n 0, 1) := by decide +kernel
theorem d_6_6_18 : decode prog_6_method_6_code 18 = .ok (.getfield 9, 3) := by decide +kernel
theorem d_6_6_21 : decode prog_6_method_6_code 21 = .ok (.getfield 52, 3) := by decide +kernel
set_option maxRecDepth 100000 in
theorem w_57 : (Cond.fieldLink "NumberHouse$Directive" (52 : Nat) "NumberHouse$Sheet" "size" "I") ∈ q_tbl := q_of1 57 rfl (by decide +kernel)
theorem d_6_6_24 : decode prog_6_method_6_code 24 = .ok (.if_icmp .ge 36, 3) := by decide +kernel
theorem d_6_6_27 : decode prog_6_method_6_code 27 = .ok (.iload_n 1, 1) := by decide +kernel
theorem d_6_6_28 : decode prog_6_method_6_code 28 = .ok (.bipush 10, 2) := by decide +kernel
theorem d_6_6_30 : decode prog_6_method_6_code 30 = .ok (.imul, 1) := by decide +kernel
theorem d_6_6_31 : decode prog_6_method_6_code 31 = .ok (.aload_n 0, 1) := by decide +kernel
theorem d_6_6_32 : decode prog_6_method_6_code 32 = .ok (.aload_n 0, 1) := by decide +kernel
theorem d_6_6_33 : decode prog_6_method_6_code 33 = .ok (.getfield 15, 3) := by decide +kernel
theorem d_6_6_36 : decode prog_6_method_6_code 36 = .ok (.invokevirtual 32, 3) := by decide +kernel
theorem d_6_6_39 : decode prog_6_method_6_code 39 = .ok (.iadd, 1) := by decide +kernel
theorem d_6_6_40 : decode prog_6_method_6_code 40 = .ok (.sipush 9999, 3) := by decide +kernel
theorem d_6_6_43 : decode prog_6_method_6_code 43 = .ok (.invokestatic 72, 3) := by decide +kernel
set_option maxRecDepth 100000 in
theorem w_1752 : (Cond.methodLink "NumberHouse$Directive" (72 : Nat) ({ cls := "java/lang/Math", name := "min", desc := "(II)I" } : MethodName)) ∈ q_tbl := q_of8 72 rfl (by decide +kernel)
theorem d_6_6_46 : decode prog_6_method_6_code 46 = .ok (.istore_n 1, 1) := by decide +kernel
theorem d_6_6_47 : decode prog_6_method_6_code 47 = .ok (.aload_n 0, 1) := by decide +kernel
theorem d_6_6_48 : decode prog_6_method_6_code 48 = .ok (.dup, 1) := by decide +kernel
theorem d_6_6_49 : decode prog_6_method_6_code 49 = .ok (.getfield 15, 3) := by decide +kernel
theorem d_6_6_52 : decode prog_6_method_6_code 52 = .ok (.iconst 1, 1) := by decide +kernel
theorem d_6_6_53 : decode prog_6_method_6_code 53 = .ok (.iadd, 1) := by decide +kernel
theorem d_6_6_54 : decode prog_6_method_6_code 54 = .ok (.putfield 15, 3) := by decide +kernel
theorem d_6_6_57 : decode prog_6_method_6_code 57 = .ok (.goto (-55), 3) := by decide +kernel
def y_Dir_takeNumber : MethodName := ⟨"NumberHouse$Directive", "takeNumber", "()I"⟩
set_option maxRecDepth 100000 in
set_option maxHeartbeats 4000000 in
theorem T_Dir_takeNumber (l : Launch) (D : va_G) (g : Nat → ClassId) (q : Nat → Nat) (ws : va_W) (hI : q_I (nsh g q) q ws) (t0_0 : Int32) (t0_1 : Int32) (t0_2 : Int32) (t0_3 : Int32) (t0_4 : Int32) (t0_5 : Int32) (t0_6 : Int32) (hT0 : ws[47]? = (some (q 47, .inr (10, [.int t0_0, .int t0_1, .int t0_2, .int t0_3, .int t0_4, .int t0_5, .ref (q 1), .int t0_6])) : Option (Nat × va_E))) (t1_0 : Int32) (hT1 : ws[1]? = (some (q 1, .inr (1, [.ref (q 2), .int 4100, .int t1_0])) : Option (Nat × va_E))) : q_mI l y_Dir_takeNumber prog_6_method_6_code 2 (.int) 3 0 0 D g [.ref (q 47)] ws (fun r u => q_I (nsh g q) q u ∧ q_un ws u [47] ∧ ∃ (u0_0 : Int32) (u0_1 : Int32) (u0_2 : Int32) (u0_3 : Int32) (u0_4 : Int32) (u0_5 : Int32) (u0_6 : Int32), u[47]? = (some (q 47, .inr (10, [.int u0_0, .int u0_1, .int u0_2, .int u0_3, .int u0_4, .int u0_5, .ref (q 1), .int u0_6])) : Option (Nat × va_E)) ∧ (0 ≤ r.toInt) ∧ (r.toInt ≤ 9999) ∧ (t0_0.toInt ≤ u0_0.toInt) ∧ (u0_0.toInt ≤ t0_0.toInt) ∧ (t0_1.toInt ≤ u0_1.toInt) ∧ (u0_1.toInt ≤ t0_1.toInt) ∧ (t0_2.toInt ≤ u0_2.toInt) ∧ (u0_2.toInt ≤ t0_2.toInt) ∧ (t0_3.toInt ≤ u0_3.toInt) ∧ (u0_3.toInt ≤ t0_3.toInt) ∧ (t0_4.toInt ≤ u0_4.toInt) ∧ (u0_4.toInt ≤ t0_4.toInt) ∧ (t0_5.toInt ≤ u0_5.toInt) ∧ (t0_6.toInt ≤ u0_6.toInt) ∧ (u0_6.toInt ≤ t0_6.toInt)) := by
  intro sz
  refine q_into (by decide) (Nat.le_of_ble_eq_true rfl) ?_
  intro p e s m below meth c ls hsz C0 V hl
  have hx := C0.1
  have hb := C0.2.1
  obtain ⟨yy0_0, yy0_1, yy0_2, yy0_3, yy0_4, yy0_5, yy0_6, hh0, btt0_2, btt0_3, btt0_6⟩ := n_o47 hI
  obtain ⟨rfl, rfl, rfl, rfl, rfl, rfl, rfl⟩ : t0_0 = yy0_0 ∧ t0_1 = yy0_1 ∧ t0_2 = yy0_2 ∧ t0_3 = yy0_3 ∧ t0_4 = yy0_4 ∧ t0_5 = yy0_5 ∧ t0_6 = yy0_6 := by have z := Option.some.inj (hT0.symm.trans hh0); simpa using z
  replace btt0_2 : q_F (-1 ≤ t0_2.toInt ∧ t0_2.toInt ≤ 9999) := btt0_2
  replace btt0_3 : q_F (-1 ≤ t0_3.toInt ∧ t0_3.toInt ≤ 9999) := btt0_3
  replace btt0_6 : q_F (0 ≤ t0_6.toInt ∧ t0_6.toInt ≤ 1) := btt0_6
  obtain ⟨yy1_0, hh1, btt1_0⟩ := n_shO hI (n_h1 g q)
  obtain ⟨rfl⟩ : t1_0 = yy1_0 := by have z := Option.some.inj (hT1.symm.trans hh1); simpa using z
  replace btt1_0 : q_F (0 ≤ t1_0.toInt ∧ t1_0.toInt ≤ 4100) := btt1_0
  have hF : q_un ws ws [47] := q_u0
  have hl : lv_has ls 2 [(0, .ref (q 47))] := hl
  refine lv_iconst (v := 0) hx hb d_6_6_0 (by decide) ?_
  refine lv_istore_n (lv' := [(1, .int 0), (0, .ref (q 47))]) hx hb d_6_6_1 rfl hl (by decide) rfl (fun ls hl => ?_)
  refine q_loop (X := Int32 × Int32) (fun z H locs ls w24 => q_F (0 ≤ z.1.toInt) ∧ q_F (z.1.toInt ≤ 9999) ∧ q_F (t0_5.toInt ≤ z.2.toInt) ∧ q_Wd D g (va_A ws sz) s w24 H locs ∧ lv_has ls 2 [(1, .int z.1), (0, .ref (q 47))] ∧ q_I (nsh g q) q w24 ∧ q_un ws w24 [47] ∧ w24[47]? = (some (q 47, .inr (10, [.int t0_0, .int t0_1, .int t0_2, .int t0_3, .int t0_4, .int z.2, .ref (q 1), .int t0_6])) : Option (Nat × va_E)) ∧ w24[1]? = (some (q 1, .inr (1, [.ref (q 2), .int 4100, .int t1_0])) : Option (Nat × va_E))) (fun z => (4100 - z.2.toInt).toNat) ?_ ((0 : Int32), (t0_5 : Int32)) _ _ _ ws ⟨(show q_F (0 ≤ 0) from (show 0 ≤ 0 from by omega)), (show q_F (0 ≤ 9999) from (show 0 ≤ 9999 from by omega)), (show q_F (t0_5.toInt ≤ t0_5.toInt) from (show t0_5.toInt ≤ t0_5.toInt from by omega)), V, q_lw hl (q_lw1 0 rfl (q_lw1 1 rfl q_lw0)), hI, hF, hT0, hT1⟩
  rintro ⟨lx18, lx19⟩ H locs ls w24 ⟨i20, i21, i22, V, hl, hI, hF, hO25, hO26⟩ ih23
  replace i20 : q_F (0 ≤ lx18.toInt) := i20
  replace i21 : q_F (lx18.toInt ≤ 9999) := i21
  replace i22 : q_F (t0_5.toInt ≤ lx19.toInt) := i22
  replace hl : lv_has ls 2 [(1, .int lx18), (0, .ref (q 47))] := hl
  replace hO25 : w24[47]? = (some (q 47, .inr (10, [.int t0_0, .int t0_1, .int t0_2, .int t0_3, .int t0_4, .int lx19, .ref (q 1), .int t0_6])) : Option (Nat × va_E)) := hO25
  replace hO26 : w24[1]? = (some (q 1, .inr (1, [.ref (q 2), .int 4100, .int t1_0])) : Option (Nat × va_E)) := hO26
  refine lv_aload_n hx hb d_6_6_2 rfl (lv_at hl 1 rfl) ?_
  refine lv_aload_n hx hb d_6_6_3 rfl (lv_at hl 1 rfl) ?_
  refine q_get (ci := 10) (j := 5) (v := .int lx19) C0 V i_Dir rfl rfl hO25 (by decide) w_363 rfl d_6_6_4 ?_
  refine q_goi V (q_runV (As := [.int lx19]) (rest := []) (d := 2) (mc := 0) (ms := 0) (ci := 10) C0 V rfl LV_Dir_32 (T_Dir_figureAt l D g q w24  lx19 hI   _) rfl rfl hO25 rfl hl.1 rfl (Nat.le_of_ble_eq_true rfl) ⟨by decide, by decide⟩ ⟨Nat.le_of_ble_eq_true rfl, Nat.le_of_ble_eq_true rfl⟩ d_6_6_7) (fun a29 u27 H locs hp28 V => ?_)
  obtain ⟨rfl, b30, b31, pu32⟩ := hp28
  replace b30 : q_F (0 ≤ a29.toInt + 1) := b30
  replace b31 : q_F (a29.toInt ≤ 9) := b31
  refine lv_if_lt (tgt := 60) hx hb d_6_6_10 (by decide) (fun c34 => ?_) (fun c34 => ?_)
  ·
    have b35 : q_F (a29.toInt < 0) := (q_ltI c34)
    refine lv_iload_n hx hb d_6_6_60 rfl (lv_at hl 0 rfl) ?_
    exact q_reti C0 V (⟨hI, hF, t0_0, t0_1, t0_2, t0_3, t0_4, lx19, t0_6, hO25, (show 0 ≤ lx18.toInt from (by have t1 : 0 ≤ lx18.toInt := i20; omega)), (show lx18.toInt ≤ 9999 from (by have t1 : lx18.toInt ≤ 9999 := i21; omega)), (show t0_0.toInt ≤ t0_0.toInt from (by omega)), (show t0_0.toInt ≤ t0_0.toInt from (by omega)), (show t0_1.toInt ≤ t0_1.toInt from (by omega)), (show t0_1.toInt ≤ t0_1.toInt from (by omega)), (show t0_2.toInt ≤ t0_2.toInt from (by omega)), (show t0_2.toInt ≤ t0_2.toInt from (by omega)), (show t0_3.toInt ≤ t0_3.toInt from (by omega)), (show t0_3.toInt ≤ t0_3.toInt from (by omega)), (show t0_4.toInt ≤ t0_4.toInt from (by omega)), (show t0_4.toInt ≤ t0_4.toInt from (by omega)), (show t0_5.toInt ≤ lx19.toInt from (by have t1 : t0_5.toInt ≤ lx19.toInt := i22; omega)), (show t0_6.toInt ≤ t0_6.toInt from (by omega)), (show t0_6.toInt ≤ t0_6.toInt from (by omega))⟩) d_6_6_61
  ·
    have b36 : q_F (0 ≤ a29.toInt) := (q_nltI c34)
    refine lv_aload_n hx hb d_6_6_13 rfl (lv_at hl 1 rfl) ?_
    refine q_get (ci := 10) (j := 5) (v := .int lx19) C0 V i_Dir rfl rfl hO25 (by decide) w_363 rfl d_6_6_14 ?_
    refine lv_aload_n hx hb d_6_6_17 rfl (lv_at hl 1 rfl) ?_
    refine q_get (ci := 10) (j := 6) (v := .ref (q 1)) C0 V i_Dir rfl rfl hO25 (by decide) w_365 rfl d_6_6_18 ?_
    refine q_get (ci := 1) (j := 2) (v := .int t1_0) C0 V i_She rfl rfl hO26 (by decide) w_57 rfl d_6_6_21 ?_
    refine lv_icmp_ge (tgt := 60) hx hb d_6_6_24 (by decide) (fun c37 => ?_) (fun c37 => ?_)
    ·
      have b38 : q_F (t1_0.toInt ≤ lx19.toInt) := (q_leI c37)
      refine lv_iload_n hx hb d_6_6_60 rfl (lv_at hl 0 rfl) ?_
      exact q_reti C0 V (⟨hI, hF, t0_0, t0_1, t0_2, t0_3, t0_4, lx19, t0_6, hO25, (show 0 ≤ lx18.toInt from (by have t1 : 0 ≤ lx18.toInt := i20; omega)), (show lx18.toInt ≤ 9999 from (by have t1 : lx18.toInt ≤ 9999 := i21; omega)), (show t0_0.toInt ≤ t0_0.toInt from (by omega)), (show t0_0.toInt ≤ t0_0.toInt from (by omega)), (show t0_1.toInt ≤ t0_1.toInt from (by omega)), (show t0_1.toInt ≤ t0_1.toInt from (by omega)), (show t0_2.toInt ≤ t0_2.toInt from (by omega)), (show t0_2.toInt ≤ t0_2.toInt from (by omega)), (show t0_3.toInt ≤ t0_3.toInt from (by omega)), (show t0_3.toInt ≤ t0_3.toInt from (by omega)), (show t0_4.toInt ≤ t0_4.toInt from (by omega)), (show t0_4.toInt ≤ t0_4.toInt from (by omega)), (show t0_5.toInt ≤ lx19.toInt from (by have t1 : t0_5.toInt ≤ lx19.toInt := i22; omega)), (show t0_6.toInt ≤ t0_6.toInt from (by omega)), (show t0_6.toInt ≤ t0_6.toInt from (by omega))⟩) d_6_6_61
    ·
      have b39 : q_F (lx19.toInt < t1_0.toInt) := (q_nleI c37)
      refine lv_iload_n hx hb d_6_6_27 rfl (lv_at hl 0 rfl) ?_
      refine lv_bipush (v := 10) hx hb d_6_6_28 (by decide) ?_
      refine lv_imul hx hb d_6_6_30 ?_
      obtain ⟨a40, e41⟩ := q_nm (lx18 * 10 : Int32)
      refine q_ti (v := a40) e41 ?_
      have b42 : q_F (a40.toInt = lx18.toInt * 10) := (by rw [← e41]; show (lx18 * 10 : Int32).toInt = lx18.toInt * 10; exact q_mulI (x := lx18.toInt) (y := 10) rfl (by decide) (by have t1 : 0 ≤ lx18.toInt := i20; have t2 : lx18.toInt ≤ 9999 := i21; omega) (by have t1 : 0 ≤ lx18.toInt := i20; have t2 : lx18.toInt ≤ 9999 := i21; omega))
      refine lv_aload_n hx hb d_6_6_31 rfl (lv_at hl 1 rfl) ?_
      refine lv_aload_n hx hb d_6_6_32 rfl (lv_at hl 1 rfl) ?_
      refine q_get (ci := 10) (j := 5) (v := .int lx19) C0 V i_Dir rfl rfl hO25 (by decide) w_363 rfl d_6_6_33 ?_
      refine q_goi V (q_runV (As := [.int lx19]) (rest := [.int a40]) (d := 2) (mc := 0) (ms := 0) (ci := 10) C0 V rfl LV_Dir_32 (T_Dir_figureAt l D g q w24  lx19 hI   _) rfl rfl hO25 rfl hl.1 rfl (Nat.le_of_ble_eq_true rfl) ⟨by decide, by decide⟩ ⟨Nat.le_of_ble_eq_true rfl, Nat.le_of_ble_eq_true rfl⟩ d_6_6_36) (fun a45 u43 H locs hp44 V => ?_)
      obtain ⟨rfl, b46, b47, pu48⟩ := hp44
      replace b46 : q_F (0 ≤ a45.toInt + 1) := b46
      replace b47 : q_F (a45.toInt ≤ 9) := b47
      obtain rfl : a29 = a45 := pu32.trans pu48.symm
      refine lv_iadd hx hb d_6_6_39 ?_
      obtain ⟨a50, e51⟩ := q_nm (a40 + a29 : Int32)
      refine q_ti (v := a50) e51 ?_
      have b52 : q_F (a50.toInt = a40.toInt + a29.toInt) := (by rw [← e51]; show (a40 + a29 : Int32).toInt = a40.toInt + a29.toInt; exact q_addI (x := a40.toInt) (y := a29.toInt) rfl rfl (by have t1 : 0 ≤ a29.toInt := b36; have _ := q_lo32 (x := a40); have _ := q_hi32 (x := a40); have t2 : lx18.toInt ≤ 9999 := i21; have t3 : a29.toInt ≤ 9 := b31; have t4 : a40.toInt = lx18.toInt * 10 := b42; omega) (by have t1 : 0 ≤ a29.toInt := b36; have _ := q_lo32 (x := a40); have _ := q_hi32 (x := a40); have t2 : lx18.toInt ≤ 9999 := i21; have t3 : a29.toInt ≤ 9 := b31; have t4 : a40.toInt = lx18.toInt * 10 := b42; omega))
      refine lv_sipush (v := 9999) hx hb d_6_6_40 (by decide) ?_
      refine q_min C0 hl.1 rfl w_1752 w_774 w_7 w_775 ⟨Nat.le_of_ble_eq_true rfl, Nat.le_of_ble_eq_true rfl⟩ ⟨Nat.le_of_ble_eq_true rfl, Nat.le_of_ble_eq_true rfl⟩ d_6_6_43 ?_
      obtain ⟨a53, e54⟩ := q_nm (if 9999 < a50 then 9999 else a50 : Int32)
      refine q_ti (v := a53) e54 ?_
      have b55 : q_F (a53.toInt ≤ a50.toInt ∧ a53.toInt ≤ 9999 ∧ (a53.toInt = a50.toInt ∨ a53.toInt = 9999)) := (by rw [← e54]; show (if 9999 < a50 then 9999 else a50 : Int32).toInt ≤ a50.toInt ∧ (if 9999 < a50 then 9999 else a50 : Int32).toInt ≤ 9999 ∧ ((if 9999 < a50 then 9999 else a50 : Int32).toInt = a50.toInt ∨ (if 9999 < a50 then 9999 else a50 : Int32).toInt = 9999); exact (by have y1 : (9999 : Int32).toInt = 9999 := rfl; have z := s_min (a := a50) (b := 9999); omega))
      refine lv_istore_n (lv' := [(1, .int a53), (0, .ref (q 47))]) hx hb d_6_6_46 rfl hl (by decide) rfl (fun ls hl => ?_)
      refine lv_aload_n hx hb d_6_6_47 rfl (lv_at hl 1 rfl) ?_
      refine lv_dup hx hb d_6_6_48 rfl ?_
      refine q_get (ci := 10) (j := 5) (v := .int lx19) C0 V i_Dir rfl rfl hO25 (by decide) w_363 rfl d_6_6_49 ?_
      refine lv_iconst (v := 1) hx hb d_6_6_52 (by decide) ?_
      refine lv_iadd hx hb d_6_6_53 ?_
      obtain ⟨a56, e57⟩ := q_nm (lx19 + 1 : Int32)
      refine q_ti (v := a56) e57 ?_
      have b58 : q_F (a56.toInt = lx19.toInt + 1) := (by rw [← e57]; show (lx19 + 1 : Int32).toInt = lx19.toInt + 1; exact q_addI (x := lx19.toInt) (y := 1) rfl (by decide) (by have _ := q_lo32 (x := lx19); have _ := q_hi32 (x := lx19); have t1 : lx19.toInt < t1_0.toInt := b39; have _ := q_lo32 (x := t1_0); have _ := q_hi32 (x := t1_0); omega) (by have _ := q_lo32 (x := lx19); have _ := q_hi32 (x := lx19); have t1 : lx19.toInt < t1_0.toInt := b39; have _ := q_lo32 (x := t1_0); have _ := q_hi32 (x := t1_0); omega))
      refine q_put (ci := 10) (j := 5) (v := .int a56) (ty := .int) C0 V i_Dir o_Dir n_Dir rfl rfl hO25 (by decide) w_363 rfl rfl rfl rfl (Nat.le_of_ble_eq_true rfl) d_6_6_54 (fun H locs w59 hu60 hO25 V => ?_)
      replace hO25 : w59[47]? = (some (q 47, .inr (10, [.int t0_0, .int t0_1, .int t0_2, .int t0_3, .int t0_4, .int a56, .ref (q 1), .int t0_6])) : Option (Nat × va_E)) := hO25
      replace hI := n_p47 hI hu60 hO25 ⟨(by have t1 : -1 ≤ t0_2.toInt ∧ t0_2.toInt ≤ 9999 := btt0_2; omega), (by have t1 : -1 ≤ t0_2.toInt ∧ t0_2.toInt ≤ 9999 := btt0_2; omega)⟩ ⟨(by have t1 : -1 ≤ t0_3.toInt ∧ t0_3.toInt ≤ 9999 := btt0_3; omega), (by have t1 : -1 ≤ t0_3.toInt ∧ t0_3.toInt ≤ 9999 := btt0_3; omega)⟩ ⟨(by have t1 : 0 ≤ t0_6.toInt ∧ t0_6.toInt ≤ 1 := btt0_6; omega), (by have t1 : 0 ≤ t0_6.toInt ∧ t0_6.toInt ≤ 1 := btt0_6; omega)⟩
      replace hO26 := (hu60 _ (by decide)).trans hO26
      replace hF := q_us hF hu60 (by simp)
      refine lv_goto (tgt := 2) hx hb d_6_6_57 (by decide) ?_
      exact ih23 ((a53 : Int32), (a56 : Int32)) _ _ _ _ (show (4100 - a56.toInt).toNat < (4100 - lx19.toInt).toNat from by have t1 : a56.toInt = lx19.toInt + 1 := b58; have t2 : 0 ≤ t1_0.toInt ∧ t1_0.toInt ≤ 4100 := btt1_0; have t3 : lx19.toInt < t1_0.toInt := b39; omega) ⟨(show q_F (0 ≤ a53.toInt) from (show 0 ≤ a53.toInt from by have t1 : 0 ≤ lx18.toInt := i20; have t2 : 0 ≤ a29.toInt := b36; have t3 : a40.toInt = lx18.toInt * 10 := b42; have t4 : a50.toInt = a40.toInt + a29.toInt := b52; have t5 : a53.toInt ≤ a50.toInt ∧ a53.toInt ≤ 9999 ∧ (a53.toInt = a50.toInt ∨ a53.toInt = 9999) := b55; omega)), (show q_F (a53.toInt ≤ 9999) from (show a53.toInt ≤ 9999 from by have t1 : a53.toInt ≤ a50.toInt ∧ a53.toInt ≤ 9999 ∧ (a53.toInt = a50.toInt ∨ a53.toInt = 9999) := b55; omega)), (show q_F (t0_5.toInt ≤ a56.toInt) from (show t0_5.toInt ≤ a56.toInt from by have t1 : t0_5.toInt ≤ lx19.toInt := i22; have t2 : a56.toInt = lx19.toInt + 1 := b58; omega)), V, q_lw hl (q_lw1 0 rfl (q_lw1 1 rfl q_lw0)), hI, hF, hO25, hO26⟩
theorem d_6_4_0 : decode prog_6_method_4_code 0 = .ok (.aload_n 0, 1) := by decide +kernel
theorem d_6_4_1 : decode prog_6_method_4_code 1 = .ok (.getfield 15, 3) := by decide +kernel
theorem d_6_4_4 : decode prog_6_method_4_code 4 = .ok (.istore_n 1, 1) := by decide +kernel
theorem d_6_4_5 : decode prog_6_method_4_code 5 = .ok (.aload_n 0, 1) := by decide +kernel
theorem d_6_4_6 : decode prog_6_method_4_code 6 = .ok (.aload_n 0, 1) := by decide +kernel
theorem d_6_4_7 : decode prog_6_method_4_code 7 = .ok (.aload_n 0, 1) := by decide +kernel
theorem d_6_4_8 : decode prog_6_method_4_code 8 = .ok (.getfield 15, 3) := by decide +kernel
theorem d_6_4_11 : decode prog_6_method_4_code 11 = .ok (.invokevirtual 32, 3) := by decide +kernel
theorem d_6_4_25 : decode prog_6_method_4_code 25 = .ok (.putfield 58, 3) := by decide +kernel
set_option maxRecDepth 100000 in
theorem w_354 : (Cond.fieldLink "NumberHouse$Directive" (58 : Nat) "NumberHouse$Directive" "index" "I") ∈ q_tbl := q_of2 114 rfl (by decide +kernel)
theorem d_6_4_28 : decode prog_6_method_4_code 28 = .ok (.aload_n 0, 1) := by decide +kernel
theorem d_6_4_29 : decode prog_6_method_4_code 29 = .ok (.getfield 58, 3) := by decide +kernel
theorem d_6_4_32 : decode prog_6_method_4_code 32 = .ok (.iconst (-1), 1) := by decide +kernel
theorem d_6_4_33 : decode prog_6_method_4_code 33 = .ok (.if_icmp .eq 33, 3) := by decide +kernel
theorem d_6_4_66 : decode prog_6_method_4_code 66 = .ok (.aload_n 0, 1) := by decide +kernel
theorem d_6_4_67 : decode prog_6_method_4_code 67 = .ok (.iconst (-1), 1) := by decide +kernel
theorem d_6_4_68 : decode prog_6_method_4_code 68 = .ok (.putfield 58, 3) := by decide +kernel
theorem d_6_4_71 : decode prog_6_method_4_code 71 = .ok (.aload_n 0, 1) := by decide +kernel
theorem d_6_4_72 : decode prog_6_method_4_code 72 = .ok (.iload_n 1, 1) := by decide +kernel
theorem d_6_4_73 : decode prog_6_method_4_code 73 = .ok (.putfield 15, 3) := by decide +kernel
theorem d_6_4_76 : decode prog_6_method_4_code 76 = .ok (.return_, 1) := by decide +kernel
theorem d_6_4_36 : decode prog_6_method_4_code 36 = .ok (.aload_n 0, 1) := by decide +kernel
theorem d_6_4_37 : decode prog_6_method_4_code 37 = .ok (.getfield 9, 3) := by decide +kernel
theorem d_6_4_40 : decode prog_6_method_4_code 40 = .ok (.aload_n 0, 1) := by decide +kernel
theorem d_6_4_41 : decode prog_6_method_4_code 41 = .ok (.getfield 15, 3) := by decide +kernel
theorem d_6_4_44 : decode prog_6_method_4_code 44 = .ok (.i2l, 1) := by decide +kernel
theorem d_6_4_45 : decode prog_6_method_4_code 45 = .ok (.invokevirtual 46, 3) := by decide +kernel
theorem d_6_4_48 : decode prog_6_method_4_code 48 = .ok (.bipush 36, 2) := by decide +kernel
theorem d_6_4_50 : decode prog_6_method_4_code 50 = .ok (.if_icmp .ne 16, 3) := by decide +kernel
theorem d_6_4_53 : decode prog_6_method_4_code 53 = .ok (.aload_n 0, 1) := by decide +kernel
theorem d_6_4_54 : decode prog_6_method_4_code 54 = .ok (.dup, 1) := by decide +kernel
theorem d_6_4_55 : decode prog_6_method_4_code 55 = .ok (.getfield 15, 3) := by decide +kernel
theorem d_6_4_58 : decode prog_6_method_4_code 58 = .ok (.iconst 1, 1) := by decide +kernel
theorem d_6_4_59 : decode prog_6_method_4_code 59 = .ok (.iadd, 1) := by decide +kernel
theorem d_6_4_60 : decode prog_6_method_4_code 60 = .ok (.putfield 15, 3) := by decide +kernel
theorem d_6_4_63 : decode prog_6_method_4_code 63 = .ok (.goto 13, 3) := by decide +kernel
theorem d_6_4_14 : decode prog_6_method_4_code 14 = .ok (.ifCond .le 10, 3) := by decide +kernel
theorem d_6_4_24 : decode prog_6_method_4_code 24 = .ok (.iconst (-1), 1) := by decide +kernel
theorem d_6_4_17 : decode prog_6_method_4_code 17 = .ok (.aload_n 0, 1) := by decide +kernel
theorem d_6_4_18 : decode prog_6_method_4_code 18 = .ok (.invokevirtual 36, 3) := by decide +kernel
set_option maxRecDepth 100000 in
theorem w_1751 : (Cond.code ({ cls := "NumberHouse$Directive", name := "takeNumber", desc := "()I" } : MethodName) prog_6_method_6_code (2 : Nat) (some .int)) ∈ q_tbl := q_of8 71 rfl (by decide +kernel)
set_option maxRecDepth 100000 in
theorem w_1748 : (Cond.methodLink "NumberHouse$Directive" (36 : Nat) ({ cls := "NumberHouse$Directive", name := "takeNumber", desc := "()I" } : MethodName)) ∈ q_tbl := q_of8 68 rfl (by decide +kernel)
set_option maxRecDepth 100000 in
theorem w_1750 : (Cond.instanceMethod ({ cls := "NumberHouse$Directive", name := "takeNumber", desc := "()I" } : MethodName)) ∈ q_tbl := q_of8 70 rfl (by decide +kernel)
theorem ws_47 : Cond.selects "NumberHouse$Directive" (⟨"NumberHouse$Directive", "takeNumber", "()I"⟩ : MethodName) (⟨"NumberHouse$Directive", "takeNumber", "()I"⟩ : MethodName) ∈ q_tbl := q_ofs 47 (by decide +kernel) (by decide +kernel)
theorem LV_Dir_36 : q_LV "NumberHouse$Directive" 36 y_Dir_takeNumber prog_6_method_6_code 2 (some .int) 0 := ⟨w_1751, w_13, w_1748, w_1750, ws_47, ⟨by decide, by decide, by decide +kernel⟩⟩
theorem d_6_4_21 : decode prog_6_method_4_code 21 = .ok (.goto 4, 3) := by decide +kernel
def y_Dir_takeIndex : MethodName := ⟨"NumberHouse$Directive", "takeIndex", "()V"⟩
set_option maxRecDepth 100000 in
set_option maxHeartbeats 4000000 in
theorem T_Dir_takeIndex (l : Launch) (D : va_G) (g : Nat → ClassId) (q : Nat → Nat) (ws : va_W) (hI : q_I (nsh g q) q ws) (t0_0 : Int32) (t0_1 : Int32) (t0_2 : Int32) (t0_3 : Int32) (t0_4 : Int32) (t0_5 : Int32) (t0_6 : Int32) (hT0 : ws[47]? = (some (q 47, .inr (10, [.int t0_0, .int t0_1, .int t0_2, .int t0_3, .int t0_4, .int t0_5, .ref (q 1), .int t0_6])) : Option (Nat × va_E))) (t1_0 : Int32) (hT1 : ws[1]? = (some (q 1, .inr (1, [.ref (q 2), .int 4100, .int t1_0])) : Option (Nat × va_E))) : q_mV l y_Dir_takeIndex prog_6_method_4_code 2 4 0 0 D g [.ref (q 47)] ws (fun u => q_I (nsh g q) q u ∧ q_un ws u [47] ∧ ∃ (u0_0 : Int32) (u0_1 : Int32) (u0_2 : Int32) (u0_3 : Int32) (u0_4 : Int32) (u0_5 : Int32) (u0_6 : Int32), u[47]? = (some (q 47, .inr (10, [.int u0_0, .int u0_1, .int u0_2, .int u0_3, .int u0_4, .int u0_5, .ref (q 1), .int u0_6])) : Option (Nat × va_E)) ∧ (0 ≤ u0_0.toInt + 1) ∧ (u0_0.toInt ≤ 9999) ∧ (t0_1.toInt ≤ u0_1.toInt) ∧ (u0_1.toInt ≤ t0_1.toInt) ∧ (t0_2.toInt ≤ u0_2.toInt) ∧ (u0_2.toInt ≤ t0_2.toInt) ∧ (t0_3.toInt ≤ u0_3.toInt) ∧ (u0_3.toInt ≤ t0_3.toInt) ∧ (t0_4.toInt ≤ u0_4.toInt) ∧ (u0_4.toInt ≤ t0_4.toInt) ∧ (t0_6.toInt ≤ u0_6.toInt) ∧ (u0_6.toInt ≤ t0_6.toInt)) := by
  intro sz
  refine q_into (by decide) (Nat.le_of_ble_eq_true rfl) ?_
  intro p e s m below meth c ls hsz C0 V hl
  have hx := C0.1
  have hb := C0.2.1
  obtain ⟨yy0_0, yy0_1, yy0_2, yy0_3, yy0_4, yy0_5, yy0_6, hh0, btt0_2, btt0_3, btt0_6⟩ := n_o47 hI
  obtain ⟨rfl, rfl, rfl, rfl, rfl, rfl, rfl⟩ : t0_0 = yy0_0 ∧ t0_1 = yy0_1 ∧ t0_2 = yy0_2 ∧ t0_3 = yy0_3 ∧ t0_4 = yy0_4 ∧ t0_5 = yy0_5 ∧ t0_6 = yy0_6 := by have z := Option.some.inj (hT0.symm.trans hh0); simpa using z
  replace btt0_2 : q_F (-1 ≤ t0_2.toInt ∧ t0_2.toInt ≤ 9999) := btt0_2
  replace btt0_3 : q_F (-1 ≤ t0_3.toInt ∧ t0_3.toInt ≤ 9999) := btt0_3
  replace btt0_6 : q_F (0 ≤ t0_6.toInt ∧ t0_6.toInt ≤ 1) := btt0_6
  obtain ⟨yy1_0, hh1, btt1_0⟩ := n_shO hI (n_h1 g q)
  obtain ⟨rfl⟩ : t1_0 = yy1_0 := by have z := Option.some.inj (hT1.symm.trans hh1); simpa using z
  replace btt1_0 : q_F (0 ≤ t1_0.toInt ∧ t1_0.toInt ≤ 4100) := btt1_0
  have hF : q_un ws ws [47] := q_u0
  have hl : lv_has ls 2 [(0, .ref (q 47))] := hl
  refine lv_aload_n hx hb d_6_4_0 rfl (lv_at hl 0 rfl) ?_
  refine q_get (ci := 10) (j := 5) (v := .int t0_5) C0 V i_Dir rfl rfl hT0 (by decide) w_363 rfl d_6_4_1 ?_
  refine lv_istore_n (lv' := [(1, .int t0_5), (0, .ref (q 47))]) hx hb d_6_4_4 rfl hl (by decide) rfl (fun ls hl => ?_)
  refine lv_aload_n hx hb d_6_4_5 rfl (lv_at hl 1 rfl) ?_
  refine lv_aload_n hx hb d_6_4_6 rfl (lv_at hl 1 rfl) ?_
  refine lv_aload_n hx hb d_6_4_7 rfl (lv_at hl 1 rfl) ?_
  refine q_get (ci := 10) (j := 5) (v := .int t0_5) C0 V i_Dir rfl rfl hT0 (by decide) w_363 rfl d_6_4_8 ?_
  refine q_goi V (q_runV (As := [.int t0_5]) (rest := [.ref (q 47)]) (d := 2) (mc := 0) (ms := 0) (ci := 10) C0 V rfl LV_Dir_32 (T_Dir_figureAt l D g q ws  t0_5 hI   _) rfl rfl hT0 rfl hl.1 rfl (Nat.le_of_ble_eq_true rfl) ⟨by decide, by decide⟩ ⟨Nat.le_of_ble_eq_true rfl, Nat.le_of_ble_eq_true rfl⟩ d_6_4_11) (fun a17 u15 H locs hp16 V => ?_)
  obtain ⟨rfl, b18, b19, pu20⟩ := hp16
  replace b18 : q_F (0 ≤ a17.toInt + 1) := b18
  replace b19 : q_F (a17.toInt ≤ 9) := b19
  refine q_join (X := Int32 × Int32 × Int32 × Int32 × Int32 × Int32 × Int32 × Int32) (fun z H locs ls w50 => q_F (0 ≤ z.1.toInt + 1) ∧ q_F (z.1.toInt ≤ 9999) ∧ q_F (a17.toInt ≤ z.1.toInt + 9) ∧ q_F (z.1.toInt ≤ a17.toInt + 9998) ∧ q_F (t0_0.toInt ≤ z.2.1.toInt) ∧ q_F (z.2.1.toInt ≤ t0_0.toInt) ∧ q_F (t0_1.toInt ≤ z.2.2.1.toInt) ∧ q_F (z.2.2.1.toInt ≤ t0_1.toInt) ∧ q_F (t0_2.toInt ≤ z.2.2.2.1.toInt) ∧ q_F (z.2.2.2.1.toInt ≤ t0_2.toInt) ∧ q_F (t0_3.toInt ≤ z.2.2.2.2.1.toInt) ∧ q_F (z.2.2.2.2.1.toInt ≤ t0_3.toInt) ∧ q_F (t0_4.toInt ≤ z.2.2.2.2.2.1.toInt) ∧ q_F (z.2.2.2.2.2.1.toInt ≤ t0_4.toInt) ∧ q_F (t0_5.toInt ≤ z.2.2.2.2.2.2.1.toInt) ∧ q_F (t0_6.toInt ≤ z.2.2.2.2.2.2.2.toInt) ∧ q_F (z.2.2.2.2.2.2.2.toInt ≤ t0_6.toInt) ∧ q_Wd D g (va_A ws sz) s w50 H locs ∧ lv_has ls 2 [(1, .int t0_5), (0, .ref (q 47))] ∧ q_I (nsh g q) q w50 ∧ q_un ws w50 [47] ∧ w50[47]? = (some (q 47, .inr (10, [.int z.2.1, .int z.2.2.1, .int z.2.2.2.1, .int z.2.2.2.2.1, .int z.2.2.2.2.2.1, .int z.2.2.2.2.2.2.1, .ref (q 1), .int z.2.2.2.2.2.2.2])) : Option (Nat × va_E)) ∧ w50[1]? = (some (q 1, .inr (1, [.ref (q 2), .int 4100, .int t1_0])) : Option (Nat × va_E))) (fun z => [.int z.1, .ref (q 47)]) 25 0 0 ?_ ?_
  ·
    rintro ⟨lx22, lx23, lx24, lx25, lx26, lx27, lx28, lx29⟩ H locs ls w50 ⟨i33, i34, i35, i36, i37, i38, i39, i40, i41, i42, i43, i44, i45, i46, i47, i48, i49, V, hl, hI, hF, hO30, hO31⟩
    replace i33 : q_F (0 ≤ lx22.toInt + 1) := i33
    replace i34 : q_F (lx22.toInt ≤ 9999) := i34
    replace i35 : q_F (a17.toInt ≤ lx22.toInt + 9) := i35
    replace i36 : q_F (lx22.toInt ≤ a17.toInt + 9998) := i36
    replace i37 : q_F (t0_0.toInt ≤ lx23.toInt) := i37
    replace i38 : q_F (lx23.toInt ≤ t0_0.toInt) := i38
    replace i39 : q_F (t0_1.toInt ≤ lx24.toInt) := i39
    replace i40 : q_F (lx24.toInt ≤ t0_1.toInt) := i40
    replace i41 : q_F (t0_2.toInt ≤ lx25.toInt) := i41
    replace i42 : q_F (lx25.toInt ≤ t0_2.toInt) := i42
    replace i43 : q_F (t0_3.toInt ≤ lx26.toInt) := i43
    replace i44 : q_F (lx26.toInt ≤ t0_3.toInt) := i44
    replace i45 : q_F (t0_4.toInt ≤ lx27.toInt) := i45
    replace i46 : q_F (lx27.toInt ≤ t0_4.toInt) := i46
    replace i47 : q_F (t0_5.toInt ≤ lx28.toInt) := i47
    replace i48 : q_F (t0_6.toInt ≤ lx29.toInt) := i48
    replace i49 : q_F (lx29.toInt ≤ t0_6.toInt) := i49
    replace hl : lv_has ls 2 [(1, .int t0_5), (0, .ref (q 47))] := hl
    replace hO30 : w50[47]? = (some (q 47, .inr (10, [.int lx23, .int lx24, .int lx25, .int lx26, .int lx27, .int lx28, .ref (q 1), .int lx29])) : Option (Nat × va_E)) := hO30
    replace hO31 : w50[1]? = (some (q 1, .inr (1, [.ref (q 2), .int 4100, .int t1_0])) : Option (Nat × va_E)) := hO31
    refine q_put (ci := 10) (j := 0) (v := .int lx22) (ty := .int) C0 V i_Dir o_Dir n_Dir rfl rfl hO30 (by decide) w_354 rfl rfl rfl rfl (Nat.le_of_ble_eq_true rfl) d_6_4_25 (fun H locs w51 hu52 hO30 V => ?_)
    replace hO30 : w51[47]? = (some (q 47, .inr (10, [.int lx22, .int lx24, .int lx25, .int lx26, .int lx27, .int lx28, .ref (q 1), .int lx29])) : Option (Nat × va_E)) := hO30
    replace hI := n_p47 hI hu52 hO30 ⟨(by have t1 : -1 ≤ t0_2.toInt ∧ t0_2.toInt ≤ 9999 := btt0_2; have t2 : t0_2.toInt ≤ lx25.toInt := i41; omega), (by have t1 : -1 ≤ t0_2.toInt ∧ t0_2.toInt ≤ 9999 := btt0_2; have t2 : lx25.toInt ≤ t0_2.toInt := i42; omega)⟩ ⟨(by have t1 : -1 ≤ t0_3.toInt ∧ t0_3.toInt ≤ 9999 := btt0_3; have t2 : t0_3.toInt ≤ lx26.toInt := i43; omega), (by have t1 : -1 ≤ t0_3.toInt ∧ t0_3.toInt ≤ 9999 := btt0_3; have t2 : lx26.toInt ≤ t0_3.toInt := i44; omega)⟩ ⟨(by have t1 : 0 ≤ t0_6.toInt ∧ t0_6.toInt ≤ 1 := btt0_6; have t2 : t0_6.toInt ≤ lx29.toInt := i48; omega), (by have t1 : 0 ≤ t0_6.toInt ∧ t0_6.toInt ≤ 1 := btt0_6; have t2 : lx29.toInt ≤ t0_6.toInt := i49; omega)⟩
    replace hO31 := (hu52 _ (by decide)).trans hO31
    replace hF := q_us hF hu52 (by simp)
    refine lv_aload_n hx hb d_6_4_28 rfl (lv_at hl 1 rfl) ?_
    refine q_get (ci := 10) (j := 0) (v := .int lx22) C0 V i_Dir rfl rfl hO30 (by decide) w_354 rfl d_6_4_29 ?_
    refine lv_iconst (v := (-1)) hx hb d_6_4_32 (by decide) ?_
    refine lv_icmp_eq (tgt := 66) hx hb d_6_4_33 (by decide) (fun c53 => ?_) (fun c53 => ?_)
    ·
      have b54 : q_F (lx22.toInt = (-1)) := (q_eqI c53)
      refine lv_aload_n hx hb d_6_4_66 rfl (lv_at hl 1 rfl) ?_
      refine lv_iconst (v := (-1)) hx hb d_6_4_67 (by decide) ?_
      refine q_put (ci := 10) (j := 0) (v := .int (-1)) (ty := .int) C0 V i_Dir o_Dir n_Dir rfl rfl hO30 (by decide) w_354 rfl rfl rfl rfl (Nat.le_of_ble_eq_true rfl) d_6_4_68 (fun H locs w55 hu56 hO30 V => ?_)
      replace hO30 : w55[47]? = (some (q 47, .inr (10, [.int (-1), .int lx24, .int lx25, .int lx26, .int lx27, .int lx28, .ref (q 1), .int lx29])) : Option (Nat × va_E)) := hO30
      replace hI := n_p47 hI hu56 hO30 ⟨(by have t1 : -1 ≤ t0_2.toInt ∧ t0_2.toInt ≤ 9999 := btt0_2; have t2 : t0_2.toInt ≤ lx25.toInt := i41; omega), (by have t1 : -1 ≤ t0_2.toInt ∧ t0_2.toInt ≤ 9999 := btt0_2; have t2 : lx25.toInt ≤ t0_2.toInt := i42; omega)⟩ ⟨(by have t1 : -1 ≤ t0_3.toInt ∧ t0_3.toInt ≤ 9999 := btt0_3; have t2 : t0_3.toInt ≤ lx26.toInt := i43; omega), (by have t1 : -1 ≤ t0_3.toInt ∧ t0_3.toInt ≤ 9999 := btt0_3; have t2 : lx26.toInt ≤ t0_3.toInt := i44; omega)⟩ ⟨(by have t1 : 0 ≤ t0_6.toInt ∧ t0_6.toInt ≤ 1 := btt0_6; have t2 : t0_6.toInt ≤ lx29.toInt := i48; omega), (by have t1 : 0 ≤ t0_6.toInt ∧ t0_6.toInt ≤ 1 := btt0_6; have t2 : lx29.toInt ≤ t0_6.toInt := i49; omega)⟩
      replace hO31 := (hu56 _ (by decide)).trans hO31
      replace hF := q_us hF hu56 (by simp)
      refine lv_aload_n hx hb d_6_4_71 rfl (lv_at hl 1 rfl) ?_
      refine lv_iload_n hx hb d_6_4_72 rfl (lv_at hl 0 rfl) ?_
      refine q_put (ci := 10) (j := 5) (v := .int t0_5) (ty := .int) C0 V i_Dir o_Dir n_Dir rfl rfl hO30 (by decide) w_363 rfl rfl rfl rfl (Nat.le_of_ble_eq_true rfl) d_6_4_73 (fun H locs w57 hu58 hO30 V => ?_)
      replace hO30 : w57[47]? = (some (q 47, .inr (10, [.int (-1), .int lx24, .int lx25, .int lx26, .int lx27, .int t0_5, .ref (q 1), .int lx29])) : Option (Nat × va_E)) := hO30
      replace hI := n_p47 hI hu58 hO30 ⟨(by have t1 : -1 ≤ t0_2.toInt ∧ t0_2.toInt ≤ 9999 := btt0_2; have t2 : t0_2.toInt ≤ lx25.toInt := i41; omega), (by have t1 : -1 ≤ t0_2.toInt ∧ t0_2.toInt ≤ 9999 := btt0_2; have t2 : lx25.toInt ≤ t0_2.toInt := i42; omega)⟩ ⟨(by have t1 : -1 ≤ t0_3.toInt ∧ t0_3.toInt ≤ 9999 := btt0_3; have t2 : t0_3.toInt ≤ lx26.toInt := i43; omega), (by have t1 : -1 ≤ t0_3.toInt ∧ t0_3.toInt ≤ 9999 := btt0_3; have t2 : lx26.toInt ≤ t0_3.toInt := i44; omega)⟩ ⟨(by have t1 : 0 ≤ t0_6.toInt ∧ t0_6.toInt ≤ 1 := btt0_6; have t2 : t0_6.toInt ≤ lx29.toInt := i48; omega), (by have t1 : 0 ≤ t0_6.toInt ∧ t0_6.toInt ≤ 1 := btt0_6; have t2 : lx29.toInt ≤ t0_6.toInt := i49; omega)⟩
      replace hO31 := (hu58 _ (by decide)).trans hO31
      replace hF := q_us hF hu58 (by simp)
      exact q_retv C0 V (⟨hI, hF, (-1), lx24, lx25, lx26, lx27, t0_5, lx29, hO30, (show 0 ≤ (-1 : Int32).toInt + 1 from (by have z8 : (-1 : Int32).toInt = -1 := rfl; omega)), (show (-1 : Int32).toInt ≤ 9999 from (by have z8 : (-1 : Int32).toInt = -1 := rfl; omega)), (show t0_1.toInt ≤ lx24.toInt from (by have z8 : (-1 : Int32).toInt = -1 := rfl; have t1 : t0_1.toInt ≤ lx24.toInt := i39; omega)), (show lx24.toInt ≤ t0_1.toInt from (by have z8 : (-1 : Int32).toInt = -1 := rfl; have t1 : lx24.toInt ≤ t0_1.toInt := i40; omega)), (show t0_2.toInt ≤ lx25.toInt from (by have z8 : (-1 : Int32).toInt = -1 := rfl; have t1 : t0_2.toInt ≤ lx25.toInt := i41; omega)), (show lx25.toInt ≤ t0_2.toInt from (by have z8 : (-1 : Int32).toInt = -1 := rfl; have t1 : lx25.toInt ≤ t0_2.toInt := i42; omega)), (show t0_3.toInt ≤ lx26.toInt from (by have z8 : (-1 : Int32).toInt = -1 := rfl; have t1 : t0_3.toInt ≤ lx26.toInt := i43; omega)), (show lx26.toInt ≤ t0_3.toInt from (by have z8 : (-1 : Int32).toInt = -1 := rfl; have t1 : lx26.toInt ≤ t0_3.toInt := i44; omega)), (show t0_4.toInt ≤ lx27.toInt from (by have z8 : (-1 : Int32).toInt = -1 := rfl; have t1 : t0_4.toInt ≤ lx27.toInt := i45; omega)), (show lx27.toInt ≤ t0_4.toInt from (by have z8 : (-1 : Int32).toInt = -1 := rfl; have t1 : lx27.toInt ≤ t0_4.toInt := i46; omega)), (show t0_6.toInt ≤ lx29.toInt from (by have z8 : (-1 : Int32).toInt = -1 := rfl; have t1 : t0_6.toInt ≤ lx29.toInt := i48; omega)), (show lx29.toInt ≤ t0_6.toInt from (by have z8 : (-1 : Int32).toInt = -1 := rfl; have t1 : lx29.toInt ≤ t0_6.toInt := i49; omega))⟩) d_6_4_76
    ·
      have b59 : q_F (lx22.toInt ≠ (-1)) := (q_neI c53)
      refine lv_aload_n hx hb d_6_4_36 rfl (lv_at hl 1 rfl) ?_
      refine q_get (ci := 10) (j := 6) (v := .ref (q 1)) C0 V i_Dir rfl rfl hO30 (by decide) w_365 rfl d_6_4_37 ?_
      refine lv_aload_n hx hb d_6_4_40 rfl (lv_at hl 1 rfl) ?_
      refine q_get (ci := 10) (j := 5) (v := .int lx28) C0 V i_Dir rfl rfl hO30 (by decide) w_363 rfl d_6_4_41 ?_
      refine lv_i2l hx hb d_6_4_44 rfl ?_
      obtain ⟨j60, e61⟩ := q_nm (lx28.toInt64 : Int64)
      refine q_tl (v := j60) e61 ?_
      have b62 : q_F (j60.toInt = lx28.toInt) := (by rw [← e61]; show (lx28.toInt64 : Int64).toInt = lx28.toInt; exact q_i2l rfl)
      refine q_goi V (q_runV (As := [.long j60]) (rest := []) (d := 1) (mc := 0) (ms := 0) (ci := 1) C0 V rfl LV_Dir_46 (T_She_at l D g q w51 1 4100 513 4100 (n_h1 g q) j60 hI   _) rfl rfl hO31 rfl hl.1 rfl (Nat.le_of_ble_eq_true rfl) ⟨by decide, by decide⟩ ⟨Nat.le_of_ble_eq_true rfl, Nat.le_of_ble_eq_true rfl⟩ d_6_4_45) (fun a65 u63 H locs hp64 V => ?_)
      obtain ⟨rfl, b66, b67, pu68⟩ := hp64
      replace b66 : q_F (0 ≤ a65.toInt) := b66
      replace b67 : q_F (a65.toInt ≤ 255) := b67
      refine lv_bipush (v := 36) hx hb d_6_4_48 (by decide) ?_
      refine lv_icmp_ne (tgt := 66) hx hb d_6_4_50 (by decide) (fun c70 => ?_) (fun c70 => ?_)
      ·
        have b71 : q_F (a65.toInt ≠ 36) := (q_neI c70)
        refine lv_aload_n hx hb d_6_4_66 rfl (lv_at hl 1 rfl) ?_
        refine lv_iconst (v := (-1)) hx hb d_6_4_67 (by decide) ?_
        refine q_put (ci := 10) (j := 0) (v := .int (-1)) (ty := .int) C0 V i_Dir o_Dir n_Dir rfl rfl hO30 (by decide) w_354 rfl rfl rfl rfl (Nat.le_of_ble_eq_true rfl) d_6_4_68 (fun H locs w72 hu73 hO30 V => ?_)
        replace hO30 : w72[47]? = (some (q 47, .inr (10, [.int (-1), .int lx24, .int lx25, .int lx26, .int lx27, .int lx28, .ref (q 1), .int lx29])) : Option (Nat × va_E)) := hO30
        replace hI := n_p47 hI hu73 hO30 ⟨(by have t1 : -1 ≤ t0_2.toInt ∧ t0_2.toInt ≤ 9999 := btt0_2; have t2 : t0_2.toInt ≤ lx25.toInt := i41; omega), (by have t1 : -1 ≤ t0_2.toInt ∧ t0_2.toInt ≤ 9999 := btt0_2; have t2 : lx25.toInt ≤ t0_2.toInt := i42; omega)⟩ ⟨(by have t1 : -1 ≤ t0_3.toInt ∧ t0_3.toInt ≤ 9999 := btt0_3; have t2 : t0_3.toInt ≤ lx26.toInt := i43; omega), (by have t1 : -1 ≤ t0_3.toInt ∧ t0_3.toInt ≤ 9999 := btt0_3; have t2 : lx26.toInt ≤ t0_3.toInt := i44; omega)⟩ ⟨(by have t1 : 0 ≤ t0_6.toInt ∧ t0_6.toInt ≤ 1 := btt0_6; have t2 : t0_6.toInt ≤ lx29.toInt := i48; omega), (by have t1 : 0 ≤ t0_6.toInt ∧ t0_6.toInt ≤ 1 := btt0_6; have t2 : lx29.toInt ≤ t0_6.toInt := i49; omega)⟩
        replace hO31 := (hu73 _ (by decide)).trans hO31
        replace hF := q_us hF hu73 (by simp)
        refine lv_aload_n hx hb d_6_4_71 rfl (lv_at hl 1 rfl) ?_
        refine lv_iload_n hx hb d_6_4_72 rfl (lv_at hl 0 rfl) ?_
        refine q_put (ci := 10) (j := 5) (v := .int t0_5) (ty := .int) C0 V i_Dir o_Dir n_Dir rfl rfl hO30 (by decide) w_363 rfl rfl rfl rfl (Nat.le_of_ble_eq_true rfl) d_6_4_73 (fun H locs w74 hu75 hO30 V => ?_)
        replace hO30 : w74[47]? = (some (q 47, .inr (10, [.int (-1), .int lx24, .int lx25, .int lx26, .int lx27, .int t0_5, .ref (q 1), .int lx29])) : Option (Nat × va_E)) := hO30
        replace hI := n_p47 hI hu75 hO30 ⟨(by have t1 : -1 ≤ t0_2.toInt ∧ t0_2.toInt ≤ 9999 := btt0_2; have t2 : t0_2.toInt ≤ lx25.toInt := i41; omega), (by have t1 : -1 ≤ t0_2.toInt ∧ t0_2.toInt ≤ 9999 := btt0_2; have t2 : lx25.toInt ≤ t0_2.toInt := i42; omega)⟩ ⟨(by have t1 : -1 ≤ t0_3.toInt ∧ t0_3.toInt ≤ 9999 := btt0_3; have t2 : t0_3.toInt ≤ lx26.toInt := i43; omega), (by have t1 : -1 ≤ t0_3.toInt ∧ t0_3.toInt ≤ 9999 := btt0_3; have t2 : lx26.toInt ≤ t0_3.toInt := i44; omega)⟩ ⟨(by have t1 : 0 ≤ t0_6.toInt ∧ t0_6.toInt ≤ 1 := btt0_6; have t2 : t0_6.toInt ≤ lx29.toInt := i48; omega), (by have t1 : 0 ≤ t0_6.toInt ∧ t0_6.toInt ≤ 1 := btt0_6; have t2 : lx29.toInt ≤ t0_6.toInt := i49; omega)⟩
        replace hO31 := (hu75 _ (by decide)).trans hO31
        replace hF := q_us hF hu75 (by simp)
        exact q_retv C0 V (⟨hI, hF, (-1), lx24, lx25, lx26, lx27, t0_5, lx29, hO30, (show 0 ≤ (-1 : Int32).toInt + 1 from (by have z8 : (-1 : Int32).toInt = -1 := rfl; omega)), (show (-1 : Int32).toInt ≤ 9999 from (by have z8 : (-1 : Int32).toInt = -1 := rfl; omega)), (show t0_1.toInt ≤ lx24.toInt from (by have z8 : (-1 : Int32).toInt = -1 := rfl; have t1 : t0_1.toInt ≤ lx24.toInt := i39; omega)), (show lx24.toInt ≤ t0_1.toInt from (by have z8 : (-1 : Int32).toInt = -1 := rfl; have t1 : lx24.toInt ≤ t0_1.toInt := i40; omega)), (show t0_2.toInt ≤ lx25.toInt from (by have z8 : (-1 : Int32).toInt = -1 := rfl; have t1 : t0_2.toInt ≤ lx25.toInt := i41; omega)), (show lx25.toInt ≤ t0_2.toInt from (by have z8 : (-1 : Int32).toInt = -1 := rfl; have t1 : lx25.toInt ≤ t0_2.toInt := i42; omega)), (show t0_3.toInt ≤ lx26.toInt from (by have z8 : (-1 : Int32).toInt = -1 := rfl; have t1 : t0_3.toInt ≤ lx26.toInt := i43; omega)), (show lx26.toInt ≤ t0_3.toInt from (by have z8 : (-1 : Int32).toInt = -1 := rfl; have t1 : lx26.toInt ≤ t0_3.toInt := i44; omega)), (show t0_4.toInt ≤ lx27.toInt from (by have z8 : (-1 : Int32).toInt = -1 := rfl; have t1 : t0_4.toInt ≤ lx27.toInt := i45; omega)), (show lx27.toInt ≤ t0_4.toInt from (by have z8 : (-1 : Int32).toInt = -1 := rfl; have t1 : lx27.toInt ≤ t0_4.toInt := i46; omega)), (show t0_6.toInt ≤ lx29.toInt from (by have z8 : (-1 : Int32).toInt = -1 := rfl; have t1 : t0_6.toInt ≤ lx29.toInt := i48; omega)), (show lx29.toInt ≤ t0_6.toInt from (by have z8 : (-1 : Int32).toInt = -1 := rfl; have t1 : lx29.toInt ≤ t0_6.toInt := i49; omega))⟩) d_6_4_76
      ·
        have b76 : q_F (a65.toInt = 36) := (q_eqI c70)
        refine lv_aload_n hx hb d_6_4_53 rfl (lv_at hl 1 rfl) ?_
        refine lv_dup hx hb d_6_4_54 rfl ?_
        refine q_get (ci := 10) (j := 5) (v := .int lx28) C0 V i_Dir rfl rfl hO30 (by decide) w_363 rfl d_6_4_55 ?_
        refine lv_iconst (v := 1) hx hb d_6_4_58 (by decide) ?_
        refine lv_iadd hx hb d_6_4_59 ?_
        obtain ⟨a77, e78⟩ := q_nm (lx28 + 1 : Int32)
        refine q_ti (v := a77) e78 ?_
        refine q_put (ci := 10) (j := 5) (v := .int a77) (ty := .int) C0 V i_Dir o_Dir n_Dir rfl rfl hO30 (by decide) w_363 rfl rfl rfl rfl (Nat.le_of_ble_eq_true rfl) d_6_4_60 (fun H locs w79 hu80 hO30 V => ?_)
        replace hO30 : w79[47]? = (some (q 47, .inr (10, [.int lx22, .int lx24, .int lx25, .int lx26, .int lx27, .int a77, .ref (q 1), .int lx29])) : Option (Nat × va_E)) := hO30
        replace hI := n_p47 hI hu80 hO30 ⟨(by have t1 : -1 ≤ t0_2.toInt ∧ t0_2.toInt ≤ 9999 := btt0_2; have t2 : t0_2.toInt ≤ lx25.toInt := i41; omega), (by have t1 : -1 ≤ t0_2.toInt ∧ t0_2.toInt ≤ 9999 := btt0_2; have t2 : lx25.toInt ≤ t0_2.toInt := i42; omega)⟩ ⟨(by have t1 : -1 ≤ t0_3.toInt ∧ t0_3.toInt ≤ 9999 := btt0_3; have t2 : t0_3.toInt ≤ lx26.toInt := i43; omega), (by have t1 : -1 ≤ t0_3.toInt ∧ t0_3.toInt ≤ 9999 := btt0_3; have t2 : lx26.toInt ≤ t0_3.toInt := i44; omega)⟩ ⟨(by have t1 : 0 ≤ t0_6.toInt ∧ t0_6.toInt ≤ 1 := btt0_6; have t2 : t0_6.toInt ≤ lx29.toInt := i48; omega), (by have t1 : 0 ≤ t0_6.toInt ∧ t0_6.toInt ≤ 1 := btt0_6; have t2 : lx29.toInt ≤ t0_6.toInt := i49; omega)⟩
        replace hO31 := (hu80 _ (by decide)).trans hO31
        replace hF := q_us hF hu80 (by simp)
        refine lv_goto (tgt := 76) hx hb d_6_4_63 (by decide) ?_
        exact q_retv C0 V (⟨hI, hF, lx22, lx24, lx25, lx26, lx27, a77, lx29, hO30, (show 0 ≤ lx22.toInt + 1 from (by have t1 : 0 ≤ lx22.toInt + 1 := i33; omega)), (show lx22.toInt ≤ 9999 from (by have t1 : lx22.toInt ≤ 9999 := i34; omega)), (show t0_1.toInt ≤ lx24.toInt from (by have t1 : t0_1.toInt ≤ lx24.toInt := i39; omega)), (show lx24.toInt ≤ t0_1.toInt from (by have t1 : lx24.toInt ≤ t0_1.toInt := i40; omega)), (show t0_2.toInt ≤ lx25.toInt from (by have t1 : t0_2.toInt ≤ lx25.toInt := i41; omega)), (show lx25.toInt ≤ t0_2.toInt from (by have t1 : lx25.toInt ≤ t0_2.toInt := i42; omega)), (show t0_3.toInt ≤ lx26.toInt from (by have t1 : t0_3.toInt ≤ lx26.toInt := i43; omega)), (show lx26.toInt ≤ t0_3.toInt from (by have t1 : lx26.toInt ≤ t0_3.toInt := i44; omega)), (show t0_4.toInt ≤ lx27.toInt from (by have t1 : t0_4.toInt ≤ lx27.toInt := i45; omega)), (show lx27.toInt ≤ t0_4.toInt from (by have t1 : lx27.toInt ≤ t0_4.toInt := i46; omega)), (show t0_6.toInt ≤ lx29.toInt from (by have t1 : t0_6.toInt ≤ lx29.toInt := i48; omega)), (show lx29.toInt ≤ t0_6.toInt from (by have t1 : lx29.toInt ≤ t0_6.toInt := i49; omega))⟩) d_6_4_76
  ·
    intro J32
    refine lv_if_le (tgt := 24) hx hb d_6_4_14 (by decide) (fun c81 => ?_) (fun c81 => ?_)
    ·
      have b82 : q_F (a17.toInt ≤ 0) := (q_leI c81)
      refine lv_iconst (v := (-1)) hx hb d_6_4_24 (by decide) ?_
      exact J32 (((-1) : Int32), (t0_0 : Int32), (t0_1 : Int32), (t0_2 : Int32), (t0_3 : Int32), (t0_4 : Int32), (t0_5 : Int32), (t0_6 : Int32)) _ _ _ _ ⟨(show q_F (0 ≤ (-1) + 1) from (show 0 ≤ (-1) + 1 from by omega)), (show q_F ((-1) ≤ 9999) from (show (-1) ≤ 9999 from by omega)), (show q_F (a17.toInt ≤ (-1) + 9) from (show a17.toInt ≤ (-1) + 9 from by have t1 : a17.toInt ≤ 0 := b82; omega)), (show q_F ((-1) ≤ a17.toInt + 9998) from (show (-1) ≤ a17.toInt + 9998 from by have t1 : 0 ≤ a17.toInt + 1 := b18; omega)), (show q_F (t0_0.toInt ≤ t0_0.toInt) from (show t0_0.toInt ≤ t0_0.toInt from by omega)), (show q_F (t0_0.toInt ≤ t0_0.toInt) from (show t0_0.toInt ≤ t0_0.toInt from by omega)), (show q_F (t0_1.toInt ≤ t0_1.toInt) from (show t0_1.toInt ≤ t0_1.toInt from by omega)), (show q_F (t0_1.toInt ≤ t0_1.toInt) from (show t0_1.toInt ≤ t0_1.toInt from by omega)), (show q_F (t0_2.toInt ≤ t0_2.toInt) from (show t0_2.toInt ≤ t0_2.toInt from by omega)), (show q_F (t0_2.toInt ≤ t0_2.toInt) from (show t0_2.toInt ≤ t0_2.toInt from by omega)), (show q_F (t0_3.toInt ≤ t0_3.toInt) from (show t0_3.toInt ≤ t0_3.toInt from by omega)), (show q_F (t0_3.toInt ≤ t0_3.toInt) from (show t0_3.toInt ≤ t0_3.toInt from by omega)), (show q_F (t0_4.toInt ≤ t0_4.toInt) from (show t0_4.toInt ≤ t0_4.toInt from by omega)), (show q_F (t0_4.toInt ≤ t0_4.toInt) from (show t0_4.toInt ≤ t0_4.toInt from by omega)), (show q_F (t0_5.toInt ≤ t0_5.toInt) from (show t0_5.toInt ≤ t0_5.toInt from by omega)), (show q_F (t0_6.toInt ≤ t0_6.toInt) from (show t0_6.toInt ≤ t0_6.toInt from by omega)), (show q_F (t0_6.toInt ≤ t0_6.toInt) from (show t0_6.toInt ≤ t0_6.toInt from by omega)), V, q_lw hl (q_lw1 0 rfl (q_lw1 1 rfl q_lw0)), hI, hF, hT0, hT1⟩
    ·
      have b83 : q_F (0 < a17.toInt) := (q_nleI c81)
      refine lv_aload_n hx hb d_6_4_17 rfl (lv_at hl 1 rfl) ?_
      refine q_goi V (q_runV (As := []) (rest := [.ref (q 47)]) (d := 3) (mc := 0) (ms := 0) (ci := 10) C0 V rfl LV_Dir_36 (T_Dir_takeNumber l D g q ws   hI t0_0 t0_1 t0_2 t0_3 t0_4 t0_5 t0_6 hT0 t1_0 hT1  _) rfl rfl hT0 rfl hl.1 rfl (Nat.le_of_ble_eq_true rfl) ⟨by decide, by decide⟩ ⟨Nat.le_of_ble_eq_true rfl, Nat.le_of_ble_eq_true rfl⟩ d_6_4_18) (fun a86 u84 H locs hp85 V => ?_)
      obtain ⟨hI, hu111, y88, y89, y90, y91, y92, y93, y94, hO87, b95, b96, b97, b98, b99, b100, b101, b102, b103, b104, b105, b106, b107, b108, b109⟩ := hp85
      replace hO87 : u84[47]? = (some (q 47, .inr (10, [.int y88, .int y89, .int y90, .int y91, .int y92, .int y93, .ref (q 1), .int y94])) : Option (Nat × va_E)) := hO87
      replace b95 : q_F (0 ≤ a86.toInt) := b95
      replace b96 : q_F (a86.toInt ≤ 9999) := b96
      replace b97 : q_F (t0_0.toInt ≤ y88.toInt) := b97
      replace b98 : q_F (y88.toInt ≤ t0_0.toInt) := b98
      replace b99 : q_F (t0_1.toInt ≤ y89.toInt) := b99
      replace b100 : q_F (y89.toInt ≤ t0_1.toInt) := b100
      replace b101 : q_F (t0_2.toInt ≤ y90.toInt) := b101
      replace b102 : q_F (y90.toInt ≤ t0_2.toInt) := b102
      replace b103 : q_F (t0_3.toInt ≤ y91.toInt) := b103
      replace b104 : q_F (y91.toInt ≤ t0_3.toInt) := b104
      replace b105 : q_F (t0_4.toInt ≤ y92.toInt) := b105
      replace b106 : q_F (y92.toInt ≤ t0_4.toInt) := b106
      replace b107 : q_F (t0_5.toInt ≤ y93.toInt) := b107
      replace b108 : q_F (t0_6.toInt ≤ y94.toInt) := b108
      replace b109 : q_F (y94.toInt ≤ t0_6.toInt) := b109
      replace hT1 := (hu111 _ (by decide)).trans hT1
      replace hF := q_uc hF hu111 (by simp)
      refine lv_goto (tgt := 25) hx hb d_6_4_21 (by decide) ?_
      exact J32 ((a86 : Int32), (y88 : Int32), (y89 : Int32), (y90 : Int32), (y91 : Int32), (y92 : Int32), (y93 : Int32), (y94 : Int32)) _ _ _ _ ⟨(show q_F (0 ≤ a86.toInt + 1) from (show 0 ≤ a86.toInt + 1 from by have t1 : 0 ≤ a86.toInt := b95; omega)), (show q_F (a86.toInt ≤ 9999) from (show a86.toInt ≤ 9999 from by have t1 : a86.toInt ≤ 9999 := b96; omega)), (show q_F (a17.toInt ≤ a86.toInt + 9) from (show a17.toInt ≤ a86.toInt + 9 from by have t1 : a17.toInt ≤ 9 := b19; have t2 : 0 ≤ a86.toInt := b95; omega)), (show q_F (a86.toInt ≤ a17.toInt + 9998) from (show a86.toInt ≤ a17.toInt + 9998 from by have t1 : 0 < a17.toInt := b83; have t2 : a86.toInt ≤ 9999 := b96; omega)), (show q_F (t0_0.toInt ≤ y88.toInt) from (show t0_0.toInt ≤ y88.toInt from by have t1 : t0_0.toInt ≤ y88.toInt := b97; omega)), (show q_F (y88.toInt ≤ t0_0.toInt) from (show y88.toInt ≤ t0_0.toInt from by have t1 : y88.toInt ≤ t0_0.toInt := b98; omega)), (show q_F (t0_1.toInt ≤ y89.toInt) from (show t0_1.toInt ≤ y89.toInt from by have t1 : t0_1.toInt ≤ y89.toInt := b99; omega)), (show q_F (y89.toInt ≤ t0_1.toInt) from (show y89.toInt ≤ t0_1.toInt from by have t1 : y89.toInt ≤ t0_1.toInt := b100; omega)), (show q_F (t0_2.toInt ≤ y90.toInt) from (show t0_2.toInt ≤ y90.toInt from by have t1 : t0_2.toInt ≤ y90.toInt := b101; omega)), (show q_F (y90.toInt ≤ t0_2.toInt) from (show y90.toInt ≤ t0_2.toInt from by have t1 : y90.toInt ≤ t0_2.toInt := b102; omega)), (show q_F (t0_3.toInt ≤ y91.toInt) from (show t0_3.toInt ≤ y91.toInt from by have t1 : t0_3.toInt ≤ y91.toInt := b103; omega)), (show q_F (y91.toInt ≤ t0_3.toInt) from (show y91.toInt ≤ t0_3.toInt from by have t1 : y91.toInt ≤ t0_3.toInt := b104; omega)), (show q_F (t0_4.toInt ≤ y92.toInt) from (show t0_4.toInt ≤ y92.toInt from by have t1 : t0_4.toInt ≤ y92.toInt := b105; omega)), (show q_F (y92.toInt ≤ t0_4.toInt) from (show y92.toInt ≤ t0_4.toInt from by have t1 : y92.toInt ≤ t0_4.toInt := b106; omega)), (show q_F (t0_5.toInt ≤ y93.toInt) from (show t0_5.toInt ≤ y93.toInt from by have t1 : t0_5.toInt ≤ y93.toInt := b107; omega)), (show q_F (t0_6.toInt ≤ y94.toInt) from (show t0_6.toInt ≤ y94.toInt from by have t1 : t0_6.toInt ≤ y94.toInt := b108; omega)), (show q_F (y94.toInt ≤ t0_6.toInt) from (show y94.toInt ≤ t0_6.toInt from by have t1 : y94.toInt ≤ t0_6.toInt := b109; omega)), V, q_lw hl (q_lw1 0 rfl (q_lw1 1 rfl q_lw0)), hI, hF, hO87, hT1⟩
theorem d_6_5_0 : decode prog_6_method_5_code 0 = .ok (.aload_n 0, 1) := by decide +kernel
theorem d_6_5_1 : decode prog_6_method_5_code 1 = .ok (.getfield 15, 3) := by decide +kernel
theorem d_6_5_4 : decode prog_6_method_5_code 4 = .ok (.aload_n 0, 1) := by decide +kernel
theorem d_6_5_5 : decode prog_6_method_5_code 5 = .ok (.getfield 9, 3) := by decide +kernel
theorem d_6_5_8 : decode prog_6_method_5_code 8 = .ok (.getfield 52, 3) := by decide +kernel
theorem d_6_5_11 : decode prog_6_method_5_code 11 = .ok (.if_icmp .ge 68, 3) := by decide +kernel
theorem d_6_5_79 : decode prog_6_method_5_code 79 = .ok (.return_, 1) := by decide +kernel
theorem d_6_5_14 : decode prog_6_method_5_code 14 = .ok (.ldc 61, 2) := by decide +kernel
theorem d_6_5_16 : decode prog_6_method_5_code 16 = .ok (.aload_n 0, 1) := by decide +kernel
theorem d_6_5_17 : decode prog_6_method_5_code 17 = .ok (.getfield 9, 3) := by decide +kernel
theorem d_6_5_20 : decode prog_6_method_5_code 20 = .ok (.aload_n 0, 1) := by decide +kernel
theorem d_6_5_21 : decode prog_6_method_5_code 21 = .ok (.getfield 15, 3) := by decide +kernel
theorem d_6_5_24 : decode prog_6_method_5_code 24 = .ok (.i2l, 1) := by decide +kernel
theorem d_6_5_25 : decode prog_6_method_5_code 25 = .ok (.invokevirtual 46, 3) := by decide +kernel
theorem d_6_5_28 : decode prog_6_method_5_code 28 = .ok (.i2c, 1) := by decide +kernel
theorem d_6_5_29 : decode prog_6_method_5_code 29 = .ok (.invokevirtual 63, 3) := by decide +kernel
theorem d_6_5_32 : decode prog_6_method_5_code 32 = .ok (.istore_n 1, 1) := by decide +kernel
theorem d_6_5_33 : decode prog_6_method_5_code 33 = .ok (.iload_n 1, 1) := by decide +kernel
theorem d_6_5_34 : decode prog_6_method_5_code 34 = .ok (.ifCond .ge 4, 3) := by decide +kernel
theorem d_6_5_38 : decode prog_6_method_5_code 38 = .ok (.aload_n 0, 1) := by decide +kernel
theorem d_6_5_39 : decode prog_6_method_5_code 39 = .ok (.dup, 1) := by decide +kernel
theorem d_6_5_40 : decode prog_6_method_5_code 40 = .ok (.getfield 22, 3) := by decide +kernel
set_option maxRecDepth 100000 in
theorem w_366 : (Cond.fieldLink "NumberHouse$Directive" (22 : Nat) "NumberHouse$Directive" "twice" "Z") ∈ q_tbl := q_of2 126 rfl (by decide +kernel)
theorem d_6_5_43 : decode prog_6_method_5_code 43 = .ok (.aload_n 0, 1) := by decide +kernel
theorem d_6_5_44 : decode prog_6_method_5_code 44 = .ok (.iconst 1, 1) := by decide +kernel
theorem d_6_5_45 : decode prog_6_method_5_code 45 = .ok (.iload_n 1, 1) := by decide +kernel
theorem d_6_5_46 : decode prog_6_method_5_code 46 = .ok (.ishl, 1) := by decide +kernel
theorem d_6_5_47 : decode prog_6_method_5_code 47 = .ok (.invokevirtual 68, 3) := by decide +kernel
set_option maxRecDepth 100000 in
theorem w_1807 : (Cond.code ({ cls := "NumberHouse$Directive", name := "has", desc := "(I)Z" } : MethodName) prog_6_method_8_code (2 : Nat) (some .boolean)) ∈ q_tbl := q_of8 127 rfl (by decide +kernel)
set_option maxRecDepth 100000 in
theorem w_1804 : (Cond.methodLink "NumberHouse$Directive" (68 : Nat) ({ cls := "NumberHouse$Directive", name := "has", desc := "(I)Z" } : MethodName)) ∈ q_tbl := q_of8 124 rfl (by decide +kernel)
set_option maxRecDepth 100000 in
theorem w_1805 : (Cond.instanceMethod ({ cls := "NumberHouse$Directive", name := "has", desc := "(I)Z" } : MethodName)) ∈ q_tbl := q_of8 125 rfl (by decide +kernel)
set_option maxRecDepth 100000 in
theorem w_1806 : (Cond.selects "NumberHouse$Directive" ({ cls := "NumberHouse$Directive", name := "has", desc := "(I)Z" } : MethodName) ({ cls := "NumberHouse$Directive", name := "has", desc := "(I)Z" } : MethodName)) ∈ q_tbl := q_of8 126 rfl (by decide +kernel)
theorem LV_Dir_68 : q_LV "NumberHouse$Directive" 68 y_Dir_has prog_6_method_8_code 2 (some .boolean) 1 := ⟨w_1807, w_13, w_1804, w_1805, w_1806, ⟨by decide, by decide, by decide +kernel⟩⟩
theorem d_6_5_50 : decode prog_6_method_5_code 50 = .ok (.ior, 1) := by decide +kernel
theorem d_6_5_51 : decode prog_6_method_5_code 51 = .ok (.putfield 22, 3) := by decide +kernel
theorem d_6_5_54 : decode prog_6_method_5_code 54 = .ok (.aload_n 0, 1) := by decide +kernel
theorem d_6_5_55 : decode prog_6_method_5_code 55 = .ok (.dup, 1) := by decide +kernel
theorem d_6_5_56 : decode prog_6_method_5_code 56 = .ok (.getfield 19, 3) := by decide +kernel
theorem d_6_5_59 : decode prog_6_method_5_code 59 = .ok (.iconst 1, 1) := by decide +kernel
theorem d_6_5_60 : decode prog_6_method_5_code 60 = .ok (.iload_n 1, 1) := by decide +kernel
theorem d_6_5_61 : decode prog_6_method_5_code 61 = .ok (.ishl, 1) := by decide +kernel
theorem d_6_5_62 : decode prog_6_method_5_code 62 = .ok (.ior, 1) := by decide +kernel
theorem d_6_5_63 : decode prog_6_method_5_code 63 = .ok (.putfield 19, 3) := by decide +kernel
theorem d_6_5_66 : decode prog_6_method_5_code 66 = .ok (.aload_n 0, 1) := by decide +kernel
theorem d_6_5_67 : decode prog_6_method_5_code 67 = .ok (.dup, 1) := by decide +kernel
theorem d_6_5_68 : decode prog_6_method_5_code 68 = .ok (.getfield 15, 3) := by decide +kernel
theorem d_6_5_71 : decode prog_6_method_5_code 71 = .ok (.iconst 1, 1) := by decide +kernel
theorem d_6_5_72 : decode prog_6_method_5_code 72 = .ok (.iadd, 1) := by decide +kernel
theorem d_6_5_73 : decode prog_6_method_5_code 73 = .ok (.putfield 15, 3) := by decide +kernel
theorem d_6_5_76 : decode prog_6_method_5_code 76 = .ok (.goto (-76), 3) := by decide +kernel
theorem d_6_5_37 : decode prog_6_method_5_code 37 = .ok (.return_, 1) := by decide +kernel
def y_Dir_takeFlags : MethodName := ⟨"NumberHouse$Directive", "takeFlags", "()V"⟩
set_option maxRecDepth 100000 in
set_option maxHeartbeats 4000000 in
theorem T_Dir_takeFlags (l : Launch) (D : va_G) (g : Nat → ClassId) (q : Nat → Nat) (ws : va_W) (hI : q_I (nsh g q) q ws) (t0_0 : Int32) (t0_1 : Int32) (t0_2 : Int32) (t0_3 : Int32) (t0_4 : Int32) (t0_5 : Int32) (t0_6 : Int32) (hT0 : ws[47]? = (some (q 47, .inr (10, [.int t0_0, .int t0_1, .int t0_2, .int t0_3, .int t0_4, .int t0_5, .ref (q 1), .int t0_6])) : Option (Nat × va_E))) (t1_0 : Int32) (hT1 : ws[1]? = (some (q 1, .inr (1, [.ref (q 2), .int 4100, .int t1_0])) : Option (Nat × va_E))) : q_mV l y_Dir_takeFlags prog_6_method_5_code 2 5 0 0 D g [.ref (q 47)] ws (fun u => q_I (nsh g q) q u ∧ q_un ws u [47] ∧ ∃ (u0_0 : Int32) (u0_1 : Int32) (u0_2 : Int32) (u0_3 : Int32) (u0_4 : Int32) (u0_5 : Int32) (u0_6 : Int32), u[47]? = (some (q 47, .inr (10, [.int u0_0, .int u0_1, .int u0_2, .int u0_3, .int u0_4, .int u0_5, .ref (q 1), .int u0_6])) : Option (Nat × va_E)) ∧ (0 ≤ u0_6.toInt) ∧ (u0_6.toInt ≤ 1) ∧ (t0_0.toInt ≤ u0_0.toInt) ∧ (u0_0.toInt ≤ t0_0.toInt) ∧ (t0_2.toInt ≤ u0_2.toInt) ∧ (u0_2.toInt ≤ t0_2.toInt) ∧ (t0_3.toInt ≤ u0_3.toInt) ∧ (u0_3.toInt ≤ t0_3.toInt) ∧ (t0_4.toInt ≤ u0_4.toInt) ∧ (u0_4.toInt ≤ t0_4.toInt) ∧ (t0_5.toInt ≤ u0_5.toInt)) := by
  intro sz
  refine q_into (by decide) (Nat.le_of_ble_eq_true rfl) ?_
  intro p e s m below meth c ls hsz C0 V hl
  have hx := C0.1
  have hb := C0.2.1
  obtain ⟨yy0_0, yy0_1, yy0_2, yy0_3, yy0_4, yy0_5, yy0_6, hh0, btt0_2, btt0_3, btt0_6⟩ := n_o47 hI
  obtain ⟨rfl, rfl, rfl, rfl, rfl, rfl, rfl⟩ : t0_0 = yy0_0 ∧ t0_1 = yy0_1 ∧ t0_2 = yy0_2 ∧ t0_3 = yy0_3 ∧ t0_4 = yy0_4 ∧ t0_5 = yy0_5 ∧ t0_6 = yy0_6 := by have z := Option.some.inj (hT0.symm.trans hh0); simpa using z
  replace btt0_2 : q_F (-1 ≤ t0_2.toInt ∧ t0_2.toInt ≤ 9999) := btt0_2
  replace btt0_3 : q_F (-1 ≤ t0_3.toInt ∧ t0_3.toInt ≤ 9999) := btt0_3
  replace btt0_6 : q_F (0 ≤ t0_6.toInt ∧ t0_6.toInt ≤ 1) := btt0_6
  obtain ⟨yy1_0, hh1, btt1_0⟩ := n_shO hI (n_h1 g q)
  obtain ⟨rfl⟩ : t1_0 = yy1_0 := by have z := Option.some.inj (hT1.symm.trans hh1); simpa using z
  replace btt1_0 : q_F (0 ≤ t1_0.toInt ∧ t1_0.toInt ≤ 4100) := btt1_0
  have hF : q_un ws ws [47] := q_u0
  have hl : lv_has ls 2 [(0, .ref (q 47))] := hl
  refine q_loop (X := Int32 × Int32 × Int32) (fun z H locs ls w23 => q_F (0 ≤ z.2.2.toInt) ∧ q_F (z.2.2.toInt ≤ 1) ∧ q_F (t0_5.toInt + t0_6.toInt ≤ z.2.1.toInt + z.2.2.toInt) ∧ q_F (z.2.2.toInt + t0_5.toInt ≤ z.2.1.toInt + t0_6.toInt) ∧ q_Wd D g (va_A ws sz) s w23 H locs ∧ lv_has ls 2 [(0, .ref (q 47))] ∧ q_I (nsh g q) q w23 ∧ q_un ws w23 [47] ∧ w23[47]? = (some (q 47, .inr (10, [.int t0_0, .int z.1, .int t0_2, .int t0_3, .int t0_4, .int z.2.1, .ref (q 1), .int z.2.2])) : Option (Nat × va_E)) ∧ w23[1]? = (some (q 1, .inr (1, [.ref (q 2), .int 4100, .int t1_0])) : Option (Nat × va_E))) (fun z => (4100 - z.2.1.toInt).toNat) ?_ ((t0_1 : Int32), (t0_5 : Int32), (t0_6 : Int32)) _ _ _ ws ⟨(show q_F (0 ≤ t0_6.toInt) from (show 0 ≤ t0_6.toInt from by have t1 : 0 ≤ t0_6.toInt ∧ t0_6.toInt ≤ 1 := btt0_6; omega)), (show q_F (t0_6.toInt ≤ 1) from (show t0_6.toInt ≤ 1 from by have t1 : 0 ≤ t0_6.toInt ∧ t0_6.toInt ≤ 1 := btt0_6; omega)), (show q_F (t0_5.toInt + t0_6.toInt ≤ t0_5.toInt + t0_6.toInt) from (show t0_5.toInt + t0_6.toInt ≤ t0_5.toInt + t0_6.toInt from by omega)), (show q_F (t0_6.toInt + t0_5.toInt ≤ t0_5.toInt + t0_6.toInt) from (show t0_6.toInt + t0_5.toInt ≤ t0_5.toInt + t0_6.toInt from by omega)), V, q_lw hl (q_lw1 0 rfl q_lw0), hI, hF, hT0, hT1⟩
  rintro ⟨lx15, lx16, lx17⟩ H locs ls w23 ⟨i18, i19, i20, i21, V, hl, hI, hF, hO24, hO25⟩ ih22
  replace i18 : q_F (0 ≤ lx17.toInt) := i18
  replace i19 : q_F (lx17.toInt ≤ 1) := i19
  replace i20 : q_F (t0_5.toInt + t0_6.toInt ≤ lx16.toInt + lx17.toInt) := i20
  replace i21 : q_F (lx17.toInt + t0_5.toInt ≤ lx16.toInt + t0_6.toInt) := i21
  replace hl : lv_has ls 2 [(0, .ref (q 47))] := hl
  replace hO24 : w23[47]? = (some (q 47, .inr (10, [.int t0_0, .int lx15, .int t0_2, .int t0_3, .int t0_4, .int lx16, .ref (q 1), .int lx17])) : Option (Nat × va_E)) := hO24
  replace hO25 : w23[1]? = (some (q 1, .inr (1, [.ref (q 2), .int 4100, .int t1_0])) : Option (Nat × va_E)) := hO25
  refine lv_aload_n hx hb d_6_5_0 rfl (lv_at hl 0 rfl) ?_
  refine q_get (ci := 10) (j := 5) (v := .int lx16) C0 V i_Dir rfl rfl hO24 (by decide) w_363 rfl d_6_5_1 ?_
  refine lv_aload_n hx hb d_6_5_4 rfl (lv_at hl 0 rfl) ?_
  refine q_get (ci := 10) (j := 6) (v := .ref (q 1)) C0 V i_Dir rfl rfl hO24 (by decide) w_365 rfl d_6_5_5 ?_
  refine q_get (ci := 1) (j := 2) (v := .int t1_0) C0 V i_She rfl rfl hO25 (by decide) w_57 rfl d_6_5_8 ?_
  refine lv_icmp_ge (tgt := 79) hx hb d_6_5_11 (by decide) (fun c26 => ?_) (fun c26 => ?_)
  ·
    have b27 : q_F (t1_0.toInt ≤ lx16.toInt) := (q_leI c26)
    exact q_retv C0 V (⟨hI, hF, t0_0, lx15, t0_2, t0_3, t0_4, lx16, lx17, hO24, (show 0 ≤ lx17.toInt from (by have t1 : 0 ≤ lx17.toInt := i18; omega)), (show lx17.toInt ≤ 1 from (by have t1 : lx17.toInt ≤ 1 := i19; omega)), (show t0_0.toInt ≤ t0_0.toInt from (by omega)), (show t0_0.toInt ≤ t0_0.toInt from (by omega)), (show t0_2.toInt ≤ t0_2.toInt from (by omega)), (show t0_2.toInt ≤ t0_2.toInt from (by omega)), (show t0_3.toInt ≤ t0_3.toInt from (by omega)), (show t0_3.toInt ≤ t0_3.toInt from (by omega)), (show t0_4.toInt ≤ t0_4.toInt from (by omega)), (show t0_4.toInt ≤ t0_4.toInt from (by omega)), (show t0_5.toInt ≤ lx16.toInt from (by have t1 : t0_5.toInt + t0_6.toInt ≤ lx16.toInt + lx17.toInt := i20; have t2 : lx17.toInt + t0_5.toInt ≤ lx16.toInt + t0_6.toInt := i21; omega))⟩) d_6_5_79
  ·
    have b28 : q_F (lx16.toInt < t1_0.toInt) := (q_nleI c26)
    refine q_ldcs (i := 0) C0 V rfl rfl d_6_5_14 ?_
    refine lv_aload_n hx hb d_6_5_16 rfl (lv_at hl 0 rfl) ?_
    refine q_get (ci := 10) (j := 6) (v := .ref (q 1)) C0 V i_Dir rfl rfl hO24 (by decide) w_365 rfl d_6_5_17 ?_
    refine lv_aload_n hx hb d_6_5_20 rfl (lv_at hl 0 rfl) ?_
    refine q_get (ci := 10) (j := 5) (v := .int lx16) C0 V i_Dir rfl rfl hO24 (by decide) w_363 rfl d_6_5_21 ?_
    refine lv_i2l hx hb d_6_5_24 rfl ?_
    obtain ⟨j29, e30⟩ := q_nm (lx16.toInt64 : Int64)
    refine q_tl (v := j29) e30 ?_
    have b31 : q_F (j29.toInt = lx16.toInt) := (by rw [← e30]; show (lx16.toInt64 : Int64).toInt = lx16.toInt; exact q_i2l rfl)
    refine q_goi V (q_runV (As := [.long j29]) (rest := [.ref (g (8 + 2 * 0))]) (d := 1) (mc := 0) (ms := 0) (ci := 1) C0 V rfl LV_Dir_46 (T_She_at l D g q w23 1 4100 513 4100 (n_h1 g q) j29 hI   _) rfl rfl hO25 rfl hl.1 rfl (Nat.le_of_ble_eq_true rfl) ⟨by decide, by decide⟩ ⟨Nat.le_of_ble_eq_true rfl, Nat.le_of_ble_eq_true rfl⟩ d_6_5_25) (fun a34 u32 H locs hp33 V => ?_)
    obtain ⟨rfl, b35, b36, pu37⟩ := hp33
    replace b35 : q_F (0 ≤ a34.toInt) := b35
    replace b36 : q_F (a34.toInt ≤ 255) := b36
    refine lv_i2c hx hb d_6_5_28 rfl ?_
    obtain ⟨a39, e40⟩ := q_nm ((a34.toUInt32 % 65536).toInt32 : Int32)
    refine q_ti (v := a39) e40 ?_
    have b41 : q_F (a39.toInt = a34.toInt) := (by rw [← e40]; show ((a34.toUInt32 % 65536).toInt32 : Int32).toInt = a34.toInt; exact (n_i2c (x := a34)).2.2 (by have t1 : 0 ≤ a34.toInt := b35; omega) (by have t1 : a34.toInt ≤ 255 := b36; omega))
    refine q_goi V (q_runVs (As := [.int a39]) (rest := []) (d := 4) (mc := 0) (ms := 0) (i := 0) C0 V rfl LV_Dir_63 (T_jStr_indexOf_II_0 l D g q w23  a39 hI   _) rfl rfl rfl hl.1 rfl (Nat.le_of_ble_eq_true rfl) ⟨by decide, by decide⟩ ⟨Nat.le_of_ble_eq_true rfl, Nat.le_of_ble_eq_true rfl⟩ d_6_5_29) (fun a44 u42 H locs hp43 V => ?_)
    obtain ⟨rfl, b45, b46⟩ := hp43
    replace b45 : q_F (0 ≤ a44.toInt + 1) := b45
    replace b46 : q_F (a44.toInt ≤ 7) := b46
    refine lv_istore_n (lv' := [(1, .int a44), (0, .ref (q 47))]) hx hb d_6_5_32 rfl hl (by decide) rfl (fun ls hl => ?_)
    refine lv_iload_n hx hb d_6_5_33 rfl (lv_at hl 0 rfl) ?_
    refine lv_if_ge (tgt := 38) hx hb d_6_5_34 (by decide) (fun c48 => ?_) (fun c48 => ?_)
    ·
      have b49 : q_F (0 ≤ a44.toInt) := (q_leI c48)
      refine lv_aload_n hx hb d_6_5_38 rfl (lv_at hl 1 rfl) ?_
      refine lv_dup hx hb d_6_5_39 rfl ?_
      refine q_get (ci := 10) (j := 7) (v := .int lx17) C0 V i_Dir rfl rfl hO24 (by decide) w_366 rfl d_6_5_40 ?_
      refine lv_aload_n hx hb d_6_5_43 rfl (lv_at hl 1 rfl) ?_
      refine lv_iconst (v := 1) hx hb d_6_5_44 (by decide) ?_
      refine lv_iload_n hx hb d_6_5_45 rfl (lv_at hl 0 rfl) ?_
      refine lv_ishl hx hb d_6_5_46 ?_
      obtain ⟨a50, e51⟩ := q_nm ((1 : Int32) <<< (a44 &&& 31) : Int32)
      refine q_ti (v := a50) e51 ?_
      have b52 : q_F (1 ≤ a50.toInt ∧ a50.toInt ≤ 128) := (by rw [← e51]; show 1 ≤ ((1 : Int32) <<< (a44 &&& 31) : Int32).toInt ∧ ((1 : Int32) <<< (a44 &&& 31) : Int32).toInt ≤ 128; exact (by have hh : a44.toInt = 0 ∨ a44.toInt = 1 ∨ a44.toInt = 2 ∨ a44.toInt = 3 ∨ a44.toInt = 4 ∨ a44.toInt = 5 ∨ a44.toInt = 6 ∨ a44.toInt = 7 := (by have t1 : 0 ≤ a44.toInt := b49; have t2 : a44.toInt ≤ 7 := b46; omega); rcases hh with h | h | h | h | h | h | h | h <;> first | (rw [show a44 = (0 : Int32) from q_Ieq (x := a44.toInt) (y := 0) rfl (by decide) h]; decide) | (rw [show a44 = (1 : Int32) from q_Ieq (x := a44.toInt) (y := 1) rfl (by decide) h]; decide) | (rw [show a44 = (2 : Int32) from q_Ieq (x := a44.toInt) (y := 2) rfl (by decide) h]; decide) | (rw [show a44 = (3 : Int32) from q_Ieq (x := a44.toInt) (y := 3) rfl (by decide) h]; decide) | (rw [show a44 = (4 : Int32) from q_Ieq (x := a44.toInt) (y := 4) rfl (by decide) h]; decide) | (rw [show a44 = (5 : Int32) from q_Ieq (x := a44.toInt) (y := 5) rfl (by decide) h]; decide) | (rw [show a44 = (6 : Int32) from q_Ieq (x := a44.toInt) (y := 6) rfl (by decide) h]; decide) | (rw [show a44 = (7 : Int32) from q_Ieq (x := a44.toInt) (y := 7) rfl (by decide) h]; decide)))
      refine q_goi V (q_runV (As := [.int a50]) (rest := [.int lx17, .ref (q 47)]) (d := 1) (mc := 0) (ms := 0) (ci := 10) C0 V rfl LV_Dir_68 (T_Dir_has l D g q w23  a50 hI   _) rfl rfl hO24 rfl hl.1 rfl (Nat.le_of_ble_eq_true rfl) ⟨by decide, by decide⟩ ⟨Nat.le_of_ble_eq_true rfl, Nat.le_of_ble_eq_true rfl⟩ d_6_5_47) (fun a55 u53 H locs hp54 V => ?_)
      obtain ⟨rfl, b56, b57⟩ := hp54
      replace b56 : q_F (0 ≤ a55.toInt) := b56
      replace b57 : q_F (a55.toInt ≤ 1) := b57
      refine lv_ior hx hb d_6_5_50 ?_
      obtain ⟨a59, e60⟩ := q_nm (lx17 ||| a55 : Int32)
      refine q_ti (v := a59) e60 ?_
      have b61 : q_F (0 ≤ a59.toInt ∧ a59.toInt ≤ 1) := (by rw [← e60]; show 0 ≤ (lx17 ||| a55 : Int32).toInt ∧ (lx17 ||| a55 : Int32).toInt ≤ 1; exact s_or' (x := lx17) (y := a55) 1 (by decide) 1 (by decide) ⟨(by have t1 : 0 ≤ lx17.toInt := i18; have t2 : lx17.toInt ≤ 1 := i19; omega), (by have t1 : 0 ≤ lx17.toInt := i18; have t2 : lx17.toInt ≤ 1 := i19; omega)⟩ ⟨(by have t1 : 0 ≤ a55.toInt := b56; have t2 : a55.toInt ≤ 1 := b57; omega), (by have t1 : 0 ≤ a55.toInt := b56; have t2 : a55.toInt ≤ 1 := b57; omega)⟩)
      refine q_put (ci := 10) (j := 7) (v := .int a59) (ty := .boolean) C0 V i_Dir o_Dir n_Dir rfl rfl hO24 (by decide) w_366 rfl rfl (q_nz01 (q_Ile (x := 0) (y := a59.toInt) (by decide) rfl (by have t1 : 0 ≤ a59.toInt ∧ a59.toInt ≤ 1 := b61; omega)) (q_Ile (x := a59.toInt) (y := 1) rfl (by decide) (by have t1 : 0 ≤ a59.toInt ∧ a59.toInt ≤ 1 := b61; omega))) (q_fz01 (q_Ile (x := 0) (y := a59.toInt) (by decide) rfl (by have t1 : 0 ≤ a59.toInt ∧ a59.toInt ≤ 1 := b61; omega)) (q_Ile (x := a59.toInt) (y := 1) rfl (by decide) (by have t1 : 0 ≤ a59.toInt ∧ a59.toInt ≤ 1 := b61; omega))) (Nat.le_of_ble_eq_true rfl) d_6_5_51 (fun H locs w62 hu63 hO24 V => ?_)
      replace hO24 : w62[47]? = (some (q 47, .inr (10, [.int t0_0, .int lx15, .int t0_2, .int t0_3, .int t0_4, .int lx16, .ref (q 1), .int a59])) : Option (Nat × va_E)) := hO24
      replace hI := n_p47 hI hu63 hO24 ⟨(by have t1 : -1 ≤ t0_2.toInt ∧ t0_2.toInt ≤ 9999 := btt0_2; omega), (by have t1 : -1 ≤ t0_2.toInt ∧ t0_2.toInt ≤ 9999 := btt0_2; omega)⟩ ⟨(by have t1 : -1 ≤ t0_3.toInt ∧ t0_3.toInt ≤ 9999 := btt0_3; omega), (by have t1 : -1 ≤ t0_3.toInt ∧ t0_3.toInt ≤ 9999 := btt0_3; omega)⟩ ⟨(by have t1 : 0 ≤ a59.toInt ∧ a59.toInt ≤ 1 := b61; omega), (by have t1 : 0 ≤ a59.toInt ∧ a59.toInt ≤ 1 := b61; omega)⟩
      replace hO25 := (hu63 _ (by decide)).trans hO25
      replace hF := q_us hF hu63 (by simp)
      refine lv_aload_n hx hb d_6_5_54 rfl (lv_at hl 1 rfl) ?_
      refine lv_dup hx hb d_6_5_55 rfl ?_
      refine q_get (ci := 10) (j := 1) (v := .int lx15) C0 V i_Dir rfl rfl hO24 (by decide) w_356 rfl d_6_5_56 ?_
      refine lv_iconst (v := 1) hx hb d_6_5_59 (by decide) ?_
      refine lv_iload_n hx hb d_6_5_60 rfl (lv_at hl 0 rfl) ?_
      refine lv_ishl hx hb d_6_5_61 ?_
      obtain ⟨a64, e65⟩ := q_nm ((1 : Int32) <<< (a44 &&& 31) : Int32)
      refine q_ti (v := a64) e65 ?_
      have b66 : q_F (1 ≤ a64.toInt ∧ a64.toInt ≤ 128) := (by rw [← e65]; show 1 ≤ ((1 : Int32) <<< (a44 &&& 31) : Int32).toInt ∧ ((1 : Int32) <<< (a44 &&& 31) : Int32).toInt ≤ 128; exact (by have hh : a44.toInt = 0 ∨ a44.toInt = 1 ∨ a44.toInt = 2 ∨ a44.toInt = 3 ∨ a44.toInt = 4 ∨ a44.toInt = 5 ∨ a44.toInt = 6 ∨ a44.toInt = 7 := (by have t1 : 0 ≤ a44.toInt := b49; have t2 : a44.toInt ≤ 7 := b46; omega); rcases hh with h | h | h | h | h | h | h | h <;> first | (rw [show a44 = (0 : Int32) from q_Ieq (x := a44.toInt) (y := 0) rfl (by decide) h]; decide) | (rw [show a44 = (1 : Int32) from q_Ieq (x := a44.toInt) (y := 1) rfl (by decide) h]; decide) | (rw [show a44 = (2 : Int32) from q_Ieq (x := a44.toInt) (y := 2) rfl (by decide) h]; decide) | (rw [show a44 = (3 : Int32) from q_Ieq (x := a44.toInt) (y := 3) rfl (by decide) h]; decide) | (rw [show a44 = (4 : Int32) from q_Ieq (x := a44.toInt) (y := 4) rfl (by decide) h]; decide) | (rw [show a44 = (5 : Int32) from q_Ieq (x := a44.toInt) (y := 5) rfl (by decide) h]; decide) | (rw [show a44 = (6 : Int32) from q_Ieq (x := a44.toInt) (y := 6) rfl (by decide) h]; decide) | (rw [show a44 = (7 : Int32) from q_Ieq (x := a44.toInt) (y := 7) rfl (by decide) h]; decide)))
      refine lv_ior hx hb d_6_5_62 ?_
      obtain ⟨a67, e68⟩ := q_nm (lx15 ||| a64 : Int32)
      refine q_ti (v := a67) e68 ?_
      refine q_put (ci := 10) (j := 1) (v := .int a67) (ty := .int) C0 V i_Dir o_Dir n_Dir rfl rfl hO24 (by decide) w_356 rfl rfl rfl rfl (Nat.le_of_ble_eq_true rfl) d_6_5_63 (fun H locs w69 hu70 hO24 V => ?_)
      replace hO24 : w69[47]? = (some (q 47, .inr (10, [.int t0_0, .int a67, .int t0_2, .int t0_3, .int t0_4, .int lx16, .ref (q 1), .int a59])) : Option (Nat × va_E)) := hO24
      replace hI := n_p47 hI hu70 hO24 ⟨(by have t1 : -1 ≤ t0_2.toInt ∧ t0_2.toInt ≤ 9999 := btt0_2; omega), (by have t1 : -1 ≤ t0_2.toInt ∧ t0_2.toInt ≤ 9999 := btt0_2; omega)⟩ ⟨(by have t1 : -1 ≤ t0_3.toInt ∧ t0_3.toInt ≤ 9999 := btt0_3; omega), (by have t1 : -1 ≤ t0_3.toInt ∧ t0_3.toInt ≤ 9999 := btt0_3; omega)⟩ ⟨(by have t1 : 0 ≤ a59.toInt ∧ a59.toInt ≤ 1 := b61; omega), (by have t1 : 0 ≤ a59.toInt ∧ a59.toInt ≤ 1 := b61; omega)⟩
      replace hO25 := (hu70 _ (by decide)).trans hO25
      replace hF := q_us hF hu70 (by simp)
      refine lv_aload_n hx hb d_6_5_66 rfl (lv_at hl 1 rfl) ?_
      refine lv_dup hx hb d_6_5_67 rfl ?_
      refine q_get (ci := 10) (j := 5) (v := .int lx16) C0 V i_Dir rfl rfl hO24 (by decide) w_363 rfl d_6_5_68 ?_
      refine lv_iconst (v := 1) hx hb d_6_5_71 (by decide) ?_
      refine lv_iadd hx hb d_6_5_72 ?_
      obtain ⟨a71, e72⟩ := q_nm (lx16 + 1 : Int32)
      refine q_ti (v := a71) e72 ?_
      have b73 : q_F (a71.toInt = lx16.toInt + 1) := (by rw [← e72]; show (lx16 + 1 : Int32).toInt = lx16.toInt + 1; exact q_addI (x := lx16.toInt) (y := 1) rfl (by decide) (by have _ := q_lo32 (x := lx16); have _ := q_hi32 (x := lx16); have t1 : lx16.toInt < t1_0.toInt := b28; have _ := q_lo32 (x := t1_0); have _ := q_hi32 (x := t1_0); omega) (by have _ := q_lo32 (x := lx16); have _ := q_hi32 (x := lx16); have t1 : lx16.toInt < t1_0.toInt := b28; have _ := q_lo32 (x := t1_0); have _ := q_hi32 (x := t1_0); omega))
      refine q_put (ci := 10) (j := 5) (v := .int a71) (ty := .int) C0 V i_Dir o_Dir n_Dir rfl rfl hO24 (by decide) w_363 rfl rfl rfl rfl (Nat.le_of_ble_eq_true rfl) d_6_5_73 (fun H locs w74 hu75 hO24 V => ?_)
      replace hO24 : w74[47]? = (some (q 47, .inr (10, [.int t0_0, .int a67, .int t0_2, .int t0_3, .int t0_4, .int a71, .ref (q 1), .int a59])) : Option (Nat × va_E)) := hO24
      replace hI := n_p47 hI hu75 hO24 ⟨(by have t1 : -1 ≤ t0_2.toInt ∧ t0_2.toInt ≤ 9999 := btt0_2; omega), (by have t1 : -1 ≤ t0_2.toInt ∧ t0_2.toInt ≤ 9999 := btt0_2; omega)⟩ ⟨(by have t1 : -1 ≤ t0_3.toInt ∧ t0_3.toInt ≤ 9999 := btt0_3; omega), (by have t1 : -1 ≤ t0_3.toInt ∧ t0_3.toInt ≤ 9999 := btt0_3; omega)⟩ ⟨(by have t1 : 0 ≤ a59.toInt ∧ a59.toInt ≤ 1 := b61; omega), (by have t1 : 0 ≤ a59.toInt ∧ a59.toInt ≤ 1 := b61; omega)⟩
      replace hO25 := (hu75 _ (by decide)).trans hO25
      replace hF := q_us hF hu75 (by simp)
      refine lv_goto (tgt := 0) hx hb d_6_5_76 (by decide) ?_
      exact ih22 ((a67 : Int32), (a71 : Int32), (a59 : Int32)) _ _ _ _ (show (4100 - a71.toInt).toNat < (4100 - lx16.toInt).toNat from by have t1 : a71.toInt = lx16.toInt + 1 := b73; have t2 : 0 ≤ t1_0.toInt ∧ t1_0.toInt ≤ 4100 := btt1_0; have t3 : lx16.toInt < t1_0.toInt := b28; omega) ⟨(show q_F (0 ≤ a59.toInt) from (show 0 ≤ a59.toInt from by have t1 : 0 ≤ a59.toInt ∧ a59.toInt ≤ 1 := b61; omega)), (show q_F (a59.toInt ≤ 1) from (show a59.toInt ≤ 1 from by have t1 : 0 ≤ a59.toInt ∧ a59.toInt ≤ 1 := b61; omega)), (show q_F (t0_5.toInt + t0_6.toInt ≤ a71.toInt + a59.toInt) from (show t0_5.toInt + t0_6.toInt ≤ a71.toInt + a59.toInt from by have t1 : 0 ≤ t0_6.toInt ∧ t0_6.toInt ≤ 1 := btt0_6; have t2 : t0_5.toInt + t0_6.toInt ≤ lx16.toInt + lx17.toInt := i20; have t3 : lx17.toInt + t0_5.toInt ≤ lx16.toInt + t0_6.toInt := i21; have t4 : 0 ≤ a59.toInt ∧ a59.toInt ≤ 1 := b61; have t5 : a71.toInt = lx16.toInt + 1 := b73; omega)), (show q_F (a59.toInt + t0_5.toInt ≤ a71.toInt + t0_6.toInt) from (show a59.toInt + t0_5.toInt ≤ a71.toInt + t0_6.toInt from by have t1 : 0 ≤ t0_6.toInt ∧ t0_6.toInt ≤ 1 := btt0_6; have t2 : t0_5.toInt + t0_6.toInt ≤ lx16.toInt + lx17.toInt := i20; have t3 : lx17.toInt + t0_5.toInt ≤ lx16.toInt + t0_6.toInt := i21; have t4 : 0 ≤ a59.toInt ∧ a59.toInt ≤ 1 := b61; have t5 : a71.toInt = lx16.toInt + 1 := b73; omega)), V, q_lw hl (q_lw1 1 rfl q_lw0), hI, hF, hO24, hO25⟩
    ·
      have b76 : q_F (a44.toInt < 0) := (q_nleI c48)
      exact q_retv C0 V (⟨hI, hF, t0_0, lx15, t0_2, t0_3, t0_4, lx16, lx17, hO24, (show 0 ≤ lx17.toInt from (by have t1 : 0 ≤ lx17.toInt := i18; omega)), (show lx17.toInt ≤ 1 from (by have t1 : lx17.toInt ≤ 1 := i19; omega)), (show t0_0.toInt ≤ t0_0.toInt from (by omega)), (show t0_0.toInt ≤ t0_0.toInt from (by omega)), (show t0_2.toInt ≤ t0_2.toInt from (by omega)), (show t0_2.toInt ≤ t0_2.toInt from (by omega)), (show t0_3.toInt ≤ t0_3.toInt from (by omega)), (show t0_3.toInt ≤ t0_3.toInt from (by omega)), (show t0_4.toInt ≤ t0_4.toInt from (by omega)), (show t0_4.toInt ≤ t0_4.toInt from (by omega)), (show t0_5.toInt ≤ lx16.toInt from (by have t1 : t0_5.toInt + t0_6.toInt ≤ lx16.toInt + lx17.toInt := i20; have t2 : lx17.toInt + t0_5.toInt ≤ lx16.toInt + t0_6.toInt := i21; omega))⟩) d_6_5_37
theorem d_6_2_0 : decode prog_6_method_2_code 0 = .ok (.aload_n 0, 1) := by decide +kernel
theorem d_6_2_1 : decode prog_6_method_2_code 1 = .ok (.iload_n 1, 1) := by decide +kernel
theorem d_6_2_2 : decode prog_6_method_2_code 2 = .ok (.iconst 1, 1) := by decide +kernel
theorem d_6_2_3 : decode prog_6_method_2_code 3 = .ok (.iadd, 1) := by decide +kernel
theorem d_6_2_4 : decode prog_6_method_2_code 4 = .ok (.putfield 15, 3) := by decide +kernel
theorem d_6_2_7 : decode prog_6_method_2_code 7 = .ok (.aload_n 0, 1) := by decide +kernel
theorem d_6_2_8 : decode prog_6_method_2_code 8 = .ok (.iconst 0, 1) := by decide +kernel
theorem d_6_2_9 : decode prog_6_method_2_code 9 = .ok (.putfield 19, 3) := by decide +kernel
theorem d_6_2_12 : decode prog_6_method_2_code 12 = .ok (.aload_n 0, 1) := by decide +kernel
theorem d_6_2_13 : decode prog_6_method_2_code 13 = .ok (.iconst 0, 1) := by decide +kernel
theorem d_6_2_14 : decode prog_6_method_2_code 14 = .ok (.putfield 22, 3) := by decide +kernel
theorem d_6_2_17 : decode prog_6_method_2_code 17 = .ok (.aload_n 0, 1) := by decide +kernel
theorem d_6_2_18 : decode prog_6_method_2_code 18 = .ok (.invokevirtual 26, 3) := by decide +kernel
set_option maxRecDepth 100000 in
theorem w_1742 : (Cond.code ({ cls := "NumberHouse$Directive", name := "takeIndex", desc := "()V" } : MethodName) prog_6_method_4_code (2 : Nat) (none : Option ClassFile.FieldType)) ∈ q_tbl := q_of8 62 rfl (by decide +kernel)
set_option maxRecDepth 100000 in
theorem w_1739 : (Cond.methodLink "NumberHouse$Directive" (26 : Nat) ({ cls := "NumberHouse$Directive", name := "takeIndex", desc := "()V" } : MethodName)) ∈ q_tbl := q_of8 59 rfl (by decide +kernel)
set_option maxRecDepth 100000 in
theorem w_1741 : (Cond.instanceMethod ({ cls := "NumberHouse$Directive", name := "takeIndex", desc := "()V" } : MethodName)) ∈ q_tbl := q_of8 61 rfl (by decide +kernel)
theorem ws_45 : Cond.selects "NumberHouse$Directive" (⟨"NumberHouse$Directive", "takeIndex", "()V"⟩ : MethodName) (⟨"NumberHouse$Directive", "takeIndex", "()V"⟩ : MethodName) ∈ q_tbl := q_ofs 45 (by decide +kernel) (by decide +kernel)
theorem LV_Dir_26 : q_LV "NumberHouse$Directive" 26 y_Dir_takeIndex prog_6_method_4_code 2 none 0 := ⟨w_1742, w_13, w_1739, w_1741, ws_45, ⟨by decide, by decide, by decide +kernel⟩⟩
theorem d_6_2_21 : decode prog_6_method_2_code 21 = .ok (.aload_n 0, 1) := by decide +kernel
theorem d_6_2_22 : decode prog_6_method_2_code 22 = .ok (.invokevirtual 29, 3) := by decide +kernel
set_option maxRecDepth 100000 in
theorem w_1756 : (Cond.code ({ cls := "NumberHouse$Directive", name := "takeFlags", desc := "()V" } : MethodName) prog_6_method_5_code (2 : Nat) (none : Option ClassFile.FieldType)) ∈ q_tbl := q_of8 76 rfl (by decide +kernel)
set_option maxRecDepth 100000 in
theorem w_1753 : (Cond.methodLink "NumberHouse$Directive" (29 : Nat) ({ cls := "NumberHouse$Directive", name := "takeFlags", desc := "()V" } : MethodName)) ∈ q_tbl := q_of8 73 rfl (by decide +kernel)
set_option maxRecDepth 100000 in
theorem w_1755 : (Cond.instanceMethod ({ cls := "NumberHouse$Directive", name := "takeFlags", desc := "()V" } : MethodName)) ∈ q_tbl := q_of8 75 rfl (by decide +kernel)
theorem ws_48 : Cond.selects "NumberHouse$Directive" (⟨"NumberHouse$Directive", "takeFlags", "()V"⟩ : MethodName) (⟨"NumberHouse$Directive", "takeFlags", "()V"⟩ : MethodName) ∈ q_tbl := q_ofs 48 (by decide +kernel) (by decide +kernel)
theorem LV_Dir_29 : q_LV "NumberHouse$Directive" 29 y_Dir_takeFlags prog_6_method_5_code 2 none 0 := ⟨w_1756, w_13, w_1753, w_1755, ws_48, ⟨by decide, by decide, by decide +kernel⟩⟩
theorem d_6_2_25 : decode prog_6_method_2_code 25 = .ok (.aload_n 0, 1) := by decide +kernel
theorem d_6_2_26 : decode prog_6_method_2_code 26 = .ok (.aload_n 0, 1) := by decide +kernel
theorem d_6_2_27 : decode prog_6_method_2_code 27 = .ok (.aload_n 0, 1) := by decide +kernel
theorem d_6_2_28 : decode prog_6_method_2_code 28 = .ok (.getfield 15, 3) := by decide +kernel
theorem d_6_2_31 : decode prog_6_method_2_code 31 = .ok (.invokevirtual 32, 3) := by decide +kernel
theorem d_6_2_45 : decode prog_6_method_2_code 45 = .ok (.putfield 40, 3) := by decide +kernel
theorem d_6_2_48 : decode prog_6_method_2_code 48 = .ok (.aload_n 0, 1) := by decide +kernel
theorem d_6_2_49 : decode prog_6_method_2_code 49 = .ok (.iconst (-1), 1) := by decide +kernel
theorem d_6_2_50 : decode prog_6_method_2_code 50 = .ok (.putfield 43, 3) := by decide +kernel
set_option maxRecDepth 100000 in
theorem w_359 : (Cond.fieldLink "NumberHouse$Directive" (43 : Nat) "NumberHouse$Directive" "precision" "I") ∈ q_tbl := q_of2 119 rfl (by decide +kernel)
theorem d_6_2_53 : decode prog_6_method_2_code 53 = .ok (.aload_n 0, 1) := by decide +kernel
theorem d_6_2_54 : decode prog_6_method_2_code 54 = .ok (.getfield 9, 3) := by decide +kernel
theorem d_6_2_57 : decode prog_6_method_2_code 57 = .ok (.aload_n 0, 1) := by decide +kernel
theorem d_6_2_58 : decode prog_6_method_2_code 58 = .ok (.getfield 15, 3) := by decide +kernel
theorem d_6_2_61 : decode prog_6_method_2_code 61 = .ok (.i2l, 1) := by decide +kernel
theorem d_6_2_62 : decode prog_6_method_2_code 62 = .ok (.invokevirtual 46, 3) := by decide +kernel
theorem d_6_2_65 : decode prog_6_method_2_code 65 = .ok (.bipush 46, 2) := by decide +kernel
theorem d_6_2_101 : decode prog_6_method_2_code 101 = .ok (.aload_n 0, 1) := by decide +kernel
theorem d_6_2_102 : decode prog_6_method_2_code 102 = .ok (.aload_n 0, 1) := by decide +kernel
theorem d_6_2_103 : decode prog_6_method_2_code 103 = .ok (.getfield 15, 3) := by decide +kernel
theorem d_6_2_106 : decode prog_6_method_2_code 106 = .ok (.aload_n 0, 1) := by decide +kernel
theorem d_6_2_107 : decode prog_6_method_2_code 107 = .ok (.getfield 9, 3) := by decide +kernel
theorem d_6_2_110 : decode prog_6_method_2_code 110 = .ok (.getfield 52, 3) := by decide +kernel
theorem d_6_2_113 : decode prog_6_method_2_code 113 = .ok (.if_icmp .ge 18, 3) := by decide +kernel
theorem d_6_2_131 : decode prog_6_method_2_code 131 = .ok (.iconst (-1), 1) := by decide +kernel
theorem d_6_2_132 : decode prog_6_method_2_code 132 = .ok (.putfield 55, 3) := by decide +kernel
theorem d_6_2_135 : decode prog_6_method_2_code 135 = .ok (.aload_n 0, 1) := by decide +kernel
theorem d_6_2_136 : decode prog_6_method_2_code 136 = .ok (.dup, 1) := by decide +kernel
theorem d_6_2_137 : decode prog_6_method_2_code 137 = .ok (.getfield 15, 3) := by decide +kernel
theorem d_6_2_140 : decode prog_6_method_2_code 140 = .ok (.iconst 1, 1) := by decide +kernel
theorem d_6_2_141 : decode prog_6_method_2_code 141 = .ok (.iadd, 1) := by decide +kernel
theorem d_6_2_142 : decode prog_6_method_2_code 142 = .ok (.putfield 15, 3) := by decide +kernel
theorem d_6_2_145 : decode prog_6_method_2_code 145 = .ok (.return_, 1) := by decide +kernel
theorem d_6_2_116 : decode prog_6_method_2_code 116 = .ok (.aload_n 0, 1) := by decide +kernel
theorem d_6_2_117 : decode prog_6_method_2_code 117 = .ok (.getfield 9, 3) := by decide +kernel
theorem d_6_2_120 : decode prog_6_method_2_code 120 = .ok (.aload_n 0, 1) := by decide +kernel
theorem d_6_2_121 : decode prog_6_method_2_code 121 = .ok (.getfield 15, 3) := by decide +kernel
theorem d_6_2_124 : decode prog_6_method_2_code 124 = .ok (.i2l, 1) := by decide +kernel
theorem d_6_2_125 : decode prog_6_method_2_code 125 = .ok (.invokevirtual 46, 3) := by decide +kernel
theorem d_6_2_128 : decode prog_6_method_2_code 128 = .ok (.goto 4, 3) := by decide +kernel
theorem d_6_2_67 : decode prog_6_method_2_code 67 = .ok (.if_icmp .ne 34, 3) := by decide +kernel
theorem d_6_2_70 : decode prog_6_method_2_code 70 = .ok (.aload_n 0, 1) := by decide +kernel
theorem d_6_2_71 : decode prog_6_method_2_code 71 = .ok (.aload_n 0, 1) := by decide +kernel
theorem d_6_2_72 : decode prog_6_method_2_code 72 = .ok (.getfield 15, 3) := by decide +kernel
theorem d_6_2_75 : decode prog_6_method_2_code 75 = .ok (.iconst 1, 1) := by decide +kernel
theorem d_6_2_76 : decode prog_6_method_2_code 76 = .ok (.iadd, 1) := by decide +kernel
theorem d_6_2_77 : decode prog_6_method_2_code 77 = .ok (.invokevirtual 32, 3) := by decide +kernel
theorem d_6_2_80 : decode prog_6_method_2_code 80 = .ok (.ifCond .lt 21, 3) := by decide +kernel
theorem d_6_2_83 : decode prog_6_method_2_code 83 = .ok (.aload_n 0, 1) := by decide +kernel
theorem d_6_2_84 : decode prog_6_method_2_code 84 = .ok (.dup, 1) := by decide +kernel
theorem d_6_2_85 : decode prog_6_method_2_code 85 = .ok (.getfield 15, 3) := by decide +kernel
theorem d_6_2_88 : decode prog_6_method_2_code 88 = .ok (.iconst 1, 1) := by decide +kernel
theorem d_6_2_89 : decode prog_6_method_2_code 89 = .ok (.iadd, 1) := by decide +kernel
theorem d_6_2_90 : decode prog_6_method_2_code 90 = .ok (.putfield 15, 3) := by decide +kernel
theorem d_6_2_93 : decode prog_6_method_2_code 93 = .ok (.aload_n 0, 1) := by decide +kernel
theorem d_6_2_94 : decode prog_6_method_2_code 94 = .ok (.aload_n 0, 1) := by decide +kernel
theorem d_6_2_95 : decode prog_6_method_2_code 95 = .ok (.invokevirtual 36, 3) := by decide +kernel
theorem d_6_2_98 : decode prog_6_method_2_code 98 = .ok (.putfield 43, 3) := by decide +kernel
theorem d_6_2_34 : decode prog_6_method_2_code 34 = .ok (.ifCond .le 10, 3) := by decide +kernel
theorem d_6_2_44 : decode prog_6_method_2_code 44 = .ok (.iconst (-1), 1) := by decide +kernel
theorem d_6_2_37 : decode prog_6_method_2_code 37 = .ok (.aload_n 0, 1) := by decide +kernel
theorem d_6_2_38 : decode prog_6_method_2_code 38 = .ok (.invokevirtual 36, 3) := by decide +kernel
theorem d_6_2_41 : decode prog_6_method_2_code 41 = .ok (.goto 4, 3) := by decide +kernel
def y_Dir_parse : MethodName := ⟨"NumberHouse$Directive", "parse", "(I)V"⟩
set_option maxRecDepth 100000 in
set_option maxHeartbeats 4000000 in
theorem T_Dir_parse (l : Launch) (D : va_G) (g : Nat → ClassId) (q : Nat → Nat) (ws : va_W) (x2 : Int32) (hI : q_I (nsh g q) q ws) (t0_0 : Int32) (t0_1 : Int32) (t0_2 : Int32) (t0_3 : Int32) (t0_4 : Int32) (t0_5 : Int32) (t0_6 : Int32) (hT0 : ws[47]? = (some (q 47, .inr (10, [.int t0_0, .int t0_1, .int t0_2, .int t0_3, .int t0_4, .int t0_5, .ref (q 1), .int t0_6])) : Option (Nat × va_E))) (t1_0 : Int32) (hT1 : ws[1]? = (some (q 1, .inr (1, [.ref (q 2), .int 4100, .int t1_0])) : Option (Nat × va_E))) : q_mV l y_Dir_parse prog_6_method_2_code 2 6 0 0 D g [.ref (q 47), .int x2] ws (fun u => q_I (nsh g q) q u ∧ q_un ws u [47] ∧ ∃ (u0_0 : Int32) (u0_1 : Int32) (u0_2 : Int32) (u0_3 : Int32) (u0_4 : Int32) (u0_5 : Int32) (u0_6 : Int32), u[47]? = (some (q 47, .inr (10, [.int u0_0, .int u0_1, .int u0_2, .int u0_3, .int u0_4, .int u0_5, .ref (q 1), .int u0_6])) : Option (Nat × va_E)) ∧ (0 ≤ u0_0.toInt + 1) ∧ (u0_0.toInt ≤ 9999) ∧ (0 ≤ u0_2.toInt + 1) ∧ (u0_2.toInt ≤ 9999) ∧ (0 ≤ u0_3.toInt + 1) ∧ (u0_3.toInt ≤ 9999) ∧ (0 ≤ u0_4.toInt + 1) ∧ (u0_4.toInt ≤ 255) ∧ (0 ≤ u0_6.toInt) ∧ (u0_6.toInt ≤ 1)) := by
  intro sz
  refine q_into (by decide) (Nat.le_of_ble_eq_true rfl) ?_
  intro p e s m below meth c ls hsz C0 V hl
  have hx := C0.1
  have hb := C0.2.1
  obtain ⟨yy0_0, yy0_1, yy0_2, yy0_3, yy0_4, yy0_5, yy0_6, hh0, btt0_2, btt0_3, btt0_6⟩ := n_o47 hI
  obtain ⟨rfl, rfl, rfl, rfl, rfl, rfl, rfl⟩ : t0_0 = yy0_0 ∧ t0_1 = yy0_1 ∧ t0_2 = yy0_2 ∧ t0_3 = yy0_3 ∧ t0_4 = yy0_4 ∧ t0_5 = yy0_5 ∧ t0_6 = yy0_6 := by have z := Option.some.inj (hT0.symm.trans hh0); simpa using z
  replace btt0_2 : q_F (-1 ≤ t0_2.toInt ∧ t0_2.toInt ≤ 9999) := btt0_2
  replace btt0_3 : q_F (-1 ≤ t0_3.toInt ∧ t0_3.toInt ≤ 9999) := btt0_3
  replace btt0_6 : q_F (0 ≤ t0_6.toInt ∧ t0_6.toInt ≤ 1) := btt0_6
  obtain ⟨yy1_0, hh1, btt1_0⟩ := n_shO hI (n_h1 g q)
  obtain ⟨rfl⟩ : t1_0 = yy1_0 := by have z := Option.some.inj (hT1.symm.trans hh1); simpa using z
  replace btt1_0 : q_F (0 ≤ t1_0.toInt ∧ t1_0.toInt ≤ 4100) := btt1_0
  have hF : q_un ws ws [47] := q_u0
  have hl : lv_has ls 2 [(0, .ref (q 47)), (1, .int x2)] := hl
  refine lv_aload_n hx hb d_6_2_0 rfl (lv_at hl 0 rfl) ?_
  refine lv_iload_n hx hb d_6_2_1 rfl (lv_at hl 1 rfl) ?_
  refine lv_iconst (v := 1) hx hb d_6_2_2 (by decide) ?_
  refine lv_iadd hx hb d_6_2_3 ?_
  obtain ⟨a15, e16⟩ := q_nm (x2 + 1 : Int32)
  refine q_ti (v := a15) e16 ?_
  refine q_put (ci := 10) (j := 5) (v := .int a15) (ty := .int) C0 V i_Dir o_Dir n_Dir rfl rfl hT0 (by decide) w_363 rfl rfl rfl rfl (Nat.le_of_ble_eq_true rfl) d_6_2_4 (fun H locs w17 hu18 hT0 V => ?_)
  replace hT0 : w17[47]? = (some (q 47, .inr (10, [.int t0_0, .int t0_1, .int t0_2, .int t0_3, .int t0_4, .int a15, .ref (q 1), .int t0_6])) : Option (Nat × va_E)) := hT0
  replace hI := n_p47 hI hu18 hT0 ⟨(by have t1 : -1 ≤ t0_2.toInt ∧ t0_2.toInt ≤ 9999 := btt0_2; omega), (by have t1 : -1 ≤ t0_2.toInt ∧ t0_2.toInt ≤ 9999 := btt0_2; omega)⟩ ⟨(by have t1 : -1 ≤ t0_3.toInt ∧ t0_3.toInt ≤ 9999 := btt0_3; omega), (by have t1 : -1 ≤ t0_3.toInt ∧ t0_3.toInt ≤ 9999 := btt0_3; omega)⟩ ⟨(by have t1 : 0 ≤ t0_6.toInt ∧ t0_6.toInt ≤ 1 := btt0_6; omega), (by have t1 : 0 ≤ t0_6.toInt ∧ t0_6.toInt ≤ 1 := btt0_6; omega)⟩
  replace hT1 := (hu18 _ (by decide)).trans hT1
  replace hF := q_us hF hu18 (by simp)
  refine lv_aload_n hx hb d_6_2_7 rfl (lv_at hl 0 rfl) ?_
  refine lv_iconst (v := 0) hx hb d_6_2_8 (by decide) ?_
  refine q_put (ci := 10) (j := 1) (v := .int 0) (ty := .int) C0 V i_Dir o_Dir n_Dir rfl rfl hT0 (by decide) w_356 rfl rfl rfl rfl (Nat.le_of_ble_eq_true rfl) d_6_2_9 (fun H locs w19 hu20 hT0 V => ?_)
  replace hT0 : w19[47]? = (some (q 47, .inr (10, [.int t0_0, .int 0, .int t0_2, .int t0_3, .int t0_4, .int a15, .ref (q 1), .int t0_6])) : Option (Nat × va_E)) := hT0
  replace hI := n_p47 hI hu20 hT0 ⟨(by have t1 : -1 ≤ t0_2.toInt ∧ t0_2.toInt ≤ 9999 := btt0_2; omega), (by have t1 : -1 ≤ t0_2.toInt ∧ t0_2.toInt ≤ 9999 := btt0_2; omega)⟩ ⟨(by have t1 : -1 ≤ t0_3.toInt ∧ t0_3.toInt ≤ 9999 := btt0_3; omega), (by have t1 : -1 ≤ t0_3.toInt ∧ t0_3.toInt ≤ 9999 := btt0_3; omega)⟩ ⟨(by have t1 : 0 ≤ t0_6.toInt ∧ t0_6.toInt ≤ 1 := btt0_6; omega), (by have t1 : 0 ≤ t0_6.toInt ∧ t0_6.toInt ≤ 1 := btt0_6; omega)⟩
  replace hT1 := (hu20 _ (by decide)).trans hT1
  replace hF := q_us hF hu20 (by simp)
  refine lv_aload_n hx hb d_6_2_12 rfl (lv_at hl 0 rfl) ?_
  refine lv_iconst (v := 0) hx hb d_6_2_13 (by decide) ?_
  refine q_put (ci := 10) (j := 7) (v := .int 0) (ty := .boolean) C0 V i_Dir o_Dir n_Dir rfl rfl hT0 (by decide) w_366 rfl rfl rfl rfl (Nat.le_of_ble_eq_true rfl) d_6_2_14 (fun H locs w21 hu22 hT0 V => ?_)
  replace hT0 : w21[47]? = (some (q 47, .inr (10, [.int t0_0, .int 0, .int t0_2, .int t0_3, .int t0_4, .int a15, .ref (q 1), .int 0])) : Option (Nat × va_E)) := hT0
  replace hI := n_p47 hI hu22 hT0 ⟨(by have t1 : -1 ≤ t0_2.toInt ∧ t0_2.toInt ≤ 9999 := btt0_2; omega), (by have t1 : -1 ≤ t0_2.toInt ∧ t0_2.toInt ≤ 9999 := btt0_2; omega)⟩ ⟨(by have t1 : -1 ≤ t0_3.toInt ∧ t0_3.toInt ≤ 9999 := btt0_3; omega), (by have t1 : -1 ≤ t0_3.toInt ∧ t0_3.toInt ≤ 9999 := btt0_3; omega)⟩ ⟨(by have z9 : (0 : Int32).toInt = 0 := rfl; omega), (by have z9 : (0 : Int32).toInt = 0 := rfl; omega)⟩
  replace hT1 := (hu22 _ (by decide)).trans hT1
  replace hF := q_us hF hu22 (by simp)
  refine lv_aload_n hx hb d_6_2_17 rfl (lv_at hl 0 rfl) ?_
  refine q_gov V (q_runV (As := []) (rest := []) (d := 4) (mc := 0) (ms := 0) (ci := 10) C0 V rfl LV_Dir_26 (T_Dir_takeIndex l D g q w21   hI t0_0 0 t0_2 t0_3 t0_4 a15 0 hT0 t1_0 hT1  _) rfl rfl hT0 rfl hl.1 rfl (Nat.le_of_ble_eq_true rfl) ⟨by decide, by decide⟩ ⟨Nat.le_of_ble_eq_true rfl, Nat.le_of_ble_eq_true rfl⟩ d_6_2_18) (fun u23 H locs hp24 V => ?_)
  obtain ⟨hI, hu46, y26, y27, y28, y29, y30, y31, y32, hO25, b33, b34, b35, b36, b37, b38, b39, b40, b41, b42, b43, b44⟩ := hp24
  replace hO25 : u23[47]? = (some (q 47, .inr (10, [.int y26, .int y27, .int y28, .int y29, .int y30, .int y31, .ref (q 1), .int y32])) : Option (Nat × va_E)) := hO25
  replace b33 : q_F (0 ≤ y26.toInt + 1) := b33
  replace b34 : q_F (y26.toInt ≤ 9999) := b34
  replace b35 : q_F (0 ≤ y27.toInt) := b35
  replace b36 : q_F (y27.toInt ≤ 0) := b36
  replace b37 : q_F (t0_2.toInt ≤ y28.toInt) := b37
  replace b38 : q_F (y28.toInt ≤ t0_2.toInt) := b38
  replace b39 : q_F (t0_3.toInt ≤ y29.toInt) := b39
  replace b40 : q_F (y29.toInt ≤ t0_3.toInt) := b40
  replace b41 : q_F (t0_4.toInt ≤ y30.toInt) := b41
  replace b42 : q_F (y30.toInt ≤ t0_4.toInt) := b42
  replace b43 : q_F (0 ≤ y32.toInt) := b43
  replace b44 : q_F (y32.toInt ≤ 0) := b44
  replace hT1 := (hu46 _ (by decide)).trans hT1
  replace hF := q_uc hF hu46 (by simp)
  refine lv_aload_n hx hb d_6_2_21 rfl (lv_at hl 0 rfl) ?_
  refine q_gov V (q_runV (As := []) (rest := []) (d := 5) (mc := 0) (ms := 0) (ci := 10) C0 V rfl LV_Dir_29 (T_Dir_takeFlags l D g q u23   hI y26 y27 y28 y29 y30 y31 y32 hO25 t1_0 hT1  _) rfl rfl hO25 rfl hl.1 rfl (Nat.le_of_ble_eq_true rfl) ⟨by decide, by decide⟩ ⟨Nat.le_of_ble_eq_true rfl, Nat.le_of_ble_eq_true rfl⟩ d_6_2_22) (fun u47 H locs hp48 V => ?_)
  obtain ⟨hI, hu69, y50, y51, y52, y53, y54, y55, y56, hO49, b57, b58, b59, b60, b61, b62, b63, b64, b65, b66, b67⟩ := hp48
  replace hO49 : u47[47]? = (some (q 47, .inr (10, [.int y50, .int y51, .int y52, .int y53, .int y54, .int y55, .ref (q 1), .int y56])) : Option (Nat × va_E)) := hO49
  replace b57 : q_F (0 ≤ y56.toInt) := b57
  replace b58 : q_F (y56.toInt ≤ 1) := b58
  replace b59 : q_F (y26.toInt ≤ y50.toInt) := b59
  replace b60 : q_F (y50.toInt ≤ y26.toInt) := b60
  replace b61 : q_F (y28.toInt ≤ y52.toInt) := b61
  replace b62 : q_F (y52.toInt ≤ y28.toInt) := b62
  replace b63 : q_F (y29.toInt ≤ y53.toInt) := b63
  replace b64 : q_F (y53.toInt ≤ y29.toInt) := b64
  replace b65 : q_F (y30.toInt ≤ y54.toInt) := b65
  replace b66 : q_F (y54.toInt ≤ y30.toInt) := b66
  replace b67 : q_F (y31.toInt ≤ y55.toInt) := b67
  replace hT1 := (hu69 _ (by decide)).trans hT1
  replace hF := q_uc hF hu69 (by simp)
  refine lv_aload_n hx hb d_6_2_25 rfl (lv_at hl 0 rfl) ?_
  refine lv_aload_n hx hb d_6_2_26 rfl (lv_at hl 0 rfl) ?_
  refine lv_aload_n hx hb d_6_2_27 rfl (lv_at hl 0 rfl) ?_
  refine q_get (ci := 10) (j := 5) (v := .int y55) C0 V i_Dir rfl rfl hO49 (by decide) w_363 rfl d_6_2_28 ?_
  refine q_goi V (q_runV (As := [.int y55]) (rest := [.ref (q 47)]) (d := 2) (mc := 0) (ms := 0) (ci := 10) C0 V rfl LV_Dir_32 (T_Dir_figureAt l D g q u47  y55 hI   _) rfl rfl hO49 rfl hl.1 rfl (Nat.le_of_ble_eq_true rfl) ⟨by decide, by decide⟩ ⟨Nat.le_of_ble_eq_true rfl, Nat.le_of_ble_eq_true rfl⟩ d_6_2_31) (fun a72 u70 H locs hp71 V => ?_)
  obtain ⟨rfl, b73, b74, pu75⟩ := hp71
  replace b73 : q_F (0 ≤ a72.toInt + 1) := b73
  replace b74 : q_F (a72.toInt ≤ 9) := b74
  refine q_join (X := Int32 × Int32 × Int32 × Int32 × Int32 × Int32 × Int32 × Int32) (fun z H locs ls w105 => q_F (0 ≤ z.1.toInt + 1) ∧ q_F (z.1.toInt ≤ 9999) ∧ q_F (a72.toInt ≤ z.1.toInt + 9) ∧ q_F (z.1.toInt ≤ a72.toInt + 9998) ∧ q_F (y50.toInt ≤ z.2.1.toInt) ∧ q_F (z.2.1.toInt ≤ y50.toInt) ∧ q_F (y51.toInt ≤ z.2.2.1.toInt) ∧ q_F (z.2.2.1.toInt ≤ y51.toInt) ∧ q_F (y52.toInt ≤ z.2.2.2.1.toInt) ∧ q_F (z.2.2.2.1.toInt ≤ y52.toInt) ∧ q_F (y53.toInt ≤ z.2.2.2.2.1.toInt) ∧ q_F (z.2.2.2.2.1.toInt ≤ y53.toInt) ∧ q_F (y54.toInt ≤ z.2.2.2.2.2.1.toInt) ∧ q_F (z.2.2.2.2.2.1.toInt ≤ y54.toInt) ∧ q_F (y55.toInt ≤ z.2.2.2.2.2.2.1.toInt) ∧ q_F (y56.toInt ≤ z.2.2.2.2.2.2.2.toInt) ∧ q_F (z.2.2.2.2.2.2.2.toInt ≤ y56.toInt) ∧ q_Wd D g (va_A ws sz) s w105 H locs ∧ lv_has ls 2 [(0, .ref (q 47))] ∧ q_I (nsh g q) q w105 ∧ q_un ws w105 [47] ∧ w105[47]? = (some (q 47, .inr (10, [.int z.2.1, .int z.2.2.1, .int z.2.2.2.1, .int z.2.2.2.2.1, .int z.2.2.2.2.2.1, .int z.2.2.2.2.2.2.1, .ref (q 1), .int z.2.2.2.2.2.2.2])) : Option (Nat × va_E)) ∧ w105[1]? = (some (q 1, .inr (1, [.ref (q 2), .int 4100, .int t1_0])) : Option (Nat × va_E))) (fun z => [.int z.1, .ref (q 47)]) 45 0 0 ?_ ?_
  ·
    rintro ⟨lx77, lx78, lx79, lx80, lx81, lx82, lx83, lx84⟩ H locs ls w105 ⟨i88, i89, i90, i91, i92, i93, i94, i95, i96, i97, i98, i99, i100, i101, i102, i103, i104, V, hl, hI, hF, hO85, hO86⟩
    replace i88 : q_F (0 ≤ lx77.toInt + 1) := i88
    replace i89 : q_F (lx77.toInt ≤ 9999) := i89
    replace i90 : q_F (a72.toInt ≤ lx77.toInt + 9) := i90
    replace i91 : q_F (lx77.toInt ≤ a72.toInt + 9998) := i91
    replace i92 : q_F (y50.toInt ≤ lx78.toInt) := i92
    replace i93 : q_F (lx78.toInt ≤ y50.toInt) := i93
    replace i94 : q_F (y51.toInt ≤ lx79.toInt) := i94
    replace i95 : q_F (lx79.toInt ≤ y51.toInt) := i95
    replace i96 : q_F (y52.toInt ≤ lx80.toInt) := i96
    replace i97 : q_F (lx80.toInt ≤ y52.toInt) := i97
    replace i98 : q_F (y53.toInt ≤ lx81.toInt) := i98
    replace i99 : q_F (lx81.toInt ≤ y53.toInt) := i99
    replace i100 : q_F (y54.toInt ≤ lx82.toInt) := i100
    replace i101 : q_F (lx82.toInt ≤ y54.toInt) := i101
    replace i102 : q_F (y55.toInt ≤ lx83.toInt) := i102
    replace i103 : q_F (y56.toInt ≤ lx84.toInt) := i103
    replace i104 : q_F (lx84.toInt ≤ y56.toInt) := i104
    replace hl : lv_has ls 2 [(0, .ref (q 47))] := hl
    replace hO85 : w105[47]? = (some (q 47, .inr (10, [.int lx78, .int lx79, .int lx80, .int lx81, .int lx82, .int lx83, .ref (q 1), .int lx84])) : Option (Nat × va_E)) := hO85
    replace hO86 : w105[1]? = (some (q 1, .inr (1, [.ref (q 2), .int 4100, .int t1_0])) : Option (Nat × va_E)) := hO86
    refine q_put (ci := 10) (j := 2) (v := .int lx77) (ty := .int) C0 V i_Dir o_Dir n_Dir rfl rfl hO85 (by decide) w_357 rfl rfl rfl rfl (Nat.le_of_ble_eq_true rfl) d_6_2_45 (fun H locs w106 hu107 hO85 V => ?_)
    replace hO85 : w106[47]? = (some (q 47, .inr (10, [.int lx78, .int lx79, .int lx77, .int lx81, .int lx82, .int lx83, .ref (q 1), .int lx84])) : Option (Nat × va_E)) := hO85
    replace hI := n_p47 hI hu107 hO85 ⟨(by have t1 : 0 ≤ lx77.toInt + 1 := i88; omega), (by have t1 : lx77.toInt ≤ 9999 := i89; omega)⟩ ⟨(by have t1 : -1 ≤ t0_3.toInt ∧ t0_3.toInt ≤ 9999 := btt0_3; have t2 : t0_3.toInt ≤ y29.toInt := b39; have t3 : y29.toInt ≤ y53.toInt := b63; have t4 : y53.toInt ≤ lx81.toInt := i98; omega), (by have t1 : -1 ≤ t0_3.toInt ∧ t0_3.toInt ≤ 9999 := btt0_3; have t2 : y29.toInt ≤ t0_3.toInt := b40; have t3 : y53.toInt ≤ y29.toInt := b64; have t4 : lx81.toInt ≤ y53.toInt := i99; omega)⟩ ⟨(by have t1 : 0 ≤ y56.toInt := b57; have t2 : y56.toInt ≤ lx84.toInt := i103; omega), (by have t1 : y56.toInt ≤ 1 := b58; have t2 : lx84.toInt ≤ y56.toInt := i104; omega)⟩
    replace hO86 := (hu107 _ (by decide)).trans hO86
    replace hF := q_us hF hu107 (by simp)
    refine lv_aload_n hx hb d_6_2_48 rfl (lv_at hl 0 rfl) ?_
    refine lv_iconst (v := (-1)) hx hb d_6_2_49 (by decide) ?_
    refine q_put (ci := 10) (j := 3) (v := .int (-1)) (ty := .int) C0 V i_Dir o_Dir n_Dir rfl rfl hO85 (by decide) w_359 rfl rfl rfl rfl (Nat.le_of_ble_eq_true rfl) d_6_2_50 (fun H locs w108 hu109 hO85 V => ?_)
    replace hO85 : w108[47]? = (some (q 47, .inr (10, [.int lx78, .int lx79, .int lx77, .int (-1), .int lx82, .int lx83, .ref (q 1), .int lx84])) : Option (Nat × va_E)) := hO85
    replace hI := n_p47 hI hu109 hO85 ⟨(by have t1 : 0 ≤ lx77.toInt + 1 := i88; omega), (by have t1 : lx77.toInt ≤ 9999 := i89; omega)⟩ ⟨(by have z9 : (-1 : Int32).toInt = -1 := rfl; omega), (by have z9 : (-1 : Int32).toInt = -1 := rfl; omega)⟩ ⟨(by have t1 : 0 ≤ y56.toInt := b57; have t2 : y56.toInt ≤ lx84.toInt := i103; omega), (by have t1 : y56.toInt ≤ 1 := b58; have t2 : lx84.toInt ≤ y56.toInt := i104; omega)⟩
    replace hO86 := (hu109 _ (by decide)).trans hO86
    replace hF := q_us hF hu109 (by simp)
    refine lv_aload_n hx hb d_6_2_53 rfl (lv_at hl 0 rfl) ?_
    refine q_get (ci := 10) (j := 6) (v := .ref (q 1)) C0 V i_Dir rfl rfl hO85 (by decide) w_365 rfl d_6_2_54 ?_
    refine lv_aload_n hx hb d_6_2_57 rfl (lv_at hl 0 rfl) ?_
    refine q_get (ci := 10) (j := 5) (v := .int lx83) C0 V i_Dir rfl rfl hO85 (by decide) w_363 rfl d_6_2_58 ?_
    refine lv_i2l hx hb d_6_2_61 rfl ?_
    obtain ⟨j110, e111⟩ := q_nm (lx83.toInt64 : Int64)
    refine q_tl (v := j110) e111 ?_
    have b112 : q_F (j110.toInt = lx83.toInt) := (by rw [← e111]; show (lx83.toInt64 : Int64).toInt = lx83.toInt; exact q_i2l rfl)
    refine q_goi V (q_runV (As := [.long j110]) (rest := []) (d := 1) (mc := 0) (ms := 0) (ci := 1) C0 V rfl LV_Dir_46 (T_She_at l D g q w108 1 4100 513 4100 (n_h1 g q) j110 hI   _) rfl rfl hO86 rfl hl.1 rfl (Nat.le_of_ble_eq_true rfl) ⟨by decide, by decide⟩ ⟨Nat.le_of_ble_eq_true rfl, Nat.le_of_ble_eq_true rfl⟩ d_6_2_62) (fun a115 u113 H locs hp114 V => ?_)
    obtain ⟨rfl, b116, b117, pu118⟩ := hp114
    replace b116 : q_F (0 ≤ a115.toInt) := b116
    replace b117 : q_F (a115.toInt ≤ 255) := b117
    refine lv_bipush (v := 46) hx hb d_6_2_65 (by decide) ?_
    refine q_join (X := Int32 × Int32 × Int32 × Int32 × Int32 × Int32 × Int32) (fun z H locs ls w142 => q_F (0 ≤ z.2.2.2.1.toInt + 1) ∧ q_F (z.2.2.2.1.toInt ≤ 9999) ∧ q_F (lx78.toInt ≤ z.1.toInt) ∧ q_F (z.1.toInt ≤ lx78.toInt) ∧ q_F (lx79.toInt ≤ z.2.1.toInt) ∧ q_F (z.2.1.toInt ≤ lx79.toInt) ∧ q_F (lx77.toInt ≤ z.2.2.1.toInt) ∧ q_F (z.2.2.1.toInt ≤ lx77.toInt) ∧ q_F (lx82.toInt ≤ z.2.2.2.2.1.toInt) ∧ q_F (z.2.2.2.2.1.toInt ≤ lx82.toInt) ∧ q_F (lx84.toInt ≤ z.2.2.2.2.2.2.toInt) ∧ q_F (z.2.2.2.2.2.2.toInt ≤ lx84.toInt) ∧ q_Wd D g (va_A ws sz) s w142 H locs ∧ lv_has ls 2 [(0, .ref (q 47))] ∧ q_I (nsh g q) q w142 ∧ q_un ws w142 [47] ∧ w142[47]? = (some (q 47, .inr (10, [.int z.1, .int z.2.1, .int z.2.2.1, .int z.2.2.2.1, .int z.2.2.2.2.1, .int z.2.2.2.2.2.1, .ref (q 1), .int z.2.2.2.2.2.2])) : Option (Nat × va_E)) ∧ w142[1]? = (some (q 1, .inr (1, [.ref (q 2), .int 4100, .int t1_0])) : Option (Nat × va_E))) (fun z => []) 101 0 0 ?_ ?_
    ·
      rintro ⟨lx120, lx121, lx122, lx123, lx124, lx125, lx126⟩ H locs ls w142 ⟨i130, i131, i132, i133, i134, i135, i136, i137, i138, i139, i140, i141, V, hl, hI, hF, hO127, hO128⟩
      replace i130 : q_F (0 ≤ lx123.toInt + 1) := i130
      replace i131 : q_F (lx123.toInt ≤ 9999) := i131
      replace i132 : q_F (lx78.toInt ≤ lx120.toInt) := i132
      replace i133 : q_F (lx120.toInt ≤ lx78.toInt) := i133
      replace i134 : q_F (lx79.toInt ≤ lx121.toInt) := i134
      replace i135 : q_F (lx121.toInt ≤ lx79.toInt) := i135
      replace i136 : q_F (lx77.toInt ≤ lx122.toInt) := i136
      replace i137 : q_F (lx122.toInt ≤ lx77.toInt) := i137
      replace i138 : q_F (lx82.toInt ≤ lx124.toInt) := i138
      replace i139 : q_F (lx124.toInt ≤ lx82.toInt) := i139
      replace i140 : q_F (lx84.toInt ≤ lx126.toInt) := i140
      replace i141 : q_F (lx126.toInt ≤ lx84.toInt) := i141
      replace hl : lv_has ls 2 [(0, .ref (q 47))] := hl
      replace hO127 : w142[47]? = (some (q 47, .inr (10, [.int lx120, .int lx121, .int lx122, .int lx123, .int lx124, .int lx125, .ref (q 1), .int lx126])) : Option (Nat × va_E)) := hO127
      replace hO128 : w142[1]? = (some (q 1, .inr (1, [.ref (q 2), .int 4100, .int t1_0])) : Option (Nat × va_E)) := hO128
      refine lv_aload_n hx hb d_6_2_101 rfl (lv_at hl 0 rfl) ?_
      refine lv_aload_n hx hb d_6_2_102 rfl (lv_at hl 0 rfl) ?_
      refine q_get (ci := 10) (j := 5) (v := .int lx125) C0 V i_Dir rfl rfl hO127 (by decide) w_363 rfl d_6_2_103 ?_
      refine lv_aload_n hx hb d_6_2_106 rfl (lv_at hl 0 rfl) ?_
      refine q_get (ci := 10) (j := 6) (v := .ref (q 1)) C0 V i_Dir rfl rfl hO127 (by decide) w_365 rfl d_6_2_107 ?_
      refine q_get (ci := 1) (j := 2) (v := .int t1_0) C0 V i_She rfl rfl hO128 (by decide) w_57 rfl d_6_2_110 ?_
      refine lv_icmp_ge (tgt := 131) hx hb d_6_2_113 (by decide) (fun c143 => ?_) (fun c143 => ?_)
      ·
        have b144 : q_F (t1_0.toInt ≤ lx125.toInt) := (q_leI c143)
        refine lv_iconst (v := (-1)) hx hb d_6_2_131 (by decide) ?_
        refine q_put (ci := 10) (j := 4) (v := .int (-1)) (ty := .int) C0 V i_Dir o_Dir n_Dir rfl rfl hO127 (by decide) w_361 rfl rfl rfl rfl (Nat.le_of_ble_eq_true rfl) d_6_2_132 (fun H locs w145 hu146 hO127 V => ?_)
        replace hO127 : w145[47]? = (some (q 47, .inr (10, [.int lx120, .int lx121, .int lx122, .int lx123, .int (-1), .int lx125, .ref (q 1), .int lx126])) : Option (Nat × va_E)) := hO127
        replace hI := n_p47 hI hu146 hO127 ⟨(by have t1 : 0 ≤ lx77.toInt + 1 := i88; have t2 : lx77.toInt ≤ lx122.toInt := i136; omega), (by have t1 : lx77.toInt ≤ 9999 := i89; have t2 : lx122.toInt ≤ lx77.toInt := i137; omega)⟩ ⟨(by have t1 : 0 ≤ lx123.toInt + 1 := i130; omega), (by have t1 : lx123.toInt ≤ 9999 := i131; omega)⟩ ⟨(by have t1 : 0 ≤ y56.toInt := b57; have t2 : y56.toInt ≤ lx84.toInt := i103; have t3 : lx84.toInt ≤ lx126.toInt := i140; omega), (by have t1 : y56.toInt ≤ 1 := b58; have t2 : lx84.toInt ≤ y56.toInt := i104; have t3 : lx126.toInt ≤ lx84.toInt := i141; omega)⟩
        replace hO128 := (hu146 _ (by decide)).trans hO128
        replace hF := q_us hF hu146 (by simp)
        refine lv_aload_n hx hb d_6_2_135 rfl (lv_at hl 0 rfl) ?_
        refine lv_dup hx hb d_6_2_136 rfl ?_
        refine q_get (ci := 10) (j := 5) (v := .int lx125) C0 V i_Dir rfl rfl hO127 (by decide) w_363 rfl d_6_2_137 ?_
        refine lv_iconst (v := 1) hx hb d_6_2_140 (by decide) ?_
        refine lv_iadd hx hb d_6_2_141 ?_
        obtain ⟨a147, e148⟩ := q_nm (lx125 + 1 : Int32)
        refine q_ti (v := a147) e148 ?_
        refine q_put (ci := 10) (j := 5) (v := .int a147) (ty := .int) C0 V i_Dir o_Dir n_Dir rfl rfl hO127 (by decide) w_363 rfl rfl rfl rfl (Nat.le_of_ble_eq_true rfl) d_6_2_142 (fun H locs w149 hu150 hO127 V => ?_)
        replace hO127 : w149[47]? = (some (q 47, .inr (10, [.int lx120, .int lx121, .int lx122, .int lx123, .int (-1), .int a147, .ref (q 1), .int lx126])) : Option (Nat × va_E)) := hO127
        replace hI := n_p47 hI hu150 hO127 ⟨(by have t1 : 0 ≤ lx77.toInt + 1 := i88; have t2 : lx77.toInt ≤ lx122.toInt := i136; omega), (by have t1 : lx77.toInt ≤ 9999 := i89; have t2 : lx122.toInt ≤ lx77.toInt := i137; omega)⟩ ⟨(by have t1 : 0 ≤ lx123.toInt + 1 := i130; omega), (by have t1 : lx123.toInt ≤ 9999 := i131; omega)⟩ ⟨(by have t1 : 0 ≤ y56.toInt := b57; have t2 : y56.toInt ≤ lx84.toInt := i103; have t3 : lx84.toInt ≤ lx126.toInt := i140; omega), (by have t1 : y56.toInt ≤ 1 := b58; have t2 : lx84.toInt ≤ y56.toInt := i104; have t3 : lx126.toInt ≤ lx84.toInt := i141; omega)⟩
        replace hO128 := (hu150 _ (by decide)).trans hO128
        replace hF := q_us hF hu150 (by simp)
        exact q_retv C0 V (⟨hI, hF, lx120, lx121, lx122, lx123, (-1), a147, lx126, hO127, (show 0 ≤ lx120.toInt + 1 from (by have z13 : (-1 : Int32).toInt = -1 := rfl; have t1 : 0 ≤ y26.toInt + 1 := b33; have t2 : y26.toInt ≤ y50.toInt := b59; have t3 : y50.toInt ≤ lx78.toInt := i92; have t4 : lx78.toInt ≤ lx120.toInt := i132; omega)), (show lx120.toInt ≤ 9999 from (by have z13 : (-1 : Int32).toInt = -1 := rfl; have t1 : y26.toInt ≤ 9999 := b34; have t2 : y50.toInt ≤ y26.toInt := b60; have t3 : lx78.toInt ≤ y50.toInt := i93; have t4 : lx120.toInt ≤ lx78.toInt := i133; omega)), (show 0 ≤ lx122.toInt + 1 from (by have z13 : (-1 : Int32).toInt = -1 := rfl; have t1 : 0 ≤ lx77.toInt + 1 := i88; have t2 : lx77.toInt ≤ lx122.toInt := i136; omega)), (show lx122.toInt ≤ 9999 from (by have z13 : (-1 : Int32).toInt = -1 := rfl; have t1 : lx77.toInt ≤ 9999 := i89; have t2 : lx122.toInt ≤ lx77.toInt := i137; omega)), (show 0 ≤ lx123.toInt + 1 from (by have z13 : (-1 : Int32).toInt = -1 := rfl; have t1 : 0 ≤ lx123.toInt + 1 := i130; omega)), (show lx123.toInt ≤ 9999 from (by have z13 : (-1 : Int32).toInt = -1 := rfl; have t1 : lx123.toInt ≤ 9999 := i131; omega)), (show 0 ≤ (-1 : Int32).toInt + 1 from (by have z13 : (-1 : Int32).toInt = -1 := rfl; omega)), (show (-1 : Int32).toInt ≤ 255 from (by have z13 : (-1 : Int32).toInt = -1 := rfl; omega)), (show 0 ≤ lx126.toInt from (by have z13 : (-1 : Int32).toInt = -1 := rfl; have t1 : 0 ≤ y56.toInt := b57; have t2 : y56.toInt ≤ lx84.toInt := i103; have t3 : lx84.toInt ≤ lx126.toInt := i140; omega)), (show lx126.toInt ≤ 1 from (by have z13 : (-1 : Int32).toInt = -1 := rfl; have t1 : y56.toInt ≤ 1 := b58; have t2 : lx84.toInt ≤ y56.toInt := i104; have t3 : lx126.toInt ≤ lx84.toInt := i141; omega))⟩) d_6_2_145
      ·
        have b151 : q_F (lx125.toInt < t1_0.toInt) := (q_nleI c143)
        refine lv_aload_n hx hb d_6_2_116 rfl (lv_at hl 0 rfl) ?_
        refine q_get (ci := 10) (j := 6) (v := .ref (q 1)) C0 V i_Dir rfl rfl hO127 (by decide) w_365 rfl d_6_2_117 ?_
        refine lv_aload_n hx hb d_6_2_120 rfl (lv_at hl 0 rfl) ?_
        refine q_get (ci := 10) (j := 5) (v := .int lx125) C0 V i_Dir rfl rfl hO127 (by decide) w_363 rfl d_6_2_121 ?_
        refine lv_i2l hx hb d_6_2_124 rfl ?_
        obtain ⟨j152, e153⟩ := q_nm (lx125.toInt64 : Int64)
        refine q_tl (v := j152) e153 ?_
        have b154 : q_F (j152.toInt = lx125.toInt) := (by rw [← e153]; show (lx125.toInt64 : Int64).toInt = lx125.toInt; exact q_i2l rfl)
        refine q_goi V (q_runV (As := [.long j152]) (rest := [.ref (q 47)]) (d := 1) (mc := 0) (ms := 0) (ci := 1) C0 V rfl LV_Dir_46 (T_She_at l D g q w142 1 4100 513 4100 (n_h1 g q) j152 hI   _) rfl rfl hO128 rfl hl.1 rfl (Nat.le_of_ble_eq_true rfl) ⟨by decide, by decide⟩ ⟨Nat.le_of_ble_eq_true rfl, Nat.le_of_ble_eq_true rfl⟩ d_6_2_125) (fun a157 u155 H locs hp156 V => ?_)
        obtain ⟨rfl, b158, b159, pu160⟩ := hp156
        replace b158 : q_F (0 ≤ a157.toInt) := b158
        replace b159 : q_F (a157.toInt ≤ 255) := b159
        refine lv_goto (tgt := 132) hx hb d_6_2_128 (by decide) ?_
        refine q_put (ci := 10) (j := 4) (v := .int a157) (ty := .int) C0 V i_Dir o_Dir n_Dir rfl rfl hO127 (by decide) w_361 rfl rfl rfl rfl (Nat.le_of_ble_eq_true rfl) d_6_2_132 (fun H locs w162 hu163 hO127 V => ?_)
        replace hO127 : w162[47]? = (some (q 47, .inr (10, [.int lx120, .int lx121, .int lx122, .int lx123, .int a157, .int lx125, .ref (q 1), .int lx126])) : Option (Nat × va_E)) := hO127
        replace hI := n_p47 hI hu163 hO127 ⟨(by have t1 : 0 ≤ lx77.toInt + 1 := i88; have t2 : lx77.toInt ≤ lx122.toInt := i136; omega), (by have t1 : lx77.toInt ≤ 9999 := i89; have t2 : lx122.toInt ≤ lx77.toInt := i137; omega)⟩ ⟨(by have t1 : 0 ≤ lx123.toInt + 1 := i130; omega), (by have t1 : lx123.toInt ≤ 9999 := i131; omega)⟩ ⟨(by have t1 : 0 ≤ y56.toInt := b57; have t2 : y56.toInt ≤ lx84.toInt := i103; have t3 : lx84.toInt ≤ lx126.toInt := i140; omega), (by have t1 : y56.toInt ≤ 1 := b58; have t2 : lx84.toInt ≤ y56.toInt := i104; have t3 : lx126.toInt ≤ lx84.toInt := i141; omega)⟩
        replace hO128 := (hu163 _ (by decide)).trans hO128
        replace hF := q_us hF hu163 (by simp)
        refine lv_aload_n hx hb d_6_2_135 rfl (lv_at hl 0 rfl) ?_
        refine lv_dup hx hb d_6_2_136 rfl ?_
        refine q_get (ci := 10) (j := 5) (v := .int lx125) C0 V i_Dir rfl rfl hO127 (by decide) w_363 rfl d_6_2_137 ?_
        refine lv_iconst (v := 1) hx hb d_6_2_140 (by decide) ?_
        refine lv_iadd hx hb d_6_2_141 ?_
        obtain ⟨a164, e165⟩ := q_nm (lx125 + 1 : Int32)
        refine q_ti (v := a164) e165 ?_
        have b166 : q_F (a164.toInt = lx125.toInt + 1) := (by rw [← e165]; show (lx125 + 1 : Int32).toInt = lx125.toInt + 1; exact q_addI (x := lx125.toInt) (y := 1) rfl (by decide) (by have _ := q_lo32 (x := lx125); have _ := q_hi32 (x := lx125); have t1 : lx125.toInt < t1_0.toInt := b151; have _ := q_lo32 (x := t1_0); have _ := q_hi32 (x := t1_0); omega) (by have _ := q_lo32 (x := lx125); have _ := q_hi32 (x := lx125); have t1 : lx125.toInt < t1_0.toInt := b151; have _ := q_lo32 (x := t1_0); have _ := q_hi32 (x := t1_0); omega))
        refine q_put (ci := 10) (j := 5) (v := .int a164) (ty := .int) C0 V i_Dir o_Dir n_Dir rfl rfl hO127 (by decide) w_363 rfl rfl rfl rfl (Nat.le_of_ble_eq_true rfl) d_6_2_142 (fun H locs w167 hu168 hO127 V => ?_)
        replace hO127 : w167[47]? = (some (q 47, .inr (10, [.int lx120, .int lx121, .int lx122, .int lx123, .int a157, .int a164, .ref (q 1), .int lx126])) : Option (Nat × va_E)) := hO127
        replace hI := n_p47 hI hu168 hO127 ⟨(by have t1 : 0 ≤ lx77.toInt + 1 := i88; have t2 : lx77.toInt ≤ lx122.toInt := i136; omega), (by have t1 : lx77.toInt ≤ 9999 := i89; have t2 : lx122.toInt ≤ lx77.toInt := i137; omega)⟩ ⟨(by have t1 : 0 ≤ lx123.toInt + 1 := i130; omega), (by have t1 : lx123.toInt ≤ 9999 := i131; omega)⟩ ⟨(by have t1 : 0 ≤ y56.toInt := b57; have t2 : y56.toInt ≤ lx84.toInt := i103; have t3 : lx84.toInt ≤ lx126.toInt := i140; omega), (by have t1 : y56.toInt ≤ 1 := b58; have t2 : lx84.toInt ≤ y56.toInt := i104; have t3 : lx126.toInt ≤ lx84.toInt := i141; omega)⟩
        replace hO128 := (hu168 _ (by decide)).trans hO128
        replace hF := q_us hF hu168 (by simp)
        exact q_retv C0 V (⟨hI, hF, lx120, lx121, lx122, lx123, a157, a164, lx126, hO127, (show 0 ≤ lx120.toInt + 1 from (by have t1 : 0 ≤ y26.toInt + 1 := b33; have t2 : y26.toInt ≤ y50.toInt := b59; have t3 : y50.toInt ≤ lx78.toInt := i92; have t4 : lx78.toInt ≤ lx120.toInt := i132; omega)), (show lx120.toInt ≤ 9999 from (by have t1 : y26.toInt ≤ 9999 := b34; have t2 : y50.toInt ≤ y26.toInt := b60; have t3 : lx78.toInt ≤ y50.toInt := i93; have t4 : lx120.toInt ≤ lx78.toInt := i133; omega)), (show 0 ≤ lx122.toInt + 1 from (by have t1 : 0 ≤ lx77.toInt + 1 := i88; have t2 : lx77.toInt ≤ lx122.toInt := i136; omega)), (show lx122.toInt ≤ 9999 from (by have t1 : lx77.toInt ≤ 9999 := i89; have t2 : lx122.toInt ≤ lx77.toInt := i137; omega)), (show 0 ≤ lx123.toInt + 1 from (by have t1 : 0 ≤ lx123.toInt + 1 := i130; omega)), (show lx123.toInt ≤ 9999 from (by have t1 : lx123.toInt ≤ 9999 := i131; omega)), (show 0 ≤ a157.toInt + 1 from (by have t1 : 0 ≤ a157.toInt := b158; omega)), (show a157.toInt ≤ 255 from (by have t1 : a157.toInt ≤ 255 := b159; omega)), (show 0 ≤ lx126.toInt from (by have t1 : 0 ≤ y56.toInt := b57; have t2 : y56.toInt ≤ lx84.toInt := i103; have t3 : lx84.toInt ≤ lx126.toInt := i140; omega)), (show lx126.toInt ≤ 1 from (by have t1 : y56.toInt ≤ 1 := b58; have t2 : lx84.toInt ≤ y56.toInt := i104; have t3 : lx126.toInt ≤ lx84.toInt := i141; omega))⟩) d_6_2_145
    ·
      intro J129
      refine lv_icmp_ne (tgt := 101) hx hb d_6_2_67 (by decide) (fun c169 => ?_) (fun c169 => ?_)
      ·
        have b170 : q_F (a115.toInt ≠ 46) := (q_neI c169)
        exact J129 ((lx78 : Int32), (lx79 : Int32), (lx77 : Int32), ((-1) : Int32), (lx82 : Int32), (lx83 : Int32), (lx84 : Int32)) _ _ _ _ ⟨(show q_F (0 ≤ (-1) + 1) from (show 0 ≤ (-1) + 1 from by omega)), (show q_F ((-1) ≤ 9999) from (show (-1) ≤ 9999 from by omega)), (show q_F (lx78.toInt ≤ lx78.toInt) from (show lx78.toInt ≤ lx78.toInt from by omega)), (show q_F (lx78.toInt ≤ lx78.toInt) from (show lx78.toInt ≤ lx78.toInt from by omega)), (show q_F (lx79.toInt ≤ lx79.toInt) from (show lx79.toInt ≤ lx79.toInt from by omega)), (show q_F (lx79.toInt ≤ lx79.toInt) from (show lx79.toInt ≤ lx79.toInt from by omega)), (show q_F (lx77.toInt ≤ lx77.toInt) from (show lx77.toInt ≤ lx77.toInt from by omega)), (show q_F (lx77.toInt ≤ lx77.toInt) from (show lx77.toInt ≤ lx77.toInt from by omega)), (show q_F (lx82.toInt ≤ lx82.toInt) from (show lx82.toInt ≤ lx82.toInt from by omega)), (show q_F (lx82.toInt ≤ lx82.toInt) from (show lx82.toInt ≤ lx82.toInt from by omega)), (show q_F (lx84.toInt ≤ lx84.toInt) from (show lx84.toInt ≤ lx84.toInt from by omega)), (show q_F (lx84.toInt ≤ lx84.toInt) from (show lx84.toInt ≤ lx84.toInt from by omega)), V, q_lw hl (q_lw1 0 rfl q_lw0), hI, hF, hO85, hO86⟩
      ·
        have b171 : q_F (a115.toInt = 46) := (q_eqI c169)
        refine lv_aload_n hx hb d_6_2_70 rfl (lv_at hl 0 rfl) ?_
        refine lv_aload_n hx hb d_6_2_71 rfl (lv_at hl 0 rfl) ?_
        refine q_get (ci := 10) (j := 5) (v := .int lx83) C0 V i_Dir rfl rfl hO85 (by decide) w_363 rfl d_6_2_72 ?_
        refine lv_iconst (v := 1) hx hb d_6_2_75 (by decide) ?_
        refine lv_iadd hx hb d_6_2_76 ?_
        obtain ⟨a172, e173⟩ := q_nm (lx83 + 1 : Int32)
        refine q_ti (v := a172) e173 ?_
        refine q_goi V (q_runV (As := [.int a172]) (rest := []) (d := 2) (mc := 0) (ms := 0) (ci := 10) C0 V rfl LV_Dir_32 (T_Dir_figureAt l D g q w108  a172 hI   _) rfl rfl hO85 rfl hl.1 rfl (Nat.le_of_ble_eq_true rfl) ⟨by decide, by decide⟩ ⟨Nat.le_of_ble_eq_true rfl, Nat.le_of_ble_eq_true rfl⟩ d_6_2_77) (fun a176 u174 H locs hp175 V => ?_)
        obtain ⟨rfl, b177, b178, pu179⟩ := hp175
        replace b177 : q_F (0 ≤ a176.toInt + 1) := b177
        replace b178 : q_F (a176.toInt ≤ 9) := b178
        refine lv_if_lt (tgt := 101) hx hb d_6_2_80 (by decide) (fun c181 => ?_) (fun c181 => ?_)
        ·
          have b182 : q_F (a176.toInt < 0) := (q_ltI c181)
          exact J129 ((lx78 : Int32), (lx79 : Int32), (lx77 : Int32), ((-1) : Int32), (lx82 : Int32), (lx83 : Int32), (lx84 : Int32)) _ _ _ _ ⟨(show q_F (0 ≤ (-1) + 1) from (show 0 ≤ (-1) + 1 from by omega)), (show q_F ((-1) ≤ 9999) from (show (-1) ≤ 9999 from by omega)), (show q_F (lx78.toInt ≤ lx78.toInt) from (show lx78.toInt ≤ lx78.toInt from by omega)), (show q_F (lx78.toInt ≤ lx78.toInt) from (show lx78.toInt ≤ lx78.toInt from by omega)), (show q_F (lx79.toInt ≤ lx79.toInt) from (show lx79.toInt ≤ lx79.toInt from by omega)), (show q_F (lx79.toInt ≤ lx79.toInt) from (show lx79.toInt ≤ lx79.toInt from by omega)), (show q_F (lx77.toInt ≤ lx77.toInt) from (show lx77.toInt ≤ lx77.toInt from by omega)), (show q_F (lx77.toInt ≤ lx77.toInt) from (show lx77.toInt ≤ lx77.toInt from by omega)), (show q_F (lx82.toInt ≤ lx82.toInt) from (show lx82.toInt ≤ lx82.toInt from by omega)), (show q_F (lx82.toInt ≤ lx82.toInt) from (show lx82.toInt ≤ lx82.toInt from by omega)), (show q_F (lx84.toInt ≤ lx84.toInt) from (show lx84.toInt ≤ lx84.toInt from by omega)), (show q_F (lx84.toInt ≤ lx84.toInt) from (show lx84.toInt ≤ lx84.toInt from by omega)), V, q_lw hl (q_lw1 0 rfl q_lw0), hI, hF, hO85, hO86⟩
        ·
          have b183 : q_F (0 ≤ a176.toInt) := (q_nltI c181)
          refine lv_aload_n hx hb d_6_2_83 rfl (lv_at hl 0 rfl) ?_
          refine lv_dup hx hb d_6_2_84 rfl ?_
          refine q_get (ci := 10) (j := 5) (v := .int lx83) C0 V i_Dir rfl rfl hO85 (by decide) w_363 rfl d_6_2_85 ?_
          refine lv_iconst (v := 1) hx hb d_6_2_88 (by decide) ?_
          refine lv_iadd hx hb d_6_2_89 ?_
          obtain ⟨a184, e185⟩ := q_nm (lx83 + 1 : Int32)
          refine q_ti (v := a184) e185 ?_
          refine q_put (ci := 10) (j := 5) (v := .int a184) (ty := .int) C0 V i_Dir o_Dir n_Dir rfl rfl hO85 (by decide) w_363 rfl rfl rfl rfl (Nat.le_of_ble_eq_true rfl) d_6_2_90 (fun H locs w186 hu187 hO85 V => ?_)
          replace hO85 : w186[47]? = (some (q 47, .inr (10, [.int lx78, .int lx79, .int lx77, .int (-1), .int lx82, .int a184, .ref (q 1), .int lx84])) : Option (Nat × va_E)) := hO85
          replace hI := n_p47 hI hu187 hO85 ⟨(by have t1 : 0 ≤ lx77.toInt + 1 := i88; omega), (by have t1 : lx77.toInt ≤ 9999 := i89; omega)⟩ ⟨(by have z9 : (-1 : Int32).toInt = -1 := rfl; omega), (by have z9 : (-1 : Int32).toInt = -1 := rfl; omega)⟩ ⟨(by have t1 : 0 ≤ y56.toInt := b57; have t2 : y56.toInt ≤ lx84.toInt := i103; omega), (by have t1 : y56.toInt ≤ 1 := b58; have t2 : lx84.toInt ≤ y56.toInt := i104; omega)⟩
          replace hO86 := (hu187 _ (by decide)).trans hO86
          replace hF := q_us hF hu187 (by simp)
          refine lv_aload_n hx hb d_6_2_93 rfl (lv_at hl 0 rfl) ?_
          refine lv_aload_n hx hb d_6_2_94 rfl (lv_at hl 0 rfl) ?_
          refine q_goi V (q_runV (As := []) (rest := [.ref (q 47)]) (d := 3) (mc := 0) (ms := 0) (ci := 10) C0 V rfl LV_Dir_36 (T_Dir_takeNumber l D g q w186   hI lx78 lx79 lx77 (-1) lx82 a184 lx84 hO85 t1_0 hO86  _) rfl rfl hO85 rfl hl.1 rfl (Nat.le_of_ble_eq_true rfl) ⟨by decide, by decide⟩ ⟨Nat.le_of_ble_eq_true rfl, Nat.le_of_ble_eq_true rfl⟩ d_6_2_95) (fun a190 u188 H locs hp189 V => ?_)
          obtain ⟨hI, hu215, y192, y193, y194, y195, y196, y197, y198, hO191, b199, b200, b201, b202, b203, b204, b205, b206, b207, b208, b209, b210, b211, b212, b213⟩ := hp189
          replace hO191 : u188[47]? = (some (q 47, .inr (10, [.int y192, .int y193, .int y194, .int y195, .int y196, .int y197, .ref (q 1), .int y198])) : Option (Nat × va_E)) := hO191
          replace b199 : q_F (0 ≤ a190.toInt) := b199
          replace b200 : q_F (a190.toInt ≤ 9999) := b200
          replace b201 : q_F (lx78.toInt ≤ y192.toInt) := b201
          replace b202 : q_F (y192.toInt ≤ lx78.toInt) := b202
          replace b203 : q_F (lx79.toInt ≤ y193.toInt) := b203
          replace b204 : q_F (y193.toInt ≤ lx79.toInt) := b204
          replace b205 : q_F (lx77.toInt ≤ y194.toInt) := b205
          replace b206 : q_F (y194.toInt ≤ lx77.toInt) := b206
          replace b207 : q_F ((-1) ≤ y195.toInt) := b207
          replace b208 : q_F (y195.toInt ≤ (-1)) := b208
          replace b209 : q_F (lx82.toInt ≤ y196.toInt) := b209
          replace b210 : q_F (y196.toInt ≤ lx82.toInt) := b210
          replace b211 : q_F (a184.toInt ≤ y197.toInt) := b211
          replace b212 : q_F (lx84.toInt ≤ y198.toInt) := b212
          replace b213 : q_F (y198.toInt ≤ lx84.toInt) := b213
          replace hO86 := (hu215 _ (by decide)).trans hO86
          replace hF := q_uc hF hu215 (by simp)
          refine q_put (ci := 10) (j := 3) (v := .int a190) (ty := .int) C0 V i_Dir o_Dir n_Dir rfl rfl hO191 (by decide) w_359 rfl rfl rfl rfl (Nat.le_of_ble_eq_true rfl) d_6_2_98 (fun H locs w216 hu217 hO191 V => ?_)
          replace hO191 : w216[47]? = (some (q 47, .inr (10, [.int y192, .int y193, .int y194, .int a190, .int y196, .int y197, .ref (q 1), .int y198])) : Option (Nat × va_E)) := hO191
          replace hI := n_p47 hI hu217 hO191 ⟨(by have t1 : 0 ≤ lx77.toInt + 1 := i88; have t2 : lx77.toInt ≤ y194.toInt := b205; omega), (by have t1 : lx77.toInt ≤ 9999 := i89; have t2 : y194.toInt ≤ lx77.toInt := b206; omega)⟩ ⟨(by have t1 : 0 ≤ a190.toInt := b199; omega), (by have t1 : a190.toInt ≤ 9999 := b200; omega)⟩ ⟨(by have t1 : 0 ≤ y56.toInt := b57; have t2 : y56.toInt ≤ lx84.toInt := i103; have t3 : lx84.toInt ≤ y198.toInt := b212; omega), (by have t1 : y56.toInt ≤ 1 := b58; have t2 : lx84.toInt ≤ y56.toInt := i104; have t3 : y198.toInt ≤ lx84.toInt := b213; omega)⟩
          replace hO86 := (hu217 _ (by decide)).trans hO86
          replace hF := q_us hF hu217 (by simp)
          exact J129 ((y192 : Int32), (y193 : Int32), (y194 : Int32), (a190 : Int32), (y196 : Int32), (y197 : Int32), (y198 : Int32)) _ _ _ _ ⟨(show q_F (0 ≤ a190.toInt + 1) from (show 0 ≤ a190.toInt + 1 from by have t1 : 0 ≤ a190.toInt := b199; omega)), (show q_F (a190.toInt ≤ 9999) from (show a190.toInt ≤ 9999 from by have t1 : a190.toInt ≤ 9999 := b200; omega)), (show q_F (lx78.toInt ≤ y192.toInt) from (show lx78.toInt ≤ y192.toInt from by have t1 : lx78.toInt ≤ y192.toInt := b201; omega)), (show q_F (y192.toInt ≤ lx78.toInt) from (show y192.toInt ≤ lx78.toInt from by have t1 : y192.toInt ≤ lx78.toInt := b202; omega)), (show q_F (lx79.toInt ≤ y193.toInt) from (show lx79.toInt ≤ y193.toInt from by have t1 : lx79.toInt ≤ y193.toInt := b203; omega)), (show q_F (y193.toInt ≤ lx79.toInt) from (show y193.toInt ≤ lx79.toInt from by have t1 : y193.toInt ≤ lx79.toInt := b204; omega)), (show q_F (lx77.toInt ≤ y194.toInt) from (show lx77.toInt ≤ y194.toInt from by have t1 : lx77.toInt ≤ y194.toInt := b205; omega)), (show q_F (y194.toInt ≤ lx77.toInt) from (show y194.toInt ≤ lx77.toInt from by have t1 : y194.toInt ≤ lx77.toInt := b206; omega)), (show q_F (lx82.toInt ≤ y196.toInt) from (show lx82.toInt ≤ y196.toInt from by have t1 : lx82.toInt ≤ y196.toInt := b209; omega)), (show q_F (y196.toInt ≤ lx82.toInt) from (show y196.toInt ≤ lx82.toInt from by have t1 : y196.toInt ≤ lx82.toInt := b210; omega)), (show q_F (lx84.toInt ≤ y198.toInt) from (show lx84.toInt ≤ y198.toInt from by have t1 : lx84.toInt ≤ y198.toInt := b212; omega)), (show q_F (y198.toInt ≤ lx84.toInt) from (show y198.toInt ≤ lx84.toInt from by have t1 : y198.toInt ≤ lx84.toInt := b213; omega)), V, q_lw hl (q_lw1 0 rfl q_lw0), hI, hF, hO191, hO86⟩
  ·
    intro J87
    refine lv_if_le (tgt := 44) hx hb d_6_2_34 (by decide) (fun c218 => ?_) (fun c218 => ?_)
    ·
      have b219 : q_F (a72.toInt ≤ 0) := (q_leI c218)
      refine lv_iconst (v := (-1)) hx hb d_6_2_44 (by decide) ?_
      exact J87 (((-1) : Int32), (y50 : Int32), (y51 : Int32), (y52 : Int32), (y53 : Int32), (y54 : Int32), (y55 : Int32), (y56 : Int32)) _ _ _ _ ⟨(show q_F (0 ≤ (-1) + 1) from (show 0 ≤ (-1) + 1 from by omega)), (show q_F ((-1) ≤ 9999) from (show (-1) ≤ 9999 from by omega)), (show q_F (a72.toInt ≤ (-1) + 9) from (show a72.toInt ≤ (-1) + 9 from by have t1 : a72.toInt ≤ 0 := b219; omega)), (show q_F ((-1) ≤ a72.toInt + 9998) from (show (-1) ≤ a72.toInt + 9998 from by have t1 : 0 ≤ a72.toInt + 1 := b73; omega)), (show q_F (y50.toInt ≤ y50.toInt) from (show y50.toInt ≤ y50.toInt from by omega)), (show q_F (y50.toInt ≤ y50.toInt) from (show y50.toInt ≤ y50.toInt from by omega)), (show q_F (y51.toInt ≤ y51.toInt) from (show y51.toInt ≤ y51.toInt from by omega)), (show q_F (y51.toInt ≤ y51.toInt) from (show y51.toInt ≤ y51.toInt from by omega)), (show q_F (y52.toInt ≤ y52.toInt) from (show y52.toInt ≤ y52.toInt from by omega)), (show q_F (y52.toInt ≤ y52.toInt) from (show y52.toInt ≤ y52.toInt from by omega)), (show q_F (y53.toInt ≤ y53.toInt) from (show y53.toInt ≤ y53.toInt from by omega)), (show q_F (y53.toInt ≤ y53.toInt) from (show y53.toInt ≤ y53.toInt from by omega)), (show q_F (y54.toInt ≤ y54.toInt) from (show y54.toInt ≤ y54.toInt from by omega)), (show q_F (y54.toInt ≤ y54.toInt) from (show y54.toInt ≤ y54.toInt from by omega)), (show q_F (y55.toInt ≤ y55.toInt) from (show y55.toInt ≤ y55.toInt from by omega)), (show q_F (y56.toInt ≤ y56.toInt) from (show y56.toInt ≤ y56.toInt from by omega)), (show q_F (y56.toInt ≤ y56.toInt) from (show y56.toInt ≤ y56.toInt from by omega)), V, q_lw hl (q_lw1 0 rfl q_lw0), hI, hF, hO49, hT1⟩
    ·
      have b220 : q_F (0 < a72.toInt) := (q_nleI c218)
      refine lv_aload_n hx hb d_6_2_37 rfl (lv_at hl 0 rfl) ?_
      refine q_goi V (q_runV (As := []) (rest := [.ref (q 47)]) (d := 3) (mc := 0) (ms := 0) (ci := 10) C0 V rfl LV_Dir_36 (T_Dir_takeNumber l D g q u47   hI y50 y51 y52 y53 y54 y55 y56 hO49 t1_0 hT1  _) rfl rfl hO49 rfl hl.1 rfl (Nat.le_of_ble_eq_true rfl) ⟨by decide, by decide⟩ ⟨Nat.le_of_ble_eq_true rfl, Nat.le_of_ble_eq_true rfl⟩ d_6_2_38) (fun a223 u221 H locs hp222 V => ?_)
      obtain ⟨hI, hu248, y225, y226, y227, y228, y229, y230, y231, hO224, b232, b233, b234, b235, b236, b237, b238, b239, b240, b241, b242, b243, b244, b245, b246⟩ := hp222
      replace hO224 : u221[47]? = (some (q 47, .inr (10, [.int y225, .int y226, .int y227, .int y228, .int y229, .int y230, .ref (q 1), .int y231])) : Option (Nat × va_E)) := hO224
      replace b232 : q_F (0 ≤ a223.toInt) := b232
      replace b233 : q_F (a223.toInt ≤ 9999) := b233
      replace b234 : q_F (y50.toInt ≤ y225.toInt) := b234
      replace b235 : q_F (y225.toInt ≤ y50.toInt) := b235
      replace b236 : q_F (y51.toInt ≤ y226.toInt) := b236
      replace b237 : q_F (y226.toInt ≤ y51.toInt) := b237
      replace b238 : q_F (y52.toInt ≤ y227.toInt) := b238
      replace b239 : q_F (y227.toInt ≤ y52.toInt) := b239
      replace b240 : q_F (y53.toInt ≤ y228.toInt) := b240
      replace b241 : q_F (y228.toInt ≤ y53.toInt) := b241
      replace b242 : q_F (y54.toInt ≤ y229.toInt) := b242
      replace b243 : q_F (y229.toInt ≤ y54.toInt) := b243
      replace b244 : q_F (y55.toInt ≤ y230.toInt) := b244
      replace b245 : q_F (y56.toInt ≤ y231.toInt) := b245
      replace b246 : q_F (y231.toInt ≤ y56.toInt) := b246
      replace hT1 := (hu248 _ (by decide)).trans hT1
      replace hF := q_uc hF hu248 (by simp)
      refine lv_goto (tgt := 45) hx hb d_6_2_41 (by decide) ?_
      exact J87 ((a223 : Int32), (y225 : Int32), (y226 : Int32), (y227 : Int32), (y228 : Int32), (y229 : Int32), (y230 : Int32), (y231 : Int32)) _ _ _ _ ⟨(show q_F (0 ≤ a223.toInt + 1) from (show 0 ≤ a223.toInt + 1 from by have t1 : 0 ≤ a223.toInt := b232; omega)), (show q_F (a223.toInt ≤ 9999) from (show a223.toInt ≤ 9999 from by have t1 : a223.toInt ≤ 9999 := b233; omega)), (show q_F (a72.toInt ≤ a223.toInt + 9) from (show a72.toInt ≤ a223.toInt + 9 from by have t1 : a72.toInt ≤ 9 := b74; have t2 : 0 ≤ a223.toInt := b232; omega)), (show q_F (a223.toInt ≤ a72.toInt + 9998) from (show a223.toInt ≤ a72.toInt + 9998 from by have t1 : 0 < a72.toInt := b220; have t2 : a223.toInt ≤ 9999 := b233; omega)), (show q_F (y50.toInt ≤ y225.toInt) from (show y50.toInt ≤ y225.toInt from by have t1 : y50.toInt ≤ y225.toInt := b234; omega)), (show q_F (y225.toInt ≤ y50.toInt) from (show y225.toInt ≤ y50.toInt from by have t1 : y225.toInt ≤ y50.toInt := b235; omega)), (show q_F (y51.toInt ≤ y226.toInt) from (show y51.toInt ≤ y226.toInt from by have t1 : y51.toInt ≤ y226.toInt := b236; omega)), (show q_F (y226.toInt ≤ y51.toInt) from (show y226.toInt ≤ y51.toInt from by have t1 : y226.toInt ≤ y51.toInt := b237; omega)), (show q_F (y52.toInt ≤ y227.toInt) from (show y52.toInt ≤ y227.toInt from by have t1 : y52.toInt ≤ y227.toInt := b238; omega)), (show q_F (y227.toInt ≤ y52.toInt) from (show y227.toInt ≤ y52.toInt from by have t1 : y227.toInt ≤ y52.toInt := b239; omega)), (show q_F (y53.toInt ≤ y228.toInt) from (show y53.toInt ≤ y228.toInt from by have t1 : y53.toInt ≤ y228.toInt := b240; omega)), (show q_F (y228.toInt ≤ y53.toInt) from (show y228.toInt ≤ y53.toInt from by have t1 : y228.toInt ≤ y53.toInt := b241; omega)), (show q_F (y54.toInt ≤ y229.toInt) from (show y54.toInt ≤ y229.toInt from by have t1 : y54.toInt ≤ y229.toInt := b242; omega)), (show q_F (y229.toInt ≤ y54.toInt) from (show y229.toInt ≤ y54.toInt from by have t1 : y229.toInt ≤ y54.toInt := b243; omega)), (show q_F (y55.toInt ≤ y230.toInt) from (show y55.toInt ≤ y230.toInt from by have t1 : y55.toInt ≤ y230.toInt := b244; omega)), (show q_F (y56.toInt ≤ y231.toInt) from (show y56.toInt ≤ y231.toInt from by have t1 : y56.toInt ≤ y231.toInt := b245; omega)), (show q_F (y231.toInt ≤ y56.toInt) from (show y231.toInt ≤ y56.toInt from by have t1 : y231.toInt ≤ y56.toInt := b246; omega)), V, q_lw hl (q_lw1 0 rfl q_lw0), hI, hF, hO224, hT1⟩
theorem d_6_12_0 : decode prog_6_method_12_code 0 = .ok (.aload_n 0, 1) := by decide +kernel
theorem d_6_12_1 : decode prog_6_method_12_code 1 = .ok (.ldc 89, 2) := by decide +kernel
theorem d_6_12_3 : decode prog_6_method_12_code 3 = .ok (.invokevirtual 80, 3) := by decide +kernel
set_option maxRecDepth 100000 in
theorem w_1820 : (Cond.code ({ cls := "NumberHouse$Directive", name := "isOneOf", desc := "(Ljava/lang/String;)Z" } : MethodName) prog_6_method_9_code (2 : Nat) (some .boolean)) ∈ q_tbl := q_of8 140 rfl (by decide +kernel)
set_option maxRecDepth 100000 in
theorem w_1817 : (Cond.methodLink "NumberHouse$Directive" (80 : Nat) ({ cls := "NumberHouse$Directive", name := "isOneOf", desc := "(Ljava/lang/String;)Z" } : MethodName)) ∈ q_tbl := q_of8 137 rfl (by decide +kernel)
set_option maxRecDepth 100000 in
theorem w_1818 : (Cond.instanceMethod ({ cls := "NumberHouse$Directive", name := "isOneOf", desc := "(Ljava/lang/String;)Z" } : MethodName)) ∈ q_tbl := q_of8 138 rfl (by decide +kernel)
set_option maxRecDepth 100000 in
theorem w_1819 : (Cond.selects "NumberHouse$Directive" ({ cls := "NumberHouse$Directive", name := "isOneOf", desc := "(Ljava/lang/String;)Z" } : MethodName) ({ cls := "NumberHouse$Directive", name := "isOneOf", desc := "(Ljava/lang/String;)Z" } : MethodName)) ∈ q_tbl := q_of8 139 rfl (by decide +kernel)
theorem LV_Dir_80 : q_LV "NumberHouse$Directive" 80 y_Dir_isOneOf prog_6_method_9_code 2 (some .boolean) 1 := ⟨w_1820, w_13, w_1817, w_1818, w_1819, ⟨by decide, by decide, by decide +kernel⟩⟩
theorem d_6_12_6 : decode prog_6_method_12_code 6 = .ok (.ifCond .eq 6, 3) := by decide +kernel
theorem d_6_12_12 : decode prog_6_method_12_code 12 = .ok (.aload_n 0, 1) := by decide +kernel
theorem d_6_12_13 : decode prog_6_method_12_code 13 = .ok (.ldc 91, 2) := by decide +kernel
theorem d_6_12_15 : decode prog_6_method_12_code 15 = .ok (.invokevirtual 80, 3) := by decide +kernel
theorem d_6_12_18 : decode prog_6_method_12_code 18 = .ok (.ifCond .eq 6, 3) := by decide +kernel
theorem d_6_12_24 : decode prog_6_method_12_code 24 = .ok (.sipush 255, 3) := by decide +kernel
theorem d_6_12_27 : decode prog_6_method_12_code 27 = .ok (.istore_n 1, 1) := by decide +kernel
theorem d_6_12_28 : decode prog_6_method_12_code 28 = .ok (.aload_n 0, 1) := by decide +kernel
theorem d_6_12_29 : decode prog_6_method_12_code 29 = .ok (.ldc 93, 2) := by decide +kernel
theorem d_6_12_31 : decode prog_6_method_12_code 31 = .ok (.invokevirtual 80, 3) := by decide +kernel
theorem d_6_12_34 : decode prog_6_method_12_code 34 = .ok (.ifCond .eq 8, 3) := by decide +kernel
theorem d_6_12_42 : decode prog_6_method_12_code 42 = .ok (.aload_n 0, 1) := by decide +kernel
theorem d_6_12_43 : decode prog_6_method_12_code 43 = .ok (.ldc 95, 2) := by decide +kernel
theorem d_6_12_45 : decode prog_6_method_12_code 45 = .ok (.invokevirtual 80, 3) := by decide +kernel
theorem d_6_12_48 : decode prog_6_method_12_code 48 = .ok (.ifCond .eq 10, 3) := by decide +kernel
theorem d_6_12_58 : decode prog_6_method_12_code 58 = .ok (.iload_n 1, 1) := by decide +kernel
theorem d_6_12_59 : decode prog_6_method_12_code 59 = .ok (.ireturn, 1) := by decide +kernel
theorem d_6_12_51 : decode prog_6_method_12_code 51 = .ok (.iload_n 1, 1) := by decide +kernel
theorem d_6_12_52 : decode prog_6_method_12_code 52 = .ok (.bipush (-17), 2) := by decide +kernel
theorem d_6_12_54 : decode prog_6_method_12_code 54 = .ok (.iand, 1) := by decide +kernel
theorem d_6_12_55 : decode prog_6_method_12_code 55 = .ok (.goto 4, 3) := by decide +kernel
theorem d_6_12_37 : decode prog_6_method_12_code 37 = .ok (.iload_n 1, 1) := by decide +kernel
theorem d_6_12_38 : decode prog_6_method_12_code 38 = .ok (.bipush (-3), 2) := by decide +kernel
theorem d_6_12_40 : decode prog_6_method_12_code 40 = .ok (.iand, 1) := by decide +kernel
theorem d_6_12_41 : decode prog_6_method_12_code 41 = .ok (.ireturn, 1) := by decide +kernel
theorem d_6_12_21 : decode prog_6_method_12_code 21 = .ok (.bipush 75, 2) := by decide +kernel
theorem d_6_12_23 : decode prog_6_method_12_code 23 = .ok (.ireturn, 1) := by decide +kernel
theorem d_6_12_9 : decode prog_6_method_12_code 9 = .ok (.bipush 65, 2) := by decide +kernel
theorem d_6_12_11 : decode prog_6_method_12_code 11 = .ok (.ireturn, 1) := by decide +kernel
def y_Dir_possibleFlags : MethodName := ⟨"NumberHouse$Directive", "possibleFlags", "()I"⟩
set_option maxRecDepth 100000 in
set_option maxHeartbeats 4000000 in
theorem T_Dir_possibleFlags (l : Launch) (D : va_G) (g : Nat → ClassId) (q : Nat → Nat) (ws : va_W) (hI : q_I (nsh g q) q ws) : q_mI l y_Dir_possibleFlags prog_6_method_12_code 2 (.int) 6 0 0 D g [.ref (q 47)] ws (fun r u => ws = u ∧ (65 ≤ r.toInt) ∧ (r.toInt ≤ 255)) := by
  intro sz
  refine q_into (by decide) (Nat.le_of_ble_eq_true rfl) ?_
  intro p e s m below meth c ls hsz C0 V hl
  have hx := C0.1
  have hb := C0.2.1
  have hl : lv_has ls 2 [(0, .ref (q 47))] := hl
  refine lv_aload_n hx hb d_6_12_0 rfl (lv_at hl 0 rfl) ?_
  refine q_ldcs (i := 3) C0 V rfl rfl d_6_12_1 ?_
  obtain ⟨y2, y3, y4, y6, y8, y9, y10, hO1, b5, b7, b11⟩ := n_o47 hI
  replace b5 : q_F (-1 ≤ y4.toInt ∧ y4.toInt ≤ 9999) := b5
  replace b7 : q_F (-1 ≤ y6.toInt ∧ y6.toInt ≤ 9999) := b7
  replace b11 : q_F (0 ≤ y10.toInt ∧ y10.toInt ≤ 1) := b11
  refine q_goi V (q_runV (As := [.ref (g (8 + 2 * 3))]) (rest := []) (d := 5) (mc := 0) (ms := 0) (ci := 10) C0 V rfl LV_Dir_80 (T_Dir_isOneOf_3 l D g q ws   hI   _) rfl rfl hO1 rfl hl.1 rfl (Nat.le_of_ble_eq_true rfl) ⟨by decide, by decide⟩ ⟨Nat.le_of_ble_eq_true rfl, Nat.le_of_ble_eq_true rfl⟩ d_6_12_3) (fun a14 u12 H locs hp13 V => ?_)
  obtain ⟨rfl, b15, b16⟩ := hp13
  replace b15 : q_F (0 ≤ a14.toInt) := b15
  replace b16 : q_F (a14.toInt ≤ 1) := b16
  refine lv_if_eq (tgt := 12) hx hb d_6_12_6 (by decide) (fun c18 => ?_) (fun c18 => ?_)
  ·
    have b19 : q_F (a14.toInt = 0) := (q_eqI c18)
    refine lv_aload_n hx hb d_6_12_12 rfl (lv_at hl 0 rfl) ?_
    refine q_ldcs (i := 4) C0 V rfl rfl d_6_12_13 ?_
    refine q_goi V (q_runV (As := [.ref (g (8 + 2 * 4))]) (rest := []) (d := 5) (mc := 0) (ms := 0) (ci := 10) C0 V rfl LV_Dir_80 (T_Dir_isOneOf_4 l D g q ws   hI   _) rfl rfl hO1 rfl hl.1 rfl (Nat.le_of_ble_eq_true rfl) ⟨by decide, by decide⟩ ⟨Nat.le_of_ble_eq_true rfl, Nat.le_of_ble_eq_true rfl⟩ d_6_12_15) (fun a22 u20 H locs hp21 V => ?_)
    obtain ⟨rfl, b23, b24⟩ := hp21
    replace b23 : q_F (0 ≤ a22.toInt) := b23
    replace b24 : q_F (a22.toInt ≤ 1) := b24
    refine lv_if_eq (tgt := 24) hx hb d_6_12_18 (by decide) (fun c26 => ?_) (fun c26 => ?_)
    ·
      have b27 : q_F (a22.toInt = 0) := (q_eqI c26)
      refine lv_sipush (v := 255) hx hb d_6_12_24 (by decide) ?_
      refine lv_istore_n (lv' := [(1, .int 255), (0, .ref (q 47))]) hx hb d_6_12_27 rfl hl (by decide) rfl (fun ls hl => ?_)
      refine lv_aload_n hx hb d_6_12_28 rfl (lv_at hl 1 rfl) ?_
      refine q_ldcs (i := 5) C0 V rfl rfl d_6_12_29 ?_
      refine q_goi V (q_runV (As := [.ref (g (8 + 2 * 5))]) (rest := []) (d := 5) (mc := 0) (ms := 0) (ci := 10) C0 V rfl LV_Dir_80 (T_Dir_isOneOf_5 l D g q ws   hI   _) rfl rfl hO1 rfl hl.1 rfl (Nat.le_of_ble_eq_true rfl) ⟨by decide, by decide⟩ ⟨Nat.le_of_ble_eq_true rfl, Nat.le_of_ble_eq_true rfl⟩ d_6_12_31) (fun a30 u28 H locs hp29 V => ?_)
      obtain ⟨rfl, b31, b32⟩ := hp29
      replace b31 : q_F (0 ≤ a30.toInt) := b31
      replace b32 : q_F (a30.toInt ≤ 1) := b32
      refine lv_if_eq (tgt := 42) hx hb d_6_12_34 (by decide) (fun c34 => ?_) (fun c34 => ?_)
      ·
        have b35 : q_F (a30.toInt = 0) := (q_eqI c34)
        refine lv_aload_n hx hb d_6_12_42 rfl (lv_at hl 1 rfl) ?_
        refine q_ldcs (i := 6) C0 V rfl rfl d_6_12_43 ?_
        refine q_goi V (q_runV (As := [.ref (g (8 + 2 * 6))]) (rest := []) (d := 5) (mc := 0) (ms := 0) (ci := 10) C0 V rfl LV_Dir_80 (T_Dir_isOneOf_6 l D g q ws   hI   _) rfl rfl hO1 rfl hl.1 rfl (Nat.le_of_ble_eq_true rfl) ⟨by decide, by decide⟩ ⟨Nat.le_of_ble_eq_true rfl, Nat.le_of_ble_eq_true rfl⟩ d_6_12_45) (fun a38 u36 H locs hp37 V => ?_)
        obtain ⟨rfl, b39, b40⟩ := hp37
        replace b39 : q_F (0 ≤ a38.toInt) := b39
        replace b40 : q_F (a38.toInt ≤ 1) := b40
        refine lv_if_eq (tgt := 58) hx hb d_6_12_48 (by decide) (fun c42 => ?_) (fun c42 => ?_)
        ·
          have b43 : q_F (a38.toInt = 0) := (q_eqI c42)
          refine lv_iload_n hx hb d_6_12_58 rfl (lv_at hl 0 rfl) ?_
          exact q_reti C0 V (⟨rfl, (show 65 ≤ (255 : Int32).toInt from (by have z0 : (255 : Int32).toInt = 255 := rfl; omega)), (show (255 : Int32).toInt ≤ 255 from (by have z0 : (255 : Int32).toInt = 255 := rfl; omega))⟩) d_6_12_59
        ·
          have b44 : q_F (a38.toInt ≠ 0) := (q_neI c42)
          refine lv_iload_n hx hb d_6_12_51 rfl (lv_at hl 0 rfl) ?_
          refine lv_bipush (v := (-17)) hx hb d_6_12_52 (by decide) ?_
          refine lv_iand hx hb d_6_12_54 ?_
          refine q_ti (v := 239) (by decide) ?_
          refine lv_goto (tgt := 59) hx hb d_6_12_55 (by decide) ?_
          exact q_reti C0 V (⟨rfl, (show 65 ≤ (239 : Int32).toInt from (by have z0 : (239 : Int32).toInt = 239 := rfl; omega)), (show (239 : Int32).toInt ≤ 255 from (by have z0 : (239 : Int32).toInt = 239 := rfl; omega))⟩) d_6_12_59
      ·
        have b45 : q_F (a30.toInt ≠ 0) := (q_neI c34)
        refine lv_iload_n hx hb d_6_12_37 rfl (lv_at hl 0 rfl) ?_
        refine lv_bipush (v := (-3)) hx hb d_6_12_38 (by decide) ?_
        refine lv_iand hx hb d_6_12_40 ?_
        refine q_ti (v := 253) (by decide) ?_
        exact q_reti C0 V (⟨rfl, (show 65 ≤ (253 : Int32).toInt from (by have z0 : (253 : Int32).toInt = 253 := rfl; omega)), (show (253 : Int32).toInt ≤ 255 from (by have z0 : (253 : Int32).toInt = 253 := rfl; omega))⟩) d_6_12_41
    ·
      have b46 : q_F (a22.toInt ≠ 0) := (q_neI c26)
      refine lv_bipush (v := 75) hx hb d_6_12_21 (by decide) ?_
      exact q_reti C0 V (⟨rfl, (show 65 ≤ (75 : Int32).toInt from (by have z0 : (75 : Int32).toInt = 75 := rfl; omega)), (show (75 : Int32).toInt ≤ 255 from (by have z0 : (75 : Int32).toInt = 75 := rfl; omega))⟩) d_6_12_23
  ·
    have b47 : q_F (a14.toInt ≠ 0) := (q_neI c18)
    refine lv_bipush (v := 65) hx hb d_6_12_9 (by decide) ?_
    exact q_reti C0 V (⟨rfl, (show 65 ≤ (65 : Int32).toInt from (by have z0 : (65 : Int32).toInt = 65 := rfl; omega)), (show (65 : Int32).toInt ≤ 255 from (by have z0 : (65 : Int32).toInt = 65 := rfl; omega))⟩) d_6_12_11
theorem d_6_11_0 : decode prog_6_method_11_code 0 = .ok (.aload_n 0, 1) := by decide +kernel
theorem d_6_11_1 : decode prog_6_method_11_code 1 = .ok (.getfield 55, 3) := by decide +kernel
theorem d_6_11_4 : decode prog_6_method_11_code 4 = .ok (.ifCond .ge 5, 3) := by decide +kernel
theorem d_6_11_9 : decode prog_6_method_11_code 9 = .ok (.aload_n 0, 1) := by decide +kernel
theorem d_6_11_10 : decode prog_6_method_11_code 10 = .ok (.ldc 78, 2) := by decide +kernel
theorem d_6_11_12 : decode prog_6_method_11_code 12 = .ok (.invokevirtual 80, 3) := by decide +kernel
theorem d_6_11_15 : decode prog_6_method_11_code 15 = .ok (.ifCond .ne 5, 3) := by decide +kernel
theorem d_6_11_20 : decode prog_6_method_11_code 20 = .ok (.aload_n 0, 1) := by decide +kernel
theorem d_6_11_21 : decode prog_6_method_11_code 21 = .ok (.getfield 22, 3) := by decide +kernel
theorem d_6_11_24 : decode prog_6_method_11_code 24 = .ok (.ifCond .eq 5, 3) := by decide +kernel
theorem d_6_11_29 : decode prog_6_method_11_code 29 = .ok (.aload_n 0, 1) := by decide +kernel
theorem d_6_11_30 : decode prog_6_method_11_code 30 = .ok (.getfield 55, 3) := by decide +kernel
theorem d_6_11_33 : decode prog_6_method_11_code 33 = .ok (.bipush 110, 2) := by decide +kernel
theorem d_6_11_63 : decode prog_6_method_11_code 63 = .ok (.aload_n 0, 1) := by decide +kernel
theorem d_6_11_64 : decode prog_6_method_11_code 64 = .ok (.getfield 43, 3) := by decide +kernel
theorem d_6_11_67 : decode prog_6_method_11_code 67 = .ok (.iconst (-1), 1) := by decide +kernel
theorem d_6_11_82 : decode prog_6_method_11_code 82 = .ok (.aload_n 0, 1) := by decide +kernel
theorem d_6_11_83 : decode prog_6_method_11_code 83 = .ok (.getfield 19, 3) := by decide +kernel
theorem d_6_11_86 : decode prog_6_method_11_code 86 = .ok (.aload_n 0, 1) := by decide +kernel
theorem d_6_11_87 : decode prog_6_method_11_code 87 = .ok (.invokevirtual 86, 3) := by decide +kernel
set_option maxRecDepth 100000 in
theorem w_1825 : (Cond.code ({ cls := "NumberHouse$Directive", name := "possibleFlags", desc := "()I" } : MethodName) prog_6_method_12_code (2 : Nat) (some .int)) ∈ q_tbl := q_of8 145 rfl (by decide +kernel)
set_option maxRecDepth 100000 in
theorem w_1822 : (Cond.methodLink "NumberHouse$Directive" (86 : Nat) ({ cls := "NumberHouse$Directive", name := "possibleFlags", desc := "()I" } : MethodName)) ∈ q_tbl := q_of8 142 rfl (by decide +kernel)
set_option maxRecDepth 100000 in
theorem w_1824 : (Cond.instanceMethod ({ cls := "NumberHouse$Directive", name := "possibleFlags", desc := "()I" } : MethodName)) ∈ q_tbl := q_of8 144 rfl (by decide +kernel)
theorem ws_50 : Cond.selects "NumberHouse$Directive" (⟨"NumberHouse$Directive", "possibleFlags", "()I"⟩ : MethodName) (⟨"NumberHouse$Directive", "possibleFlags", "()I"⟩ : MethodName) ∈ q_tbl := q_ofs 50 (by decide +kernel) (by decide +kernel)
theorem LV_Dir_86 : q_LV "NumberHouse$Directive" 86 y_Dir_possibleFlags prog_6_method_12_code 2 (some .int) 0 := ⟨w_1825, w_13, w_1822, w_1824, ws_50, ⟨by decide, by decide, by decide +kernel⟩⟩
theorem d_6_11_90 : decode prog_6_method_11_code 90 = .ok (.iconst (-1), 1) := by decide +kernel
theorem d_6_11_91 : decode prog_6_method_11_code 91 = .ok (.ixor, 1) := by decide +kernel
theorem d_6_11_92 : decode prog_6_method_11_code 92 = .ok (.iand, 1) := by decide +kernel
theorem d_6_11_93 : decode prog_6_method_11_code 93 = .ok (.ifCond .eq 6, 3) := by decide +kernel
theorem d_6_11_99 : decode prog_6_method_11_code 99 = .ok (.aload_n 0, 1) := by decide +kernel
theorem d_6_11_100 : decode prog_6_method_11_code 100 = .ok (.bipush 9, 2) := by decide +kernel
theorem d_6_11_102 : decode prog_6_method_11_code 102 = .ok (.invokevirtual 68, 3) := by decide +kernel
theorem d_6_11_119 : decode prog_6_method_11_code 119 = .ok (.aload_n 0, 1) := by decide +kernel
theorem d_6_11_120 : decode prog_6_method_11_code 120 = .ok (.iconst 1, 1) := by decide +kernel
theorem d_6_11_121 : decode prog_6_method_11_code 121 = .ok (.invokevirtual 68, 3) := by decide +kernel
theorem d_6_11_136 : decode prog_6_method_11_code 136 = .ok (.aload_n 0, 1) := by decide +kernel
theorem d_6_11_137 : decode prog_6_method_11_code 137 = .ok (.iconst 4, 1) := by decide +kernel
theorem d_6_11_138 : decode prog_6_method_11_code 138 = .ok (.invokevirtual 68, 3) := by decide +kernel
theorem d_6_11_141 : decode prog_6_method_11_code 141 = .ok (.ifCond .eq 17, 3) := by decide +kernel
theorem d_6_11_158 : decode prog_6_method_11_code 158 = .ok (.iconst 0, 1) := by decide +kernel
theorem d_6_11_159 : decode prog_6_method_11_code 159 = .ok (.istore_n 1, 1) := by decide +kernel
theorem d_6_11_160 : decode prog_6_method_11_code 160 = .ok (.iload_n 1, 1) := by decide +kernel
theorem d_6_11_161 : decode prog_6_method_11_code 161 = .ok (.ifCond .eq 8, 3) := by decide +kernel
theorem d_6_11_169 : decode prog_6_method_11_code 169 = .ok (.iconst 0, 1) := by decide +kernel
theorem d_6_11_170 : decode prog_6_method_11_code 170 = .ok (.ireturn, 1) := by decide +kernel
theorem d_6_11_144 : decode prog_6_method_11_code 144 = .ok (.aload_n 0, 1) := by decide +kernel
theorem d_6_11_145 : decode prog_6_method_11_code 145 = .ok (.sipush 128, 3) := by decide +kernel
theorem d_6_11_148 : decode prog_6_method_11_code 148 = .ok (.invokevirtual 68, 3) := by decide +kernel
theorem d_6_11_151 : decode prog_6_method_11_code 151 = .ok (.ifCond .eq 7, 3) := by decide +kernel
theorem d_6_11_154 : decode prog_6_method_11_code 154 = .ok (.iconst 1, 1) := by decide +kernel
theorem d_6_11_155 : decode prog_6_method_11_code 155 = .ok (.goto 4, 3) := by decide +kernel
theorem d_6_11_164 : decode prog_6_method_11_code 164 = .ok (.bipush 8, 2) := by decide +kernel
theorem d_6_11_166 : decode prog_6_method_11_code 166 = .ok (.goto 4, 3) := by decide +kernel
theorem d_6_11_124 : decode prog_6_method_11_code 124 = .ok (.ifCond .eq 12, 3) := by decide +kernel
theorem d_6_11_127 : decode prog_6_method_11_code 127 = .ok (.aload_n 0, 1) := by decide +kernel
theorem d_6_11_128 : decode prog_6_method_11_code 128 = .ok (.bipush 8, 2) := by decide +kernel
theorem d_6_11_130 : decode prog_6_method_11_code 130 = .ok (.invokevirtual 68, 3) := by decide +kernel
theorem d_6_11_133 : decode prog_6_method_11_code 133 = .ok (.ifCond .ne 21, 3) := by decide +kernel
theorem d_6_11_105 : decode prog_6_method_11_code 105 = .ok (.ifCond .eq 14, 3) := by decide +kernel
theorem d_6_11_108 : decode prog_6_method_11_code 108 = .ok (.aload_n 0, 1) := by decide +kernel
theorem d_6_11_109 : decode prog_6_method_11_code 109 = .ok (.getfield 40, 3) := by decide +kernel
theorem d_6_11_112 : decode prog_6_method_11_code 112 = .ok (.iconst (-1), 1) := by decide +kernel
theorem d_6_11_113 : decode prog_6_method_11_code 113 = .ok (.if_icmp .ne 6, 3) := by decide +kernel
theorem d_6_11_116 : decode prog_6_method_11_code 116 = .ok (.bipush 7, 2) := by decide +kernel
theorem d_6_11_118 : decode prog_6_method_11_code 118 = .ok (.ireturn, 1) := by decide +kernel
theorem d_6_11_96 : decode prog_6_method_11_code 96 = .ok (.bipush 6, 2) := by decide +kernel
theorem d_6_11_98 : decode prog_6_method_11_code 98 = .ok (.ireturn, 1) := by decide +kernel
theorem d_6_11_68 : decode prog_6_method_11_code 68 = .ok (.if_icmp .eq 14, 3) := by decide +kernel
theorem d_6_11_71 : decode prog_6_method_11_code 71 = .ok (.aload_n 0, 1) := by decide +kernel
theorem d_6_11_72 : decode prog_6_method_11_code 72 = .ok (.ldc 84, 2) := by decide +kernel
theorem d_6_11_74 : decode prog_6_method_11_code 74 = .ok (.invokevirtual 80, 3) := by decide +kernel
theorem d_6_11_77 : decode prog_6_method_11_code 77 = .ok (.ifCond .eq 5, 3) := by decide +kernel
theorem d_6_11_80 : decode prog_6_method_11_code 80 = .ok (.iconst 5, 1) := by decide +kernel
theorem d_6_11_81 : decode prog_6_method_11_code 81 = .ok (.ireturn, 1) := by decide +kernel
theorem d_6_11_35 : decode prog_6_method_11_code 35 = .ok (.if_icmp .ne 28, 3) := by decide +kernel
theorem d_6_11_38 : decode prog_6_method_11_code 38 = .ok (.aload_n 0, 1) := by decide +kernel
theorem d_6_11_39 : decode prog_6_method_11_code 39 = .ok (.getfield 40, 3) := by decide +kernel
theorem d_6_11_42 : decode prog_6_method_11_code 42 = .ok (.iconst (-1), 1) := by decide +kernel
theorem d_6_11_43 : decode prog_6_method_11_code 43 = .ok (.if_icmp .ne 18, 3) := by decide +kernel
theorem d_6_11_61 : decode prog_6_method_11_code 61 = .ok (.iconst 4, 1) := by decide +kernel
theorem d_6_11_62 : decode prog_6_method_11_code 62 = .ok (.ireturn, 1) := by decide +kernel
theorem d_6_11_46 : decode prog_6_method_11_code 46 = .ok (.aload_n 0, 1) := by decide +kernel
theorem d_6_11_47 : decode prog_6_method_11_code 47 = .ok (.getfield 43, 3) := by decide +kernel
theorem d_6_11_50 : decode prog_6_method_11_code 50 = .ok (.iconst (-1), 1) := by decide +kernel
theorem d_6_11_51 : decode prog_6_method_11_code 51 = .ok (.if_icmp .ne 10, 3) := by decide +kernel
theorem d_6_11_54 : decode prog_6_method_11_code 54 = .ok (.aload_n 0, 1) := by decide +kernel
theorem d_6_11_55 : decode prog_6_method_11_code 55 = .ok (.getfield 19, 3) := by decide +kernel
theorem d_6_11_58 : decode prog_6_method_11_code 58 = .ok (.ifCond .eq 5, 3) := by decide +kernel
theorem d_6_11_27 : decode prog_6_method_11_code 27 = .ok (.iconst 3, 1) := by decide +kernel
theorem d_6_11_28 : decode prog_6_method_11_code 28 = .ok (.ireturn, 1) := by decide +kernel
theorem d_6_11_18 : decode prog_6_method_11_code 18 = .ok (.iconst 2, 1) := by decide +kernel
theorem d_6_11_19 : decode prog_6_method_11_code 19 = .ok (.ireturn, 1) := by decide +kernel
theorem d_6_11_7 : decode prog_6_method_11_code 7 = .ok (.iconst 1, 1) := by decide +kernel
theorem d_6_11_8 : decode prog_6_method_11_code 8 = .ok (.ireturn, 1) := by decide +kernel
def y_Dir_fault : MethodName := ⟨"NumberHouse$Directive", "fault", "()I"⟩
set_option maxRecDepth 100000 in
set_option maxHeartbeats 4000000 in
theorem T_Dir_fault (l : Launch) (D : va_G) (g : Nat → ClassId) (q : Nat → Nat) (ws : va_W) (hI : q_I (nsh g q) q ws) : q_mI l y_Dir_fault prog_6_method_11_code 2 (.int) 7 0 0 D g [.ref (q 47)] ws (fun r u => ws = u ∧ (0 ≤ r.toInt) ∧ (r.toInt ≤ 8)) := by
  intro sz
  refine q_into (by decide) (Nat.le_of_ble_eq_true rfl) ?_
  intro p e s m below meth c ls hsz C0 V hl
  have hx := C0.1
  have hb := C0.2.1
  have hl : lv_has ls 2 [(0, .ref (q 47))] := hl
  refine lv_aload_n hx hb d_6_11_0 rfl (lv_at hl 0 rfl) ?_
  obtain ⟨y2, y3, y4, y6, y8, y9, y10, hO1, b5, b7, b11⟩ := n_o47 hI
  replace b5 : q_F (-1 ≤ y4.toInt ∧ y4.toInt ≤ 9999) := b5
  replace b7 : q_F (-1 ≤ y6.toInt ∧ y6.toInt ≤ 9999) := b7
  replace b11 : q_F (0 ≤ y10.toInt ∧ y10.toInt ≤ 1) := b11
  refine q_get (ci := 10) (j := 4) (v := .int y8) C0 V i_Dir rfl rfl hO1 (by decide) w_361 rfl d_6_11_1 ?_
  refine lv_if_ge (tgt := 9) hx hb d_6_11_4 (by decide) (fun c12 => ?_) (fun c12 => ?_)
  ·
    have b13 : q_F (0 ≤ y8.toInt) := (q_leI c12)
    refine lv_aload_n hx hb d_6_11_9 rfl (lv_at hl 0 rfl) ?_
    refine q_ldcs (i := 1) C0 V rfl rfl d_6_11_10 ?_
    refine q_goi V (q_runV (As := [.ref (g (8 + 2 * 1))]) (rest := []) (d := 5) (mc := 0) (ms := 0) (ci := 10) C0 V rfl LV_Dir_80 (T_Dir_isOneOf_1 l D g q ws   hI   _) rfl rfl hO1 rfl hl.1 rfl (Nat.le_of_ble_eq_true rfl) ⟨by decide, by decide⟩ ⟨Nat.le_of_ble_eq_true rfl, Nat.le_of_ble_eq_true rfl⟩ d_6_11_12) (fun a16 u14 H locs hp15 V => ?_)
    obtain ⟨rfl, b17, b18⟩ := hp15
    replace b17 : q_F (0 ≤ a16.toInt) := b17
    replace b18 : q_F (a16.toInt ≤ 1) := b18
    refine lv_if_ne (tgt := 20) hx hb d_6_11_15 (by decide) (fun c20 => ?_) (fun c20 => ?_)
    ·
      have b21 : q_F (a16.toInt ≠ 0) := (q_neI c20)
      refine lv_aload_n hx hb d_6_11_20 rfl (lv_at hl 0 rfl) ?_
      refine q_get (ci := 10) (j := 7) (v := .int y10) C0 V i_Dir rfl rfl hO1 (by decide) w_366 rfl d_6_11_21 ?_
      refine lv_if_eq (tgt := 29) hx hb d_6_11_24 (by decide) (fun c22 => ?_) (fun c22 => ?_)
      ·
        have b23 : q_F (y10.toInt = 0) := (q_eqI c22)
        refine lv_aload_n hx hb d_6_11_29 rfl (lv_at hl 0 rfl) ?_
        refine q_get (ci := 10) (j := 4) (v := .int y8) C0 V i_Dir rfl rfl hO1 (by decide) w_361 rfl d_6_11_30 ?_
        refine lv_bipush (v := 110) hx hb d_6_11_33 (by decide) ?_
        refine q_join (X := Unit) (fun z H locs ls _ => q_Wd D g (va_A ws sz) s ws H locs ∧ lv_has ls 2 [(0, .ref (q 47))]) (fun z => []) 63 0 0 ?_ ?_
        ·
          rintro _ H locs ls _ ⟨V, hl⟩
          replace hl : lv_has ls 2 [(0, .ref (q 47))] := hl
          refine lv_aload_n hx hb d_6_11_63 rfl (lv_at hl 0 rfl) ?_
          refine q_get (ci := 10) (j := 3) (v := .int y6) C0 V i_Dir rfl rfl hO1 (by decide) w_359 rfl d_6_11_64 ?_
          refine lv_iconst (v := (-1)) hx hb d_6_11_67 (by decide) ?_
          refine q_join (X := Unit) (fun z H locs ls _ => q_Wd D g (va_A ws sz) s ws H locs ∧ lv_has ls 2 [(0, .ref (q 47))]) (fun z => []) 82 0 0 ?_ ?_
          ·
            rintro _ H locs ls _ ⟨V, hl⟩
            replace hl : lv_has ls 2 [(0, .ref (q 47))] := hl
            refine lv_aload_n hx hb d_6_11_82 rfl (lv_at hl 0 rfl) ?_
            refine q_get (ci := 10) (j := 1) (v := .int y3) C0 V i_Dir rfl rfl hO1 (by decide) w_356 rfl d_6_11_83 ?_
            refine lv_aload_n hx hb d_6_11_86 rfl (lv_at hl 0 rfl) ?_
            refine q_goi V (q_runV (As := []) (rest := [.int y3]) (d := 6) (mc := 0) (ms := 0) (ci := 10) C0 V rfl LV_Dir_86 (T_Dir_possibleFlags l D g q ws   hI   _) rfl rfl hO1 rfl hl.1 rfl (Nat.le_of_ble_eq_true rfl) ⟨by decide, by decide⟩ ⟨Nat.le_of_ble_eq_true rfl, Nat.le_of_ble_eq_true rfl⟩ d_6_11_87) (fun a28 u26 H locs hp27 V => ?_)
            obtain ⟨rfl, b29, b30⟩ := hp27
            replace b29 : q_F (65 ≤ a28.toInt) := b29
            replace b30 : q_F (a28.toInt ≤ 255) := b30
            refine lv_iconst (v := (-1)) hx hb d_6_11_90 (by decide) ?_
            refine lv_ixor hx hb d_6_11_91 ?_
            obtain ⟨a32, e33⟩ := q_nm (a28 ^^^ (-1) : Int32)
            refine q_ti (v := a32) e33 ?_
            refine lv_iand hx hb d_6_11_92 ?_
            obtain ⟨a34, e35⟩ := q_nm (y3 &&& a32 : Int32)
            refine q_ti (v := a34) e35 ?_
            refine lv_if_eq (tgt := 99) hx hb d_6_11_93 (by decide) (fun c36 => ?_) (fun c36 => ?_)
            ·
              have b37 : q_F (a34.toInt = 0) := (q_eqI c36)
              refine lv_aload_n hx hb d_6_11_99 rfl (lv_at hl 0 rfl) ?_
              refine lv_bipush (v := 9) hx hb d_6_11_100 (by decide) ?_
              refine q_goi V (q_runV (As := [.int 9]) (rest := []) (d := 1) (mc := 0) (ms := 0) (ci := 10) C0 V rfl LV_Dir_68 (T_Dir_has l D g q ws  9 hI   _) rfl rfl hO1 rfl hl.1 rfl (Nat.le_of_ble_eq_true rfl) ⟨by decide, by decide⟩ ⟨Nat.le_of_ble_eq_true rfl, Nat.le_of_ble_eq_true rfl⟩ d_6_11_102) (fun a40 u38 H locs hp39 V => ?_)
              obtain ⟨rfl, b41, b42⟩ := hp39
              replace b41 : q_F (0 ≤ a40.toInt) := b41
              replace b42 : q_F (a40.toInt ≤ 1) := b42
              refine q_join (X := Unit) (fun z H locs ls _ => q_Wd D g (va_A ws sz) s ws H locs ∧ lv_has ls 2 [(0, .ref (q 47))]) (fun z => []) 119 0 0 ?_ ?_
              ·
                rintro _ H locs ls _ ⟨V, hl⟩
                replace hl : lv_has ls 2 [(0, .ref (q 47))] := hl
                refine lv_aload_n hx hb d_6_11_119 rfl (lv_at hl 0 rfl) ?_
                refine lv_iconst (v := 1) hx hb d_6_11_120 (by decide) ?_
                refine q_goi V (q_runV (As := [.int 1]) (rest := []) (d := 1) (mc := 0) (ms := 0) (ci := 10) C0 V rfl LV_Dir_68 (T_Dir_has l D g q ws  1 hI   _) rfl rfl hO1 rfl hl.1 rfl (Nat.le_of_ble_eq_true rfl) ⟨by decide, by decide⟩ ⟨Nat.le_of_ble_eq_true rfl, Nat.le_of_ble_eq_true rfl⟩ d_6_11_121) (fun a47 u45 H locs hp46 V => ?_)
                obtain ⟨rfl, b48, b49⟩ := hp46
                replace b48 : q_F (0 ≤ a47.toInt) := b48
                replace b49 : q_F (a47.toInt ≤ 1) := b49
                refine q_join (X := Unit) (fun z H locs ls _ => q_Wd D g (va_A ws sz) s ws H locs ∧ lv_has ls 2 [(0, .ref (q 47))]) (fun z => []) 136 0 0 ?_ ?_
                ·
                  rintro _ H locs ls _ ⟨V, hl⟩
                  replace hl : lv_has ls 2 [(0, .ref (q 47))] := hl
                  refine lv_aload_n hx hb d_6_11_136 rfl (lv_at hl 0 rfl) ?_
                  refine lv_iconst (v := 4) hx hb d_6_11_137 (by decide) ?_
                  refine q_goi V (q_runV (As := [.int 4]) (rest := []) (d := 1) (mc := 0) (ms := 0) (ci := 10) C0 V rfl LV_Dir_68 (T_Dir_has l D g q ws  4 hI   _) rfl rfl hO1 rfl hl.1 rfl (Nat.le_of_ble_eq_true rfl) ⟨by decide, by decide⟩ ⟨Nat.le_of_ble_eq_true rfl, Nat.le_of_ble_eq_true rfl⟩ d_6_11_138) (fun a54 u52 H locs hp53 V => ?_)
                  obtain ⟨rfl, b55, b56⟩ := hp53
                  replace b55 : q_F (0 ≤ a54.toInt) := b55
                  replace b56 : q_F (a54.toInt ≤ 1) := b56
                  refine lv_if_eq (tgt := 158) hx hb d_6_11_141 (by decide) (fun c58 => ?_) (fun c58 => ?_)
                  ·
                    have b59 : q_F (a54.toInt = 0) := (q_eqI c58)
                    refine lv_iconst (v := 0) hx hb d_6_11_158 (by decide) ?_
                    refine lv_istore_n (lv' := [(1, .int 0), (0, .ref (q 47))]) hx hb d_6_11_159 rfl hl (by decide) rfl (fun ls hl => ?_)
                    refine lv_iload_n hx hb d_6_11_160 rfl (lv_at hl 0 rfl) ?_
                    refine lv_if_eq (tgt := 169) hx hb d_6_11_161 (by decide) (fun c60 => ?_) (fun c60 => absurd (by decide) c60)
                    refine lv_iconst (v := 0) hx hb d_6_11_169 (by decide) ?_
                    exact q_reti C0 V (⟨rfl, (show 0 ≤ (0 : Int32).toInt from (by have z0 : (0 : Int32).toInt = 0 := rfl; omega)), (show (0 : Int32).toInt ≤ 8 from (by have z0 : (0 : Int32).toInt = 0 := rfl; omega))⟩) d_6_11_170
                  ·
                    have b61 : q_F (a54.toInt ≠ 0) := (q_neI c58)
                    refine lv_aload_n hx hb d_6_11_144 rfl (lv_at hl 0 rfl) ?_
                    refine lv_sipush (v := 128) hx hb d_6_11_145 (by decide) ?_
                    refine q_goi V (q_runV (As := [.int 128]) (rest := []) (d := 1) (mc := 0) (ms := 0) (ci := 10) C0 V rfl LV_Dir_68 (T_Dir_has l D g q ws  128 hI   _) rfl rfl hO1 rfl hl.1 rfl (Nat.le_of_ble_eq_true rfl) ⟨by decide, by decide⟩ ⟨Nat.le_of_ble_eq_true rfl, Nat.le_of_ble_eq_true rfl⟩ d_6_11_148) (fun a64 u62 H locs hp63 V => ?_)
                    obtain ⟨rfl, b65, b66⟩ := hp63
                    replace b65 : q_F (0 ≤ a64.toInt) := b65
                    replace b66 : q_F (a64.toInt ≤ 1) := b66
                    refine lv_if_eq (tgt := 158) hx hb d_6_11_151 (by decide) (fun c68 => ?_) (fun c68 => ?_)
                    ·
                      have b69 : q_F (a64.toInt = 0) := (q_eqI c68)
                      refine lv_iconst (v := 0) hx hb d_6_11_158 (by decide) ?_
                      refine lv_istore_n (lv' := [(1, .int 0), (0, .ref (q 47))]) hx hb d_6_11_159 rfl hl (by decide) rfl (fun ls hl => ?_)
                      refine lv_iload_n hx hb d_6_11_160 rfl (lv_at hl 0 rfl) ?_
                      refine lv_if_eq (tgt := 169) hx hb d_6_11_161 (by decide) (fun c70 => ?_) (fun c70 => absurd (by decide) c70)
                      refine lv_iconst (v := 0) hx hb d_6_11_169 (by decide) ?_
                      exact q_reti C0 V (⟨rfl, (show 0 ≤ (0 : Int32).toInt from (by have z0 : (0 : Int32).toInt = 0 := rfl; omega)), (show (0 : Int32).toInt ≤ 8 from (by have z0 : (0 : Int32).toInt = 0 := rfl; omega))⟩) d_6_11_170
                    ·
                      have b71 : q_F (a64.toInt ≠ 0) := (q_neI c68)
                      refine lv_iconst (v := 1) hx hb d_6_11_154 (by decide) ?_
                      refine lv_goto (tgt := 159) hx hb d_6_11_155 (by decide) ?_
                      refine lv_istore_n (lv' := [(1, .int 1), (0, .ref (q 47))]) hx hb d_6_11_159 rfl hl (by decide) rfl (fun ls hl => ?_)
                      refine lv_iload_n hx hb d_6_11_160 rfl (lv_at hl 0 rfl) ?_
                      refine lv_if_eq (tgt := 169) hx hb d_6_11_161 (by decide) (fun c72 => absurd c72 (by decide)) (fun c72 => ?_)
                      refine lv_bipush (v := 8) hx hb d_6_11_164 (by decide) ?_
                      refine lv_goto (tgt := 170) hx hb d_6_11_166 (by decide) ?_
                      exact q_reti C0 V (⟨rfl, (show 0 ≤ (8 : Int32).toInt from (by have z0 : (8 : Int32).toInt = 8 := rfl; omega)), (show (8 : Int32).toInt ≤ 8 from (by have z0 : (8 : Int32).toInt = 8 := rfl; omega))⟩) d_6_11_170
                ·
                  intro J51
                  refine lv_if_eq (tgt := 136) hx hb d_6_11_124 (by decide) (fun c73 => ?_) (fun c73 => ?_)
                  ·
                    have b74 : q_F (a47.toInt = 0) := (q_eqI c73)
                    exact J51 (()) _ _ _ ws ⟨V, q_lw hl (q_lw1 0 rfl q_lw0)⟩
                  ·
                    have b75 : q_F (a47.toInt ≠ 0) := (q_neI c73)
                    refine lv_aload_n hx hb d_6_11_127 rfl (lv_at hl 0 rfl) ?_
                    refine lv_bipush (v := 8) hx hb d_6_11_128 (by decide) ?_
                    refine q_goi V (q_runV (As := [.int 8]) (rest := []) (d := 1) (mc := 0) (ms := 0) (ci := 10) C0 V rfl LV_Dir_68 (T_Dir_has l D g q ws  8 hI   _) rfl rfl hO1 rfl hl.1 rfl (Nat.le_of_ble_eq_true rfl) ⟨by decide, by decide⟩ ⟨Nat.le_of_ble_eq_true rfl, Nat.le_of_ble_eq_true rfl⟩ d_6_11_130) (fun a78 u76 H locs hp77 V => ?_)
                    obtain ⟨rfl, b79, b80⟩ := hp77
                    replace b79 : q_F (0 ≤ a78.toInt) := b79
                    replace b80 : q_F (a78.toInt ≤ 1) := b80
                    refine lv_if_ne (tgt := 154) hx hb d_6_11_133 (by decide) (fun c82 => ?_) (fun c82 => ?_)
                    ·
                      have b83 : q_F (a78.toInt ≠ 0) := (q_neI c82)
                      refine lv_iconst (v := 1) hx hb d_6_11_154 (by decide) ?_
                      refine lv_goto (tgt := 159) hx hb d_6_11_155 (by decide) ?_
                      refine lv_istore_n (lv' := [(1, .int 1), (0, .ref (q 47))]) hx hb d_6_11_159 rfl hl (by decide) rfl (fun ls hl => ?_)
                      refine lv_iload_n hx hb d_6_11_160 rfl (lv_at hl 0 rfl) ?_
                      refine lv_if_eq (tgt := 169) hx hb d_6_11_161 (by decide) (fun c84 => absurd c84 (by decide)) (fun c84 => ?_)
                      refine lv_bipush (v := 8) hx hb d_6_11_164 (by decide) ?_
                      refine lv_goto (tgt := 170) hx hb d_6_11_166 (by decide) ?_
                      exact q_reti C0 V (⟨rfl, (show 0 ≤ (8 : Int32).toInt from (by have z0 : (8 : Int32).toInt = 8 := rfl; omega)), (show (8 : Int32).toInt ≤ 8 from (by have z0 : (8 : Int32).toInt = 8 := rfl; omega))⟩) d_6_11_170
                    ·
                      have b85 : q_F (a78.toInt = 0) := (q_eqI c82)
                      exact J51 (()) _ _ _ ws ⟨V, q_lw hl (q_lw1 0 rfl q_lw0)⟩
              ·
                intro J44
                refine lv_if_eq (tgt := 119) hx hb d_6_11_105 (by decide) (fun c86 => ?_) (fun c86 => ?_)
                ·
                  have b87 : q_F (a40.toInt = 0) := (q_eqI c86)
                  exact J44 (()) _ _ _ ws ⟨V, q_lw hl (q_lw1 0 rfl q_lw0)⟩
                ·
                  have b88 : q_F (a40.toInt ≠ 0) := (q_neI c86)
                  refine lv_aload_n hx hb d_6_11_108 rfl (lv_at hl 0 rfl) ?_
                  refine q_get (ci := 10) (j := 2) (v := .int y4) C0 V i_Dir rfl rfl hO1 (by decide) w_357 rfl d_6_11_109 ?_
                  refine lv_iconst (v := (-1)) hx hb d_6_11_112 (by decide) ?_
                  refine lv_icmp_ne (tgt := 119) hx hb d_6_11_113 (by decide) (fun c89 => ?_) (fun c89 => ?_)
                  ·
                    have b90 : q_F (y4.toInt ≠ (-1)) := (q_neI c89)
                    exact J44 (()) _ _ _ ws ⟨V, q_lw hl (q_lw1 0 rfl q_lw0)⟩
                  ·
                    have b91 : q_F (y4.toInt = (-1)) := (q_eqI c89)
                    refine lv_bipush (v := 7) hx hb d_6_11_116 (by decide) ?_
                    exact q_reti C0 V (⟨rfl, (show 0 ≤ (7 : Int32).toInt from (by have z0 : (7 : Int32).toInt = 7 := rfl; omega)), (show (7 : Int32).toInt ≤ 8 from (by have z0 : (7 : Int32).toInt = 7 := rfl; omega))⟩) d_6_11_118
            ·
              have b92 : q_F (a34.toInt ≠ 0) := (q_neI c36)
              refine lv_bipush (v := 6) hx hb d_6_11_96 (by decide) ?_
              exact q_reti C0 V (⟨rfl, (show 0 ≤ (6 : Int32).toInt from (by have z0 : (6 : Int32).toInt = 6 := rfl; omega)), (show (6 : Int32).toInt ≤ 8 from (by have z0 : (6 : Int32).toInt = 6 := rfl; omega))⟩) d_6_11_98
          ·
            intro J25
            refine lv_icmp_eq (tgt := 82) hx hb d_6_11_68 (by decide) (fun c93 => ?_) (fun c93 => ?_)
            ·
              have b94 : q_F (y6.toInt = (-1)) := (q_eqI c93)
              exact J25 (()) _ _ _ ws ⟨V, q_lw hl (q_lw1 0 rfl q_lw0)⟩
            ·
              have b95 : q_F (y6.toInt ≠ (-1)) := (q_neI c93)
              refine lv_aload_n hx hb d_6_11_71 rfl (lv_at hl 0 rfl) ?_
              refine q_ldcs (i := 2) C0 V rfl rfl d_6_11_72 ?_
              refine q_goi V (q_runV (As := [.ref (g (8 + 2 * 2))]) (rest := []) (d := 5) (mc := 0) (ms := 0) (ci := 10) C0 V rfl LV_Dir_80 (T_Dir_isOneOf_2 l D g q ws   hI   _) rfl rfl hO1 rfl hl.1 rfl (Nat.le_of_ble_eq_true rfl) ⟨by decide, by decide⟩ ⟨Nat.le_of_ble_eq_true rfl, Nat.le_of_ble_eq_true rfl⟩ d_6_11_74) (fun a98 u96 H locs hp97 V => ?_)
              obtain ⟨rfl, b99, b100⟩ := hp97
              replace b99 : q_F (0 ≤ a98.toInt) := b99
              replace b100 : q_F (a98.toInt ≤ 1) := b100
              refine lv_if_eq (tgt := 82) hx hb d_6_11_77 (by decide) (fun c102 => ?_) (fun c102 => ?_)
              ·
                have b103 : q_F (a98.toInt = 0) := (q_eqI c102)
                exact J25 (()) _ _ _ ws ⟨V, q_lw hl (q_lw1 0 rfl q_lw0)⟩
              ·
                have b104 : q_F (a98.toInt ≠ 0) := (q_neI c102)
                refine lv_iconst (v := 5) hx hb d_6_11_80 (by decide) ?_
                exact q_reti C0 V (⟨rfl, (show 0 ≤ (5 : Int32).toInt from (by have z0 : (5 : Int32).toInt = 5 := rfl; omega)), (show (5 : Int32).toInt ≤ 8 from (by have z0 : (5 : Int32).toInt = 5 := rfl; omega))⟩) d_6_11_81
        ·
          intro J24
          refine lv_icmp_ne (tgt := 63) hx hb d_6_11_35 (by decide) (fun c105 => ?_) (fun c105 => ?_)
          ·
            have b106 : q_F (y8.toInt ≠ 110) := (q_neI c105)
            exact J24 (()) _ _ _ ws ⟨V, q_lw hl (q_lw1 0 rfl q_lw0)⟩
          ·
            have b107 : q_F (y8.toInt = 110) := (q_eqI c105)
            refine lv_aload_n hx hb d_6_11_38 rfl (lv_at hl 0 rfl) ?_
            refine q_get (ci := 10) (j := 2) (v := .int y4) C0 V i_Dir rfl rfl hO1 (by decide) w_357 rfl d_6_11_39 ?_
            refine lv_iconst (v := (-1)) hx hb d_6_11_42 (by decide) ?_
            refine lv_icmp_ne (tgt := 61) hx hb d_6_11_43 (by decide) (fun c108 => ?_) (fun c108 => ?_)
            ·
              have b109 : q_F (y4.toInt ≠ (-1)) := (q_neI c108)
              refine lv_iconst (v := 4) hx hb d_6_11_61 (by decide) ?_
              exact q_reti C0 V (⟨rfl, (show 0 ≤ (4 : Int32).toInt from (by have z0 : (4 : Int32).toInt = 4 := rfl; omega)), (show (4 : Int32).toInt ≤ 8 from (by have z0 : (4 : Int32).toInt = 4 := rfl; omega))⟩) d_6_11_62
            ·
              have b110 : q_F (y4.toInt = (-1)) := (q_eqI c108)
              refine lv_aload_n hx hb d_6_11_46 rfl (lv_at hl 0 rfl) ?_
              refine q_get (ci := 10) (j := 3) (v := .int y6) C0 V i_Dir rfl rfl hO1 (by decide) w_359 rfl d_6_11_47 ?_
              refine lv_iconst (v := (-1)) hx hb d_6_11_50 (by decide) ?_
              refine lv_icmp_ne (tgt := 61) hx hb d_6_11_51 (by decide) (fun c111 => ?_) (fun c111 => ?_)
              ·
                have b112 : q_F (y6.toInt ≠ (-1)) := (q_neI c111)
                refine lv_iconst (v := 4) hx hb d_6_11_61 (by decide) ?_
                exact q_reti C0 V (⟨rfl, (show 0 ≤ (4 : Int32).toInt from (by have z0 : (4 : Int32).toInt = 4 := rfl; omega)), (show (4 : Int32).toInt ≤ 8 from (by have z0 : (4 : Int32).toInt = 4 := rfl; omega))⟩) d_6_11_62
              ·
                have b113 : q_F (y6.toInt = (-1)) := (q_eqI c111)
                refine lv_aload_n hx hb d_6_11_54 rfl (lv_at hl 0 rfl) ?_
                refine q_get (ci := 10) (j := 1) (v := .int y3) C0 V i_Dir rfl rfl hO1 (by decide) w_356 rfl d_6_11_55 ?_
                refine lv_if_eq (tgt := 63) hx hb d_6_11_58 (by decide) (fun c114 => ?_) (fun c114 => ?_)
                ·
                  have b115 : q_F (y3.toInt = 0) := (q_eqI c114)
                  exact J24 (()) _ _ _ ws ⟨V, q_lw hl (q_lw1 0 rfl q_lw0)⟩
                ·
                  have b116 : q_F (y3.toInt ≠ 0) := (q_neI c114)
                  refine lv_iconst (v := 4) hx hb d_6_11_61 (by decide) ?_
                  exact q_reti C0 V (⟨rfl, (show 0 ≤ (4 : Int32).toInt from (by have z0 : (4 : Int32).toInt = 4 := rfl; omega)), (show (4 : Int32).toInt ≤ 8 from (by have z0 : (4 : Int32).toInt = 4 := rfl; omega))⟩) d_6_11_62
      ·
        have b117 : q_F (y10.toInt ≠ 0) := (q_neI c22)
        refine lv_iconst (v := 3) hx hb d_6_11_27 (by decide) ?_
        exact q_reti C0 V (⟨rfl, (show 0 ≤ (3 : Int32).toInt from (by have z0 : (3 : Int32).toInt = 3 := rfl; omega)), (show (3 : Int32).toInt ≤ 8 from (by have z0 : (3 : Int32).toInt = 3 := rfl; omega))⟩) d_6_11_28
    ·
      have b118 : q_F (a16.toInt = 0) := (q_eqI c20)
      refine lv_iconst (v := 2) hx hb d_6_11_18 (by decide) ?_
      exact q_reti C0 V (⟨rfl, (show 0 ≤ (2 : Int32).toInt from (by have z0 : (2 : Int32).toInt = 2 := rfl; omega)), (show (2 : Int32).toInt ≤ 8 from (by have z0 : (2 : Int32).toInt = 2 := rfl; omega))⟩) d_6_11_19
  ·
    have b119 : q_F (y8.toInt < 0) := (q_nleI c12)
    refine lv_iconst (v := 1) hx hb d_6_11_7 (by decide) ?_
    exact q_reti C0 V (⟨rfl, (show 0 ≤ (1 : Int32).toInt from (by have z0 : (1 : Int32).toInt = 1 := rfl; omega)), (show (1 : Int32).toInt ≤ 8 from (by have z0 : (1 : Int32).toInt = 1 := rfl; omega))⟩) d_6_11_8
