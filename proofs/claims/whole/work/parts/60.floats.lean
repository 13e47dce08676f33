/-! Mill and Floats, what divides nothing -/
theorem d_29_49_0 : decode prog_29_method_49_code 0 = .ok (.lload_n 0, 1) := by decide +kernel
theorem d_29_49_1 : decode prog_29_method_49_code 1 = .ok (.lload_n 2, 1) := by decide +kernel
theorem d_29_49_2 : decode prog_29_method_49_code 2 = .ok (.ldiv, 1) := by decide +kernel
theorem d_29_49_3 : decode prog_29_method_49_code 3 = .ok (.lstore 4, 2) := by decide +kernel
theorem d_29_49_5 : decode prog_29_method_49_code 5 = .ok (.lload_n 0, 1) := by decide +kernel
theorem d_29_49_6 : decode prog_29_method_49_code 6 = .ok (.lload_n 2, 1) := by decide +kernel
theorem d_29_49_7 : decode prog_29_method_49_code 7 = .ok (.lxor, 1) := by decide +kernel
theorem d_29_49_8 : decode prog_29_method_49_code 8 = .ok (.lconst 0, 1) := by decide +kernel
theorem d_29_49_9 : decode prog_29_method_49_code 9 = .ok (.lcmp, 1) := by decide +kernel
theorem d_29_49_10 : decode prog_29_method_49_code 10 = .ok (.ifCond .ge 17, 3) := by decide +kernel
theorem d_29_49_27 : decode prog_29_method_49_code 27 = .ok (.lload 4, 2) := by decide +kernel
theorem d_29_49_29 : decode prog_29_method_49_code 29 = .ok (.lreturn, 1) := by decide +kernel
theorem d_29_49_13 : decode prog_29_method_49_code 13 = .ok (.lload 4, 2) := by decide +kernel
theorem d_29_49_15 : decode prog_29_method_49_code 15 = .ok (.lload_n 2, 1) := by decide +kernel
theorem d_29_49_16 : decode prog_29_method_49_code 16 = .ok (.lmul, 1) := by decide +kernel
theorem d_29_49_17 : decode prog_29_method_49_code 17 = .ok (.lload_n 0, 1) := by decide +kernel
theorem d_29_49_18 : decode prog_29_method_49_code 18 = .ok (.lcmp, 1) := by decide +kernel
theorem d_29_49_19 : decode prog_29_method_49_code 19 = .ok (.ifCond .eq 8, 3) := by decide +kernel
theorem d_29_49_22 : decode prog_29_method_49_code 22 = .ok (.lload 4, 2) := by decide +kernel
theorem d_29_49_24 : decode prog_29_method_49_code 24 = .ok (.lconst 1, 1) := by decide +kernel
theorem d_29_49_25 : decode prog_29_method_49_code 25 = .ok (.lsub, 1) := by decide +kernel
theorem d_29_49_26 : decode prog_29_method_49_code 26 = .ok (.lreturn, 1) := by decide +kernel
def y_jMath_floorDiv_JJJ : MethodName := ⟨"java/lang/Math", "floorDiv", "(JJ)J"⟩
set_option maxRecDepth 100000 in
set_option maxHeartbeats 4000000 in
theorem T_jMath_floorDiv_JJJ (l : Launch) (D : va_G) (g : Nat → ClassId) (q : Nat → Nat) (ws : va_W) (x1 : Int64) (x2 : Int64) (hI : q_I (nsh g q) q ws) (pre0 : 1 ≤ x2.toInt) : q_mL l y_jMath_floorDiv_JJJ prog_29_method_49_code 6 1 0 0 D g [.long x1, .long x2] ws (fun r u => ws = u ∧ True) := by
  intro sz
  refine q_intoF (by decide +kernel) (Nat.le_of_ble_eq_true rfl) ?_
  intro p e s m below meth c ls hsz C0 V hl
  have hx := C0.1
  have hb := C0.2.1
  replace pre0 : q_F (1 ≤ x2.toInt) := pre0
  have hl : lv_has ls 6 [(0, .long x1), (2, .long x2)] := hl
  refine lv_lload_n hx hb d_29_49_0 rfl (lv_at hl 0 rfl) ?_
  refine lv_lload_n hx hb d_29_49_1 rfl (lv_at hl 1 rfl) ?_
  refine lv_ldiv hx hb d_29_49_2 (s_nzL (by have t1 : 1 ≤ x2.toInt := pre0; omega)) ?_
  obtain ⟨j1, e2⟩ := q_nm (x1 / x2 : Int64)
  refine q_tl (v := j1) e2 ?_
  refine lv_lstore (lv' := [(4, .long j1), (0, .long x1), (2, .long x2)]) hx hb d_29_49_3 hl (by decide) rfl (fun ls hl => ?_)
  refine lv_lload_n hx hb d_29_49_5 rfl (lv_at hl 1 rfl) ?_
  refine lv_lload_n hx hb d_29_49_6 rfl (lv_at hl 2 rfl) ?_
  refine lv_lxor hx hb d_29_49_7 ?_
  obtain ⟨j3, e4⟩ := q_nm (x1 ^^^ x2 : Int64)
  refine q_tl (v := j3) e4 ?_
  refine lv_lconst (v := 0) hx hb d_29_49_8 (by decide) ?_
  refine W.lcmp hx hb d_29_49_9 ?_
  obtain ⟨a5, e6⟩ := q_nm (lg_cmp j3 0 : Int32)
  refine q_ti (v := a5) e6 ?_
  have b7 : q_F (-1 ≤ a5.toInt ∧ a5.toInt ≤ 1 ∧ ((a5.toInt = -1 ∧ j3.toInt < 0) ∨ (a5.toInt = 0 ∧ j3.toInt = 0) ∨ (a5.toInt = 1 ∧ 0 < j3.toInt))) := (by rw [← e6]; show -1 ≤ (lg_cmp j3 0 : Int32).toInt ∧ (lg_cmp j3 0 : Int32).toInt ≤ 1 ∧ (((lg_cmp j3 0 : Int32).toInt = -1 ∧ j3.toInt < 0) ∨ ((lg_cmp j3 0 : Int32).toInt = 0 ∧ j3.toInt = 0) ∨ ((lg_cmp j3 0 : Int32).toInt = 1 ∧ 0 < j3.toInt)); exact (by have y1 : (0 : Int64).toInt = 0 := rfl; have z := s_lcmp (a := j3) (b := 0); omega))
  refine lv_if_ge (tgt := 27) hx hb d_29_49_10 (by decide) (fun c8 => ?_) (fun c8 => ?_)
  ·
    have b9 : q_F (0 ≤ a5.toInt) := (q_leI c8)
    refine lv_lload hx hb d_29_49_27 (lv_at hl 0 rfl) ?_
    exact q_retl C0 V (⟨rfl, trivial⟩) d_29_49_29
  ·
    have b10 : q_F (a5.toInt < 0) := (q_nleI c8)
    refine lv_lload hx hb d_29_49_13 (lv_at hl 0 rfl) ?_
    refine lv_lload_n hx hb d_29_49_15 rfl (lv_at hl 2 rfl) ?_
    refine lv_lmul hx hb d_29_49_16 ?_
    obtain ⟨j11, e12⟩ := q_nm (j1 * x2 : Int64)
    refine q_tl (v := j11) e12 ?_
    refine lv_lload_n hx hb d_29_49_17 rfl (lv_at hl 1 rfl) ?_
    refine W.lcmp hx hb d_29_49_18 ?_
    obtain ⟨a13, e14⟩ := q_nm (lg_cmp j11 x1 : Int32)
    refine q_ti (v := a13) e14 ?_
    have b15 : q_F (-1 ≤ a13.toInt ∧ a13.toInt ≤ 1 ∧ ((a13.toInt = -1 ∧ j11.toInt < x1.toInt) ∨ (a13.toInt = 0 ∧ j11.toInt = x1.toInt) ∨ (a13.toInt = 1 ∧ x1.toInt < j11.toInt))) := (by rw [← e14]; show -1 ≤ (lg_cmp j11 x1 : Int32).toInt ∧ (lg_cmp j11 x1 : Int32).toInt ≤ 1 ∧ (((lg_cmp j11 x1 : Int32).toInt = -1 ∧ j11.toInt < x1.toInt) ∨ ((lg_cmp j11 x1 : Int32).toInt = 0 ∧ j11.toInt = x1.toInt) ∨ ((lg_cmp j11 x1 : Int32).toInt = 1 ∧ x1.toInt < j11.toInt)); exact s_lcmp)
    refine lv_if_eq (tgt := 27) hx hb d_29_49_19 (by decide) (fun c16 => ?_) (fun c16 => ?_)
    ·
      have b17 : q_F (a13.toInt = 0) := (q_eqI c16)
      refine lv_lload hx hb d_29_49_27 (lv_at hl 0 rfl) ?_
      exact q_retl C0 V (⟨rfl, trivial⟩) d_29_49_29
    ·
      have b18 : q_F (a13.toInt ≠ 0) := (q_neI c16)
      refine lv_lload hx hb d_29_49_22 (lv_at hl 0 rfl) ?_
      refine lv_lconst (v := 1) hx hb d_29_49_24 (by decide) ?_
      refine lv_lsub hx hb d_29_49_25 ?_
      obtain ⟨j19, e20⟩ := q_nm (j1 - 1 : Int64)
      refine q_tl (v := j19) e20 ?_
      exact q_retl C0 V (⟨rfl, trivial⟩) d_29_49_26
theorem d_8_2_0 : decode prog_8_method_2_code 0 = .ok (.iload_n 1, 1) := by decide +kernel
theorem d_8_2_1 : decode prog_8_method_2_code 1 = .ok (.iconst 2, 1) := by decide +kernel
theorem d_8_2_2 : decode prog_8_method_2_code 2 = .ok (.if_icmp .ne 15, 3) := by decide +kernel
theorem d_8_2_17 : decode prog_8_method_2_code 17 = .ok (.aload_n 0, 1) := by decide +kernel
theorem d_8_2_18 : decode prog_8_method_2_code 18 = .ok (.getfield 16, 3) := by decide +kernel
theorem d_8_2_21 : decode prog_8_method_2_code 21 = .ok (.aload_n 2, 1) := by decide +kernel
theorem d_8_2_22 : decode prog_8_method_2_code 22 = .ok (.invokevirtual 51, 3) := by decide +kernel
set_option maxRecDepth 100000 in
theorem w_1263 : (Cond.methodLink "NumberHouse$Mill" (51 : Nat) ({ cls := "NumberHouse$Big", name := "copy", desc := "(LNumberHouse$Big;)V" } : MethodName)) ∈ q_tbl := q_of6 63 rfl (by decide +kernel)
theorem LV_Mil_51 : q_LV "NumberHouse$Mill" 51 y_Big_copy prog_2_method_4_code 2 none 1 := ⟨w_790, w_4, w_1263, w_788, w_789, ⟨by decide, by decide, by decide +kernel⟩⟩
theorem d_8_2_25 : decode prog_8_method_2_code 25 = .ok (.aload_n 0, 1) := by decide +kernel
theorem d_8_2_26 : decode prog_8_method_2_code 26 = .ok (.getfield 16, 3) := by decide +kernel
theorem d_8_2_29 : decode prog_8_method_2_code 29 = .ok (.aload_n 3, 1) := by decide +kernel
theorem d_8_2_30 : decode prog_8_method_2_code 30 = .ok (.iload_n 1, 1) := by decide +kernel
theorem d_8_2_31 : decode prog_8_method_2_code 31 = .ok (.iconst 1, 1) := by decide +kernel
theorem d_8_2_32 : decode prog_8_method_2_code 32 = .ok (.if_icmp .ne 7, 3) := by decide +kernel
theorem d_8_2_39 : decode prog_8_method_2_code 39 = .ok (.iconst 0, 1) := by decide +kernel
theorem d_8_2_40 : decode prog_8_method_2_code 40 = .ok (.invokevirtual 55, 3) := by decide +kernel
set_option maxRecDepth 100000 in
theorem w_1267 : (Cond.code ({ cls := "NumberHouse$Big", name := "addSigned", desc := "(LNumberHouse$Big;Z)V" } : MethodName) prog_2_method_22_code (4 : Nat) (none : Option ClassFile.FieldType)) ∈ q_tbl := q_of6 67 rfl (by decide +kernel)
set_option maxRecDepth 100000 in
theorem w_1264 : (Cond.methodLink "NumberHouse$Mill" (55 : Nat) ({ cls := "NumberHouse$Big", name := "addSigned", desc := "(LNumberHouse$Big;Z)V" } : MethodName)) ∈ q_tbl := q_of6 64 rfl (by decide +kernel)
set_option maxRecDepth 100000 in
theorem w_1265 : (Cond.instanceMethod ({ cls := "NumberHouse$Big", name := "addSigned", desc := "(LNumberHouse$Big;Z)V" } : MethodName)) ∈ q_tbl := q_of6 65 rfl (by decide +kernel)
set_option maxRecDepth 100000 in
theorem w_1266 : (Cond.selects "NumberHouse$Big" ({ cls := "NumberHouse$Big", name := "addSigned", desc := "(LNumberHouse$Big;Z)V" } : MethodName) ({ cls := "NumberHouse$Big", name := "addSigned", desc := "(LNumberHouse$Big;Z)V" } : MethodName)) ∈ q_tbl := q_of6 66 rfl (by decide +kernel)
theorem LV_Mil_55 : q_LV "NumberHouse$Mill" 55 y_Big_addSigned prog_2_method_22_code 4 none 2 := ⟨w_1267, w_4, w_1264, w_1265, w_1266, ⟨by decide, by decide, by decide +kernel⟩⟩
theorem d_8_2_43 : decode prog_8_method_2_code 43 = .ok (.return_, 1) := by decide +kernel
theorem d_8_2_35 : decode prog_8_method_2_code 35 = .ok (.iconst 1, 1) := by decide +kernel
theorem d_8_2_36 : decode prog_8_method_2_code 36 = .ok (.goto 4, 3) := by decide +kernel
theorem d_8_2_5 : decode prog_8_method_2_code 5 = .ok (.aload_n 0, 1) := by decide +kernel
theorem d_8_2_6 : decode prog_8_method_2_code 6 = .ok (.getfield 16, 3) := by decide +kernel
theorem d_8_2_9 : decode prog_8_method_2_code 9 = .ok (.aload_n 2, 1) := by decide +kernel
theorem d_8_2_10 : decode prog_8_method_2_code 10 = .ok (.aload_n 3, 1) := by decide +kernel
theorem d_8_2_11 : decode prog_8_method_2_code 11 = .ok (.invokevirtual 47, 3) := by decide +kernel
set_option maxRecDepth 100000 in
theorem w_1262 : (Cond.code ({ cls := "NumberHouse$Big", name := "product", desc := "(LNumberHouse$Big;LNumberHouse$Big;)V" } : MethodName) prog_2_method_31_code (13 : Nat) (none : Option ClassFile.FieldType)) ∈ q_tbl := q_of6 62 rfl (by decide +kernel)
set_option maxRecDepth 100000 in
theorem w_1259 : (Cond.methodLink "NumberHouse$Mill" (47 : Nat) ({ cls := "NumberHouse$Big", name := "product", desc := "(LNumberHouse$Big;LNumberHouse$Big;)V" } : MethodName)) ∈ q_tbl := q_of6 59 rfl (by decide +kernel)
set_option maxRecDepth 100000 in
theorem w_1260 : (Cond.instanceMethod ({ cls := "NumberHouse$Big", name := "product", desc := "(LNumberHouse$Big;LNumberHouse$Big;)V" } : MethodName)) ∈ q_tbl := q_of6 60 rfl (by decide +kernel)
set_option maxRecDepth 100000 in
theorem w_1261 : (Cond.selects "NumberHouse$Big" ({ cls := "NumberHouse$Big", name := "product", desc := "(LNumberHouse$Big;LNumberHouse$Big;)V" } : MethodName) ({ cls := "NumberHouse$Big", name := "product", desc := "(LNumberHouse$Big;LNumberHouse$Big;)V" } : MethodName)) ∈ q_tbl := q_of6 61 rfl (by decide +kernel)
theorem LV_Mil_47 : q_LV "NumberHouse$Mill" 47 y_Big_product prog_2_method_31_code 13 none 2 := ⟨w_1262, w_4, w_1259, w_1260, w_1261, ⟨by decide, by decide, by decide +kernel⟩⟩
theorem d_8_2_14 : decode prog_8_method_2_code 14 = .ok (.goto 29, 3) := by decide +kernel
def y_Mil_addOrMultiply : MethodName := ⟨"NumberHouse$Mill", "addOrMultiply", "(ILNumberHouse$Big;LNumberHouse$Big;)V"⟩
set_option maxRecDepth 100000 in
set_option maxHeartbeats 4000000 in
theorem T_Mil_addOrMultiply (l : Launch) (D : va_G) (g : Nat → ClassId) (q : Nat → Nat) (ws : va_W) (k3 : Nat) (R : Int32) (hB3 : q_isBig (nsh g q) g q k3 R) (zk3 : (10 ≤ k3 ∧ k3 ≤ 32) ∨ 66 ≤ k3) (k4 : Nat) (R2 : Int32) (hB4 : q_isBig (nsh g q) g q k4 R2) (zk4 : (10 ≤ k4 ∧ k4 ≤ 32) ∨ 66 ≤ k4) (x2 : Int32) (hI : q_I (nsh g q) q ws) : q_mV l y_Mil_addOrMultiply prog_8_method_2_code 4 4 0 0 D g [.ref (q 9), .int x2, .ref (q k3), .ref (q k4)] ws (fun u => q_I (nsh g q) q u ∧ q_un ws u [10, 11] ∧ True) := by
  intro sz
  refine q_into (by decide) (Nat.le_of_ble_eq_true rfl) ?_
  intro p e s m below meth c ls hsz C0 V hl
  have hx := C0.1
  have hb := C0.2.1
  have hfk30 : q_F (0 ≤ R.toInt ∧ R.toInt ≤ 220) := hB3.2.2
  have hfk40 : q_F (0 ≤ R2.toInt ∧ R2.toInt ≤ 220) := hB4.2.2
  have hF : q_un ws ws [10, 11] := q_u0
  have hl : lv_has ls 4 [(0, .ref (q 9)), (1, .int x2), (2, .ref (q k3)), (3, .ref (q k4))] := hl
  refine lv_iload_n hx hb d_8_2_0 rfl (lv_at hl 1 rfl) ?_
  refine lv_iconst (v := 2) hx hb d_8_2_1 (by decide) ?_
  refine lv_icmp_ne (tgt := 17) hx hb d_8_2_2 (by decide) (fun c1 => ?_) (fun c1 => ?_)
  ·
    have b2 : q_F (x2.toInt ≠ 2) := (q_neI c1)
    refine lv_aload_n hx hb d_8_2_17 rfl (lv_at hl 0 rfl) ?_
    have hO3 := n_o9 hI
    refine q_get (ci := 4) (j := 0) (v := .ref (q 10)) C0 V i_Mil rfl rfl hO3 (by decide) w_108 rfl d_8_2_18 ?_
    refine lv_aload_n hx hb d_8_2_21 rfl (lv_at hl 2 rfl) ?_
    obtain ⟨y5, y6, hO4, b7, b8⟩ := q_bigO hI (n_b10 g q)
    replace b7 : q_F (0 ≤ y5.toInt ∧ y5.toInt ≤ 220) := b7
    replace b8 : q_F (0 ≤ y6.toInt ∧ y6.toInt ≤ 1) := b8
    refine q_gov V (q_runV (As := [.ref (q k3)]) (rest := []) (d := 2) (mc := 0) (ms := 0) (ci := 2) C0 V rfl LV_Mil_51 (S_Big_copy l D g (nsh g q) q ws 10 220 (n_b10 g q) k3 R hB3  hI   _) rfl rfl hO4 rfl hl.1 rfl (Nat.le_of_ble_eq_true rfl) ⟨by decide, by decide⟩ ⟨Nat.le_of_ble_eq_true rfl, Nat.le_of_ble_eq_true rfl⟩ d_8_2_22) (fun u9 H locs hp10 V => ?_)
    obtain ⟨_, hI, hu11⟩ := hp10
    replace hO3 := (hu11 _ (by decide)).trans hO3
    replace hF := q_uc hF hu11 (by simp)
    refine lv_aload_n hx hb d_8_2_25 rfl (lv_at hl 0 rfl) ?_
    refine q_get (ci := 4) (j := 0) (v := .ref (q 10)) C0 V i_Mil rfl rfl hO3 (by decide) w_108 rfl d_8_2_26 ?_
    refine lv_aload_n hx hb d_8_2_29 rfl (lv_at hl 3 rfl) ?_
    refine lv_iload_n hx hb d_8_2_30 rfl (lv_at hl 1 rfl) ?_
    refine lv_iconst (v := 1) hx hb d_8_2_31 (by decide) ?_
    refine lv_icmp_ne (tgt := 39) hx hb d_8_2_32 (by decide) (fun c12 => ?_) (fun c12 => ?_)
    ·
      have b13 : q_F (x2.toInt ≠ 1) := (q_neI c12)
      refine lv_iconst (v := 0) hx hb d_8_2_39 (by decide) ?_
      obtain ⟨y15, y16, hO14, b17, b18⟩ := q_bigO hI (n_b10 g q)
      replace b17 : q_F (0 ≤ y15.toInt ∧ y15.toInt ≤ 220) := b17
      replace b18 : q_F (0 ≤ y16.toInt ∧ y16.toInt ≤ 1) := b18
      refine q_gov V (q_runV (As := [.ref (q k4), .int 0]) (rest := []) (d := 3) (mc := 0) (ms := 0) (ci := 2) C0 V rfl LV_Mil_55 (S_Big_addSigned l D g (nsh g q) q u9 10 220 (n_b10 g q) k4 R2 hB4 0 hI  (by have y0 : (220 : Int32).toInt = 220 := rfl; have y1 : (0 : Int32).toInt = 0 := rfl; omega) (by have y0 : (220 : Int32).toInt = 220 := rfl; have y1 : (0 : Int32).toInt = 0 := rfl; omega) _) rfl rfl hO14 rfl hl.1 rfl (Nat.le_of_ble_eq_true rfl) ⟨by decide, by decide⟩ ⟨Nat.le_of_ble_eq_true rfl, Nat.le_of_ble_eq_true rfl⟩ d_8_2_40) (fun u19 H locs hp20 V => ?_)
      obtain ⟨_, hI, hu21⟩ := hp20
      replace hO3 := (hu21 _ (by decide)).trans hO3
      replace hF := q_uc hF hu21 (by simp)
      exact q_retv C0 V (⟨hI, hF, trivial⟩) d_8_2_43
    ·
      have b22 : q_F (x2.toInt = 1) := (q_eqI c12)
      refine lv_iconst (v := 1) hx hb d_8_2_35 (by decide) ?_
      refine lv_goto (tgt := 40) hx hb d_8_2_36 (by decide) ?_
      obtain ⟨y24, y25, hO23, b26, b27⟩ := q_bigO hI (n_b10 g q)
      replace b26 : q_F (0 ≤ y24.toInt ∧ y24.toInt ≤ 220) := b26
      replace b27 : q_F (0 ≤ y25.toInt ∧ y25.toInt ≤ 1) := b27
      refine q_gov V (q_runV (As := [.ref (q k4), .int 1]) (rest := []) (d := 3) (mc := 0) (ms := 0) (ci := 2) C0 V rfl LV_Mil_55 (S_Big_addSigned l D g (nsh g q) q u9 10 220 (n_b10 g q) k4 R2 hB4 1 hI  (by have y0 : (220 : Int32).toInt = 220 := rfl; have y1 : (1 : Int32).toInt = 1 := rfl; omega) (by have y0 : (220 : Int32).toInt = 220 := rfl; have y1 : (1 : Int32).toInt = 1 := rfl; omega) _) rfl rfl hO23 rfl hl.1 rfl (Nat.le_of_ble_eq_true rfl) ⟨by decide, by decide⟩ ⟨Nat.le_of_ble_eq_true rfl, Nat.le_of_ble_eq_true rfl⟩ d_8_2_40) (fun u28 H locs hp29 V => ?_)
      obtain ⟨_, hI, hu30⟩ := hp29
      replace hO3 := (hu30 _ (by decide)).trans hO3
      replace hF := q_uc hF hu30 (by simp)
      exact q_retv C0 V (⟨hI, hF, trivial⟩) d_8_2_43
  ·
    have b31 : q_F (x2.toInt = 2) := (q_eqI c1)
    refine lv_aload_n hx hb d_8_2_5 rfl (lv_at hl 0 rfl) ?_
    have hO32 := n_o9 hI
    refine q_get (ci := 4) (j := 0) (v := .ref (q 10)) C0 V i_Mil rfl rfl hO32 (by decide) w_108 rfl d_8_2_6 ?_
    refine lv_aload_n hx hb d_8_2_9 rfl (lv_at hl 2 rfl) ?_
    refine lv_aload_n hx hb d_8_2_10 rfl (lv_at hl 3 rfl) ?_
    obtain ⟨y34, y35, hO33, b36, b37⟩ := q_bigO hI (n_b10 g q)
    replace b36 : q_F (0 ≤ y34.toInt ∧ y34.toInt ≤ 220) := b36
    replace b37 : q_F (0 ≤ y35.toInt ∧ y35.toInt ≤ 1) := b37
    refine q_gov V (q_runV (As := [.ref (q k3), .ref (q k4)]) (rest := []) (d := 3) (mc := 0) (ms := 0) (ci := 2) C0 V rfl LV_Mil_47 (T_Big_product l D g q ws 10 220 (n_b10 g q) (by decide) k3 R hB3 zk3 k4 R2 hB4 zk4  hI   _) rfl rfl hO33 rfl hl.1 rfl (Nat.le_of_ble_eq_true rfl) ⟨by decide, by decide⟩ ⟨Nat.le_of_ble_eq_true rfl, Nat.le_of_ble_eq_true rfl⟩ d_8_2_11) (fun u38 H locs hp39 V => ?_)
    obtain ⟨hI, hu41, -⟩ := hp39
    replace hO32 := (hu41 _ (by decide)).trans hO32
    replace hF := q_uc hF hu41 (by simp)
    refine lv_goto (tgt := 43) hx hb d_8_2_14 (by decide) ?_
    exact q_retv C0 V (⟨hI, hF, trivial⟩) d_8_2_43
theorem d_8_12_0 : decode prog_8_method_12_code 0 = .ok (.iload_n 0, 1) := by decide +kernel
theorem d_8_12_1 : decode prog_8_method_12_code 1 = .ok (.tableswitch 39 8 10 #[27, 31, 35], 27) := by decide +kernel
theorem d_8_12_28 : decode prog_8_method_12_code 28 = .ok (.iload_n 1, 1) := by decide +kernel
theorem d_8_12_29 : decode prog_8_method_12_code 29 = .ok (.iload_n 2, 1) := by decide +kernel
theorem d_8_12_30 : decode prog_8_method_12_code 30 = .ok (.iand, 1) := by decide +kernel
theorem d_8_12_31 : decode prog_8_method_12_code 31 = .ok (.ireturn, 1) := by decide +kernel
theorem d_8_12_32 : decode prog_8_method_12_code 32 = .ok (.iload_n 1, 1) := by decide +kernel
theorem d_8_12_33 : decode prog_8_method_12_code 33 = .ok (.iload_n 2, 1) := by decide +kernel
theorem d_8_12_34 : decode prog_8_method_12_code 34 = .ok (.ior, 1) := by decide +kernel
theorem d_8_12_35 : decode prog_8_method_12_code 35 = .ok (.ireturn, 1) := by decide +kernel
theorem d_8_12_36 : decode prog_8_method_12_code 36 = .ok (.iload_n 1, 1) := by decide +kernel
theorem d_8_12_37 : decode prog_8_method_12_code 37 = .ok (.iload_n 2, 1) := by decide +kernel
theorem d_8_12_38 : decode prog_8_method_12_code 38 = .ok (.ixor, 1) := by decide +kernel
theorem d_8_12_39 : decode prog_8_method_12_code 39 = .ok (.ireturn, 1) := by decide +kernel
theorem d_8_12_40 : decode prog_8_method_12_code 40 = .ok (.iload_n 1, 1) := by decide +kernel
theorem d_8_12_41 : decode prog_8_method_12_code 41 = .ok (.iload_n 2, 1) := by decide +kernel
theorem d_8_12_42 : decode prog_8_method_12_code 42 = .ok (.iconst (-1), 1) := by decide +kernel
theorem d_8_12_43 : decode prog_8_method_12_code 43 = .ok (.ixor, 1) := by decide +kernel
theorem d_8_12_44 : decode prog_8_method_12_code 44 = .ok (.iand, 1) := by decide +kernel
theorem d_8_12_45 : decode prog_8_method_12_code 45 = .ok (.ireturn, 1) := by decide +kernel
def y_Mil_mixed : MethodName := ⟨"NumberHouse$Mill", "mixed", "(III)I"⟩
set_option maxRecDepth 100000 in
set_option maxHeartbeats 4000000 in
theorem T_Mil_mixed (l : Launch) (D : va_G) (g : Nat → ClassId) (q : Nat → Nat) (ws : va_W) (x1 : Int32) (x2 : Int32) (x3 : Int32) (hI : q_I (nsh g q) q ws) : q_mI l y_Mil_mixed prog_8_method_12_code 3 (.int) 1 0 0 D g [.int x1, .int x2, .int x3] ws (fun r u => ws = u ∧ True) := by
  intro sz
  refine q_into (by decide) (Nat.le_of_ble_eq_true rfl) ?_
  intro p e s m below meth c ls hsz C0 V hl
  have hx := C0.1
  have hb := C0.2.1
  have hl : lv_has ls 3 [(0, .int x1), (1, .int x2), (2, .int x3)] := hl
  refine lv_iload_n hx hb d_8_12_0 rfl (lv_at hl 0 rfl) ?_
  by_cases c1 : x1 = 8
  ·
    have b2 : q_F (x1.toInt = 8) := (q_eqI c1)
    refine q_ti (v := 8) c1 ?_
    refine lv_tableIn (tgt := 28) (off := 27) hx hb d_8_12_1 (by decide) (by decide) (by decide) (by decide) ?_
    refine lv_iload_n hx hb d_8_12_28 rfl (lv_at hl 1 rfl) ?_
    refine lv_iload_n hx hb d_8_12_29 rfl (lv_at hl 2 rfl) ?_
    refine lv_iand hx hb d_8_12_30 ?_
    obtain ⟨a3, e4⟩ := q_nm (x2 &&& x3 : Int32)
    refine q_ti (v := a3) e4 ?_
    exact q_reti C0 V (⟨rfl, trivial⟩) d_8_12_31
  have b5 : q_F (x1.toInt ≠ 8) := (q_neI c1)
  by_cases c6 : x1 = 9
  ·
    have b7 : q_F (x1.toInt = 9) := (q_eqI c6)
    refine q_ti (v := 9) c6 ?_
    refine lv_tableIn (tgt := 32) (off := 31) hx hb d_8_12_1 (by decide) (by decide) (by decide) (by decide) ?_
    refine lv_iload_n hx hb d_8_12_32 rfl (lv_at hl 1 rfl) ?_
    refine lv_iload_n hx hb d_8_12_33 rfl (lv_at hl 2 rfl) ?_
    refine lv_ior hx hb d_8_12_34 ?_
    obtain ⟨a8, e9⟩ := q_nm (x2 ||| x3 : Int32)
    refine q_ti (v := a8) e9 ?_
    exact q_reti C0 V (⟨rfl, trivial⟩) d_8_12_35
  have b10 : q_F (x1.toInt ≠ 9) := (q_neI c6)
  by_cases c11 : x1 = 10
  ·
    have b12 : q_F (x1.toInt = 10) := (q_eqI c11)
    refine q_ti (v := 10) c11 ?_
    refine lv_tableIn (tgt := 36) (off := 35) hx hb d_8_12_1 (by decide) (by decide) (by decide) (by decide) ?_
    refine lv_iload_n hx hb d_8_12_36 rfl (lv_at hl 1 rfl) ?_
    refine lv_iload_n hx hb d_8_12_37 rfl (lv_at hl 2 rfl) ?_
    refine lv_ixor hx hb d_8_12_38 ?_
    obtain ⟨a13, e14⟩ := q_nm (x2 ^^^ x3 : Int32)
    refine q_ti (v := a13) e14 ?_
    exact q_reti C0 V (⟨rfl, trivial⟩) d_8_12_39
  have b15 : q_F (x1.toInt ≠ 10) := (q_neI c11)
  refine lv_tableOut (tgt := 40) hx hb d_8_12_1 (by have z0 : x1.toInt ≠ 8 := q_neI c1; have z1 : x1.toInt ≠ 9 := q_neI c6; have z2 : x1.toInt ≠ 10 := q_neI c11; omega) (by decide) ?_
  refine lv_iload_n hx hb d_8_12_40 rfl (lv_at hl 1 rfl) ?_
  refine lv_iload_n hx hb d_8_12_41 rfl (lv_at hl 2 rfl) ?_
  refine lv_iconst (v := (-1)) hx hb d_8_12_42 (by decide) ?_
  refine lv_ixor hx hb d_8_12_43 ?_
  obtain ⟨a16, e17⟩ := q_nm (x3 ^^^ (-1) : Int32)
  refine q_ti (v := a16) e17 ?_
  refine lv_iand hx hb d_8_12_44 ?_
  obtain ⟨a18, e19⟩ := q_nm (x2 &&& a16 : Int32)
  refine q_ti (v := a18) e19 ?_
  exact q_reti C0 V (⟨rfl, trivial⟩) d_8_12_45
theorem d_8_11_0 : decode prog_8_method_11_code 0 = .ok (.aload_n 2, 1) := by decide +kernel
theorem d_8_11_1 : decode prog_8_method_11_code 1 = .ok (.getfield 62, 3) := by decide +kernel
set_option maxRecDepth 100000 in
theorem w_89 : (Cond.fieldLink "NumberHouse$Mill" (62 : Nat) "NumberHouse$Big" "size" "I") ∈ q_tbl := q_of1 89 rfl (by decide +kernel)
theorem d_8_11_4 : decode prog_8_method_11_code 4 = .ok (.aload_n 3, 1) := by decide +kernel
theorem d_8_11_5 : decode prog_8_method_11_code 5 = .ok (.getfield 62, 3) := by decide +kernel
theorem d_8_11_8 : decode prog_8_method_11_code 8 = .ok (.invokestatic 122, 3) := by decide +kernel
set_option maxRecDepth 100000 in
theorem w_1301 : (Cond.methodLink "NumberHouse$Mill" (122 : Nat) ({ cls := "java/lang/Math", name := "max", desc := "(II)I" } : MethodName)) ∈ q_tbl := q_of6 101 rfl (by decide +kernel)
theorem d_8_11_11 : decode prog_8_method_11_code 11 = .ok (.iconst 1, 1) := by decide +kernel
theorem d_8_11_12 : decode prog_8_method_11_code 12 = .ok (.iadd, 1) := by decide +kernel
theorem d_8_11_13 : decode prog_8_method_11_code 13 = .ok (.istore 4, 2) := by decide +kernel
theorem d_8_11_15 : decode prog_8_method_11_code 15 = .ok (.aload_n 2, 1) := by decide +kernel
theorem d_8_11_16 : decode prog_8_method_11_code 16 = .ok (.invokevirtual 128, 3) := by decide +kernel
set_option maxRecDepth 100000 in
theorem w_1305 : (Cond.code ({ cls := "NumberHouse$Big", name := "lowestLimb", desc := "()I" } : MethodName) prog_2_method_18_code (2 : Nat) (some .int)) ∈ q_tbl := q_of6 105 rfl (by decide +kernel)
set_option maxRecDepth 100000 in
theorem w_1302 : (Cond.methodLink "NumberHouse$Mill" (128 : Nat) ({ cls := "NumberHouse$Big", name := "lowestLimb", desc := "()I" } : MethodName)) ∈ q_tbl := q_of6 102 rfl (by decide +kernel)
set_option maxRecDepth 100000 in
theorem w_1303 : (Cond.instanceMethod ({ cls := "NumberHouse$Big", name := "lowestLimb", desc := "()I" } : MethodName)) ∈ q_tbl := q_of6 103 rfl (by decide +kernel)
set_option maxRecDepth 100000 in
theorem w_1304 : (Cond.selects "NumberHouse$Big" ({ cls := "NumberHouse$Big", name := "lowestLimb", desc := "()I" } : MethodName) ({ cls := "NumberHouse$Big", name := "lowestLimb", desc := "()I" } : MethodName)) ∈ q_tbl := q_of6 104 rfl (by decide +kernel)
theorem LV_Mil_128 : q_LV "NumberHouse$Mill" 128 y_Big_lowestLimb prog_2_method_18_code 2 (some .int) 0 := ⟨w_1305, w_4, w_1302, w_1303, w_1304, ⟨by decide, by decide, by decide +kernel⟩⟩
theorem d_8_11_19 : decode prog_8_method_11_code 19 = .ok (.istore 5, 2) := by decide +kernel
theorem d_8_11_21 : decode prog_8_method_11_code 21 = .ok (.aload_n 3, 1) := by decide +kernel
theorem d_8_11_22 : decode prog_8_method_11_code 22 = .ok (.invokevirtual 128, 3) := by decide +kernel
theorem d_8_11_25 : decode prog_8_method_11_code 25 = .ok (.istore 6, 2) := by decide +kernel
theorem d_8_11_27 : decode prog_8_method_11_code 27 = .ok (.iload_n 1, 1) := by decide +kernel
theorem d_8_11_28 : decode prog_8_method_11_code 28 = .ok (.aload_n 2, 1) := by decide +kernel
theorem d_8_11_29 : decode prog_8_method_11_code 29 = .ok (.getfield 66, 3) := by decide +kernel
set_option maxRecDepth 100000 in
theorem w_96 : (Cond.fieldLink "NumberHouse$Mill" (66 : Nat) "NumberHouse$Big" "negative" "Z") ∈ q_tbl := q_of1 96 rfl (by decide +kernel)
theorem d_8_11_40 : decode prog_8_method_11_code 40 = .ok (.aload_n 3, 1) := by decide +kernel
theorem d_8_11_41 : decode prog_8_method_11_code 41 = .ok (.getfield 66, 3) := by decide +kernel
theorem d_8_11_52 : decode prog_8_method_11_code 52 = .ok (.invokestatic 131, 3) := by decide +kernel
set_option maxRecDepth 100000 in
theorem w_1308 : (Cond.code ({ cls := "NumberHouse$Mill", name := "mixed", desc := "(III)I" } : MethodName) prog_8_method_12_code (3 : Nat) (some .int)) ∈ q_tbl := q_of6 108 rfl (by decide +kernel)
set_option maxRecDepth 100000 in
theorem w_1306 : (Cond.methodLink "NumberHouse$Mill" (131 : Nat) ({ cls := "NumberHouse$Mill", name := "mixed", desc := "(III)I" } : MethodName)) ∈ q_tbl := q_of6 106 rfl (by decide +kernel)
set_option maxRecDepth 100000 in
theorem w_1307 : (Cond.static ({ cls := "NumberHouse$Mill", name := "mixed", desc := "(III)I" } : MethodName)) ∈ q_tbl := q_of6 107 rfl (by decide +kernel)
theorem LS_Mil_131 : q_LS "NumberHouse$Mill" 131 y_Mil_mixed prog_8_method_12_code 3 (some .int) 3 := ⟨w_1308, w_3, w_1306, w_1307, ⟨by decide, by decide, by decide +kernel⟩⟩
theorem d_8_11_55 : decode prog_8_method_11_code 55 = .ok (.iconst 1, 1) := by decide +kernel
theorem d_8_11_64 : decode prog_8_method_11_code 64 = .ok (.istore 7, 2) := by decide +kernel
theorem d_8_11_66 : decode prog_8_method_11_code 66 = .ok (.iload 7, 2) := by decide +kernel
theorem d_8_11_76 : decode prog_8_method_11_code 76 = .ok (.istore 8, 2) := by decide +kernel
theorem d_8_11_78 : decode prog_8_method_11_code 78 = .ok (.aload_n 0, 1) := by decide +kernel
theorem d_8_11_79 : decode prog_8_method_11_code 79 = .ok (.getfield 16, 3) := by decide +kernel
theorem d_8_11_82 : decode prog_8_method_11_code 82 = .ok (.invokevirtual 74, 3) := by decide +kernel
set_option maxRecDepth 100000 in
theorem w_1292 : (Cond.methodLink "NumberHouse$Mill" (74 : Nat) ({ cls := "NumberHouse$Big", name := "clear", desc := "()V" } : MethodName)) ∈ q_tbl := q_of6 92 rfl (by decide +kernel)
theorem LV_Mil_74 : q_LV "NumberHouse$Mill" 74 y_Big_clear prog_2_method_2_code 1 none 0 := ⟨w_197, w_4, w_1292, w_195, w_196, ⟨by decide, by decide, by decide +kernel⟩⟩
theorem d_8_11_85 : decode prog_8_method_11_code 85 = .ok (.iconst 0, 1) := by decide +kernel
theorem d_8_11_86 : decode prog_8_method_11_code 86 = .ok (.istore 9, 2) := by decide +kernel
theorem d_8_11_88 : decode prog_8_method_11_code 88 = .ok (.iload 9, 2) := by decide +kernel
theorem d_8_11_90 : decode prog_8_method_11_code 90 = .ok (.iload 4, 2) := by decide +kernel
theorem d_8_11_92 : decode prog_8_method_11_code 92 = .ok (.if_icmp .ge 72, 3) := by decide +kernel
theorem d_8_11_164 : decode prog_8_method_11_code 164 = .ok (.aload_n 0, 1) := by decide +kernel
theorem d_8_11_165 : decode prog_8_method_11_code 165 = .ok (.getfield 16, 3) := by decide +kernel
theorem d_8_11_168 : decode prog_8_method_11_code 168 = .ok (.invokevirtual 142, 3) := by decide +kernel
set_option maxRecDepth 100000 in
theorem w_1315 : (Cond.methodLink "NumberHouse$Mill" (142 : Nat) ({ cls := "NumberHouse$Big", name := "trim", desc := "()V" } : MethodName)) ∈ q_tbl := q_of6 115 rfl (by decide +kernel)
theorem LV_Mil_142 : q_LV "NumberHouse$Mill" 142 y_Big_trim prog_2_method_7_code 2 none 0 := ⟨w_209, w_4, w_1315, w_207, w_208, ⟨by decide, by decide, by decide +kernel⟩⟩
theorem d_8_11_171 : decode prog_8_method_11_code 171 = .ok (.aload_n 0, 1) := by decide +kernel
theorem d_8_11_172 : decode prog_8_method_11_code 172 = .ok (.getfield 16, 3) := by decide +kernel
theorem d_8_11_175 : decode prog_8_method_11_code 175 = .ok (.iload 7, 2) := by decide +kernel
theorem d_8_11_177 : decode prog_8_method_11_code 177 = .ok (.putfield 66, 3) := by decide +kernel
theorem d_8_11_180 : decode prog_8_method_11_code 180 = .ok (.return_, 1) := by decide +kernel
theorem d_8_11_95 : decode prog_8_method_11_code 95 = .ok (.iload_n 1, 1) := by decide +kernel
theorem d_8_11_96 : decode prog_8_method_11_code 96 = .ok (.aload_n 2, 1) := by decide +kernel
theorem d_8_11_97 : decode prog_8_method_11_code 97 = .ok (.iload 9, 2) := by decide +kernel
theorem d_8_11_99 : decode prog_8_method_11_code 99 = .ok (.iload 5, 2) := by decide +kernel
theorem d_8_11_101 : decode prog_8_method_11_code 101 = .ok (.invokevirtual 135, 3) := by decide +kernel
set_option maxRecDepth 100000 in
theorem w_1312 : (Cond.code ({ cls := "NumberHouse$Big", name := "endlessLimb", desc := "(II)I" } : MethodName) prog_2_method_19_code (3 : Nat) (some .int)) ∈ q_tbl := q_of6 112 rfl (by decide +kernel)
set_option maxRecDepth 100000 in
theorem w_1309 : (Cond.methodLink "NumberHouse$Mill" (135 : Nat) ({ cls := "NumberHouse$Big", name := "endlessLimb", desc := "(II)I" } : MethodName)) ∈ q_tbl := q_of6 109 rfl (by decide +kernel)
set_option maxRecDepth 100000 in
theorem w_1310 : (Cond.instanceMethod ({ cls := "NumberHouse$Big", name := "endlessLimb", desc := "(II)I" } : MethodName)) ∈ q_tbl := q_of6 110 rfl (by decide +kernel)
set_option maxRecDepth 100000 in
theorem w_1311 : (Cond.selects "NumberHouse$Big" ({ cls := "NumberHouse$Big", name := "endlessLimb", desc := "(II)I" } : MethodName) ({ cls := "NumberHouse$Big", name := "endlessLimb", desc := "(II)I" } : MethodName)) ∈ q_tbl := q_of6 111 rfl (by decide +kernel)
theorem LV_Mil_135 : q_LV "NumberHouse$Mill" 135 y_Big_endlessLimb prog_2_method_19_code 3 (some .int) 2 := ⟨w_1312, w_4, w_1309, w_1310, w_1311, ⟨by decide, by decide, by decide +kernel⟩⟩
theorem d_8_11_104 : decode prog_8_method_11_code 104 = .ok (.aload_n 3, 1) := by decide +kernel
theorem d_8_11_105 : decode prog_8_method_11_code 105 = .ok (.iload 9, 2) := by decide +kernel
theorem d_8_11_107 : decode prog_8_method_11_code 107 = .ok (.iload 6, 2) := by decide +kernel
theorem d_8_11_109 : decode prog_8_method_11_code 109 = .ok (.invokevirtual 135, 3) := by decide +kernel
theorem d_8_11_112 : decode prog_8_method_11_code 112 = .ok (.invokestatic 131, 3) := by decide +kernel
theorem d_8_11_115 : decode prog_8_method_11_code 115 = .ok (.istore 10, 2) := by decide +kernel
theorem d_8_11_117 : decode prog_8_method_11_code 117 = .ok (.iload 7, 2) := by decide +kernel
theorem d_8_11_134 : decode prog_8_method_11_code 134 = .ok (.iload 8, 2) := by decide +kernel
theorem d_8_11_136 : decode prog_8_method_11_code 136 = .ok (.iadd, 1) := by decide +kernel
theorem d_8_11_137 : decode prog_8_method_11_code 137 = .ok (.istore 11, 2) := by decide +kernel
theorem d_8_11_139 : decode prog_8_method_11_code 139 = .ok (.aload_n 0, 1) := by decide +kernel
theorem d_8_11_140 : decode prog_8_method_11_code 140 = .ok (.getfield 16, 3) := by decide +kernel
theorem d_8_11_143 : decode prog_8_method_11_code 143 = .ok (.iload 11, 2) := by decide +kernel
theorem d_8_11_145 : decode prog_8_method_11_code 145 = .ok (.ldc 138, 2) := by decide +kernel
set_option maxRecDepth 100000 in
theorem w_1313 : (Cond.constant "NumberHouse$Mill" (138 : Nat) (2147483647 : Int32)) ∈ q_tbl := q_of6 113 rfl (by decide +kernel)
theorem d_8_11_147 : decode prog_8_method_11_code 147 = .ok (.iand, 1) := by decide +kernel
theorem d_8_11_148 : decode prog_8_method_11_code 148 = .ok (.invokevirtual 139, 3) := by decide +kernel
set_option maxRecDepth 100000 in
theorem w_1314 : (Cond.methodLink "NumberHouse$Mill" (139 : Nat) ({ cls := "NumberHouse$Big", name := "push", desc := "(I)V" } : MethodName)) ∈ q_tbl := q_of6 114 rfl (by decide +kernel)
theorem LV_Mil_139 : q_LV "NumberHouse$Mill" 139 y_Big_push prog_2_method_6_code 2 none 1 := ⟨w_205, w_4, w_1314, w_203, w_204, ⟨by decide, by decide, by decide +kernel⟩⟩
theorem d_8_11_151 : decode prog_8_method_11_code 151 = .ok (.iload 11, 2) := by decide +kernel
theorem d_8_11_153 : decode prog_8_method_11_code 153 = .ok (.bipush 31, 2) := by decide +kernel
theorem d_8_11_155 : decode prog_8_method_11_code 155 = .ok (.iushr, 1) := by decide +kernel
theorem d_8_11_156 : decode prog_8_method_11_code 156 = .ok (.istore 8, 2) := by decide +kernel
theorem d_8_11_158 : decode prog_8_method_11_code 158 = .ok (.iinc 9 1, 3) := by decide +kernel
theorem d_8_11_161 : decode prog_8_method_11_code 161 = .ok (.goto (-73), 3) := by decide +kernel
theorem d_8_11_119 : decode prog_8_method_11_code 119 = .ok (.ifCond .eq 13, 3) := by decide +kernel
theorem d_8_11_132 : decode prog_8_method_11_code 132 = .ok (.iload 10, 2) := by decide +kernel
theorem d_8_11_122 : decode prog_8_method_11_code 122 = .ok (.iload 10, 2) := by decide +kernel
theorem d_8_11_124 : decode prog_8_method_11_code 124 = .ok (.iconst (-1), 1) := by decide +kernel
theorem d_8_11_125 : decode prog_8_method_11_code 125 = .ok (.ixor, 1) := by decide +kernel
theorem d_8_11_126 : decode prog_8_method_11_code 126 = .ok (.ldc 138, 2) := by decide +kernel
theorem d_8_11_128 : decode prog_8_method_11_code 128 = .ok (.iand, 1) := by decide +kernel
theorem d_8_11_129 : decode prog_8_method_11_code 129 = .ok (.goto 5, 3) := by decide +kernel
theorem d_8_11_68 : decode prog_8_method_11_code 68 = .ok (.ifCond .eq 7, 3) := by decide +kernel
theorem d_8_11_75 : decode prog_8_method_11_code 75 = .ok (.iconst 0, 1) := by decide +kernel
theorem d_8_11_71 : decode prog_8_method_11_code 71 = .ok (.iconst 1, 1) := by decide +kernel
theorem d_8_11_72 : decode prog_8_method_11_code 72 = .ok (.goto 4, 3) := by decide +kernel
theorem d_8_11_56 : decode prog_8_method_11_code 56 = .ok (.if_icmp .ne 7, 3) := by decide +kernel
theorem d_8_11_63 : decode prog_8_method_11_code 63 = .ok (.iconst 0, 1) := by decide +kernel
theorem d_8_11_59 : decode prog_8_method_11_code 59 = .ok (.iconst 1, 1) := by decide +kernel
theorem d_8_11_60 : decode prog_8_method_11_code 60 = .ok (.goto 4, 3) := by decide +kernel
theorem d_8_11_44 : decode prog_8_method_11_code 44 = .ok (.ifCond .eq 7, 3) := by decide +kernel
theorem d_8_11_51 : decode prog_8_method_11_code 51 = .ok (.iconst 0, 1) := by decide +kernel
theorem d_8_11_47 : decode prog_8_method_11_code 47 = .ok (.iconst 1, 1) := by decide +kernel
theorem d_8_11_48 : decode prog_8_method_11_code 48 = .ok (.goto 4, 3) := by decide +kernel
theorem d_8_11_32 : decode prog_8_method_11_code 32 = .ok (.ifCond .eq 7, 3) := by decide +kernel
theorem d_8_11_39 : decode prog_8_method_11_code 39 = .ok (.iconst 0, 1) := by decide +kernel
theorem d_8_11_35 : decode prog_8_method_11_code 35 = .ok (.iconst 1, 1) := by decide +kernel
theorem d_8_11_36 : decode prog_8_method_11_code 36 = .ok (.goto 4, 3) := by decide +kernel
def y_Mil_mixBits : MethodName := ⟨"NumberHouse$Mill", "mixBits", "(ILNumberHouse$Big;LNumberHouse$Big;)V"⟩
set_option maxRecDepth 100000 in
set_option maxHeartbeats 4000000 in
theorem T_Mil_mixBits (l : Launch) (D : va_G) (g : Nat → ClassId) (q : Nat → Nat) (ws : va_W) (k3 : Nat) (R : Int32) (hB3 : q_isBig (nsh g q) g q k3 R) (zk3 : (10 ≤ k3 ∧ k3 ≤ 32) ∨ 66 ≤ k3) (k4 : Nat) (R2 : Int32) (hB4 : q_isBig (nsh g q) g q k4 R2) (zk4 : (10 ≤ k4 ∧ k4 ≤ 32) ∨ 66 ≤ k4) (x2 : Int32) (hI : q_I (nsh g q) q ws) : q_mV l y_Mil_mixBits prog_8_method_11_code 12 3 0 0 D g [.ref (q 9), .int x2, .ref (q k3), .ref (q k4)] ws (fun u => q_I (nsh g q) q u ∧ q_un ws u [10, 11] ∧ True) := by
  intro sz
  refine q_into (by decide) (Nat.le_of_ble_eq_true rfl) ?_
  intro p e s m below meth c ls hsz C0 V hl
  have hx := C0.1
  have hb := C0.2.1
  have hfk30 : q_F (0 ≤ R.toInt ∧ R.toInt ≤ 220) := hB3.2.2
  have hfk40 : q_F (0 ≤ R2.toInt ∧ R2.toInt ≤ 220) := hB4.2.2
  have hF : q_un ws ws [10, 11] := q_u0
  have hl : lv_has ls 12 [(0, .ref (q 9)), (1, .int x2), (2, .ref (q k3)), (3, .ref (q k4))] := hl
  refine lv_aload_n hx hb d_8_11_0 rfl (lv_at hl 2 rfl) ?_
  obtain ⟨y2, y3, hO1, b4, b5⟩ := q_bigO hI hB3
  replace b4 : q_F (0 ≤ y2.toInt ∧ y2.toInt ≤ R.toInt) := b4
  replace b5 : q_F (0 ≤ y3.toInt ∧ y3.toInt ≤ 1) := b5
  refine q_get (ci := 2) (j := 1) (v := .int y2) C0 V i_Big rfl rfl hO1 (by decide) w_89 rfl d_8_11_1 ?_
  refine lv_aload_n hx hb d_8_11_4 rfl (lv_at hl 3 rfl) ?_
  obtain ⟨y7, y8, hO6, b9, b10⟩ := q_bigO hI hB4
  replace b9 : q_F (0 ≤ y7.toInt ∧ y7.toInt ≤ R2.toInt) := b9
  replace b10 : q_F (0 ≤ y8.toInt ∧ y8.toInt ≤ 1) := b10
  refine q_get (ci := 2) (j := 1) (v := .int y7) C0 V i_Big rfl rfl hO6 (by decide) w_89 rfl d_8_11_5 ?_
  refine q_max C0 hl.1 rfl w_1301 w_803 w_7 w_804 ⟨Nat.le_of_ble_eq_true rfl, Nat.le_of_ble_eq_true rfl⟩ ⟨Nat.le_of_ble_eq_true rfl, Nat.le_of_ble_eq_true rfl⟩ d_8_11_8 ?_
  obtain ⟨a11, e12⟩ := q_nm (if y2 < y7 then y7 else y2 : Int32)
  refine q_ti (v := a11) e12 ?_
  have b13 : q_F (y2.toInt ≤ a11.toInt ∧ y7.toInt ≤ a11.toInt ∧ (a11.toInt = y2.toInt ∨ a11.toInt = y7.toInt)) := (by rw [← e12]; show y2.toInt ≤ (if y2 < y7 then y7 else y2 : Int32).toInt ∧ y7.toInt ≤ (if y2 < y7 then y7 else y2 : Int32).toInt ∧ ((if y2 < y7 then y7 else y2 : Int32).toInt = y2.toInt ∨ (if y2 < y7 then y7 else y2 : Int32).toInt = y7.toInt); exact s_max (a := y2) (b := y7))
  refine lv_iconst (v := 1) hx hb d_8_11_11 (by decide) ?_
  refine lv_iadd hx hb d_8_11_12 ?_
  obtain ⟨a14, e15⟩ := q_nm (a11 + 1 : Int32)
  refine q_ti (v := a14) e15 ?_
  have b16 : q_F (a14.toInt = a11.toInt + 1) := (by rw [← e15]; show (a11 + 1 : Int32).toInt = a11.toInt + 1; exact q_addI (x := a11.toInt) (y := 1) rfl (by decide) (by have _ := q_lo32 (x := a11); have _ := q_hi32 (x := a11); have t1 : 0 ≤ R.toInt ∧ R.toInt ≤ 220 := hfk30; have t2 : 0 ≤ R2.toInt ∧ R2.toInt ≤ 220 := hfk40; have t3 : 0 ≤ y2.toInt ∧ y2.toInt ≤ R.toInt := b4; have t4 : 0 ≤ y7.toInt ∧ y7.toInt ≤ R2.toInt := b9; have t5 : y2.toInt ≤ a11.toInt ∧ y7.toInt ≤ a11.toInt ∧ (a11.toInt = y2.toInt ∨ a11.toInt = y7.toInt) := b13; omega) (by have _ := q_lo32 (x := a11); have _ := q_hi32 (x := a11); have t1 : 0 ≤ R.toInt ∧ R.toInt ≤ 220 := hfk30; have t2 : 0 ≤ R2.toInt ∧ R2.toInt ≤ 220 := hfk40; have t3 : 0 ≤ y2.toInt ∧ y2.toInt ≤ R.toInt := b4; have t4 : 0 ≤ y7.toInt ∧ y7.toInt ≤ R2.toInt := b9; have t5 : y2.toInt ≤ a11.toInt ∧ y7.toInt ≤ a11.toInt ∧ (a11.toInt = y2.toInt ∨ a11.toInt = y7.toInt) := b13; omega))
  refine lv_istore (lv' := [(4, .int a14), (0, .ref (q 9)), (1, .int x2), (2, .ref (q k3)), (3, .ref (q k4))]) hx hb d_8_11_13 hl (by decide) rfl (fun ls hl => ?_)
  refine lv_aload_n hx hb d_8_11_15 rfl (lv_at hl 3 rfl) ?_
  refine q_goi V (q_runV (As := []) (rest := []) (d := 1) (mc := 0) (ms := 0) (ci := 2) C0 V rfl LV_Mil_128 (S_Big_lowestLimb l D g (nsh g q) q ws k3 R hB3  hI   _) rfl rfl hO1 rfl hl.1 rfl (Nat.le_of_ble_eq_true rfl) ⟨by decide, by decide⟩ ⟨Nat.le_of_ble_eq_true rfl, Nat.le_of_ble_eq_true rfl⟩ d_8_11_16) (fun a19 u17 H locs hp18 V => ?_)
  obtain ⟨b20, rfl⟩ := hp18
  replace b20 : q_F (0 ≤ a19.toInt ∧ a19.toInt ≤ R.toInt) := b20
  refine lv_istore (lv' := [(5, .int a19), (4, .int a14), (0, .ref (q 9)), (1, .int x2), (2, .ref (q k3)), (3, .ref (q k4))]) hx hb d_8_11_19 hl (by decide) rfl (fun ls hl => ?_)
  refine lv_aload_n hx hb d_8_11_21 rfl (lv_at hl 5 rfl) ?_
  refine q_goi V (q_runV (As := []) (rest := []) (d := 1) (mc := 0) (ms := 0) (ci := 2) C0 V rfl LV_Mil_128 (S_Big_lowestLimb l D g (nsh g q) q ws k4 R2 hB4  hI   _) rfl rfl hO6 rfl hl.1 rfl (Nat.le_of_ble_eq_true rfl) ⟨by decide, by decide⟩ ⟨Nat.le_of_ble_eq_true rfl, Nat.le_of_ble_eq_true rfl⟩ d_8_11_22) (fun a23 u21 H locs hp22 V => ?_)
  obtain ⟨b24, rfl⟩ := hp22
  replace b24 : q_F (0 ≤ a23.toInt ∧ a23.toInt ≤ R2.toInt) := b24
  refine lv_istore (lv' := [(6, .int a23), (5, .int a19), (4, .int a14), (0, .ref (q 9)), (1, .int x2), (2, .ref (q k3)), (3, .ref (q k4))]) hx hb d_8_11_25 hl (by decide) rfl (fun ls hl => ?_)
  refine lv_iload_n hx hb d_8_11_27 rfl (lv_at hl 4 rfl) ?_
  refine lv_aload_n hx hb d_8_11_28 rfl (lv_at hl 5 rfl) ?_
  refine q_get (ci := 2) (j := 2) (v := .int y3) C0 V i_Big rfl rfl hO1 (by decide) w_96 rfl d_8_11_29 ?_
  refine q_join (X := Int32) (fun z H locs ls _ => q_F (y3.toInt ≤ z.toInt) ∧ q_F (z.toInt ≤ y3.toInt) ∧ q_Wd D g (va_A ws sz) s ws H locs ∧ lv_has ls 12 [(6, .int a23), (5, .int a19), (4, .int a14), (0, .ref (q 9)), (1, .int x2), (2, .ref (q k3)), (3, .ref (q k4))]) (fun z => [.int z, .int x2]) 40 0 0 ?_ ?_
  ·
    rintro lx25 H locs ls _ ⟨i27, i28, V, hl⟩
    replace i27 : q_F (y3.toInt ≤ lx25.toInt) := i27
    replace i28 : q_F (lx25.toInt ≤ y3.toInt) := i28
    replace hl : lv_has ls 12 [(6, .int a23), (5, .int a19), (4, .int a14), (0, .ref (q 9)), (1, .int x2), (2, .ref (q k3)), (3, .ref (q k4))] := hl
    refine lv_aload_n hx hb d_8_11_40 rfl (lv_at hl 6 rfl) ?_
    refine q_get (ci := 2) (j := 2) (v := .int y8) C0 V i_Big rfl rfl hO6 (by decide) w_96 rfl d_8_11_41 ?_
    refine q_join (X := Int32) (fun z H locs ls _ => q_F (y8.toInt ≤ z.toInt) ∧ q_F (z.toInt ≤ y8.toInt) ∧ q_Wd D g (va_A ws sz) s ws H locs ∧ lv_has ls 12 [(6, .int a23), (5, .int a19), (4, .int a14), (0, .ref (q 9)), (1, .int x2), (2, .ref (q k3)), (3, .ref (q k4))]) (fun z => [.int z, .int lx25, .int x2]) 52 0 0 ?_ ?_
    ·
      rintro lx29 H locs ls _ ⟨i31, i32, V, hl⟩
      replace i31 : q_F (y8.toInt ≤ lx29.toInt) := i31
      replace i32 : q_F (lx29.toInt ≤ y8.toInt) := i32
      replace hl : lv_has ls 12 [(6, .int a23), (5, .int a19), (4, .int a14), (0, .ref (q 9)), (1, .int x2), (2, .ref (q k3)), (3, .ref (q k4))] := hl
      refine q_goi V (q_runS (As := [.int x2, .int lx25, .int lx29]) (rest := []) (d := 1) (mc := 0) (ms := 0) C0 V rfl LS_Mil_131 (T_Mil_mixed l D g q ws  x2 lx25 lx29 hI   _) rfl hl.1 rfl (Nat.le_of_ble_eq_true rfl) ⟨by decide, by decide⟩ ⟨Nat.le_of_ble_eq_true rfl, Nat.le_of_ble_eq_true rfl⟩ d_8_11_52) (fun a35 u33 H locs hp34 V => ?_)
      obtain ⟨rfl, -⟩ := hp34
      refine lv_iconst (v := 1) hx hb d_8_11_55 (by decide) ?_
      refine q_join (X := Int32) (fun z H locs ls _ => q_F (0 ≤ z.toInt) ∧ q_F (z.toInt ≤ 1) ∧ q_Wd D g (va_A ws sz) s ws H locs ∧ lv_has ls 12 [(6, .int a23), (5, .int a19), (4, .int a14), (0, .ref (q 9)), (1, .int x2), (2, .ref (q k3)), (3, .ref (q k4))]) (fun z => [.int z]) 64 0 0 ?_ ?_
      ·
        rintro lx37 H locs ls _ ⟨i39, i40, V, hl⟩
        replace i39 : q_F (0 ≤ lx37.toInt) := i39
        replace i40 : q_F (lx37.toInt ≤ 1) := i40
        replace hl : lv_has ls 12 [(6, .int a23), (5, .int a19), (4, .int a14), (0, .ref (q 9)), (1, .int x2), (2, .ref (q k3)), (3, .ref (q k4))] := hl
        refine lv_istore (lv' := [(7, .int lx37), (6, .int a23), (5, .int a19), (4, .int a14), (0, .ref (q 9)), (1, .int x2), (2, .ref (q k3)), (3, .ref (q k4))]) hx hb d_8_11_64 hl (by decide) rfl (fun ls hl => ?_)
        refine lv_iload hx hb d_8_11_66 (lv_at hl 0 rfl) ?_
        refine q_join (X := Int32) (fun z H locs ls _ => q_F (lx37.toInt ≤ z.toInt) ∧ q_F (z.toInt ≤ lx37.toInt) ∧ q_Wd D g (va_A ws sz) s ws H locs ∧ lv_has ls 12 [(7, .int lx37), (6, .int a23), (5, .int a19), (4, .int a14), (0, .ref (q 9)), (1, .int x2), (2, .ref (q k3)), (3, .ref (q k4))]) (fun z => [.int z]) 76 0 0 ?_ ?_
        ·
          rintro lx41 H locs ls _ ⟨i43, i44, V, hl⟩
          replace i43 : q_F (lx37.toInt ≤ lx41.toInt) := i43
          replace i44 : q_F (lx41.toInt ≤ lx37.toInt) := i44
          replace hl : lv_has ls 12 [(7, .int lx37), (6, .int a23), (5, .int a19), (4, .int a14), (0, .ref (q 9)), (1, .int x2), (2, .ref (q k3)), (3, .ref (q k4))] := hl
          refine lv_istore (lv' := [(8, .int lx41), (7, .int lx37), (6, .int a23), (5, .int a19), (4, .int a14), (0, .ref (q 9)), (1, .int x2), (2, .ref (q k3)), (3, .ref (q k4))]) hx hb d_8_11_76 hl (by decide) rfl (fun ls hl => ?_)
          refine lv_aload_n hx hb d_8_11_78 rfl (lv_at hl 5 rfl) ?_
          have hO45 := n_o9 hI
          refine q_get (ci := 4) (j := 0) (v := .ref (q 10)) C0 V i_Mil rfl rfl hO45 (by decide) w_108 rfl d_8_11_79 ?_
          obtain ⟨y47, y48, hO46, b49, b50⟩ := q_bigO hI (n_b10 g q)
          replace b49 : q_F (0 ≤ y47.toInt ∧ y47.toInt ≤ 220) := b49
          replace b50 : q_F (0 ≤ y48.toInt ∧ y48.toInt ≤ 1) := b50
          obtain ⟨f51, hA52, bf53⟩ := q_bigA hI (n_b10 g q)
          have ne54 := q_df hA52 hO1
          have ne55 := q_df hA52 hO6
          refine q_gov V (q_runV (As := []) (rest := []) (d := 1) (mc := 0) (ms := 0) (ci := 2) C0 V rfl LV_Mil_74 (S_Big_clear l D g (nsh g q) q ws 10 220 (n_b10 g q)  hI   _) rfl rfl hO46 rfl hl.1 rfl (Nat.le_of_ble_eq_true rfl) ⟨by decide, by decide⟩ ⟨Nat.le_of_ble_eq_true rfl, Nat.le_of_ble_eq_true rfl⟩ d_8_11_82) (fun u56 H locs hp57 V => ?_)
          obtain ⟨_, hI, hu58⟩ := hp57
          replace hO45 := (hu58 _ (by decide)).trans hO45
          replace hF := q_uc hF hu58 (by simp)
          refine lv_iconst (v := 0) hx hb d_8_11_85 (by decide) ?_
          refine lv_istore (lv' := [(9, .int 0), (8, .int lx41), (7, .int lx37), (6, .int a23), (5, .int a19), (4, .int a14), (0, .ref (q 9)), (1, .int x2), (2, .ref (q k3)), (3, .ref (q k4))]) hx hb d_8_11_86 hl (by decide) rfl (fun ls hl => ?_)
          refine q_loop (X := Int32 × Int32) (fun z H locs ls w67 => q_F (z.1.toInt ≤ 221) ∧ q_F (0 ≤ z.2.toInt) ∧ q_F (z.2.toInt ≤ 1) ∧ q_F (lx41.toInt ≤ z.1.toInt + z.2.toInt) ∧ q_F (z.2.toInt ≤ z.1.toInt + lx41.toInt) ∧ q_Wd D g (va_A ws sz) s w67 H locs ∧ lv_has ls 12 [(9, .int z.1), (8, .int z.2), (7, .int lx37), (6, .int a23), (5, .int a19), (4, .int a14), (0, .ref (q 9)), (1, .int x2), (2, .ref (q k3)), (3, .ref (q k4))] ∧ q_I (nsh g q) q w67 ∧ q_un ws w67 [10, 11]) (fun z => (221 - z.1.toInt).toNat) ?_ ((0 : Int32), (lx41 : Int32)) _ _ _ u56 ⟨(show q_F (0 ≤ 221) from (show 0 ≤ 221 from by omega)), (show q_F (0 ≤ lx41.toInt) from (show 0 ≤ lx41.toInt from by have t1 : 0 ≤ lx37.toInt := i39; have t2 : lx37.toInt ≤ lx41.toInt := i43; omega)), (show q_F (lx41.toInt ≤ 1) from (show lx41.toInt ≤ 1 from by have t1 : lx37.toInt ≤ 1 := i40; have t2 : lx41.toInt ≤ lx37.toInt := i44; omega)), (show q_F (lx41.toInt ≤ 0 + lx41.toInt) from (show lx41.toInt ≤ 0 + lx41.toInt from by omega)), (show q_F (lx41.toInt ≤ 0 + lx41.toInt) from (show lx41.toInt ≤ 0 + lx41.toInt from by omega)), V, q_lw hl (q_lw1 0 rfl (q_lw1 1 rfl (q_lw1 2 rfl (q_lw1 3 rfl (q_lw1 4 rfl (q_lw1 5 rfl (q_lw1 6 rfl (q_lw1 7 rfl (q_lw1 8 rfl (q_lw1 9 rfl q_lw0)))))))))), hI, hF⟩
          rintro ⟨lx59, lx60⟩ H locs ls w67 ⟨i61, i62, i63, i64, i65, V, hl, hI, hF⟩ ih66
          replace i61 : q_F (lx59.toInt ≤ 221) := i61
          replace i62 : q_F (0 ≤ lx60.toInt) := i62
          replace i63 : q_F (lx60.toInt ≤ 1) := i63
          replace i64 : q_F (lx41.toInt ≤ lx59.toInt + lx60.toInt) := i64
          replace i65 : q_F (lx60.toInt ≤ lx59.toInt + lx41.toInt) := i65
          replace hl : lv_has ls 12 [(9, .int lx59), (8, .int lx60), (7, .int lx37), (6, .int a23), (5, .int a19), (4, .int a14), (0, .ref (q 9)), (1, .int x2), (2, .ref (q k3)), (3, .ref (q k4))] := hl
          refine lv_iload hx hb d_8_11_88 (lv_at hl 0 rfl) ?_
          refine lv_iload hx hb d_8_11_90 (lv_at hl 5 rfl) ?_
          refine lv_icmp_ge (tgt := 164) hx hb d_8_11_92 (by decide) (fun c68 => ?_) (fun c68 => ?_)
          ·
            have b69 : q_F (a14.toInt ≤ lx59.toInt) := (q_leI c68)
            refine lv_aload_n hx hb d_8_11_164 rfl (lv_at hl 6 rfl) ?_
            have hO70 := n_o9 hI
            refine q_get (ci := 4) (j := 0) (v := .ref (q 10)) C0 V i_Mil rfl rfl hO70 (by decide) w_108 rfl d_8_11_165 ?_
            obtain ⟨y72, y73, hO71, b74, b75⟩ := q_bigO hI (n_b10 g q)
            replace b74 : q_F (0 ≤ y72.toInt ∧ y72.toInt ≤ 220) := b74
            replace b75 : q_F (0 ≤ y73.toInt ∧ y73.toInt ≤ 1) := b75
            refine q_gov V (q_runV (As := []) (rest := []) (d := 1) (mc := 0) (ms := 0) (ci := 2) C0 V rfl LV_Mil_142 (S_Big_trim l D g (nsh g q) q w67 10 220 (n_b10 g q)  hI   _) rfl rfl hO71 rfl hl.1 rfl (Nat.le_of_ble_eq_true rfl) ⟨by decide, by decide⟩ ⟨Nat.le_of_ble_eq_true rfl, Nat.le_of_ble_eq_true rfl⟩ d_8_11_168) (fun u76 H locs hp77 V => ?_)
            obtain ⟨_, hI, hu78⟩ := hp77
            replace hO70 := (hu78 _ (by decide)).trans hO70
            replace hF := q_uc hF hu78 (by simp)
            refine lv_aload_n hx hb d_8_11_171 rfl (lv_at hl 6 rfl) ?_
            refine q_get (ci := 4) (j := 0) (v := .ref (q 10)) C0 V i_Mil rfl rfl hO70 (by decide) w_108 rfl d_8_11_172 ?_
            refine lv_iload hx hb d_8_11_175 (lv_at hl 2 rfl) ?_
            obtain ⟨y80, y81, hO79, b82, b83⟩ := q_bigO hI (n_b10 g q)
            replace b82 : q_F (0 ≤ y80.toInt ∧ y80.toInt ≤ 220) := b82
            replace b83 : q_F (0 ≤ y81.toInt ∧ y81.toInt ≤ 1) := b83
            refine q_put (ci := 2) (j := 2) (v := .int lx37) (ty := .boolean) C0 V i_Big o_Big n_Big rfl rfl hO79 (by decide) w_96 rfl rfl (q_nz01 (q_Ile (x := 0) (y := lx37.toInt) (by decide) rfl (by have t1 : 0 ≤ lx37.toInt := i39; omega)) (q_Ile (x := lx37.toInt) (y := 1) rfl (by decide) (by have t1 : lx37.toInt ≤ 1 := i40; omega))) (q_fz01 (q_Ile (x := 0) (y := lx37.toInt) (by decide) rfl (by have t1 : 0 ≤ lx37.toInt := i39; omega)) (q_Ile (x := lx37.toInt) (y := 1) rfl (by decide) (by have t1 : lx37.toInt ≤ 1 := i40; omega))) (Nat.le_of_ble_eq_true rfl) d_8_11_177 (fun H locs w84 hu85 hO79 V => ?_)
            replace hO79 : w84[10]? = (some (q 10, .inr (2, [.ref (q 11), .int y80, .int lx37])) : Option (Nat × va_E)) := hO79
            replace hI := q_bigO' hI (n_b10 g q) hu85 hO79 ⟨(by have zR : (220 : Int32).toInt = 220 := rfl; have t1 : 0 ≤ y80.toInt ∧ y80.toInt ≤ 220 := b82; omega), (by have zR : (220 : Int32).toInt = 220 := rfl; have t1 : 0 ≤ y80.toInt ∧ y80.toInt ≤ 220 := b82; omega)⟩ ⟨(by have t1 : 0 ≤ lx37.toInt := i39; omega), (by have t1 : lx37.toInt ≤ 1 := i40; omega)⟩
            replace hO70 := (hu85 _ (by decide)).trans hO70
            replace hF := q_us hF hu85 (by simp)
            exact q_retv C0 V (⟨hI, hF, trivial⟩) d_8_11_180
          ·
            have b86 : q_F (lx59.toInt < a14.toInt) := (q_nleI c68)
            refine lv_iload_n hx hb d_8_11_95 rfl (lv_at hl 7 rfl) ?_
            refine lv_aload_n hx hb d_8_11_96 rfl (lv_at hl 8 rfl) ?_
            refine lv_iload hx hb d_8_11_97 (lv_at hl 0 rfl) ?_
            refine lv_iload hx hb d_8_11_99 (lv_at hl 4 rfl) ?_
            obtain ⟨y88, y89, hO87, b90, b91⟩ := q_bigO hI hB3
            replace b90 : q_F (0 ≤ y88.toInt ∧ y88.toInt ≤ R.toInt) := b90
            replace b91 : q_F (0 ≤ y89.toInt ∧ y89.toInt ≤ 1) := b91
            refine q_goi V (q_runV (As := [.int lx59, .int a19]) (rest := [.int x2]) (d := 2) (mc := 0) (ms := 0) (ci := 2) C0 V rfl LV_Mil_135 (T_Big_endlessLimb l D g q w67 k3 R hB3 zk3 lx59 a19 hI   _) rfl rfl hO87 rfl hl.1 rfl (Nat.le_of_ble_eq_true rfl) ⟨by decide, by decide⟩ ⟨Nat.le_of_ble_eq_true rfl, Nat.le_of_ble_eq_true rfl⟩ d_8_11_101) (fun a94 u92 H locs hp93 V => ?_)
            obtain ⟨rfl, -⟩ := hp93
            refine lv_aload_n hx hb d_8_11_104 rfl (lv_at hl 9 rfl) ?_
            refine lv_iload hx hb d_8_11_105 (lv_at hl 0 rfl) ?_
            refine lv_iload hx hb d_8_11_107 (lv_at hl 3 rfl) ?_
            obtain ⟨y97, y98, hO96, b99, b100⟩ := q_bigO hI hB4
            replace b99 : q_F (0 ≤ y97.toInt ∧ y97.toInt ≤ R2.toInt) := b99
            replace b100 : q_F (0 ≤ y98.toInt ∧ y98.toInt ≤ 1) := b100
            refine q_goi V (q_runV (As := [.int lx59, .int a23]) (rest := [.int a94, .int x2]) (d := 2) (mc := 0) (ms := 0) (ci := 2) C0 V rfl LV_Mil_135 (T_Big_endlessLimb l D g q w67 k4 R2 hB4 zk4 lx59 a23 hI   _) rfl rfl hO96 rfl hl.1 rfl (Nat.le_of_ble_eq_true rfl) ⟨by decide, by decide⟩ ⟨Nat.le_of_ble_eq_true rfl, Nat.le_of_ble_eq_true rfl⟩ d_8_11_109) (fun a103 u101 H locs hp102 V => ?_)
            obtain ⟨rfl, -⟩ := hp102
            refine q_goi V (q_runS (As := [.int x2, .int a94, .int a103]) (rest := []) (d := 1) (mc := 0) (ms := 0) C0 V rfl LS_Mil_131 (T_Mil_mixed l D g q w67  x2 a94 a103 hI   _) rfl hl.1 rfl (Nat.le_of_ble_eq_true rfl) ⟨by decide, by decide⟩ ⟨Nat.le_of_ble_eq_true rfl, Nat.le_of_ble_eq_true rfl⟩ d_8_11_112) (fun a107 u105 H locs hp106 V => ?_)
            obtain ⟨rfl, -⟩ := hp106
            refine lv_istore (lv' := [(10, .int a107), (9, .int lx59), (8, .int lx60), (7, .int lx37), (6, .int a23), (5, .int a19), (4, .int a14), (0, .ref (q 9)), (1, .int x2), (2, .ref (q k3)), (3, .ref (q k4))]) hx hb d_8_11_115 hl (by decide) rfl (fun ls hl => ?_)
            refine lv_iload hx hb d_8_11_117 (lv_at hl 3 rfl) ?_
            refine q_join (X := Int32) (fun z H locs ls _ => q_Wd D g (va_A ws sz) s w67 H locs ∧ lv_has ls 12 [(9, .int lx59), (8, .int lx60), (7, .int lx37), (6, .int a23), (5, .int a19), (4, .int a14), (0, .ref (q 9)), (1, .int x2), (2, .ref (q k3)), (3, .ref (q k4))]) (fun z => [.int z]) 134 0 0 ?_ ?_
            ·
              rintro lx109 H locs ls _ ⟨V, hl⟩
              replace hl : lv_has ls 12 [(9, .int lx59), (8, .int lx60), (7, .int lx37), (6, .int a23), (5, .int a19), (4, .int a14), (0, .ref (q 9)), (1, .int x2), (2, .ref (q k3)), (3, .ref (q k4))] := hl
              refine lv_iload hx hb d_8_11_134 (lv_at hl 1 rfl) ?_
              refine lv_iadd hx hb d_8_11_136 ?_
              obtain ⟨a111, e112⟩ := q_nm (lx109 + lx60 : Int32)
              refine q_ti (v := a111) e112 ?_
              refine lv_istore (lv' := [(11, .int a111), (9, .int lx59), (8, .int lx60), (7, .int lx37), (6, .int a23), (5, .int a19), (4, .int a14), (0, .ref (q 9)), (1, .int x2), (2, .ref (q k3)), (3, .ref (q k4))]) hx hb d_8_11_137 hl (by decide) rfl (fun ls hl => ?_)
              refine lv_aload_n hx hb d_8_11_139 rfl (lv_at hl 7 rfl) ?_
              have hO113 := n_o9 hI
              refine q_get (ci := 4) (j := 0) (v := .ref (q 10)) C0 V i_Mil rfl rfl hO113 (by decide) w_108 rfl d_8_11_140 ?_
              refine lv_iload hx hb d_8_11_143 (lv_at hl 0 rfl) ?_
              refine q_ldc C0 rfl w_1313 d_8_11_145 ?_
              refine lv_iand hx hb d_8_11_147 ?_
              obtain ⟨a114, e115⟩ := q_nm (a111 &&& 2147483647 : Int32)
              refine q_ti (v := a114) e115 ?_
              have b116 : q_F (0 ≤ a114.toInt ∧ a114.toInt ≤ 2147483647) := (by rw [← e115]; show 0 ≤ (a111 &&& 2147483647 : Int32).toInt ∧ (a111 &&& 2147483647 : Int32).toInt ≤ 2147483647; exact s_and (by decide))
              obtain ⟨y118, y119, hO117, b120, b121⟩ := q_bigO hI (n_b10 g q)
              replace b120 : q_F (0 ≤ y118.toInt ∧ y118.toInt ≤ 220) := b120
              replace b121 : q_F (0 ≤ y119.toInt ∧ y119.toInt ≤ 1) := b121
              obtain ⟨f122, hA123, bf124⟩ := q_bigA hI (n_b10 g q)
              have ne125 := q_df hA123 hO87
              have ne126 := q_df hA123 hO96
              refine q_gov V (q_runV (As := [.int a114]) (rest := []) (d := 1) (mc := 0) (ms := 0) (ci := 2) C0 V rfl LV_Mil_139 (S_Big_push l D g (nsh g q) q w67 10 220 (n_b10 g q) a114 hI   _) rfl rfl hO117 rfl hl.1 rfl (Nat.le_of_ble_eq_true rfl) ⟨by decide, by decide⟩ ⟨Nat.le_of_ble_eq_true rfl, Nat.le_of_ble_eq_true rfl⟩ d_8_11_148) (fun u127 H locs hp128 V => ?_)
              obtain ⟨_, hI, hu129⟩ := hp128
              replace hO113 := (hu129 _ (by decide)).trans hO113
              replace hF := q_uc hF hu129 (by simp)
              refine lv_iload hx hb d_8_11_151 (lv_at hl 0 rfl) ?_
              refine lv_bipush (v := 31) hx hb d_8_11_153 (by decide) ?_
              refine lv_iushr hx hb d_8_11_155 rfl ?_
              obtain ⟨a130, e131⟩ := q_nm ((a111.toUInt32 >>> ((31 : Int32).toUInt32 &&& Int32.toUInt32 31)).toInt32 : Int32)
              refine q_ti (v := a130) e131 ?_
              have b132 : q_F (0 ≤ a130.toInt ∧ a130.toInt ≤ 1) := (by rw [← e131]; show 0 ≤ ((a111.toUInt32 >>> ((31 : Int32).toUInt32 &&& Int32.toUInt32 31)).toInt32 : Int32).toInt ∧ ((a111.toUInt32 >>> ((31 : Int32).toUInt32 &&& Int32.toUInt32 31)).toInt32 : Int32).toInt ≤ 1; exact (by have z := s_ushr (x := a111) (c := 31) 31 (by decide) (by decide); omega))
              refine lv_istore (lv' := [(8, .int a130), (11, .int a111), (9, .int lx59), (7, .int lx37), (6, .int a23), (5, .int a19), (4, .int a14), (0, .ref (q 9)), (1, .int x2), (2, .ref (q k3)), (3, .ref (q k4))]) hx hb d_8_11_156 hl (by decide) rfl (fun ls hl => ?_)
              obtain ⟨a133, e134⟩ := q_nm (lx59 + 1 : Int32)
              have b135 : q_F (a133.toInt = lx59.toInt + 1) := (by rw [← e134]; exact q_addI (y := 1) rfl (by decide) (by have t1 : lx41.toInt ≤ lx59.toInt + lx60.toInt := i64; have t2 : lx60.toInt ≤ lx59.toInt + lx41.toInt := i65; have t3 : lx59.toInt ≤ 221 := i61; omega) (by have t1 : lx41.toInt ≤ lx59.toInt + lx60.toInt := i64; have t2 : lx60.toInt ≤ lx59.toInt + lx41.toInt := i65; have t3 : lx59.toInt ≤ 221 := i61; omega))
              refine lv_iinc (v := a133) (lv' := [(9, .int a133), (8, .int a130), (11, .int a111), (7, .int lx37), (6, .int a23), (5, .int a19), (4, .int a14), (0, .ref (q 9)), (1, .int x2), (2, .ref (q k3)), (3, .ref (q k4))]) hx hb d_8_11_158 hl (k := 2) rfl (e134) (by decide) rfl (fun ls hl => ?_)
              refine lv_goto (tgt := 88) hx hb d_8_11_161 (by decide) ?_
              exact ih66 ((a133 : Int32), (a130 : Int32)) _ _ _ _ (show (221 - a133.toInt).toNat < (221 - lx59.toInt).toNat from by have t1 : a133.toInt = lx59.toInt + 1 := b135; have t2 : lx59.toInt ≤ 221 := i61; have t3 : 0 ≤ R.toInt ∧ R.toInt ≤ 220 := hfk30; have t4 : 0 ≤ R2.toInt ∧ R2.toInt ≤ 220 := hfk40; have t5 : 0 ≤ y2.toInt ∧ y2.toInt ≤ R.toInt := b4; have t6 : 0 ≤ y7.toInt ∧ y7.toInt ≤ R2.toInt := b9; have t7 : y2.toInt ≤ a11.toInt ∧ y7.toInt ≤ a11.toInt ∧ (a11.toInt = y2.toInt ∨ a11.toInt = y7.toInt) := b13; have t8 : a14.toInt = a11.toInt + 1 := b16; have t9 : lx59.toInt < a14.toInt := b86; omega) ⟨(show q_F (a133.toInt ≤ 221) from (show a133.toInt ≤ 221 from by have t1 : 0 ≤ R.toInt ∧ R.toInt ≤ 220 := hfk30; have t2 : 0 ≤ R2.toInt ∧ R2.toInt ≤ 220 := hfk40; have t3 : 0 ≤ y2.toInt ∧ y2.toInt ≤ R.toInt := b4; have t4 : 0 ≤ y7.toInt ∧ y7.toInt ≤ R2.toInt := b9; have t5 : y2.toInt ≤ a11.toInt ∧ y7.toInt ≤ a11.toInt ∧ (a11.toInt = y2.toInt ∨ a11.toInt = y7.toInt) := b13; have t6 : a14.toInt = a11.toInt + 1 := b16; have t7 : lx59.toInt < a14.toInt := b86; have t8 : a133.toInt = lx59.toInt + 1 := b135; omega)), (show q_F (0 ≤ a130.toInt) from (show 0 ≤ a130.toInt from by have t1 : 0 ≤ a130.toInt ∧ a130.toInt ≤ 1 := b132; omega)), (show q_F (a130.toInt ≤ 1) from (show a130.toInt ≤ 1 from by have t1 : 0 ≤ a130.toInt ∧ a130.toInt ≤ 1 := b132; omega)), (show q_F (lx41.toInt ≤ a133.toInt + a130.toInt) from (show lx41.toInt ≤ a133.toInt + a130.toInt from by have t1 : lx60.toInt ≤ 1 := i63; have t2 : lx41.toInt ≤ lx59.toInt + lx60.toInt := i64; have t3 : 0 ≤ a130.toInt ∧ a130.toInt ≤ 1 := b132; have t4 : a133.toInt = lx59.toInt + 1 := b135; omega)), (show q_F (a130.toInt ≤ a133.toInt + lx41.toInt) from (show a130.toInt ≤ a133.toInt + lx41.toInt from by have t1 : 0 ≤ lx60.toInt := i62; have t2 : lx60.toInt ≤ lx59.toInt + lx41.toInt := i65; have t3 : 0 ≤ a130.toInt ∧ a130.toInt ≤ 1 := b132; have t4 : a133.toInt = lx59.toInt + 1 := b135; omega)), V, q_lw hl (q_lw1 0 rfl (q_lw1 1 rfl (q_lw1 3 rfl (q_lw1 4 rfl (q_lw1 5 rfl (q_lw1 6 rfl (q_lw1 7 rfl (q_lw1 8 rfl (q_lw1 9 rfl (q_lw1 10 rfl q_lw0)))))))))), hI, hF⟩
            ·
              intro J110
              refine lv_if_eq (tgt := 132) hx hb d_8_11_119 (by decide) (fun c136 => ?_) (fun c136 => ?_)
              ·
                have b137 : q_F (lx37.toInt = 0) := (q_eqI c136)
                refine lv_iload hx hb d_8_11_132 (lv_at hl 0 rfl) ?_
                exact J110 ((a107 : Int32)) _ _ _ w67 ⟨V, q_lw hl (q_lw1 1 rfl (q_lw1 2 rfl (q_lw1 3 rfl (q_lw1 4 rfl (q_lw1 5 rfl (q_lw1 6 rfl (q_lw1 7 rfl (q_lw1 8 rfl (q_lw1 9 rfl (q_lw1 10 rfl q_lw0))))))))))⟩
              ·
                have b138 : q_F (lx37.toInt ≠ 0) := (q_neI c136)
                refine lv_iload hx hb d_8_11_122 (lv_at hl 0 rfl) ?_
                refine lv_iconst (v := (-1)) hx hb d_8_11_124 (by decide) ?_
                refine lv_ixor hx hb d_8_11_125 ?_
                obtain ⟨a139, e140⟩ := q_nm (a107 ^^^ (-1) : Int32)
                refine q_ti (v := a139) e140 ?_
                refine q_ldc C0 rfl w_1313 d_8_11_126 ?_
                refine lv_iand hx hb d_8_11_128 ?_
                obtain ⟨a141, e142⟩ := q_nm (a139 &&& 2147483647 : Int32)
                refine q_ti (v := a141) e142 ?_
                have b143 : q_F (0 ≤ a141.toInt ∧ a141.toInt ≤ 2147483647) := (by rw [← e142]; show 0 ≤ (a139 &&& 2147483647 : Int32).toInt ∧ (a139 &&& 2147483647 : Int32).toInt ≤ 2147483647; exact s_and (by decide))
                refine lv_goto (tgt := 134) hx hb d_8_11_129 (by decide) ?_
                exact J110 ((a141 : Int32)) _ _ _ w67 ⟨V, q_lw hl (q_lw1 1 rfl (q_lw1 2 rfl (q_lw1 3 rfl (q_lw1 4 rfl (q_lw1 5 rfl (q_lw1 6 rfl (q_lw1 7 rfl (q_lw1 8 rfl (q_lw1 9 rfl (q_lw1 10 rfl q_lw0))))))))))⟩
        ·
          intro J42
          refine lv_if_eq (tgt := 75) hx hb d_8_11_68 (by decide) (fun c144 => ?_) (fun c144 => ?_)
          ·
            have b145 : q_F (lx37.toInt = 0) := (q_eqI c144)
            refine lv_iconst (v := 0) hx hb d_8_11_75 (by decide) ?_
            exact J42 ((0 : Int32)) _ _ _ ws ⟨(show q_F (lx37.toInt ≤ 0) from (show lx37.toInt ≤ 0 from by have t1 : lx37.toInt = 0 := b145; omega)), (show q_F (0 ≤ lx37.toInt) from (show 0 ≤ lx37.toInt from by have t1 : 0 ≤ lx37.toInt := i39; omega)), V, q_lw hl (q_lw1 0 rfl (q_lw1 1 rfl (q_lw1 2 rfl (q_lw1 3 rfl (q_lw1 4 rfl (q_lw1 5 rfl (q_lw1 6 rfl (q_lw1 7 rfl q_lw0))))))))⟩
          ·
            have b146 : q_F (lx37.toInt ≠ 0) := (q_neI c144)
            refine lv_iconst (v := 1) hx hb d_8_11_71 (by decide) ?_
            refine lv_goto (tgt := 76) hx hb d_8_11_72 (by decide) ?_
            exact J42 ((1 : Int32)) _ _ _ ws ⟨(show q_F (lx37.toInt ≤ 1) from (show lx37.toInt ≤ 1 from by have t1 : lx37.toInt ≤ 1 := i40; omega)), (show q_F (1 ≤ lx37.toInt) from (show 1 ≤ lx37.toInt from by have t1 : 0 ≤ lx37.toInt := i39; have t2 : lx37.toInt ≠ 0 := b146; omega)), V, q_lw hl (q_lw1 0 rfl (q_lw1 1 rfl (q_lw1 2 rfl (q_lw1 3 rfl (q_lw1 4 rfl (q_lw1 5 rfl (q_lw1 6 rfl (q_lw1 7 rfl q_lw0))))))))⟩
      ·
        intro J38
        refine lv_icmp_ne (tgt := 63) hx hb d_8_11_56 (by decide) (fun c147 => ?_) (fun c147 => ?_)
        ·
          have b148 : q_F (a35.toInt ≠ 1) := (q_neI c147)
          refine lv_iconst (v := 0) hx hb d_8_11_63 (by decide) ?_
          exact J38 ((0 : Int32)) _ _ _ ws ⟨(show q_F (0 ≤ 0) from (show 0 ≤ 0 from by omega)), (show q_F (0 ≤ 1) from (show 0 ≤ 1 from by omega)), V, q_lw hl (q_lw1 0 rfl (q_lw1 1 rfl (q_lw1 2 rfl (q_lw1 3 rfl (q_lw1 4 rfl (q_lw1 5 rfl (q_lw1 6 rfl q_lw0)))))))⟩
        ·
          have b149 : q_F (a35.toInt = 1) := (q_eqI c147)
          refine lv_iconst (v := 1) hx hb d_8_11_59 (by decide) ?_
          refine lv_goto (tgt := 64) hx hb d_8_11_60 (by decide) ?_
          exact J38 ((1 : Int32)) _ _ _ ws ⟨(show q_F (0 ≤ 1) from (show 0 ≤ 1 from by omega)), (show q_F (1 ≤ 1) from (show 1 ≤ 1 from by omega)), V, q_lw hl (q_lw1 0 rfl (q_lw1 1 rfl (q_lw1 2 rfl (q_lw1 3 rfl (q_lw1 4 rfl (q_lw1 5 rfl (q_lw1 6 rfl q_lw0)))))))⟩
    ·
      intro J30
      refine lv_if_eq (tgt := 51) hx hb d_8_11_44 (by decide) (fun c150 => ?_) (fun c150 => ?_)
      ·
        have b151 : q_F (y8.toInt = 0) := (q_eqI c150)
        refine lv_iconst (v := 0) hx hb d_8_11_51 (by decide) ?_
        exact J30 ((0 : Int32)) _ _ _ ws ⟨(show q_F (y8.toInt ≤ 0) from (show y8.toInt ≤ 0 from by have t1 : y8.toInt = 0 := b151; omega)), (show q_F (0 ≤ y8.toInt) from (show 0 ≤ y8.toInt from by have t1 : 0 ≤ y8.toInt ∧ y8.toInt ≤ 1 := b10; omega)), V, q_lw hl (q_lw1 0 rfl (q_lw1 1 rfl (q_lw1 2 rfl (q_lw1 3 rfl (q_lw1 4 rfl (q_lw1 5 rfl (q_lw1 6 rfl q_lw0)))))))⟩
      ·
        have b152 : q_F (y8.toInt ≠ 0) := (q_neI c150)
        refine lv_iconst (v := 1) hx hb d_8_11_47 (by decide) ?_
        refine lv_goto (tgt := 52) hx hb d_8_11_48 (by decide) ?_
        exact J30 ((1 : Int32)) _ _ _ ws ⟨(show q_F (y8.toInt ≤ 1) from (show y8.toInt ≤ 1 from by have t1 : 0 ≤ y8.toInt ∧ y8.toInt ≤ 1 := b10; omega)), (show q_F (1 ≤ y8.toInt) from (show 1 ≤ y8.toInt from by have t1 : 0 ≤ y8.toInt ∧ y8.toInt ≤ 1 := b10; have t2 : y8.toInt ≠ 0 := b152; omega)), V, q_lw hl (q_lw1 0 rfl (q_lw1 1 rfl (q_lw1 2 rfl (q_lw1 3 rfl (q_lw1 4 rfl (q_lw1 5 rfl (q_lw1 6 rfl q_lw0)))))))⟩
  ·
    intro J26
    refine lv_if_eq (tgt := 39) hx hb d_8_11_32 (by decide) (fun c153 => ?_) (fun c153 => ?_)
    ·
      have b154 : q_F (y3.toInt = 0) := (q_eqI c153)
      refine lv_iconst (v := 0) hx hb d_8_11_39 (by decide) ?_
      exact J26 ((0 : Int32)) _ _ _ ws ⟨(show q_F (y3.toInt ≤ 0) from (show y3.toInt ≤ 0 from by have t1 : y3.toInt = 0 := b154; omega)), (show q_F (0 ≤ y3.toInt) from (show 0 ≤ y3.toInt from by have t1 : 0 ≤ y3.toInt ∧ y3.toInt ≤ 1 := b5; omega)), V, q_lw hl (q_lw1 0 rfl (q_lw1 1 rfl (q_lw1 2 rfl (q_lw1 3 rfl (q_lw1 4 rfl (q_lw1 5 rfl (q_lw1 6 rfl q_lw0)))))))⟩
    ·
      have b155 : q_F (y3.toInt ≠ 0) := (q_neI c153)
      refine lv_iconst (v := 1) hx hb d_8_11_35 (by decide) ?_
      refine lv_goto (tgt := 40) hx hb d_8_11_36 (by decide) ?_
      exact J26 ((1 : Int32)) _ _ _ ws ⟨(show q_F (y3.toInt ≤ 1) from (show y3.toInt ≤ 1 from by have t1 : 0 ≤ y3.toInt ∧ y3.toInt ≤ 1 := b5; omega)), (show q_F (1 ≤ y3.toInt) from (show 1 ≤ y3.toInt from by have t1 : 0 ≤ y3.toInt ∧ y3.toInt ≤ 1 := b5; have t2 : y3.toInt ≠ 0 := b155; omega)), V, q_lw hl (q_lw1 0 rfl (q_lw1 1 rfl (q_lw1 2 rfl (q_lw1 3 rfl (q_lw1 4 rfl (q_lw1 5 rfl (q_lw1 6 rfl q_lw0)))))))⟩
theorem d_8_8_0 : decode prog_8_method_8_code 0 = .ok (.aload_n 0, 1) := by decide +kernel
theorem d_8_8_1 : decode prog_8_method_8_code 1 = .ok (.getfield 23, 3) := by decide +kernel
theorem d_8_8_4 : decode prog_8_method_8_code 4 = .ok (.lconst 1, 1) := by decide +kernel
theorem d_8_8_5 : decode prog_8_method_8_code 5 = .ok (.invokevirtual 77, 3) := by decide +kernel
set_option maxRecDepth 100000 in
theorem w_766 : (Cond.methodLink "NumberHouse$Mill" (77 : Nat) ({ cls := "NumberHouse$Big", name := "setLong", desc := "(J)V" } : MethodName)) ∈ q_tbl := q_of4 46 rfl (by decide +kernel)
theorem LV_Mil_77 : q_LV "NumberHouse$Mill" 77 y_Big_setLong prog_2_method_3_code 6 none 1 := ⟨w_193, w_4, w_766, w_191, w_192, ⟨by decide, by decide, by decide +kernel⟩⟩
theorem d_8_8_8 : decode prog_8_method_8_code 8 = .ok (.iload_n 2, 1) := by decide +kernel
theorem d_8_8_9 : decode prog_8_method_8_code 9 = .ok (.invokestatic 93, 3) := by decide +kernel
set_option maxRecDepth 100000 in
theorem w_1332 : (Cond.methodLink "NumberHouse$Mill" (93 : Nat) ({ cls := "NumberHouse$Big", name := "bitsOf", desc := "(I)I" } : MethodName)) ∈ q_tbl := q_of6 132 rfl (by decide +kernel)
theorem LS_Mil_93 : q_LS "NumberHouse$Mill" 93 y_Big_bitsOf prog_2_method_13_code 2 (some .int) 1 := ⟨w_613, w_4, w_1332, w_612, ⟨by decide, by decide, by decide +kernel⟩⟩
theorem d_8_8_12 : decode prog_8_method_8_code 12 = .ok (.iconst 1, 1) := by decide +kernel
theorem d_8_8_13 : decode prog_8_method_8_code 13 = .ok (.isub, 1) := by decide +kernel
theorem d_8_8_14 : decode prog_8_method_8_code 14 = .ok (.istore 4, 2) := by decide +kernel
theorem d_8_8_16 : decode prog_8_method_8_code 16 = .ok (.iload 4, 2) := by decide +kernel
theorem d_8_8_18 : decode prog_8_method_8_code 18 = .ok (.ifCond .lt 86, 3) := by decide +kernel
theorem d_8_8_104 : decode prog_8_method_8_code 104 = .ok (.iconst 1, 1) := by decide +kernel
theorem d_8_8_105 : decode prog_8_method_8_code 105 = .ok (.ireturn, 1) := by decide +kernel
theorem d_8_8_21 : decode prog_8_method_8_code 21 = .ok (.aload_n 0, 1) := by decide +kernel
theorem d_8_8_22 : decode prog_8_method_8_code 22 = .ok (.getfield 29, 3) := by decide +kernel
theorem d_8_8_25 : decode prog_8_method_8_code 25 = .ok (.aload_n 0, 1) := by decide +kernel
theorem d_8_8_26 : decode prog_8_method_8_code 26 = .ok (.getfield 23, 3) := by decide +kernel
theorem d_8_8_29 : decode prog_8_method_8_code 29 = .ok (.aload_n 0, 1) := by decide +kernel
theorem d_8_8_30 : decode prog_8_method_8_code 30 = .ok (.getfield 23, 3) := by decide +kernel
theorem d_8_8_33 : decode prog_8_method_8_code 33 = .ok (.invokevirtual 47, 3) := by decide +kernel
theorem d_8_8_36 : decode prog_8_method_8_code 36 = .ok (.aload_n 0, 1) := by decide +kernel
theorem d_8_8_37 : decode prog_8_method_8_code 37 = .ok (.getfield 29, 3) := by decide +kernel
theorem d_8_8_40 : decode prog_8_method_8_code 40 = .ok (.invokevirtual 85, 3) := by decide +kernel
set_option maxRecDepth 100000 in
theorem w_763 : (Cond.methodLink "NumberHouse$Mill" (85 : Nat) ({ cls := "NumberHouse$Big", name := "bitLength", desc := "()I" } : MethodName)) ∈ q_tbl := q_of4 43 rfl (by decide +kernel)
theorem LV_Mil_85 : q_LV "NumberHouse$Mill" 85 y_Big_bitLength prog_2_method_12_code 1 (some .int) 0 := ⟨w_610, w_4, w_763, w_608, w_609, ⟨by decide, by decide, by decide +kernel⟩⟩
theorem d_8_8_43 : decode prog_8_method_8_code 43 = .ok (.iload_n 3, 1) := by decide +kernel
theorem d_8_8_44 : decode prog_8_method_8_code 44 = .ok (.if_icmp .le 5, 3) := by decide +kernel
theorem d_8_8_49 : decode prog_8_method_8_code 49 = .ok (.iload_n 2, 1) := by decide +kernel
theorem d_8_8_50 : decode prog_8_method_8_code 50 = .ok (.iload 4, 2) := by decide +kernel
theorem d_8_8_52 : decode prog_8_method_8_code 52 = .ok (.iushr, 1) := by decide +kernel
theorem d_8_8_53 : decode prog_8_method_8_code 53 = .ok (.iconst 1, 1) := by decide +kernel
theorem d_8_8_54 : decode prog_8_method_8_code 54 = .ok (.iand, 1) := by decide +kernel
theorem d_8_8_55 : decode prog_8_method_8_code 55 = .ok (.iconst 1, 1) := by decide +kernel
theorem d_8_8_56 : decode prog_8_method_8_code 56 = .ok (.if_icmp .ne 18, 3) := by decide +kernel
theorem d_8_8_74 : decode prog_8_method_8_code 74 = .ok (.aload_n 0, 1) := by decide +kernel
theorem d_8_8_75 : decode prog_8_method_8_code 75 = .ok (.getfield 23, 3) := by decide +kernel
theorem d_8_8_78 : decode prog_8_method_8_code 78 = .ok (.aload_n 0, 1) := by decide +kernel
theorem d_8_8_79 : decode prog_8_method_8_code 79 = .ok (.getfield 29, 3) := by decide +kernel
theorem d_8_8_82 : decode prog_8_method_8_code 82 = .ok (.invokevirtual 51, 3) := by decide +kernel
theorem d_8_8_85 : decode prog_8_method_8_code 85 = .ok (.aload_n 0, 1) := by decide +kernel
theorem d_8_8_86 : decode prog_8_method_8_code 86 = .ok (.getfield 23, 3) := by decide +kernel
theorem d_8_8_89 : decode prog_8_method_8_code 89 = .ok (.invokevirtual 85, 3) := by decide +kernel
theorem d_8_8_92 : decode prog_8_method_8_code 92 = .ok (.iload_n 3, 1) := by decide +kernel
theorem d_8_8_93 : decode prog_8_method_8_code 93 = .ok (.if_icmp .le 5, 3) := by decide +kernel
theorem d_8_8_98 : decode prog_8_method_8_code 98 = .ok (.iinc 4 (-1), 3) := by decide +kernel
theorem d_8_8_101 : decode prog_8_method_8_code 101 = .ok (.goto (-85), 3) := by decide +kernel
theorem d_8_8_96 : decode prog_8_method_8_code 96 = .ok (.iconst 0, 1) := by decide +kernel
theorem d_8_8_97 : decode prog_8_method_8_code 97 = .ok (.ireturn, 1) := by decide +kernel
theorem d_8_8_59 : decode prog_8_method_8_code 59 = .ok (.aload_n 0, 1) := by decide +kernel
theorem d_8_8_60 : decode prog_8_method_8_code 60 = .ok (.getfield 23, 3) := by decide +kernel
theorem d_8_8_63 : decode prog_8_method_8_code 63 = .ok (.aload_n 0, 1) := by decide +kernel
theorem d_8_8_64 : decode prog_8_method_8_code 64 = .ok (.getfield 29, 3) := by decide +kernel
theorem d_8_8_67 : decode prog_8_method_8_code 67 = .ok (.aload_n 1, 1) := by decide +kernel
theorem d_8_8_68 : decode prog_8_method_8_code 68 = .ok (.invokevirtual 47, 3) := by decide +kernel
theorem d_8_8_71 : decode prog_8_method_8_code 71 = .ok (.goto 14, 3) := by decide +kernel
theorem d_8_8_47 : decode prog_8_method_8_code 47 = .ok (.iconst 0, 1) := by decide +kernel
theorem d_8_8_48 : decode prog_8_method_8_code 48 = .ok (.ireturn, 1) := by decide +kernel
def y_Mil_power : MethodName := ⟨"NumberHouse$Mill", "power", "(LNumberHouse$Big;II)Z"⟩
set_option maxRecDepth 100000 in
set_option maxHeartbeats 4000000 in
theorem T_Mil_power (l : Launch) (D : va_G) (g : Nat → ClassId) (q : Nat → Nat) (ws : va_W) (k2 : Nat) (R : Int32) (hB2 : q_isBig (nsh g q) g q k2 R) (zk2 : (10 ≤ k2 ∧ k2 ≤ 32) ∨ 66 ≤ k2) (x3 : Int32) (x4 : Int32) (hI : q_I (nsh g q) q ws) : q_mI l y_Mil_power prog_8_method_8_code 5 (.boolean) 4 0 0 D g [.ref (q 9), .ref (q k2), .int x3, .int x4] ws (fun r u => q_I (nsh g q) q u ∧ q_un ws u [14, 15, 18, 19] ∧ (0 ≤ r.toInt) ∧ (r.toInt ≤ 1)) := by
  intro sz
  refine q_into (by decide) (Nat.le_of_ble_eq_true rfl) ?_
  intro p e s m below meth c ls hsz C0 V hl
  have hx := C0.1
  have hb := C0.2.1
  have hfk20 : q_F (0 ≤ R.toInt ∧ R.toInt ≤ 220) := hB2.2.2
  have hF : q_un ws ws [14, 15, 18, 19] := q_u0
  have hl : lv_has ls 5 [(0, .ref (q 9)), (1, .ref (q k2)), (2, .int x3), (3, .int x4)] := hl
  refine lv_aload_n hx hb d_8_8_0 rfl (lv_at hl 0 rfl) ?_
  have hO1 := n_o9 hI
  refine q_get (ci := 4) (j := 2) (v := .ref (q 14)) C0 V i_Mil rfl rfl hO1 (by decide) w_117 rfl d_8_8_1 ?_
  refine lv_lconst (v := 1) hx hb d_8_8_4 (by decide) ?_
  obtain ⟨y3, y4, hO2, b5, b6⟩ := q_bigO hI (n_b14 g q)
  replace b5 : q_F (0 ≤ y3.toInt ∧ y3.toInt ≤ 220) := b5
  replace b6 : q_F (0 ≤ y4.toInt ∧ y4.toInt ≤ 1) := b6
  refine q_gov V (q_runV (As := [.long 1]) (rest := []) (d := 2) (mc := 0) (ms := 0) (ci := 2) C0 V rfl LV_Mil_77 (S_Big_setLong l D g (nsh g q) q ws 14 220 (n_b14 g q) 1 hI   _) rfl rfl hO2 rfl hl.1 rfl (Nat.le_of_ble_eq_true rfl) ⟨by decide, by decide⟩ ⟨Nat.le_of_ble_eq_true rfl, Nat.le_of_ble_eq_true rfl⟩ d_8_8_5) (fun u7 H locs hp8 V => ?_)
  obtain ⟨_, hI, hu9⟩ := hp8
  replace hO1 := (hu9 _ (by decide)).trans hO1
  replace hF := q_uc hF hu9 (by simp)
  refine lv_iload_n hx hb d_8_8_8 rfl (lv_at hl 2 rfl) ?_
  refine q_goi V (q_runS (As := [.int x3]) (rest := []) (d := 2) (mc := 0) (ms := 0) C0 V rfl LS_Mil_93 (S_Big_bitsOf l D g (nsh g q) q u7  x3 hI   _) rfl hl.1 rfl (Nat.le_of_ble_eq_true rfl) ⟨by decide, by decide⟩ ⟨Nat.le_of_ble_eq_true rfl, Nat.le_of_ble_eq_true rfl⟩ d_8_8_9) (fun a12 u10 H locs hp11 V => ?_)
  obtain ⟨b13, rfl⟩ := hp11
  replace b13 : q_F (0 ≤ a12.toInt ∧ a12.toInt ≤ 63) := b13
  refine lv_iconst (v := 1) hx hb d_8_8_12 (by decide) ?_
  refine lv_isub hx hb d_8_8_13 ?_
  obtain ⟨a14, e15⟩ := q_nm (a12 - 1 : Int32)
  refine q_ti (v := a14) e15 ?_
  have b16 : q_F (a14.toInt = a12.toInt - 1) := (by rw [← e15]; show (a12 - 1 : Int32).toInt = a12.toInt - 1; exact q_subI (x := a12.toInt) (y := 1) rfl (by decide) (by have t1 : 0 ≤ a12.toInt ∧ a12.toInt ≤ 63 := b13; omega) (by have t1 : 0 ≤ a12.toInt ∧ a12.toInt ≤ 63 := b13; omega))
  refine lv_istore (lv' := [(4, .int a14), (0, .ref (q 9)), (1, .ref (q k2)), (2, .int x3), (3, .int x4)]) hx hb d_8_8_14 hl (by decide) rfl (fun ls hl => ?_)
  refine q_loop (X := Int32) (fun z H locs ls w21 => q_F (0 ≤ z.toInt + 1) ∧ q_F (z.toInt ≤ a14.toInt) ∧ q_Wd D g (va_A ws sz) s w21 H locs ∧ lv_has ls 5 [(4, .int z), (0, .ref (q 9)), (1, .ref (q k2)), (2, .int x3), (3, .int x4)] ∧ q_I (nsh g q) q w21 ∧ q_un ws w21 [14, 15, 18, 19]) (fun z => (z.toInt - ((-1))).toNat) ?_ ((a14 : Int32)) _ _ _ u7 ⟨(show q_F (0 ≤ a14.toInt + 1) from (show 0 ≤ a14.toInt + 1 from by have t1 : 0 ≤ a12.toInt ∧ a12.toInt ≤ 63 := b13; have t2 : a14.toInt = a12.toInt - 1 := b16; omega)), (show q_F (a14.toInt ≤ a14.toInt) from (show a14.toInt ≤ a14.toInt from by omega)), V, q_lw hl (q_lw1 0 rfl (q_lw1 1 rfl (q_lw1 2 rfl (q_lw1 3 rfl (q_lw1 4 rfl q_lw0))))), hI, hF⟩
  rintro lx17 H locs ls w21 ⟨i18, i19, V, hl, hI, hF⟩ ih20
  replace i18 : q_F (0 ≤ lx17.toInt + 1) := i18
  replace i19 : q_F (lx17.toInt ≤ a14.toInt) := i19
  replace hl : lv_has ls 5 [(4, .int lx17), (0, .ref (q 9)), (1, .ref (q k2)), (2, .int x3), (3, .int x4)] := hl
  refine lv_iload hx hb d_8_8_16 (lv_at hl 0 rfl) ?_
  refine lv_if_lt (tgt := 104) hx hb d_8_8_18 (by decide) (fun c22 => ?_) (fun c22 => ?_)
  ·
    have b23 : q_F (lx17.toInt < 0) := (q_ltI c22)
    refine lv_iconst (v := 1) hx hb d_8_8_104 (by decide) ?_
    exact q_retz C0 V (by decide) (⟨hI, hF, (show 0 ≤ (1 : Int32).toInt from (by have z3 : (1 : Int32).toInt = 1 := rfl; omega)), (show (1 : Int32).toInt ≤ 1 from (by have z3 : (1 : Int32).toInt = 1 := rfl; omega))⟩) d_8_8_105
  ·
    have b24 : q_F (0 ≤ lx17.toInt) := (q_nltI c22)
    refine lv_aload_n hx hb d_8_8_21 rfl (lv_at hl 1 rfl) ?_
    have hO25 := n_o9 hI
    refine q_get (ci := 4) (j := 4) (v := .ref (q 18)) C0 V i_Mil rfl rfl hO25 (by decide) w_123 rfl d_8_8_22 ?_
    refine lv_aload_n hx hb d_8_8_25 rfl (lv_at hl 1 rfl) ?_
    refine q_get (ci := 4) (j := 2) (v := .ref (q 14)) C0 V i_Mil rfl rfl hO25 (by decide) w_117 rfl d_8_8_26 ?_
    refine lv_aload_n hx hb d_8_8_29 rfl (lv_at hl 1 rfl) ?_
    refine q_get (ci := 4) (j := 2) (v := .ref (q 14)) C0 V i_Mil rfl rfl hO25 (by decide) w_117 rfl d_8_8_30 ?_
    obtain ⟨y27, y28, hO26, b29, b30⟩ := q_bigO hI (n_b18 g q)
    replace b29 : q_F (0 ≤ y27.toInt ∧ y27.toInt ≤ 220) := b29
    replace b30 : q_F (0 ≤ y28.toInt ∧ y28.toInt ≤ 1) := b30
    refine q_gov V (q_runV (As := [.ref (q 14), .ref (q 14)]) (rest := []) (d := 3) (mc := 0) (ms := 0) (ci := 2) C0 V rfl LV_Mil_47 (T_Big_product l D g q w21 18 220 (n_b18 g q) (by decide) 14 220 (n_b14 g q) (by decide) 14 220 (n_b14 g q) (by decide)  hI   _) rfl rfl hO26 rfl hl.1 rfl (Nat.le_of_ble_eq_true rfl) ⟨by decide, by decide⟩ ⟨Nat.le_of_ble_eq_true rfl, Nat.le_of_ble_eq_true rfl⟩ d_8_8_33) (fun u31 H locs hp32 V => ?_)
    obtain ⟨hI, hu34, -⟩ := hp32
    replace hO25 := (hu34 _ (by decide)).trans hO25
    replace hF := q_uc hF hu34 (by simp)
    refine lv_aload_n hx hb d_8_8_36 rfl (lv_at hl 1 rfl) ?_
    refine q_get (ci := 4) (j := 4) (v := .ref (q 18)) C0 V i_Mil rfl rfl hO25 (by decide) w_123 rfl d_8_8_37 ?_
    obtain ⟨y36, y37, hO35, b38, b39⟩ := q_bigO hI (n_b18 g q)
    replace b38 : q_F (0 ≤ y36.toInt ∧ y36.toInt ≤ 220) := b38
    replace b39 : q_F (0 ≤ y37.toInt ∧ y37.toInt ≤ 1) := b39
    refine q_goi V (q_runV (As := []) (rest := []) (d := 3) (mc := 0) (ms := 0) (ci := 2) C0 V rfl LV_Mil_85 (S_Big_bitLength l D g (nsh g q) q u31 18 220 (n_b18 g q)  hI   _) rfl rfl hO35 rfl hl.1 rfl (Nat.le_of_ble_eq_true rfl) ⟨by decide, by decide⟩ ⟨Nat.le_of_ble_eq_true rfl, Nat.le_of_ble_eq_true rfl⟩ d_8_8_40) (fun a42 u40 H locs hp41 V => ?_)
    obtain ⟨b43, rfl⟩ := hp41
    replace b43 : q_F (0 ≤ a42.toInt ∧ a42.toInt ≤ 6852) := b43
    refine lv_iload_n hx hb d_8_8_43 rfl (lv_at hl 4 rfl) ?_
    refine lv_icmp_le (tgt := 49) hx hb d_8_8_44 (by decide) (fun c44 => ?_) (fun c44 => ?_)
    ·
      have b45 : q_F (a42.toInt ≤ x4.toInt) := (q_leI c44)
      refine lv_iload_n hx hb d_8_8_49 rfl (lv_at hl 3 rfl) ?_
      refine lv_iload hx hb d_8_8_50 (lv_at hl 0 rfl) ?_
      refine lv_iushr hx hb d_8_8_52 rfl ?_
      obtain ⟨a46, e47⟩ := q_nm ((x3.toUInt32 >>> (lx17.toUInt32 &&& Int32.toUInt32 31)).toInt32 : Int32)
      refine q_ti (v := a46) e47 ?_
      refine lv_iconst (v := 1) hx hb d_8_8_53 (by decide) ?_
      refine lv_iand hx hb d_8_8_54 ?_
      obtain ⟨a48, e49⟩ := q_nm (a46 &&& 1 : Int32)
      refine q_ti (v := a48) e49 ?_
      have b50 : q_F (0 ≤ a48.toInt ∧ a48.toInt ≤ 1) := (by rw [← e49]; show 0 ≤ (a46 &&& 1 : Int32).toInt ∧ (a46 &&& 1 : Int32).toInt ≤ 1; exact s_and (by decide))
      refine lv_iconst (v := 1) hx hb d_8_8_55 (by decide) ?_
      refine lv_icmp_ne (tgt := 74) hx hb d_8_8_56 (by decide) (fun c51 => ?_) (fun c51 => ?_)
      ·
        have b52 : q_F (a48.toInt ≠ 1) := (q_neI c51)
        refine lv_aload_n hx hb d_8_8_74 rfl (lv_at hl 1 rfl) ?_
        refine q_get (ci := 4) (j := 2) (v := .ref (q 14)) C0 V i_Mil rfl rfl hO25 (by decide) w_117 rfl d_8_8_75 ?_
        refine lv_aload_n hx hb d_8_8_78 rfl (lv_at hl 1 rfl) ?_
        refine q_get (ci := 4) (j := 4) (v := .ref (q 18)) C0 V i_Mil rfl rfl hO25 (by decide) w_123 rfl d_8_8_79 ?_
        obtain ⟨y54, y55, hO53, b56, b57⟩ := q_bigO hI (n_b14 g q)
        replace b56 : q_F (0 ≤ y54.toInt ∧ y54.toInt ≤ 220) := b56
        replace b57 : q_F (0 ≤ y55.toInt ∧ y55.toInt ≤ 1) := b57
        refine q_gov V (q_runV (As := [.ref (q 18)]) (rest := []) (d := 2) (mc := 0) (ms := 0) (ci := 2) C0 V rfl LV_Mil_51 (S_Big_copy l D g (nsh g q) q u31 14 220 (n_b14 g q) 18 220 (n_b18 g q)  hI   _) rfl rfl hO53 rfl hl.1 rfl (Nat.le_of_ble_eq_true rfl) ⟨by decide, by decide⟩ ⟨Nat.le_of_ble_eq_true rfl, Nat.le_of_ble_eq_true rfl⟩ d_8_8_82) (fun u58 H locs hp59 V => ?_)
        obtain ⟨_, hI, hu60⟩ := hp59
        replace hO25 := (hu60 _ (by decide)).trans hO25
        replace hO35 := (hu60 _ (by decide)).trans hO35
        replace hF := q_uc hF hu60 (by simp)
        refine lv_aload_n hx hb d_8_8_85 rfl (lv_at hl 1 rfl) ?_
        refine q_get (ci := 4) (j := 2) (v := .ref (q 14)) C0 V i_Mil rfl rfl hO25 (by decide) w_117 rfl d_8_8_86 ?_
        obtain ⟨y62, y63, hO61, b64, b65⟩ := q_bigO hI (n_b14 g q)
        replace b64 : q_F (0 ≤ y62.toInt ∧ y62.toInt ≤ 220) := b64
        replace b65 : q_F (0 ≤ y63.toInt ∧ y63.toInt ≤ 1) := b65
        refine q_goi V (q_runV (As := []) (rest := []) (d := 3) (mc := 0) (ms := 0) (ci := 2) C0 V rfl LV_Mil_85 (S_Big_bitLength l D g (nsh g q) q u58 14 220 (n_b14 g q)  hI   _) rfl rfl hO61 rfl hl.1 rfl (Nat.le_of_ble_eq_true rfl) ⟨by decide, by decide⟩ ⟨Nat.le_of_ble_eq_true rfl, Nat.le_of_ble_eq_true rfl⟩ d_8_8_89) (fun a68 u66 H locs hp67 V => ?_)
        obtain ⟨b69, rfl⟩ := hp67
        replace b69 : q_F (0 ≤ a68.toInt ∧ a68.toInt ≤ 6852) := b69
        refine lv_iload_n hx hb d_8_8_92 rfl (lv_at hl 4 rfl) ?_
        refine lv_icmp_le (tgt := 98) hx hb d_8_8_93 (by decide) (fun c70 => ?_) (fun c70 => ?_)
        ·
          have b71 : q_F (a68.toInt ≤ x4.toInt) := (q_leI c70)
          obtain ⟨a72, e73⟩ := q_nm (lx17 + (-1) : Int32)
          have b74 : q_F (a72.toInt = lx17.toInt + (-1)) := (by rw [← e73]; exact q_addI (y := (-1)) rfl (by decide) (by have t1 : 0 ≤ lx17.toInt + 1 := i18; have t2 : lx17.toInt ≤ a14.toInt := i19; have _ := q_lo32 (x := a14); have _ := q_hi32 (x := a14); omega) (by have t1 : 0 ≤ lx17.toInt + 1 := i18; have t2 : lx17.toInt ≤ a14.toInt := i19; have _ := q_lo32 (x := a14); have _ := q_hi32 (x := a14); omega))
          refine lv_iinc (v := a72) (lv' := [(4, .int a72), (0, .ref (q 9)), (1, .ref (q k2)), (2, .int x3), (3, .int x4)]) hx hb d_8_8_98 hl (k := 0) rfl (e73) (by decide) rfl (fun ls hl => ?_)
          refine lv_goto (tgt := 16) hx hb d_8_8_101 (by decide) ?_
          exact ih20 ((a72 : Int32)) _ _ _ _ (show (a72.toInt - ((-1))).toNat < (lx17.toInt - ((-1))).toNat from by have t1 : a72.toInt = lx17.toInt + (-1) := b74; have t2 : 0 ≤ lx17.toInt + 1 := i18; have t3 : 0 ≤ lx17.toInt := b24; omega) ⟨(show q_F (0 ≤ a72.toInt + 1) from (show 0 ≤ a72.toInt + 1 from by have t1 : 0 ≤ lx17.toInt := b24; have t2 : a72.toInt = lx17.toInt + (-1) := b74; omega)), (show q_F (a72.toInt ≤ a14.toInt) from (show a72.toInt ≤ a14.toInt from by have t1 : lx17.toInt ≤ a14.toInt := i19; have t2 : a72.toInt = lx17.toInt + (-1) := b74; omega)), V, q_lw hl (q_lw1 0 rfl (q_lw1 1 rfl (q_lw1 2 rfl (q_lw1 3 rfl (q_lw1 4 rfl q_lw0))))), hI, hF⟩
        ·
          have b75 : q_F (x4.toInt < a68.toInt) := (q_nleI c70)
          refine lv_iconst (v := 0) hx hb d_8_8_96 (by decide) ?_
          exact q_retz C0 V (by decide) (⟨hI, hF, (show 0 ≤ (0 : Int32).toInt from (by have z3 : (0 : Int32).toInt = 0 := rfl; omega)), (show (0 : Int32).toInt ≤ 1 from (by have z3 : (0 : Int32).toInt = 0 := rfl; omega))⟩) d_8_8_97
      ·
        have b76 : q_F (a48.toInt = 1) := (q_eqI c51)
        refine lv_aload_n hx hb d_8_8_59 rfl (lv_at hl 1 rfl) ?_
        refine q_get (ci := 4) (j := 2) (v := .ref (q 14)) C0 V i_Mil rfl rfl hO25 (by decide) w_117 rfl d_8_8_60 ?_
        refine lv_aload_n hx hb d_8_8_63 rfl (lv_at hl 1 rfl) ?_
        refine q_get (ci := 4) (j := 4) (v := .ref (q 18)) C0 V i_Mil rfl rfl hO25 (by decide) w_123 rfl d_8_8_64 ?_
        refine lv_aload_n hx hb d_8_8_67 rfl (lv_at hl 2 rfl) ?_
        obtain ⟨y78, y79, hO77, b80, b81⟩ := q_bigO hI (n_b14 g q)
        replace b80 : q_F (0 ≤ y78.toInt ∧ y78.toInt ≤ 220) := b80
        replace b81 : q_F (0 ≤ y79.toInt ∧ y79.toInt ≤ 1) := b81
        refine q_gov V (q_runV (As := [.ref (q 18), .ref (q k2)]) (rest := []) (d := 3) (mc := 0) (ms := 0) (ci := 2) C0 V rfl LV_Mil_47 (T_Big_product l D g q u31 14 220 (n_b14 g q) (by decide) 18 220 (n_b18 g q) (by decide) k2 R hB2 zk2  hI   _) rfl rfl hO77 rfl hl.1 rfl (Nat.le_of_ble_eq_true rfl) ⟨by decide, by decide⟩ ⟨Nat.le_of_ble_eq_true rfl, Nat.le_of_ble_eq_true rfl⟩ d_8_8_68) (fun u82 H locs hp83 V => ?_)
        obtain ⟨hI, hu85, -⟩ := hp83
        replace hO25 := (hu85 _ (by decide)).trans hO25
        replace hO35 := (hu85 _ (by decide)).trans hO35
        replace hF := q_uc hF hu85 (by simp)
        refine lv_goto (tgt := 85) hx hb d_8_8_71 (by decide) ?_
        refine lv_aload_n hx hb d_8_8_85 rfl (lv_at hl 1 rfl) ?_
        refine q_get (ci := 4) (j := 2) (v := .ref (q 14)) C0 V i_Mil rfl rfl hO25 (by decide) w_117 rfl d_8_8_86 ?_
        obtain ⟨y87, y88, hO86, b89, b90⟩ := q_bigO hI (n_b14 g q)
        replace b89 : q_F (0 ≤ y87.toInt ∧ y87.toInt ≤ 220) := b89
        replace b90 : q_F (0 ≤ y88.toInt ∧ y88.toInt ≤ 1) := b90
        refine q_goi V (q_runV (As := []) (rest := []) (d := 3) (mc := 0) (ms := 0) (ci := 2) C0 V rfl LV_Mil_85 (S_Big_bitLength l D g (nsh g q) q u82 14 220 (n_b14 g q)  hI   _) rfl rfl hO86 rfl hl.1 rfl (Nat.le_of_ble_eq_true rfl) ⟨by decide, by decide⟩ ⟨Nat.le_of_ble_eq_true rfl, Nat.le_of_ble_eq_true rfl⟩ d_8_8_89) (fun a93 u91 H locs hp92 V => ?_)
        obtain ⟨b94, rfl⟩ := hp92
        replace b94 : q_F (0 ≤ a93.toInt ∧ a93.toInt ≤ 6852) := b94
        refine lv_iload_n hx hb d_8_8_92 rfl (lv_at hl 4 rfl) ?_
        refine lv_icmp_le (tgt := 98) hx hb d_8_8_93 (by decide) (fun c95 => ?_) (fun c95 => ?_)
        ·
          have b96 : q_F (a93.toInt ≤ x4.toInt) := (q_leI c95)
          obtain ⟨a97, e98⟩ := q_nm (lx17 + (-1) : Int32)
          have b99 : q_F (a97.toInt = lx17.toInt + (-1)) := (by rw [← e98]; exact q_addI (y := (-1)) rfl (by decide) (by have t1 : 0 ≤ lx17.toInt + 1 := i18; have t2 : lx17.toInt ≤ a14.toInt := i19; have _ := q_lo32 (x := a14); have _ := q_hi32 (x := a14); omega) (by have t1 : 0 ≤ lx17.toInt + 1 := i18; have t2 : lx17.toInt ≤ a14.toInt := i19; have _ := q_lo32 (x := a14); have _ := q_hi32 (x := a14); omega))
          refine lv_iinc (v := a97) (lv' := [(4, .int a97), (0, .ref (q 9)), (1, .ref (q k2)), (2, .int x3), (3, .int x4)]) hx hb d_8_8_98 hl (k := 0) rfl (e98) (by decide) rfl (fun ls hl => ?_)
          refine lv_goto (tgt := 16) hx hb d_8_8_101 (by decide) ?_
          exact ih20 ((a97 : Int32)) _ _ _ _ (show (a97.toInt - ((-1))).toNat < (lx17.toInt - ((-1))).toNat from by have t1 : a97.toInt = lx17.toInt + (-1) := b99; have t2 : 0 ≤ lx17.toInt + 1 := i18; have t3 : 0 ≤ lx17.toInt := b24; omega) ⟨(show q_F (0 ≤ a97.toInt + 1) from (show 0 ≤ a97.toInt + 1 from by have t1 : 0 ≤ lx17.toInt := b24; have t2 : a97.toInt = lx17.toInt + (-1) := b99; omega)), (show q_F (a97.toInt ≤ a14.toInt) from (show a97.toInt ≤ a14.toInt from by have t1 : lx17.toInt ≤ a14.toInt := i19; have t2 : a97.toInt = lx17.toInt + (-1) := b99; omega)), V, q_lw hl (q_lw1 0 rfl (q_lw1 1 rfl (q_lw1 2 rfl (q_lw1 3 rfl (q_lw1 4 rfl q_lw0))))), hI, hF⟩
        ·
          have b100 : q_F (x4.toInt < a93.toInt) := (q_nleI c95)
          refine lv_iconst (v := 0) hx hb d_8_8_96 (by decide) ?_
          exact q_retz C0 V (by decide) (⟨hI, hF, (show 0 ≤ (0 : Int32).toInt from (by have z3 : (0 : Int32).toInt = 0 := rfl; omega)), (show (0 : Int32).toInt ≤ 1 from (by have z3 : (0 : Int32).toInt = 0 := rfl; omega))⟩) d_8_8_97
    ·
      have b101 : q_F (x4.toInt < a42.toInt) := (q_nleI c44)
      refine lv_iconst (v := 0) hx hb d_8_8_47 (by decide) ?_
      exact q_retz C0 V (by decide) (⟨hI, hF, (show 0 ≤ (0 : Int32).toInt from (by have z3 : (0 : Int32).toInt = 0 := rfl; omega)), (show (0 : Int32).toInt ≤ 1 from (by have z3 : (0 : Int32).toInt = 0 := rfl; omega))⟩) d_8_8_48
theorem d_8_10_0 : decode prog_8_method_10_code 0 = .ok (.aload_n 0, 1) := by decide +kernel
theorem d_8_10_1 : decode prog_8_method_10_code 1 = .ok (.getfield 16, 3) := by decide +kernel
theorem d_8_10_4 : decode prog_8_method_10_code 4 = .ok (.aload_n 1, 1) := by decide +kernel
theorem d_8_10_5 : decode prog_8_method_10_code 5 = .ok (.invokevirtual 51, 3) := by decide +kernel
theorem d_8_10_8 : decode prog_8_method_10_code 8 = .ok (.iload_n 2, 1) := by decide +kernel
theorem d_8_10_9 : decode prog_8_method_10_code 9 = .ok (.ifCond .lt 29, 3) := by decide +kernel
theorem d_8_10_38 : decode prog_8_method_10_code 38 = .ok (.iload_n 2, 1) := by decide +kernel
theorem d_8_10_39 : decode prog_8_method_10_code 39 = .ok (.sipush (-2048), 3) := by decide +kernel
theorem d_8_10_53 : decode prog_8_method_10_code 53 = .ok (.istore_n 3, 1) := by decide +kernel
theorem d_8_10_54 : decode prog_8_method_10_code 54 = .ok (.aload_n 0, 1) := by decide +kernel
theorem d_8_10_55 : decode prog_8_method_10_code 55 = .ok (.getfield 16, 3) := by decide +kernel
theorem d_8_10_58 : decode prog_8_method_10_code 58 = .ok (.iload_n 3, 1) := by decide +kernel
theorem d_8_10_59 : decode prog_8_method_10_code 59 = .ok (.invokevirtual 116, 3) := by decide +kernel
set_option maxRecDepth 100000 in
theorem w_1062 : (Cond.code ({ cls := "NumberHouse$Big", name := "shiftRight", desc := "(I)Z" } : MethodName) prog_2_method_33_code (7 : Nat) (some .boolean)) ∈ q_tbl := q_of5 102 rfl (by decide +kernel)
set_option maxRecDepth 100000 in
theorem w_1345 : (Cond.methodLink "NumberHouse$Mill" (116 : Nat) ({ cls := "NumberHouse$Big", name := "shiftRight", desc := "(I)Z" } : MethodName)) ∈ q_tbl := q_of6 145 rfl (by decide +kernel)
set_option maxRecDepth 100000 in
theorem w_1060 : (Cond.instanceMethod ({ cls := "NumberHouse$Big", name := "shiftRight", desc := "(I)Z" } : MethodName)) ∈ q_tbl := q_of5 100 rfl (by decide +kernel)
set_option maxRecDepth 100000 in
theorem w_1061 : (Cond.selects "NumberHouse$Big" ({ cls := "NumberHouse$Big", name := "shiftRight", desc := "(I)Z" } : MethodName) ({ cls := "NumberHouse$Big", name := "shiftRight", desc := "(I)Z" } : MethodName)) ∈ q_tbl := q_of5 101 rfl (by decide +kernel)
theorem LV_Mil_116 : q_LV "NumberHouse$Mill" 116 y_Big_shiftRight prog_2_method_33_code 7 (some .boolean) 1 := ⟨w_1062, w_4, w_1345, w_1060, w_1061, ⟨by decide, by decide, by decide +kernel⟩⟩
theorem d_8_10_62 : decode prog_8_method_10_code 62 = .ok (.ifCond .eq 32, 3) := by decide +kernel
theorem d_8_10_94 : decode prog_8_method_10_code 94 = .ok (.iconst 1, 1) := by decide +kernel
theorem d_8_10_95 : decode prog_8_method_10_code 95 = .ok (.ireturn, 1) := by decide +kernel
theorem d_8_10_65 : decode prog_8_method_10_code 65 = .ok (.aload_n 1, 1) := by decide +kernel
theorem d_8_10_66 : decode prog_8_method_10_code 66 = .ok (.getfield 66, 3) := by decide +kernel
theorem d_8_10_69 : decode prog_8_method_10_code 69 = .ok (.ifCond .eq 25, 3) := by decide +kernel
theorem d_8_10_72 : decode prog_8_method_10_code 72 = .ok (.aload_n 0, 1) := by decide +kernel
theorem d_8_10_73 : decode prog_8_method_10_code 73 = .ok (.getfield 38, 3) := by decide +kernel
theorem d_8_10_76 : decode prog_8_method_10_code 76 = .ok (.ldc2_w 120, 3) := by decide +kernel
set_option maxRecDepth 100000 in
theorem w_1346 : (Cond.constantLong "NumberHouse$Mill" (120 : Nat) (-1 : Int64)) ∈ q_tbl := q_of6 146 rfl (by decide +kernel)
theorem d_8_10_79 : decode prog_8_method_10_code 79 = .ok (.invokevirtual 77, 3) := by decide +kernel
theorem d_8_10_82 : decode prog_8_method_10_code 82 = .ok (.aload_n 0, 1) := by decide +kernel
theorem d_8_10_83 : decode prog_8_method_10_code 83 = .ok (.getfield 16, 3) := by decide +kernel
theorem d_8_10_86 : decode prog_8_method_10_code 86 = .ok (.aload_n 0, 1) := by decide +kernel
theorem d_8_10_87 : decode prog_8_method_10_code 87 = .ok (.getfield 38, 3) := by decide +kernel
theorem d_8_10_90 : decode prog_8_method_10_code 90 = .ok (.iconst 0, 1) := by decide +kernel
theorem d_8_10_91 : decode prog_8_method_10_code 91 = .ok (.invokevirtual 55, 3) := by decide +kernel
theorem d_8_10_42 : decode prog_8_method_10_code 42 = .ok (.if_icmp .ge 9, 3) := by decide +kernel
theorem d_8_10_51 : decode prog_8_method_10_code 51 = .ok (.iload_n 2, 1) := by decide +kernel
theorem d_8_10_52 : decode prog_8_method_10_code 52 = .ok (.ineg, 1) := by decide +kernel
theorem d_8_10_45 : decode prog_8_method_10_code 45 = .ok (.sipush 2048, 3) := by decide +kernel
theorem d_8_10_48 : decode prog_8_method_10_code 48 = .ok (.goto 5, 3) := by decide +kernel
theorem d_8_10_12 : decode prog_8_method_10_code 12 = .ok (.aload_n 1, 1) := by decide +kernel
theorem d_8_10_13 : decode prog_8_method_10_code 13 = .ok (.getfield 62, 3) := by decide +kernel
theorem d_8_10_16 : decode prog_8_method_10_code 16 = .ok (.ifCond .le 12, 3) := by decide +kernel
theorem d_8_10_28 : decode prog_8_method_10_code 28 = .ok (.aload_n 0, 1) := by decide +kernel
theorem d_8_10_29 : decode prog_8_method_10_code 29 = .ok (.getfield 16, 3) := by decide +kernel
theorem d_8_10_32 : decode prog_8_method_10_code 32 = .ok (.iload_n 2, 1) := by decide +kernel
theorem d_8_10_33 : decode prog_8_method_10_code 33 = .ok (.invokevirtual 96, 3) := by decide +kernel
set_option maxRecDepth 100000 in
theorem w_808 : (Cond.code ({ cls := "NumberHouse$Big", name := "shiftLeft", desc := "(I)V" } : MethodName) prog_2_method_32_code (6 : Nat) (none : Option ClassFile.FieldType)) ∈ q_tbl := q_of4 88 rfl (by decide +kernel)
set_option maxRecDepth 100000 in
theorem w_1337 : (Cond.methodLink "NumberHouse$Mill" (96 : Nat) ({ cls := "NumberHouse$Big", name := "shiftLeft", desc := "(I)V" } : MethodName)) ∈ q_tbl := q_of6 137 rfl (by decide +kernel)
set_option maxRecDepth 100000 in
theorem w_806 : (Cond.instanceMethod ({ cls := "NumberHouse$Big", name := "shiftLeft", desc := "(I)V" } : MethodName)) ∈ q_tbl := q_of4 86 rfl (by decide +kernel)
set_option maxRecDepth 100000 in
theorem w_807 : (Cond.selects "NumberHouse$Big" ({ cls := "NumberHouse$Big", name := "shiftLeft", desc := "(I)V" } : MethodName) ({ cls := "NumberHouse$Big", name := "shiftLeft", desc := "(I)V" } : MethodName)) ∈ q_tbl := q_of4 87 rfl (by decide +kernel)
theorem LV_Mil_96 : q_LV "NumberHouse$Mill" 96 y_Big_shiftLeft prog_2_method_32_code 6 none 1 := ⟨w_808, w_4, w_1337, w_806, w_807, ⟨by decide, by decide, by decide +kernel⟩⟩
theorem d_8_10_36 : decode prog_8_method_10_code 36 = .ok (.iconst 1, 1) := by decide +kernel
theorem d_8_10_37 : decode prog_8_method_10_code 37 = .ok (.ireturn, 1) := by decide +kernel
theorem d_8_10_19 : decode prog_8_method_10_code 19 = .ok (.iload_n 2, 1) := by decide +kernel
theorem d_8_10_20 : decode prog_8_method_10_code 20 = .ok (.sipush 2048, 3) := by decide +kernel
theorem d_8_10_23 : decode prog_8_method_10_code 23 = .ok (.if_icmp .le 5, 3) := by decide +kernel
theorem d_8_10_26 : decode prog_8_method_10_code 26 = .ok (.iconst 0, 1) := by decide +kernel
theorem d_8_10_27 : decode prog_8_method_10_code 27 = .ok (.ireturn, 1) := by decide +kernel
def y_Mil_shifted : MethodName := ⟨"NumberHouse$Mill", "shifted", "(LNumberHouse$Big;I)Z"⟩
set_option maxRecDepth 100000 in
set_option maxHeartbeats 4000000 in
theorem T_Mil_shifted (l : Launch) (D : va_G) (g : Nat → ClassId) (q : Nat → Nat) (ws : va_W) (k2 : Nat) (R : Int32) (hB2 : q_isBig (nsh g q) g q k2 R) (zk2 : (10 ≤ k2 ∧ k2 ≤ 32) ∨ 66 ≤ k2) (x3 : Int32) (hI : q_I (nsh g q) q ws) : q_mI l y_Mil_shifted prog_8_method_10_code 4 (.boolean) 4 0 0 D g [.ref (q 9), .ref (q k2), .int x3] ws (fun r u => q_I (nsh g q) q u ∧ q_un ws u [10, 11, 24, 25] ∧ (0 ≤ r.toInt) ∧ (r.toInt ≤ 1)) := by
  intro sz
  refine q_into (by decide) (Nat.le_of_ble_eq_true rfl) ?_
  intro p e s m below meth c ls hsz C0 V hl
  have hx := C0.1
  have hb := C0.2.1
  have hfk20 : q_F (0 ≤ R.toInt ∧ R.toInt ≤ 220) := hB2.2.2
  have hF : q_un ws ws [10, 11, 24, 25] := q_u0
  have hl : lv_has ls 4 [(0, .ref (q 9)), (1, .ref (q k2)), (2, .int x3)] := hl
  refine lv_aload_n hx hb d_8_10_0 rfl (lv_at hl 0 rfl) ?_
  have hO1 := n_o9 hI
  refine q_get (ci := 4) (j := 0) (v := .ref (q 10)) C0 V i_Mil rfl rfl hO1 (by decide) w_108 rfl d_8_10_1 ?_
  refine lv_aload_n hx hb d_8_10_4 rfl (lv_at hl 1 rfl) ?_
  obtain ⟨y3, y4, hO2, b5, b6⟩ := q_bigO hI (n_b10 g q)
  replace b5 : q_F (0 ≤ y3.toInt ∧ y3.toInt ≤ 220) := b5
  replace b6 : q_F (0 ≤ y4.toInt ∧ y4.toInt ≤ 1) := b6
  refine q_gov V (q_runV (As := [.ref (q k2)]) (rest := []) (d := 2) (mc := 0) (ms := 0) (ci := 2) C0 V rfl LV_Mil_51 (S_Big_copy l D g (nsh g q) q ws 10 220 (n_b10 g q) k2 R hB2  hI   _) rfl rfl hO2 rfl hl.1 rfl (Nat.le_of_ble_eq_true rfl) ⟨by decide, by decide⟩ ⟨Nat.le_of_ble_eq_true rfl, Nat.le_of_ble_eq_true rfl⟩ d_8_10_5) (fun u7 H locs hp8 V => ?_)
  obtain ⟨_, hI, hu9⟩ := hp8
  replace hO1 := (hu9 _ (by decide)).trans hO1
  replace hF := q_uc hF hu9 (by simp)
  refine lv_iload_n hx hb d_8_10_8 rfl (lv_at hl 2 rfl) ?_
  refine lv_if_lt (tgt := 38) hx hb d_8_10_9 (by decide) (fun c10 => ?_) (fun c10 => ?_)
  ·
    have b11 : q_F (x3.toInt < 0) := (q_ltI c10)
    refine lv_iload_n hx hb d_8_10_38 rfl (lv_at hl 2 rfl) ?_
    refine lv_sipush (v := (-2048)) hx hb d_8_10_39 (by decide) ?_
    refine q_join (X := Int32) (fun z H locs ls _ => q_F (1 ≤ z.toInt) ∧ q_F (z.toInt ≤ 2048) ∧ q_Wd D g (va_A ws sz) s u7 H locs ∧ lv_has ls 4 [(0, .ref (q 9)), (1, .ref (q k2))]) (fun z => [.int z]) 53 0 0 ?_ ?_
    ·
      rintro lx12 H locs ls _ ⟨i14, i15, V, hl⟩
      replace i14 : q_F (1 ≤ lx12.toInt) := i14
      replace i15 : q_F (lx12.toInt ≤ 2048) := i15
      replace hl : lv_has ls 4 [(0, .ref (q 9)), (1, .ref (q k2))] := hl
      refine lv_istore_n (lv' := [(3, .int lx12), (0, .ref (q 9)), (1, .ref (q k2))]) hx hb d_8_10_53 rfl hl (by decide) rfl (fun ls hl => ?_)
      refine lv_aload_n hx hb d_8_10_54 rfl (lv_at hl 1 rfl) ?_
      refine q_get (ci := 4) (j := 0) (v := .ref (q 10)) C0 V i_Mil rfl rfl hO1 (by decide) w_108 rfl d_8_10_55 ?_
      refine lv_iload_n hx hb d_8_10_58 rfl (lv_at hl 0 rfl) ?_
      obtain ⟨y17, y18, hO16, b19, b20⟩ := q_bigO hI (n_b10 g q)
      replace b19 : q_F (0 ≤ y17.toInt ∧ y17.toInt ≤ 220) := b19
      replace b20 : q_F (0 ≤ y18.toInt ∧ y18.toInt ≤ 1) := b20
      refine q_goi V (q_runV (As := [.int lx12]) (rest := []) (d := 3) (mc := 0) (ms := 0) (ci := 2) C0 V rfl LV_Mil_116 (T_Big_shiftRight l D g q u7 10 220 (n_b10 g q) (by decide) lx12 hI   _) rfl rfl hO16 rfl hl.1 rfl (Nat.le_of_ble_eq_true rfl) ⟨by decide, by decide⟩ ⟨Nat.le_of_ble_eq_true rfl, Nat.le_of_ble_eq_true rfl⟩ d_8_10_59) (fun a23 u21 H locs hp22 V => ?_)
      obtain ⟨hI, hu28, b24, b25, b26⟩ := hp22
      replace b24 : q_F (0 ≤ a23.toInt) := b24
      replace b25 : q_F (a23.toInt ≤ 1) := b25
      replace b26 : q_F (a23.toInt ≤ 220) := b26
      replace hO1 := (hu28 _ (by decide)).trans hO1
      replace hF := q_uc hF hu28 (by simp)
      refine lv_if_eq (tgt := 94) hx hb d_8_10_62 (by decide) (fun c29 => ?_) (fun c29 => ?_)
      ·
        have b30 : q_F (a23.toInt = 0) := (q_eqI c29)
        refine lv_iconst (v := 1) hx hb d_8_10_94 (by decide) ?_
        exact q_retz C0 V (by decide) (⟨hI, hF, (show 0 ≤ (1 : Int32).toInt from (by have z2 : (1 : Int32).toInt = 1 := rfl; omega)), (show (1 : Int32).toInt ≤ 1 from (by have z2 : (1 : Int32).toInt = 1 := rfl; omega))⟩) d_8_10_95
      ·
        have b31 : q_F (a23.toInt ≠ 0) := (q_neI c29)
        refine lv_aload_n hx hb d_8_10_65 rfl (lv_at hl 2 rfl) ?_
        obtain ⟨y33, y34, hO32, b35, b36⟩ := q_bigO hI hB2
        replace b35 : q_F (0 ≤ y33.toInt ∧ y33.toInt ≤ R.toInt) := b35
        replace b36 : q_F (0 ≤ y34.toInt ∧ y34.toInt ≤ 1) := b36
        refine q_get (ci := 2) (j := 2) (v := .int y34) C0 V i_Big rfl rfl hO32 (by decide) w_96 rfl d_8_10_66 ?_
        refine lv_if_eq (tgt := 94) hx hb d_8_10_69 (by decide) (fun c37 => ?_) (fun c37 => ?_)
        ·
          have b38 : q_F (y34.toInt = 0) := (q_eqI c37)
          refine lv_iconst (v := 1) hx hb d_8_10_94 (by decide) ?_
          exact q_retz C0 V (by decide) (⟨hI, hF, (show 0 ≤ (1 : Int32).toInt from (by have z2 : (1 : Int32).toInt = 1 := rfl; omega)), (show (1 : Int32).toInt ≤ 1 from (by have z2 : (1 : Int32).toInt = 1 := rfl; omega))⟩) d_8_10_95
        ·
          have b39 : q_F (y34.toInt ≠ 0) := (q_neI c37)
          refine lv_aload_n hx hb d_8_10_72 rfl (lv_at hl 1 rfl) ?_
          refine q_get (ci := 4) (j := 7) (v := .ref (q 24)) C0 V i_Mil rfl rfl hO1 (by decide) w_128 rfl d_8_10_73 ?_
          refine q_ldc2 C0 rfl w_1346 d_8_10_76 ?_
          obtain ⟨y41, y42, hO40, b43, b44⟩ := q_bigO hI (n_b24 g q)
          replace b43 : q_F (0 ≤ y41.toInt ∧ y41.toInt ≤ 220) := b43
          replace b44 : q_F (0 ≤ y42.toInt ∧ y42.toInt ≤ 1) := b44
          obtain ⟨f45, hA46, bf47⟩ := q_bigA hI (n_b24 g q)
          have ne48 := q_df hA46 hO32
          refine q_gov V (q_runV (As := [.long (-1)]) (rest := []) (d := 2) (mc := 0) (ms := 0) (ci := 2) C0 V rfl LV_Mil_77 (S_Big_setLong l D g (nsh g q) q u21 24 220 (n_b24 g q) (-1) hI   _) rfl rfl hO40 rfl hl.1 rfl (Nat.le_of_ble_eq_true rfl) ⟨by decide, by decide⟩ ⟨Nat.le_of_ble_eq_true rfl, Nat.le_of_ble_eq_true rfl⟩ d_8_10_79) (fun u49 H locs hp50 V => ?_)
          obtain ⟨_, hI, hu51⟩ := hp50
          replace hO1 := (hu51 _ (by decide)).trans hO1
          replace hF := q_uc hF hu51 (by simp)
          refine lv_aload_n hx hb d_8_10_82 rfl (lv_at hl 1 rfl) ?_
          refine q_get (ci := 4) (j := 0) (v := .ref (q 10)) C0 V i_Mil rfl rfl hO1 (by decide) w_108 rfl d_8_10_83 ?_
          refine lv_aload_n hx hb d_8_10_86 rfl (lv_at hl 1 rfl) ?_
          refine q_get (ci := 4) (j := 7) (v := .ref (q 24)) C0 V i_Mil rfl rfl hO1 (by decide) w_128 rfl d_8_10_87 ?_
          refine lv_iconst (v := 0) hx hb d_8_10_90 (by decide) ?_
          obtain ⟨y53, y54, hO52, b55, b56⟩ := q_bigO hI (n_b10 g q)
          replace b55 : q_F (0 ≤ y53.toInt ∧ y53.toInt ≤ 220) := b55
          replace b56 : q_F (0 ≤ y54.toInt ∧ y54.toInt ≤ 1) := b56
          refine q_gov V (q_runV (As := [.ref (q 24), .int 0]) (rest := []) (d := 3) (mc := 0) (ms := 0) (ci := 2) C0 V rfl LV_Mil_55 (S_Big_addSigned l D g (nsh g q) q u49 10 220 (n_b10 g q) 24 220 (n_b24 g q) 0 hI  (by have y0 : (220 : Int32).toInt = 220 := rfl; have y1 : (220 : Int32).toInt = 220 := rfl; have y2 : (0 : Int32).toInt = 0 := rfl; omega) (by have y0 : (220 : Int32).toInt = 220 := rfl; have y1 : (220 : Int32).toInt = 220 := rfl; have y2 : (0 : Int32).toInt = 0 := rfl; omega) _) rfl rfl hO52 rfl hl.1 rfl (Nat.le_of_ble_eq_true rfl) ⟨by decide, by decide⟩ ⟨Nat.le_of_ble_eq_true rfl, Nat.le_of_ble_eq_true rfl⟩ d_8_10_91) (fun u57 H locs hp58 V => ?_)
          obtain ⟨_, hI, hu59⟩ := hp58
          replace hO1 := (hu59 _ (by decide)).trans hO1
          replace hF := q_uc hF hu59 (by simp)
          refine lv_iconst (v := 1) hx hb d_8_10_94 (by decide) ?_
          exact q_retz C0 V (by decide) (⟨hI, hF, (show 0 ≤ (1 : Int32).toInt from (by have z2 : (1 : Int32).toInt = 1 := rfl; omega)), (show (1 : Int32).toInt ≤ 1 from (by have z2 : (1 : Int32).toInt = 1 := rfl; omega))⟩) d_8_10_95
    ·
      intro J13
      refine lv_icmp_ge (tgt := 51) hx hb d_8_10_42 (by decide) (fun c60 => ?_) (fun c60 => ?_)
      ·
        have b61 : q_F ((-2048) ≤ x3.toInt) := (q_leI c60)
        refine lv_iload_n hx hb d_8_10_51 rfl (lv_at hl 2 rfl) ?_
        refine lv_ineg hx hb d_8_10_52 ?_
        obtain ⟨a62, e63⟩ := q_nm (-x3 : Int32)
        refine q_ti (v := a62) e63 ?_
        have b64 : q_F (a62.toInt = -x3.toInt) := (by rw [← e63]; show (-x3 : Int32).toInt = -x3.toInt; exact q_negI rfl (by have t1 : (-2048) ≤ x3.toInt := b61; omega))
        exact J13 ((a62 : Int32)) _ _ _ u7 ⟨(show q_F (1 ≤ a62.toInt) from (show 1 ≤ a62.toInt from by have t1 : x3.toInt < 0 := b11; have t2 : a62.toInt = -x3.toInt := b64; omega)), (show q_F (a62.toInt ≤ 2048) from (show a62.toInt ≤ 2048 from by have t1 : (-2048) ≤ x3.toInt := b61; have t2 : a62.toInt = -x3.toInt := b64; omega)), V, q_lw hl (q_lw1 0 rfl (q_lw1 1 rfl q_lw0))⟩
      ·
        have b65 : q_F (x3.toInt < (-2048)) := (q_nleI c60)
        refine lv_sipush (v := 2048) hx hb d_8_10_45 (by decide) ?_
        refine lv_goto (tgt := 53) hx hb d_8_10_48 (by decide) ?_
        exact J13 ((2048 : Int32)) _ _ _ u7 ⟨(show q_F (1 ≤ 2048) from (show 1 ≤ 2048 from by omega)), (show q_F (2048 ≤ 2048) from (show 2048 ≤ 2048 from by omega)), V, q_lw hl (q_lw1 0 rfl (q_lw1 1 rfl q_lw0))⟩
  ·
    have b66 : q_F (0 ≤ x3.toInt) := (q_nltI c10)
    refine lv_aload_n hx hb d_8_10_12 rfl (lv_at hl 1 rfl) ?_
    obtain ⟨y68, y69, hO67, b70, b71⟩ := q_bigO hI hB2
    replace b70 : q_F (0 ≤ y68.toInt ∧ y68.toInt ≤ R.toInt) := b70
    replace b71 : q_F (0 ≤ y69.toInt ∧ y69.toInt ≤ 1) := b71
    refine q_get (ci := 2) (j := 1) (v := .int y68) C0 V i_Big rfl rfl hO67 (by decide) w_89 rfl d_8_10_13 ?_
    refine lv_if_le (tgt := 28) hx hb d_8_10_16 (by decide) (fun c72 => ?_) (fun c72 => ?_)
    ·
      have b73 : q_F (y68.toInt ≤ 0) := (q_leI c72)
      refine lv_aload_n hx hb d_8_10_28 rfl (lv_at hl 0 rfl) ?_
      refine q_get (ci := 4) (j := 0) (v := .ref (q 10)) C0 V i_Mil rfl rfl hO1 (by decide) w_108 rfl d_8_10_29 ?_
      refine lv_iload_n hx hb d_8_10_32 rfl (lv_at hl 2 rfl) ?_
      obtain ⟨y75, y76, hO74, b77, b78⟩ := q_bigO hI (n_b10 g q)
      replace b77 : q_F (0 ≤ y75.toInt ∧ y75.toInt ≤ 220) := b77
      replace b78 : q_F (0 ≤ y76.toInt ∧ y76.toInt ≤ 1) := b78
      obtain ⟨f79, hA80, bf81⟩ := q_bigA hI (n_b10 g q)
      have ne82 := q_df hA80 hO67
      refine q_gov V (q_runV (As := [.int x3]) (rest := []) (d := 3) (mc := 0) (ms := 0) (ci := 2) C0 V rfl LV_Mil_96 (T_Big_shiftLeft l D g q u7 10 220 (n_b10 g q) (by decide) x3 hI   _) rfl rfl hO74 rfl hl.1 rfl (Nat.le_of_ble_eq_true rfl) ⟨by decide, by decide⟩ ⟨Nat.le_of_ble_eq_true rfl, Nat.le_of_ble_eq_true rfl⟩ d_8_10_33) (fun u83 H locs hp84 V => ?_)
      obtain ⟨hI, hu86, -⟩ := hp84
      replace hO1 := (hu86 _ (by decide)).trans hO1
      replace hF := q_uc hF hu86 (by simp)
      refine lv_iconst (v := 1) hx hb d_8_10_36 (by decide) ?_
      exact q_retz C0 V (by decide) (⟨hI, hF, (show 0 ≤ (1 : Int32).toInt from (by have z2 : (1 : Int32).toInt = 1 := rfl; omega)), (show (1 : Int32).toInt ≤ 1 from (by have z2 : (1 : Int32).toInt = 1 := rfl; omega))⟩) d_8_10_37
    ·
      have b87 : q_F (0 < y68.toInt) := (q_nleI c72)
      refine lv_iload_n hx hb d_8_10_19 rfl (lv_at hl 2 rfl) ?_
      refine lv_sipush (v := 2048) hx hb d_8_10_20 (by decide) ?_
      refine lv_icmp_le (tgt := 28) hx hb d_8_10_23 (by decide) (fun c88 => ?_) (fun c88 => ?_)
      ·
        have b89 : q_F (x3.toInt ≤ 2048) := (q_leI c88)
        refine lv_aload_n hx hb d_8_10_28 rfl (lv_at hl 0 rfl) ?_
        refine q_get (ci := 4) (j := 0) (v := .ref (q 10)) C0 V i_Mil rfl rfl hO1 (by decide) w_108 rfl d_8_10_29 ?_
        refine lv_iload_n hx hb d_8_10_32 rfl (lv_at hl 2 rfl) ?_
        obtain ⟨y91, y92, hO90, b93, b94⟩ := q_bigO hI (n_b10 g q)
        replace b93 : q_F (0 ≤ y91.toInt ∧ y91.toInt ≤ 220) := b93
        replace b94 : q_F (0 ≤ y92.toInt ∧ y92.toInt ≤ 1) := b94
        obtain ⟨f95, hA96, bf97⟩ := q_bigA hI (n_b10 g q)
        have ne98 := q_df hA96 hO67
        refine q_gov V (q_runV (As := [.int x3]) (rest := []) (d := 3) (mc := 0) (ms := 0) (ci := 2) C0 V rfl LV_Mil_96 (T_Big_shiftLeft l D g q u7 10 220 (n_b10 g q) (by decide) x3 hI   _) rfl rfl hO90 rfl hl.1 rfl (Nat.le_of_ble_eq_true rfl) ⟨by decide, by decide⟩ ⟨Nat.le_of_ble_eq_true rfl, Nat.le_of_ble_eq_true rfl⟩ d_8_10_33) (fun u99 H locs hp100 V => ?_)
        obtain ⟨hI, hu102, -⟩ := hp100
        replace hO1 := (hu102 _ (by decide)).trans hO1
        replace hF := q_uc hF hu102 (by simp)
        refine lv_iconst (v := 1) hx hb d_8_10_36 (by decide) ?_
        exact q_retz C0 V (by decide) (⟨hI, hF, (show 0 ≤ (1 : Int32).toInt from (by have z2 : (1 : Int32).toInt = 1 := rfl; omega)), (show (1 : Int32).toInt ≤ 1 from (by have z2 : (1 : Int32).toInt = 1 := rfl; omega))⟩) d_8_10_37
      ·
        have b103 : q_F (2048 < x3.toInt) := (q_nleI c88)
        refine lv_iconst (v := 0) hx hb d_8_10_26 (by decide) ?_
        exact q_retz C0 V (by decide) (⟨hI, hF, (show 0 ≤ (0 : Int32).toInt from (by have z2 : (0 : Int32).toInt = 0 := rfl; omega)), (show (0 : Int32).toInt ≤ 1 from (by have z2 : (0 : Int32).toInt = 0 := rfl; omega))⟩) d_8_10_27
theorem d_8_13_0 : decode prog_8_method_13_code 0 = .ok (.aload_n 1, 1) := by decide +kernel
theorem d_8_13_1 : decode prog_8_method_13_code 1 = .ok (.getfield 62, 3) := by decide +kernel
theorem d_8_13_4 : decode prog_8_method_13_code 4 = .ok (.ifCond .ne 5, 3) := by decide +kernel
theorem d_8_13_9 : decode prog_8_method_13_code 9 = .ok (.aload_n 1, 1) := by decide +kernel
theorem d_8_13_10 : decode prog_8_method_13_code 10 = .ok (.invokevirtual 85, 3) := by decide +kernel
theorem d_8_13_13 : decode prog_8_method_13_code 13 = .ok (.iconst 1, 1) := by decide +kernel
theorem d_8_13_14 : decode prog_8_method_13_code 14 = .ok (.isub, 1) := by decide +kernel
theorem d_8_13_15 : decode prog_8_method_13_code 15 = .ok (.i2l, 1) := by decide +kernel
theorem d_8_13_16 : decode prog_8_method_13_code 16 = .ok (.ldc2_w 145, 3) := by decide +kernel
set_option maxRecDepth 100000 in
theorem w_764 : (Cond.constantLong "NumberHouse$Mill" (145 : Nat) (301029995 : Int64)) ∈ q_tbl := q_of4 44 rfl (by decide +kernel)
theorem d_8_13_19 : decode prog_8_method_13_code 19 = .ok (.lmul, 1) := by decide +kernel
theorem d_8_13_20 : decode prog_8_method_13_code 20 = .ok (.ldc2_w 147, 3) := by decide +kernel
set_option maxRecDepth 100000 in
theorem w_765 : (Cond.constantLong "NumberHouse$Mill" (147 : Nat) (1000000000 : Int64)) ∈ q_tbl := q_of4 45 rfl (by decide +kernel)
theorem d_8_13_23 : decode prog_8_method_13_code 23 = .ok (.ldiv, 1) := by decide +kernel
theorem d_8_13_24 : decode prog_8_method_13_code 24 = .ok (.l2i, 1) := by decide +kernel
theorem d_8_13_25 : decode prog_8_method_13_code 25 = .ok (.iconst 1, 1) := by decide +kernel
theorem d_8_13_26 : decode prog_8_method_13_code 26 = .ok (.iadd, 1) := by decide +kernel
theorem d_8_13_27 : decode prog_8_method_13_code 27 = .ok (.istore_n 2, 1) := by decide +kernel
theorem d_8_13_28 : decode prog_8_method_13_code 28 = .ok (.aload_n 0, 1) := by decide +kernel
theorem d_8_13_29 : decode prog_8_method_13_code 29 = .ok (.getfield 32, 3) := by decide +kernel
theorem d_8_13_32 : decode prog_8_method_13_code 32 = .ok (.lconst 1, 1) := by decide +kernel
theorem d_8_13_33 : decode prog_8_method_13_code 33 = .ok (.invokevirtual 77, 3) := by decide +kernel
theorem d_8_13_36 : decode prog_8_method_13_code 36 = .ok (.aload_n 0, 1) := by decide +kernel
theorem d_8_13_37 : decode prog_8_method_13_code 37 = .ok (.getfield 32, 3) := by decide +kernel
theorem d_8_13_40 : decode prog_8_method_13_code 40 = .ok (.iload_n 2, 1) := by decide +kernel
theorem d_8_13_41 : decode prog_8_method_13_code 41 = .ok (.invokevirtual 149, 3) := by decide +kernel
set_option maxRecDepth 100000 in
theorem w_770 : (Cond.code ({ cls := "NumberHouse$Big", name := "timesTen", desc := "(I)V" } : MethodName) prog_2_method_28_code (3 : Nat) (none : Option ClassFile.FieldType)) ∈ q_tbl := q_of4 50 rfl (by decide +kernel)
set_option maxRecDepth 100000 in
theorem w_767 : (Cond.methodLink "NumberHouse$Mill" (149 : Nat) ({ cls := "NumberHouse$Big", name := "timesTen", desc := "(I)V" } : MethodName)) ∈ q_tbl := q_of4 47 rfl (by decide +kernel)
set_option maxRecDepth 100000 in
theorem w_768 : (Cond.instanceMethod ({ cls := "NumberHouse$Big", name := "timesTen", desc := "(I)V" } : MethodName)) ∈ q_tbl := q_of4 48 rfl (by decide +kernel)
set_option maxRecDepth 100000 in
theorem w_769 : (Cond.selects "NumberHouse$Big" ({ cls := "NumberHouse$Big", name := "timesTen", desc := "(I)V" } : MethodName) ({ cls := "NumberHouse$Big", name := "timesTen", desc := "(I)V" } : MethodName)) ∈ q_tbl := q_of4 49 rfl (by decide +kernel)
theorem LV_Mil_149 : q_LV "NumberHouse$Mill" 149 y_Big_timesTen prog_2_method_28_code 3 none 1 := ⟨w_770, w_4, w_767, w_768, w_769, ⟨by decide, by decide, by decide +kernel⟩⟩
theorem d_8_13_44 : decode prog_8_method_13_code 44 = .ok (.iconst 0, 1) := by decide +kernel
theorem d_8_13_45 : decode prog_8_method_13_code 45 = .ok (.istore_n 3, 1) := by decide +kernel
theorem d_8_13_46 : decode prog_8_method_13_code 46 = .ok (.iload_n 3, 1) := by decide +kernel
theorem d_8_13_47 : decode prog_8_method_13_code 47 = .ok (.iconst 3, 1) := by decide +kernel
theorem d_8_13_48 : decode prog_8_method_13_code 48 = .ok (.if_icmp .ge 33, 3) := by decide +kernel
theorem d_8_13_81 : decode prog_8_method_13_code 81 = .ok (.iload_n 2, 1) := by decide +kernel
theorem d_8_13_82 : decode prog_8_method_13_code 82 = .ok (.ireturn, 1) := by decide +kernel
theorem d_8_13_51 : decode prog_8_method_13_code 51 = .ok (.aload_n 1, 1) := by decide +kernel
theorem d_8_13_52 : decode prog_8_method_13_code 52 = .ok (.aload_n 0, 1) := by decide +kernel
theorem d_8_13_53 : decode prog_8_method_13_code 53 = .ok (.getfield 32, 3) := by decide +kernel
theorem d_8_13_56 : decode prog_8_method_13_code 56 = .ok (.invokevirtual 112, 3) := by decide +kernel
set_option maxRecDepth 100000 in
theorem w_777 : (Cond.methodLink "NumberHouse$Mill" (112 : Nat) ({ cls := "NumberHouse$Big", name := "compareSize", desc := "(LNumberHouse$Big;)I" } : MethodName)) ∈ q_tbl := q_of4 57 rfl (by decide +kernel)
theorem LV_Mil_112 : q_LV "NumberHouse$Mill" 112 y_Big_compareSize prog_2_method_21_code 3 (some .int) 1 := ⟨w_780, w_4, w_777, w_778, w_779, ⟨by decide, by decide, by decide +kernel⟩⟩
theorem d_8_13_59 : decode prog_8_method_13_code 59 = .ok (.ifCond .lt 22, 3) := by decide +kernel
theorem d_8_13_62 : decode prog_8_method_13_code 62 = .ok (.aload_n 0, 1) := by decide +kernel
theorem d_8_13_63 : decode prog_8_method_13_code 63 = .ok (.getfield 32, 3) := by decide +kernel
theorem d_8_13_66 : decode prog_8_method_13_code 66 = .ok (.bipush 10, 2) := by decide +kernel
theorem d_8_13_68 : decode prog_8_method_13_code 68 = .ok (.iconst 0, 1) := by decide +kernel
theorem d_8_13_69 : decode prog_8_method_13_code 69 = .ok (.invokevirtual 102, 3) := by decide +kernel
set_option maxRecDepth 100000 in
theorem w_784 : (Cond.methodLink "NumberHouse$Mill" (102 : Nat) ({ cls := "NumberHouse$Big", name := "multiplySmall", desc := "(II)V" } : MethodName)) ∈ q_tbl := q_of4 64 rfl (by decide +kernel)
theorem LV_Mil_102 : q_LV "NumberHouse$Mill" 102 y_Big_multiplySmall prog_2_method_26_code 8 none 2 := ⟨w_606, w_4, w_784, w_604, w_605, ⟨by decide, by decide, by decide +kernel⟩⟩
theorem d_8_13_72 : decode prog_8_method_13_code 72 = .ok (.iinc 2 1, 3) := by decide +kernel
theorem d_8_13_75 : decode prog_8_method_13_code 75 = .ok (.iinc 3 1, 3) := by decide +kernel
theorem d_8_13_78 : decode prog_8_method_13_code 78 = .ok (.goto (-32), 3) := by decide +kernel
theorem d_8_13_7 : decode prog_8_method_13_code 7 = .ok (.iconst 1, 1) := by decide +kernel
theorem d_8_13_8 : decode prog_8_method_13_code 8 = .ok (.ireturn, 1) := by decide +kernel
def y_Mil_countFigures : MethodName := ⟨"NumberHouse$Mill", "countFigures", "(LNumberHouse$Big;)I"⟩
set_option maxRecDepth 100000 in
set_option maxHeartbeats 4000000 in
theorem T_Mil_countFigures (l : Launch) (D : va_G) (g : Nat → ClassId) (q : Nat → Nat) (ws : va_W) (k2 : Nat) (R : Int32) (hB2 : q_isBig (nsh g q) g q k2 R) (zk2 : (10 ≤ k2 ∧ k2 ≤ 32) ∨ 66 ≤ k2) (hI : q_I (nsh g q) q ws) : q_mI l y_Mil_countFigures prog_8_method_13_code 4 (.int) 4 0 0 D g [.ref (q 9), .ref (q k2)] ws (fun r u => q_I (nsh g q) q u ∧ q_un ws u [20, 21] ∧ True) := by
  intro sz
  refine q_into (by decide) (Nat.le_of_ble_eq_true rfl) ?_
  intro p e s m below meth c ls hsz C0 V hl
  have hx := C0.1
  have hb := C0.2.1
  have hfk20 : q_F (0 ≤ R.toInt ∧ R.toInt ≤ 220) := hB2.2.2
  have hF : q_un ws ws [20, 21] := q_u0
  have hl : lv_has ls 4 [(0, .ref (q 9)), (1, .ref (q k2))] := hl
  refine lv_aload_n hx hb d_8_13_0 rfl (lv_at hl 1 rfl) ?_
  obtain ⟨y2, y3, hO1, b4, b5⟩ := q_bigO hI hB2
  replace b4 : q_F (0 ≤ y2.toInt ∧ y2.toInt ≤ R.toInt) := b4
  replace b5 : q_F (0 ≤ y3.toInt ∧ y3.toInt ≤ 1) := b5
  refine q_get (ci := 2) (j := 1) (v := .int y2) C0 V i_Big rfl rfl hO1 (by decide) w_89 rfl d_8_13_1 ?_
  refine lv_if_ne (tgt := 9) hx hb d_8_13_4 (by decide) (fun c6 => ?_) (fun c6 => ?_)
  ·
    have b7 : q_F (y2.toInt ≠ 0) := (q_neI c6)
    refine lv_aload_n hx hb d_8_13_9 rfl (lv_at hl 1 rfl) ?_
    refine q_goi V (q_runV (As := []) (rest := []) (d := 3) (mc := 0) (ms := 0) (ci := 2) C0 V rfl LV_Mil_85 (S_Big_bitLength l D g (nsh g q) q ws k2 R hB2  hI   _) rfl rfl hO1 rfl hl.1 rfl (Nat.le_of_ble_eq_true rfl) ⟨by decide, by decide⟩ ⟨Nat.le_of_ble_eq_true rfl, Nat.le_of_ble_eq_true rfl⟩ d_8_13_10) (fun a10 u8 H locs hp9 V => ?_)
    obtain ⟨b11, rfl⟩ := hp9
    replace b11 : q_F (0 ≤ a10.toInt ∧ a10.toInt ≤ 6852) := b11
    refine lv_iconst (v := 1) hx hb d_8_13_13 (by decide) ?_
    refine lv_isub hx hb d_8_13_14 ?_
    obtain ⟨a12, e13⟩ := q_nm (a10 - 1 : Int32)
    refine q_ti (v := a12) e13 ?_
    have b14 : q_F (a12.toInt = a10.toInt - 1) := (by rw [← e13]; show (a10 - 1 : Int32).toInt = a10.toInt - 1; exact q_subI (x := a10.toInt) (y := 1) rfl (by decide) (by have t1 : 0 ≤ a10.toInt ∧ a10.toInt ≤ 6852 := b11; omega) (by have t1 : 0 ≤ a10.toInt ∧ a10.toInt ≤ 6852 := b11; omega))
    refine lv_i2l hx hb d_8_13_15 rfl ?_
    obtain ⟨j15, e16⟩ := q_nm (a12.toInt64 : Int64)
    refine q_tl (v := j15) e16 ?_
    have b17 : q_F (j15.toInt = a12.toInt) := (by rw [← e16]; show (a12.toInt64 : Int64).toInt = a12.toInt; exact q_i2l rfl)
    refine q_ldc2 C0 rfl w_764 d_8_13_16 ?_
    refine lv_lmul hx hb d_8_13_19 ?_
    obtain ⟨j18, e19⟩ := q_nm (j15 * 301029995 : Int64)
    refine q_tl (v := j18) e19 ?_
    have b20 : q_F (j18.toInt = j15.toInt * 301029995) := (by rw [← e19]; show (j15 * 301029995 : Int64).toInt = j15.toInt * 301029995; exact q_mulL (x := j15.toInt) (y := 301029995) rfl (by decide) (by have t1 : j15.toInt = a12.toInt := b17; have _ := q_lo32 (x := a12); have _ := q_hi32 (x := a12); omega) (by have t1 : j15.toInt = a12.toInt := b17; have _ := q_lo32 (x := a12); have _ := q_hi32 (x := a12); omega))
    refine q_ldc2 C0 rfl w_765 d_8_13_20 ?_
    refine lv_ldiv hx hb d_8_13_23 (by decide) ?_
    obtain ⟨j21, e22⟩ := q_nm (j18 / 1000000000 : Int64)
    refine q_tl (v := j21) e22 ?_
    refine lv_l2i hx hb d_8_13_24 rfl ?_
    obtain ⟨a23, e24⟩ := q_nm (j21.toInt32 : Int32)
    refine q_ti (v := a23) e24 ?_
    refine lv_iconst (v := 1) hx hb d_8_13_25 (by decide) ?_
    refine lv_iadd hx hb d_8_13_26 ?_
    obtain ⟨a25, e26⟩ := q_nm (a23 + 1 : Int32)
    refine q_ti (v := a25) e26 ?_
    refine lv_istore_n (lv' := [(2, .int a25), (0, .ref (q 9)), (1, .ref (q k2))]) hx hb d_8_13_27 rfl hl (by decide) rfl (fun ls hl => ?_)
    refine lv_aload_n hx hb d_8_13_28 rfl (lv_at hl 1 rfl) ?_
    have hO27 := n_o9 hI
    refine q_get (ci := 4) (j := 5) (v := .ref (q 20)) C0 V i_Mil rfl rfl hO27 (by decide) w_124 rfl d_8_13_29 ?_
    refine lv_lconst (v := 1) hx hb d_8_13_32 (by decide) ?_
    obtain ⟨y29, y30, hO28, b31, b32⟩ := q_bigO hI (n_b20 g q)
    replace b31 : q_F (0 ≤ y29.toInt ∧ y29.toInt ≤ 220) := b31
    replace b32 : q_F (0 ≤ y30.toInt ∧ y30.toInt ≤ 1) := b32
    obtain ⟨f33, hA34, bf35⟩ := q_bigA hI (n_b20 g q)
    have ne36 := q_df hA34 hO1
    refine q_gov V (q_runV (As := [.long 1]) (rest := []) (d := 2) (mc := 0) (ms := 0) (ci := 2) C0 V rfl LV_Mil_77 (S_Big_setLong l D g (nsh g q) q ws 20 220 (n_b20 g q) 1 hI   _) rfl rfl hO28 rfl hl.1 rfl (Nat.le_of_ble_eq_true rfl) ⟨by decide, by decide⟩ ⟨Nat.le_of_ble_eq_true rfl, Nat.le_of_ble_eq_true rfl⟩ d_8_13_33) (fun u37 H locs hp38 V => ?_)
    obtain ⟨_, hI, hu39⟩ := hp38
    replace hO27 := (hu39 _ (by decide)).trans hO27
    replace hF := q_uc hF hu39 (by simp)
    refine lv_aload_n hx hb d_8_13_36 rfl (lv_at hl 1 rfl) ?_
    refine q_get (ci := 4) (j := 5) (v := .ref (q 20)) C0 V i_Mil rfl rfl hO27 (by decide) w_124 rfl d_8_13_37 ?_
    refine lv_iload_n hx hb d_8_13_40 rfl (lv_at hl 0 rfl) ?_
    obtain ⟨y41, y42, hO40, b43, b44⟩ := q_bigO hI (n_b20 g q)
    replace b43 : q_F (0 ≤ y41.toInt ∧ y41.toInt ≤ 220) := b43
    replace b44 : q_F (0 ≤ y42.toInt ∧ y42.toInt ≤ 1) := b44
    refine q_gov V (q_runV (As := [.int a25]) (rest := []) (d := 2) (mc := 0) (ms := 0) (ci := 2) C0 V rfl LV_Mil_149 (S_Big_timesTen l D g (nsh g q) q u37 20 220 (n_b20 g q) a25 hI   _) rfl rfl hO40 rfl hl.1 rfl (Nat.le_of_ble_eq_true rfl) ⟨by decide, by decide⟩ ⟨Nat.le_of_ble_eq_true rfl, Nat.le_of_ble_eq_true rfl⟩ d_8_13_41) (fun u45 H locs hp46 V => ?_)
    obtain ⟨_, hI, hu47⟩ := hp46
    replace hO27 := (hu47 _ (by decide)).trans hO27
    replace hF := q_uc hF hu47 (by simp)
    refine lv_iconst (v := 0) hx hb d_8_13_44 (by decide) ?_
    refine lv_istore_n (lv' := [(3, .int 0), (2, .int a25), (0, .ref (q 9)), (1, .ref (q k2))]) hx hb d_8_13_45 rfl hl (by decide) rfl (fun ls hl => ?_)
    refine q_loop (X := Int32 × Int32) (fun z H locs ls w53 => q_F (0 ≤ z.1.toInt) ∧ q_F (z.1.toInt ≤ 3) ∧ q_Wd D g (va_A ws sz) s w53 H locs ∧ lv_has ls 4 [(3, .int z.1), (2, .int z.2), (0, .ref (q 9)), (1, .ref (q k2))] ∧ q_I (nsh g q) q w53 ∧ q_un ws w53 [20, 21]) (fun z => (3 - z.1.toInt).toNat) ?_ ((0 : Int32), (a25 : Int32)) _ _ _ u45 ⟨(show q_F (0 ≤ 0) from (show 0 ≤ 0 from by omega)), (show q_F (0 ≤ 3) from (show 0 ≤ 3 from by omega)), V, q_lw hl (q_lw1 0 rfl (q_lw1 1 rfl (q_lw1 2 rfl (q_lw1 3 rfl q_lw0)))), hI, hF⟩
    rintro ⟨lx48, lx49⟩ H locs ls w53 ⟨i50, i51, V, hl, hI, hF⟩ ih52
    replace i50 : q_F (0 ≤ lx48.toInt) := i50
    replace i51 : q_F (lx48.toInt ≤ 3) := i51
    replace hl : lv_has ls 4 [(3, .int lx48), (2, .int lx49), (0, .ref (q 9)), (1, .ref (q k2))] := hl
    refine lv_iload_n hx hb d_8_13_46 rfl (lv_at hl 0 rfl) ?_
    refine lv_iconst (v := 3) hx hb d_8_13_47 (by decide) ?_
    refine lv_icmp_ge (tgt := 81) hx hb d_8_13_48 (by decide) (fun c54 => ?_) (fun c54 => ?_)
    ·
      have b55 : q_F (3 ≤ lx48.toInt) := (q_leI c54)
      refine lv_iload_n hx hb d_8_13_81 rfl (lv_at hl 1 rfl) ?_
      exact q_reti C0 V (⟨hI, hF, trivial⟩) d_8_13_82
    ·
      have b56 : q_F (lx48.toInt < 3) := (q_nleI c54)
      refine lv_aload_n hx hb d_8_13_51 rfl (lv_at hl 3 rfl) ?_
      refine lv_aload_n hx hb d_8_13_52 rfl (lv_at hl 2 rfl) ?_
      have hO57 := n_o9 hI
      refine q_get (ci := 4) (j := 5) (v := .ref (q 20)) C0 V i_Mil rfl rfl hO57 (by decide) w_124 rfl d_8_13_53 ?_
      obtain ⟨y59, y60, hO58, b61, b62⟩ := q_bigO hI hB2
      replace b61 : q_F (0 ≤ y59.toInt ∧ y59.toInt ≤ R.toInt) := b61
      replace b62 : q_F (0 ≤ y60.toInt ∧ y60.toInt ≤ 1) := b62
      refine q_goi V (q_runV (As := [.ref (q 20)]) (rest := []) (d := 2) (mc := 0) (ms := 0) (ci := 2) C0 V rfl LV_Mil_112 (S_Big_compareSize l D g (nsh g q) q w53 k2 R hB2 20 220 (n_b20 g q)  hI   _) rfl rfl hO58 rfl hl.1 rfl (Nat.le_of_ble_eq_true rfl) ⟨by decide, by decide⟩ ⟨Nat.le_of_ble_eq_true rfl, Nat.le_of_ble_eq_true rfl⟩ d_8_13_56) (fun a65 u63 H locs hp64 V => ?_)
      obtain ⟨b66, rfl⟩ := hp64
      replace b66 : q_F (-1 ≤ a65.toInt ∧ a65.toInt ≤ 1) := b66
      refine lv_if_lt (tgt := 81) hx hb d_8_13_59 (by decide) (fun c67 => ?_) (fun c67 => ?_)
      ·
        have b68 : q_F (a65.toInt < 0) := (q_ltI c67)
        refine lv_iload_n hx hb d_8_13_81 rfl (lv_at hl 1 rfl) ?_
        exact q_reti C0 V (⟨hI, hF, trivial⟩) d_8_13_82
      ·
        have b69 : q_F (0 ≤ a65.toInt) := (q_nltI c67)
        refine lv_aload_n hx hb d_8_13_62 rfl (lv_at hl 2 rfl) ?_
        refine q_get (ci := 4) (j := 5) (v := .ref (q 20)) C0 V i_Mil rfl rfl hO57 (by decide) w_124 rfl d_8_13_63 ?_
        refine lv_bipush (v := 10) hx hb d_8_13_66 (by decide) ?_
        refine lv_iconst (v := 0) hx hb d_8_13_68 (by decide) ?_
        obtain ⟨y71, y72, hO70, b73, b74⟩ := q_bigO hI (n_b20 g q)
        replace b73 : q_F (0 ≤ y71.toInt ∧ y71.toInt ≤ 220) := b73
        replace b74 : q_F (0 ≤ y72.toInt ∧ y72.toInt ≤ 1) := b74
        obtain ⟨f75, hA76, bf77⟩ := q_bigA hI (n_b20 g q)
        have ne78 := q_df hA76 hO58
        refine q_gov V (q_runV (As := [.int 10, .int 0]) (rest := []) (d := 1) (mc := 0) (ms := 0) (ci := 2) C0 V rfl LV_Mil_102 (S_Big_multiplySmall l D g (nsh g q) q w53 20 220 (n_b20 g q) 10 0 hI   _) rfl rfl hO70 rfl hl.1 rfl (Nat.le_of_ble_eq_true rfl) ⟨by decide, by decide⟩ ⟨Nat.le_of_ble_eq_true rfl, Nat.le_of_ble_eq_true rfl⟩ d_8_13_69) (fun u79 H locs hp80 V => ?_)
        obtain ⟨_, hI, hu81⟩ := hp80
        replace hO57 := (hu81 _ (by decide)).trans hO57
        replace hF := q_uc hF hu81 (by simp)
        obtain ⟨a82, e83⟩ := q_nm (lx49 + 1 : Int32)
        refine lv_iinc (v := a82) (lv' := [(2, .int a82), (3, .int lx48), (0, .ref (q 9)), (1, .ref (q k2))]) hx hb d_8_13_72 hl (k := 1) rfl (e83) (by decide) rfl (fun ls hl => ?_)
        obtain ⟨a84, e85⟩ := q_nm (lx48 + 1 : Int32)
        have b86 : q_F (a84.toInt = lx48.toInt + 1) := (by rw [← e85]; exact q_addI (y := 1) rfl (by decide) (by have t1 : 0 ≤ lx48.toInt := i50; have t2 : lx48.toInt ≤ 3 := i51; omega) (by have t1 : 0 ≤ lx48.toInt := i50; have t2 : lx48.toInt ≤ 3 := i51; omega))
        refine lv_iinc (v := a84) (lv' := [(3, .int a84), (2, .int a82), (0, .ref (q 9)), (1, .ref (q k2))]) hx hb d_8_13_75 hl (k := 1) rfl (e85) (by decide) rfl (fun ls hl => ?_)
        refine lv_goto (tgt := 46) hx hb d_8_13_78 (by decide) ?_
        exact ih52 ((a84 : Int32), (a82 : Int32)) _ _ _ _ (show (3 - a84.toInt).toNat < (3 - lx48.toInt).toNat from by have t1 : a84.toInt = lx48.toInt + 1 := b86; have t2 : lx48.toInt ≤ 3 := i51; have t3 : lx48.toInt < 3 := b56; omega) ⟨(show q_F (0 ≤ a84.toInt) from (show 0 ≤ a84.toInt from by have t1 : 0 ≤ lx48.toInt := i50; have t2 : a84.toInt = lx48.toInt + 1 := b86; omega)), (show q_F (a84.toInt ≤ 3) from (show a84.toInt ≤ 3 from by have t1 : lx48.toInt < 3 := b56; have t2 : a84.toInt = lx48.toInt + 1 := b86; omega)), V, q_lw hl (q_lw1 0 rfl (q_lw1 1 rfl (q_lw1 2 rfl (q_lw1 3 rfl q_lw0)))), hI, hF⟩
  ·
    have b87 : q_F (y2.toInt = 0) := (q_eqI c6)
    refine lv_iconst (v := 1) hx hb d_8_13_7 (by decide) ?_
    exact q_reti C0 V (⟨hI, hF, trivial⟩) d_8_13_8
theorem d_8_14_0 : decode prog_8_method_14_code 0 = .ok (.iconst 0, 1) := by decide +kernel
theorem d_8_14_1 : decode prog_8_method_14_code 1 = .ok (.istore 4, 2) := by decide +kernel
theorem d_8_14_3 : decode prog_8_method_14_code 3 = .ok (.iload 4, 2) := by decide +kernel
theorem d_8_14_5 : decode prog_8_method_14_code 5 = .ok (.i2l, 1) := by decide +kernel
theorem d_8_14_6 : decode prog_8_method_14_code 6 = .ok (.lload_n 2, 1) := by decide +kernel
theorem d_8_14_7 : decode prog_8_method_14_code 7 = .ok (.lcmp, 1) := by decide +kernel
theorem d_8_14_8 : decode prog_8_method_14_code 8 = .ok (.ifCond .ge 55, 3) := by decide +kernel
theorem d_8_14_63 : decode prog_8_method_14_code 63 = .ok (.iload 4, 2) := by decide +kernel
theorem d_8_14_65 : decode prog_8_method_14_code 65 = .ok (.ireturn, 1) := by decide +kernel
theorem d_8_14_11 : decode prog_8_method_14_code 11 = .ok (.aload_n 1, 1) := by decide +kernel
theorem d_8_14_12 : decode prog_8_method_14_code 12 = .ok (.getfield 62, 3) := by decide +kernel
theorem d_8_14_15 : decode prog_8_method_14_code 15 = .ok (.ifCond .le 48, 3) := by decide +kernel
theorem d_8_14_18 : decode prog_8_method_14_code 18 = .ok (.iload 4, 2) := by decide +kernel
theorem d_8_14_20 : decode prog_8_method_14_code 20 = .ok (.sipush 10000, 3) := by decide +kernel
theorem d_8_14_23 : decode prog_8_method_14_code 23 = .ok (.if_icmp .ge 40, 3) := by decide +kernel
theorem d_8_14_26 : decode prog_8_method_14_code 26 = .ok (.aload_n 0, 1) := by decide +kernel
theorem d_8_14_27 : decode prog_8_method_14_code 27 = .ok (.getfield 32, 3) := by decide +kernel
theorem d_8_14_30 : decode prog_8_method_14_code 30 = .ok (.aload_n 1, 1) := by decide +kernel
theorem d_8_14_31 : decode prog_8_method_14_code 31 = .ok (.invokevirtual 51, 3) := by decide +kernel
theorem d_8_14_34 : decode prog_8_method_14_code 34 = .ok (.aload_n 0, 1) := by decide +kernel
theorem d_8_14_35 : decode prog_8_method_14_code 35 = .ok (.getfield 32, 3) := by decide +kernel
theorem d_8_14_38 : decode prog_8_method_14_code 38 = .ok (.bipush 10, 2) := by decide +kernel
theorem d_8_14_40 : decode prog_8_method_14_code 40 = .ok (.invokevirtual 109, 3) := by decide +kernel
set_option maxRecDepth 100000 in
theorem w_1340 : (Cond.methodLink "NumberHouse$Mill" (109 : Nat) ({ cls := "NumberHouse$Big", name := "divideSmall", desc := "(I)I" } : MethodName)) ∈ q_tbl := q_of6 140 rfl (by decide +kernel)
theorem LV_Mil_109 : q_LV "NumberHouse$Mill" 109 y_Big_divideSmall prog_2_method_27_code 8 (some .int) 1 := ⟨w_1042, w_4, w_1340, w_1040, w_1041, ⟨by decide, by decide, by decide +kernel⟩⟩
theorem d_8_14_43 : decode prog_8_method_14_code 43 = .ok (.ifCond .eq 6, 3) := by decide +kernel
theorem d_8_14_49 : decode prog_8_method_14_code 49 = .ok (.aload_n 1, 1) := by decide +kernel
theorem d_8_14_50 : decode prog_8_method_14_code 50 = .ok (.aload_n 0, 1) := by decide +kernel
theorem d_8_14_51 : decode prog_8_method_14_code 51 = .ok (.getfield 32, 3) := by decide +kernel
theorem d_8_14_54 : decode prog_8_method_14_code 54 = .ok (.invokevirtual 51, 3) := by decide +kernel
theorem d_8_14_57 : decode prog_8_method_14_code 57 = .ok (.iinc 4 1, 3) := by decide +kernel
theorem d_8_14_60 : decode prog_8_method_14_code 60 = .ok (.goto (-57), 3) := by decide +kernel
theorem d_8_14_46 : decode prog_8_method_14_code 46 = .ok (.goto 17, 3) := by decide +kernel
def y_Mil_dropZeros : MethodName := ⟨"NumberHouse$Mill", "dropZeros", "(LNumberHouse$Big;J)I"⟩
set_option maxRecDepth 100000 in
set_option maxHeartbeats 4000000 in
theorem T_Mil_dropZeros (l : Launch) (D : va_G) (g : Nat → ClassId) (q : Nat → Nat) (ws : va_W) (k2 : Nat) (R : Int32) (hB2 : q_isBig (nsh g q) g q k2 R) (zk2 : (10 ≤ k2 ∧ k2 ≤ 32) ∨ 66 ≤ k2) (x3 : Int64) (hI : q_I (nsh g q) q ws) : q_mI l y_Mil_dropZeros prog_8_method_14_code 5 (.int) 3 0 0 D g [.ref (q 9), .ref (q k2), .long x3] ws (fun r u => q_I (nsh g q) q u ∧ q_un ws u [20, 21, k2, k2 + 1] ∧ (0 ≤ r.toInt) ∧ (r.toInt ≤ 10000)) := by
  intro sz
  refine q_into (by decide) (Nat.le_of_ble_eq_true rfl) ?_
  intro p e s m below meth c ls hsz C0 V hl
  have hx := C0.1
  have hb := C0.2.1
  have hfk20 : q_F (0 ≤ R.toInt ∧ R.toInt ≤ 220) := hB2.2.2
  have hF : q_un ws ws [20, 21, k2, k2 + 1] := q_u0
  have hl : lv_has ls 5 [(0, .ref (q 9)), (1, .ref (q k2)), (2, .long x3)] := hl
  refine lv_iconst (v := 0) hx hb d_8_14_0 (by decide) ?_
  refine lv_istore (lv' := [(4, .int 0), (0, .ref (q 9)), (1, .ref (q k2)), (2, .long x3)]) hx hb d_8_14_1 hl (by decide) rfl (fun ls hl => ?_)
  refine q_loop (X := Int32) (fun z H locs ls w5 => q_F (0 ≤ z.toInt) ∧ q_F (z.toInt ≤ 10000) ∧ q_Wd D g (va_A ws sz) s w5 H locs ∧ lv_has ls 5 [(4, .int z), (0, .ref (q 9)), (1, .ref (q k2)), (2, .long x3)] ∧ q_I (nsh g q) q w5 ∧ q_un ws w5 [20, 21, k2, k2 + 1]) (fun z => (10000 - z.toInt).toNat) ?_ ((0 : Int32)) _ _ _ ws ⟨(show q_F (0 ≤ 0) from (show 0 ≤ 0 from by omega)), (show q_F (0 ≤ 10000) from (show 0 ≤ 10000 from by omega)), V, q_lw hl (q_lw1 0 rfl (q_lw1 1 rfl (q_lw1 2 rfl (q_lw1 3 rfl q_lw0)))), hI, hF⟩
  rintro lx1 H locs ls w5 ⟨i2, i3, V, hl, hI, hF⟩ ih4
  replace i2 : q_F (0 ≤ lx1.toInt) := i2
  replace i3 : q_F (lx1.toInt ≤ 10000) := i3
  replace hl : lv_has ls 5 [(4, .int lx1), (0, .ref (q 9)), (1, .ref (q k2)), (2, .long x3)] := hl
  refine lv_iload hx hb d_8_14_3 (lv_at hl 0 rfl) ?_
  refine lv_i2l hx hb d_8_14_5 rfl ?_
  obtain ⟨j6, e7⟩ := q_nm (lx1.toInt64 : Int64)
  refine q_tl (v := j6) e7 ?_
  have b8 : q_F (j6.toInt = lx1.toInt) := (by rw [← e7]; show (lx1.toInt64 : Int64).toInt = lx1.toInt; exact q_i2l rfl)
  refine lv_lload_n hx hb d_8_14_6 rfl (lv_at hl 3 rfl) ?_
  refine W.lcmp hx hb d_8_14_7 ?_
  obtain ⟨a9, e10⟩ := q_nm (lg_cmp j6 x3 : Int32)
  refine q_ti (v := a9) e10 ?_
  have b11 : q_F (-1 ≤ a9.toInt ∧ a9.toInt ≤ 1 ∧ ((a9.toInt = -1 ∧ j6.toInt < x3.toInt) ∨ (a9.toInt = 0 ∧ j6.toInt = x3.toInt) ∨ (a9.toInt = 1 ∧ x3.toInt < j6.toInt))) := (by rw [← e10]; show -1 ≤ (lg_cmp j6 x3 : Int32).toInt ∧ (lg_cmp j6 x3 : Int32).toInt ≤ 1 ∧ (((lg_cmp j6 x3 : Int32).toInt = -1 ∧ j6.toInt < x3.toInt) ∨ ((lg_cmp j6 x3 : Int32).toInt = 0 ∧ j6.toInt = x3.toInt) ∨ ((lg_cmp j6 x3 : Int32).toInt = 1 ∧ x3.toInt < j6.toInt)); exact s_lcmp)
  refine lv_if_ge (tgt := 63) hx hb d_8_14_8 (by decide) (fun c12 => ?_) (fun c12 => ?_)
  ·
    have b13 : q_F (0 ≤ a9.toInt) := (q_leI c12)
    refine lv_iload hx hb d_8_14_63 (lv_at hl 0 rfl) ?_
    exact q_reti C0 V (⟨hI, hF, (show 0 ≤ lx1.toInt from (by have t1 : 0 ≤ lx1.toInt := i2; omega)), (show lx1.toInt ≤ 10000 from (by have t1 : lx1.toInt ≤ 10000 := i3; omega))⟩) d_8_14_65
  ·
    have b14 : q_F (a9.toInt < 0) := (q_nleI c12)
    refine lv_aload_n hx hb d_8_14_11 rfl (lv_at hl 2 rfl) ?_
    obtain ⟨y16, y17, hO15, b18, b19⟩ := q_bigO hI hB2
    replace b18 : q_F (0 ≤ y16.toInt ∧ y16.toInt ≤ R.toInt) := b18
    replace b19 : q_F (0 ≤ y17.toInt ∧ y17.toInt ≤ 1) := b19
    refine q_get (ci := 2) (j := 1) (v := .int y16) C0 V i_Big rfl rfl hO15 (by decide) w_89 rfl d_8_14_12 ?_
    refine lv_if_le (tgt := 63) hx hb d_8_14_15 (by decide) (fun c20 => ?_) (fun c20 => ?_)
    ·
      have b21 : q_F (y16.toInt ≤ 0) := (q_leI c20)
      refine lv_iload hx hb d_8_14_63 (lv_at hl 0 rfl) ?_
      exact q_reti C0 V (⟨hI, hF, (show 0 ≤ lx1.toInt from (by have t1 : 0 ≤ lx1.toInt := i2; omega)), (show lx1.toInt ≤ 10000 from (by have t1 : lx1.toInt ≤ 10000 := i3; omega))⟩) d_8_14_65
    ·
      have b22 : q_F (0 < y16.toInt) := (q_nleI c20)
      refine lv_iload hx hb d_8_14_18 (lv_at hl 0 rfl) ?_
      refine lv_sipush (v := 10000) hx hb d_8_14_20 (by decide) ?_
      refine lv_icmp_ge (tgt := 63) hx hb d_8_14_23 (by decide) (fun c23 => ?_) (fun c23 => ?_)
      ·
        have b24 : q_F (10000 ≤ lx1.toInt) := (q_leI c23)
        refine lv_iload hx hb d_8_14_63 (lv_at hl 0 rfl) ?_
        exact q_reti C0 V (⟨hI, hF, (show 0 ≤ lx1.toInt from (by have t1 : 0 ≤ lx1.toInt := i2; omega)), (show lx1.toInt ≤ 10000 from (by have t1 : lx1.toInt ≤ 10000 := i3; omega))⟩) d_8_14_65
      ·
        have b25 : q_F (lx1.toInt < 10000) := (q_nleI c23)
        refine lv_aload_n hx hb d_8_14_26 rfl (lv_at hl 1 rfl) ?_
        have hO26 := n_o9 hI
        refine q_get (ci := 4) (j := 5) (v := .ref (q 20)) C0 V i_Mil rfl rfl hO26 (by decide) w_124 rfl d_8_14_27 ?_
        refine lv_aload_n hx hb d_8_14_30 rfl (lv_at hl 2 rfl) ?_
        obtain ⟨y28, y29, hO27, b30, b31⟩ := q_bigO hI (n_b20 g q)
        replace b30 : q_F (0 ≤ y28.toInt ∧ y28.toInt ≤ 220) := b30
        replace b31 : q_F (0 ≤ y29.toInt ∧ y29.toInt ≤ 1) := b31
        obtain ⟨f32, hA33, bf34⟩ := q_bigA hI (n_b20 g q)
        have ne35 := q_df hA33 hO15
        refine q_gov V (q_runV (As := [.ref (q k2)]) (rest := []) (d := 2) (mc := 0) (ms := 0) (ci := 2) C0 V rfl LV_Mil_51 (S_Big_copy l D g (nsh g q) q w5 20 220 (n_b20 g q) k2 R hB2  hI   _) rfl rfl hO27 rfl hl.1 rfl (Nat.le_of_ble_eq_true rfl) ⟨by decide, by decide⟩ ⟨Nat.le_of_ble_eq_true rfl, Nat.le_of_ble_eq_true rfl⟩ d_8_14_31) (fun u36 H locs hp37 V => ?_)
        obtain ⟨_, hI, hu38⟩ := hp37
        replace hO26 := (hu38 _ (by decide)).trans hO26
        replace hF := q_uc hF hu38 (by simp)
        refine lv_aload_n hx hb d_8_14_34 rfl (lv_at hl 1 rfl) ?_
        refine q_get (ci := 4) (j := 5) (v := .ref (q 20)) C0 V i_Mil rfl rfl hO26 (by decide) w_124 rfl d_8_14_35 ?_
        refine lv_bipush (v := 10) hx hb d_8_14_38 (by decide) ?_
        obtain ⟨y40, y41, hO39, b42, b43⟩ := q_bigO hI (n_b20 g q)
        replace b42 : q_F (0 ≤ y40.toInt ∧ y40.toInt ≤ 220) := b42
        replace b43 : q_F (0 ≤ y41.toInt ∧ y41.toInt ≤ 1) := b43
        refine q_goi V (q_runV (As := [.int 10]) (rest := []) (d := 2) (mc := 0) (ms := 0) (ci := 2) C0 V rfl LV_Mil_109 (S_Big_divideSmall l D g (nsh g q) q u36 20 220 (n_b20 g q) 10 hI   _) rfl rfl hO39 rfl hl.1 rfl (Nat.le_of_ble_eq_true rfl) ⟨by decide, by decide⟩ ⟨Nat.le_of_ble_eq_true rfl, Nat.le_of_ble_eq_true rfl⟩ d_8_14_40) (fun a46 u44 H locs hp45 V => ?_)
        obtain ⟨_, hI, hu47⟩ := hp45
        replace hO26 := (hu47 _ (by decide)).trans hO26
        replace hF := q_uc hF hu47 (by simp)
        refine lv_if_eq (tgt := 49) hx hb d_8_14_43 (by decide) (fun c48 => ?_) (fun c48 => ?_)
        ·
          have b49 : q_F (a46.toInt = 0) := (q_eqI c48)
          refine lv_aload_n hx hb d_8_14_49 rfl (lv_at hl 2 rfl) ?_
          refine lv_aload_n hx hb d_8_14_50 rfl (lv_at hl 1 rfl) ?_
          refine q_get (ci := 4) (j := 5) (v := .ref (q 20)) C0 V i_Mil rfl rfl hO26 (by decide) w_124 rfl d_8_14_51 ?_
          obtain ⟨y51, y52, hO50, b53, b54⟩ := q_bigO hI hB2
          replace b53 : q_F (0 ≤ y51.toInt ∧ y51.toInt ≤ R.toInt) := b53
          replace b54 : q_F (0 ≤ y52.toInt ∧ y52.toInt ≤ 1) := b54
          refine q_gov V (q_runV (As := [.ref (q 20)]) (rest := []) (d := 2) (mc := 0) (ms := 0) (ci := 2) C0 V rfl LV_Mil_51 (S_Big_copy l D g (nsh g q) q u44 k2 R hB2 20 220 (n_b20 g q)  hI   _) rfl rfl hO50 rfl hl.1 rfl (Nat.le_of_ble_eq_true rfl) ⟨by decide, by decide⟩ ⟨Nat.le_of_ble_eq_true rfl, Nat.le_of_ble_eq_true rfl⟩ d_8_14_54) (fun u55 H locs hp56 V => ?_)
          obtain ⟨_, hI, hu57⟩ := hp56
          replace hO26 := (hu57 _ (by have z0 := zk2; simp only [List.mem_cons, List.not_mem_nil, or_false, not_or]; omega)).trans hO26
          replace hF := q_uc hF hu57 (by simp)
          obtain ⟨a58, e59⟩ := q_nm (lx1 + 1 : Int32)
          have b60 : q_F (a58.toInt = lx1.toInt + 1) := (by rw [← e59]; exact q_addI (y := 1) rfl (by decide) (by have t1 : 0 ≤ lx1.toInt := i2; have t2 : lx1.toInt ≤ 10000 := i3; omega) (by have t1 : 0 ≤ lx1.toInt := i2; have t2 : lx1.toInt ≤ 10000 := i3; omega))
          refine lv_iinc (v := a58) (lv' := [(4, .int a58), (0, .ref (q 9)), (1, .ref (q k2)), (2, .long x3)]) hx hb d_8_14_57 hl (k := 0) rfl (e59) (by decide) rfl (fun ls hl => ?_)
          refine lv_goto (tgt := 3) hx hb d_8_14_60 (by decide) ?_
          exact ih4 ((a58 : Int32)) _ _ _ _ (show (10000 - a58.toInt).toNat < (10000 - lx1.toInt).toNat from by have t1 : a58.toInt = lx1.toInt + 1 := b60; have t2 : lx1.toInt ≤ 10000 := i3; have t3 : lx1.toInt < 10000 := b25; omega) ⟨(show q_F (0 ≤ a58.toInt) from (show 0 ≤ a58.toInt from by have t1 : 0 ≤ lx1.toInt := i2; have t2 : a58.toInt = lx1.toInt + 1 := b60; omega)), (show q_F (a58.toInt ≤ 10000) from (show a58.toInt ≤ 10000 from by have t1 : lx1.toInt < 10000 := b25; have t2 : a58.toInt = lx1.toInt + 1 := b60; omega)), V, q_lw hl (q_lw1 0 rfl (q_lw1 1 rfl (q_lw1 2 rfl (q_lw1 3 rfl q_lw0)))), hI, hF⟩
        ·
          have b61 : q_F (a46.toInt ≠ 0) := (q_neI c48)
          refine lv_goto (tgt := 63) hx hb d_8_14_46 (by decide) ?_
          refine lv_iload hx hb d_8_14_63 (lv_at hl 0 rfl) ?_
          exact q_reti C0 V (⟨hI, hF, (show 0 ≤ lx1.toInt from (by have t1 : 0 ≤ lx1.toInt := i2; omega)), (show lx1.toInt ≤ 10000 from (by have t1 : lx1.toInt ≤ 10000 := i3; omega))⟩) d_8_14_65
theorem d_7_2_0 : decode prog_7_method_2_code 0 = .ok (.lload_n 1, 1) := by decide +kernel
theorem d_7_2_1 : decode prog_7_method_2_code 1 = .ok (.aload_n 0, 1) := by decide +kernel
theorem d_7_2_2 : decode prog_7_method_2_code 2 = .ok (.getfield 7, 3) := by decide +kernel
theorem d_7_2_5 : decode prog_7_method_2_code 5 = .ok (.lushr, 1) := by decide +kernel
theorem d_7_2_6 : decode prog_7_method_2_code 6 = .ok (.l2i, 1) := by decide +kernel
theorem d_7_2_7 : decode prog_7_method_2_code 7 = .ok (.aload_n 0, 1) := by decide +kernel
theorem d_7_2_8 : decode prog_7_method_2_code 8 = .ok (.getfield 16, 3) := by decide +kernel
theorem d_7_2_11 : decode prog_7_method_2_code 11 = .ok (.iand, 1) := by decide +kernel
theorem d_7_2_12 : decode prog_7_method_2_code 12 = .ok (.ireturn, 1) := by decide +kernel
def y_Flo_exponent : MethodName := ⟨"NumberHouse$Floats", "exponent", "(J)I"⟩
set_option maxRecDepth 100000 in
set_option maxHeartbeats 4000000 in
theorem T_Flo_exponent (l : Launch) (D : va_G) (g : Nat → ClassId) (q : Nat → Nat) (ws : va_W) (k1 : Nat) (A B C : Int32) (hB1 : q_isFlo (nsh g q) q k1 A B C) (x2 : Int64) (hI : q_I (nsh g q) q ws) : q_mI l y_Flo_exponent prog_7_method_2_code 3 (.int) 1 0 0 D g [.ref (q k1), .long x2] ws (fun r u => ws = u ∧ (0 ≤ r.toInt) ∧ (r.toInt ≤ C.toInt)) := by
  intro sz
  refine q_into (by decide) (Nat.le_of_ble_eq_true rfl) ?_
  intro p e s m below meth c ls hsz C0 V hl
  have hx := C0.1
  have hb := C0.2.1
  have hfk10 : q_F (23 ≤ A.toInt ∧ A.toInt ≤ 52) := hB1.2.1
  have hfk11 : q_F (150 ≤ B.toInt ∧ B.toInt ≤ 1075) := hB1.2.2.1
  have hfk12 : q_F (255 ≤ C.toInt ∧ C.toInt ≤ 2047) := hB1.2.2.2.1
  have hl : lv_has ls 3 [(0, .ref (q k1)), (1, .long x2)] := hl
  refine lv_lload_n hx hb d_7_2_0 rfl (lv_at hl 1 rfl) ?_
  refine lv_aload_n hx hb d_7_2_1 rfl (lv_at hl 0 rfl) ?_
  obtain ⟨y2, y3, y4, hO1⟩ := n_flO hI hB1
  refine q_get (ci := 6) (j := 0) (v := .int A) C0 V i_Flo rfl rfl hO1 (by decide) w_231 rfl d_7_2_2 ?_
  refine lv_lushr hx hb d_7_2_5 rfl ?_
  obtain ⟨j5, e6⟩ := q_nm ((x2.toUInt64 >>> (A.toInt64.toUInt64 &&& Int64.toUInt64 63)).toInt64 : Int64)
  refine q_tl (v := j5) e6 ?_
  refine lv_l2i hx hb d_7_2_6 rfl ?_
  obtain ⟨a7, e8⟩ := q_nm (j5.toInt32 : Int32)
  refine q_ti (v := a7) e8 ?_
  refine lv_aload_n hx hb d_7_2_7 rfl (lv_at hl 0 rfl) ?_
  refine q_get (ci := 6) (j := 2) (v := .int C) C0 V i_Flo rfl rfl hO1 (by decide) w_234 rfl d_7_2_8 ?_
  refine lv_iand hx hb d_7_2_11 ?_
  obtain ⟨a9, e10⟩ := q_nm (a7 &&& C : Int32)
  refine q_ti (v := a9) e10 ?_
  have b11 : q_F (0 ≤ a9.toInt ∧ a9.toInt ≤ C.toInt) := (by rw [← e10]; show 0 ≤ (a7 &&& C : Int32).toInt ∧ (a7 &&& C : Int32).toInt ≤ C.toInt; exact s_and (m := C) (by have t1 : 255 ≤ C.toInt ∧ C.toInt ≤ 2047 := hfk12; omega))
  exact q_reti C0 V (⟨rfl, (show 0 ≤ a9.toInt from (by have t1 : 0 ≤ a9.toInt ∧ a9.toInt ≤ C.toInt := b11; omega)), (show a9.toInt ≤ C.toInt from (by have t1 : 0 ≤ a9.toInt ∧ a9.toInt ≤ C.toInt := b11; omega))⟩) d_7_2_12
theorem d_7_3_0 : decode prog_7_method_3_code 0 = .ok (.lload_n 1, 1) := by decide +kernel
theorem d_7_3_1 : decode prog_7_method_3_code 1 = .ok (.lconst 1, 1) := by decide +kernel
theorem d_7_3_2 : decode prog_7_method_3_code 2 = .ok (.aload_n 0, 1) := by decide +kernel
theorem d_7_3_3 : decode prog_7_method_3_code 3 = .ok (.getfield 7, 3) := by decide +kernel
theorem d_7_3_6 : decode prog_7_method_3_code 6 = .ok (.lshl, 1) := by decide +kernel
theorem d_7_3_7 : decode prog_7_method_3_code 7 = .ok (.lconst 1, 1) := by decide +kernel
theorem d_7_3_8 : decode prog_7_method_3_code 8 = .ok (.lsub, 1) := by decide +kernel
theorem d_7_3_9 : decode prog_7_method_3_code 9 = .ok (.land, 1) := by decide +kernel
theorem d_7_3_10 : decode prog_7_method_3_code 10 = .ok (.lreturn, 1) := by decide +kernel
def y_Flo_fraction : MethodName := ⟨"NumberHouse$Floats", "fraction", "(J)J"⟩
set_option maxRecDepth 100000 in
set_option maxHeartbeats 4000000 in
theorem T_Flo_fraction (l : Launch) (D : va_G) (g : Nat → ClassId) (q : Nat → Nat) (ws : va_W) (k1 : Nat) (A B C : Int32) (hB1 : q_isFlo (nsh g q) q k1 A B C) (x2 : Int64) (hI : q_I (nsh g q) q ws) : q_mL l y_Flo_fraction prog_7_method_3_code 3 1 0 0 D g [.ref (q k1), .long x2] ws (fun r u => ws = u ∧ True) := by
  intro sz
  refine q_into (by decide) (Nat.le_of_ble_eq_true rfl) ?_
  intro p e s m below meth c ls hsz C0 V hl
  have hx := C0.1
  have hb := C0.2.1
  have hfk10 : q_F (23 ≤ A.toInt ∧ A.toInt ≤ 52) := hB1.2.1
  have hfk11 : q_F (150 ≤ B.toInt ∧ B.toInt ≤ 1075) := hB1.2.2.1
  have hfk12 : q_F (255 ≤ C.toInt ∧ C.toInt ≤ 2047) := hB1.2.2.2.1
  have hl : lv_has ls 3 [(0, .ref (q k1)), (1, .long x2)] := hl
  refine lv_lload_n hx hb d_7_3_0 rfl (lv_at hl 1 rfl) ?_
  refine lv_lconst (v := 1) hx hb d_7_3_1 (by decide) ?_
  refine lv_aload_n hx hb d_7_3_2 rfl (lv_at hl 0 rfl) ?_
  obtain ⟨y2, y3, y4, hO1⟩ := n_flO hI hB1
  refine q_get (ci := 6) (j := 0) (v := .int A) C0 V i_Flo rfl rfl hO1 (by decide) w_231 rfl d_7_3_3 ?_
  refine lv_lshl hx hb d_7_3_6 rfl ?_
  obtain ⟨j5, e6⟩ := q_nm ((1 : Int64) <<< (A.toInt64 &&& 63) : Int64)
  refine q_tl (v := j5) e6 ?_
  refine lv_lconst (v := 1) hx hb d_7_3_7 (by decide) ?_
  refine lv_lsub hx hb d_7_3_8 ?_
  obtain ⟨j7, e8⟩ := q_nm (j5 - 1 : Int64)
  refine q_tl (v := j7) e8 ?_
  refine lv_land hx hb d_7_3_9 ?_
  obtain ⟨j9, e10⟩ := q_nm (x2 &&& j7 : Int64)
  refine q_tl (v := j9) e10 ?_
  exact q_retl C0 V (⟨rfl, trivial⟩) d_7_3_10
theorem d_7_8_0 : decode prog_7_method_8_code 0 = .ok (.iload_n 1, 1) := by decide +kernel
theorem d_7_8_1 : decode prog_7_method_8_code 1 = .ok (.ifCond .eq 18, 3) := by decide +kernel
theorem d_7_8_19 : decode prog_7_method_8_code 19 = .ok (.lconst 0, 1) := by decide +kernel
theorem d_7_8_20 : decode prog_7_method_8_code 20 = .ok (.lreturn, 1) := by decide +kernel
theorem d_7_8_4 : decode prog_7_method_8_code 4 = .ok (.aload_n 0, 1) := by decide +kernel
theorem d_7_8_5 : decode prog_7_method_8_code 5 = .ok (.getfield 16, 3) := by decide +kernel
theorem d_7_8_8 : decode prog_7_method_8_code 8 = .ok (.i2l, 1) := by decide +kernel
theorem d_7_8_9 : decode prog_7_method_8_code 9 = .ok (.lconst 1, 1) := by decide +kernel
theorem d_7_8_10 : decode prog_7_method_8_code 10 = .ok (.ladd, 1) := by decide +kernel
theorem d_7_8_11 : decode prog_7_method_8_code 11 = .ok (.aload_n 0, 1) := by decide +kernel
theorem d_7_8_12 : decode prog_7_method_8_code 12 = .ok (.getfield 7, 3) := by decide +kernel
theorem d_7_8_15 : decode prog_7_method_8_code 15 = .ok (.lshl, 1) := by decide +kernel
theorem d_7_8_16 : decode prog_7_method_8_code 16 = .ok (.goto 4, 3) := by decide +kernel
def y_Flo_signBit : MethodName := ⟨"NumberHouse$Floats", "signBit", "(Z)J"⟩
set_option maxRecDepth 100000 in
set_option maxHeartbeats 4000000 in
theorem T_Flo_signBit (l : Launch) (D : va_G) (g : Nat → ClassId) (q : Nat → Nat) (ws : va_W) (k1 : Nat) (A B C : Int32) (hB1 : q_isFlo (nsh g q) q k1 A B C) (x2 : Int32) (hI : q_I (nsh g q) q ws) (hzx2 : 0 ≤ x2.toInt ∧ x2.toInt ≤ 1) : q_mL l y_Flo_signBit prog_7_method_8_code 2 1 0 0 D g [.ref (q k1), .int x2] ws (fun r u => ws = u ∧ True) := by
  intro sz
  refine q_into (by decide) (Nat.le_of_ble_eq_true rfl) ?_
  intro p e s m below meth c ls hsz C0 V hl
  have hx := C0.1
  have hb := C0.2.1
  have hfk10 : q_F (23 ≤ A.toInt ∧ A.toInt ≤ 52) := hB1.2.1
  have hfk11 : q_F (150 ≤ B.toInt ∧ B.toInt ≤ 1075) := hB1.2.2.1
  have hfk12 : q_F (255 ≤ C.toInt ∧ C.toInt ≤ 2047) := hB1.2.2.2.1
  replace hzx2 : q_F (0 ≤ x2.toInt ∧ x2.toInt ≤ 1) := hzx2
  have hl : lv_has ls 2 [(0, .ref (q k1)), (1, .int x2)] := hl
  refine lv_iload_n hx hb d_7_8_0 rfl (lv_at hl 1 rfl) ?_
  refine lv_if_eq (tgt := 19) hx hb d_7_8_1 (by decide) (fun c1 => ?_) (fun c1 => ?_)
  ·
    have b2 : q_F (x2.toInt = 0) := (q_eqI c1)
    refine lv_lconst (v := 0) hx hb d_7_8_19 (by decide) ?_
    exact q_retl C0 V (⟨rfl, trivial⟩) d_7_8_20
  ·
    have b3 : q_F (x2.toInt ≠ 0) := (q_neI c1)
    refine lv_aload_n hx hb d_7_8_4 rfl (lv_at hl 0 rfl) ?_
    obtain ⟨y5, y6, y7, hO4⟩ := n_flO hI hB1
    refine q_get (ci := 6) (j := 2) (v := .int C) C0 V i_Flo rfl rfl hO4 (by decide) w_234 rfl d_7_8_5 ?_
    refine lv_i2l hx hb d_7_8_8 rfl ?_
    obtain ⟨j8, e9⟩ := q_nm (C.toInt64 : Int64)
    refine q_tl (v := j8) e9 ?_
    have b10 : q_F (j8.toInt = C.toInt) := (by rw [← e9]; show (C.toInt64 : Int64).toInt = C.toInt; exact q_i2l rfl)
    refine lv_lconst (v := 1) hx hb d_7_8_9 (by decide) ?_
    refine lv_ladd hx hb d_7_8_10 ?_
    obtain ⟨j11, e12⟩ := q_nm (j8 + 1 : Int64)
    refine q_tl (v := j11) e12 ?_
    have b13 : q_F (j11.toInt = j8.toInt + 1) := (by rw [← e12]; show (j8 + 1 : Int64).toInt = j8.toInt + 1; exact q_addL (x := j8.toInt) (y := 1) rfl (by decide) (by have t1 : j8.toInt = C.toInt := b10; have _ := q_lo32 (x := C); have _ := q_hi32 (x := C); omega) (by have t1 : j8.toInt = C.toInt := b10; have _ := q_lo32 (x := C); have _ := q_hi32 (x := C); omega))
    refine lv_aload_n hx hb d_7_8_11 rfl (lv_at hl 0 rfl) ?_
    refine q_get (ci := 6) (j := 0) (v := .int A) C0 V i_Flo rfl rfl hO4 (by decide) w_231 rfl d_7_8_12 ?_
    refine lv_lshl hx hb d_7_8_15 rfl ?_
    obtain ⟨j14, e15⟩ := q_nm (j11 <<< (A.toInt64 &&& 63) : Int64)
    refine q_tl (v := j14) e15 ?_
    refine lv_goto (tgt := 20) hx hb d_7_8_16 (by decide) ?_
    exact q_retl C0 V (⟨rfl, trivial⟩) d_7_8_20
theorem d_7_4_0 : decode prog_7_method_4_code 0 = .ok (.lload_n 1, 1) := by decide +kernel
theorem d_7_4_1 : decode prog_7_method_4_code 1 = .ok (.aload_n 0, 1) := by decide +kernel
theorem d_7_4_2 : decode prog_7_method_4_code 2 = .ok (.iconst 1, 1) := by decide +kernel
theorem d_7_4_3 : decode prog_7_method_4_code 3 = .ok (.invokevirtual 23, 3) := by decide +kernel
set_option maxRecDepth 100000 in
theorem w_714 : (Cond.code ({ cls := "NumberHouse$Floats", name := "signBit", desc := "(Z)J" } : MethodName) prog_7_method_8_code (2 : Nat) (some .long)) ∈ q_tbl := q_of3 234 rfl (by decide +kernel)
set_option maxRecDepth 100000 in
theorem w_1240 : (Cond.methodLink "NumberHouse$Floats" (23 : Nat) ({ cls := "NumberHouse$Floats", name := "signBit", desc := "(Z)J" } : MethodName)) ∈ q_tbl := q_of6 40 rfl (by decide +kernel)
set_option maxRecDepth 100000 in
theorem w_712 : (Cond.instanceMethod ({ cls := "NumberHouse$Floats", name := "signBit", desc := "(Z)J" } : MethodName)) ∈ q_tbl := q_of3 232 rfl (by decide +kernel)
set_option maxRecDepth 100000 in
theorem w_713 : (Cond.selects "NumberHouse$Floats" ({ cls := "NumberHouse$Floats", name := "signBit", desc := "(Z)J" } : MethodName) ({ cls := "NumberHouse$Floats", name := "signBit", desc := "(Z)J" } : MethodName)) ∈ q_tbl := q_of3 233 rfl (by decide +kernel)
theorem LV_Flo_23 : q_LV "NumberHouse$Floats" 23 y_Flo_signBit prog_7_method_8_code 2 (some .long) 1 := ⟨w_714, w_8, w_1240, w_712, w_713, ⟨by decide, by decide, by decide +kernel⟩⟩
theorem d_7_4_6 : decode prog_7_method_4_code 6 = .ok (.land, 1) := by decide +kernel
theorem d_7_4_7 : decode prog_7_method_4_code 7 = .ok (.lconst 0, 1) := by decide +kernel
theorem d_7_4_8 : decode prog_7_method_4_code 8 = .ok (.lcmp, 1) := by decide +kernel
theorem d_7_4_9 : decode prog_7_method_4_code 9 = .ok (.ifCond .eq 7, 3) := by decide +kernel
theorem d_7_4_16 : decode prog_7_method_4_code 16 = .ok (.iconst 0, 1) := by decide +kernel
theorem d_7_4_17 : decode prog_7_method_4_code 17 = .ok (.ireturn, 1) := by decide +kernel
theorem d_7_4_12 : decode prog_7_method_4_code 12 = .ok (.iconst 1, 1) := by decide +kernel
theorem d_7_4_13 : decode prog_7_method_4_code 13 = .ok (.goto 4, 3) := by decide +kernel
def y_Flo_isNegative : MethodName := ⟨"NumberHouse$Floats", "isNegative", "(J)Z"⟩
set_option maxRecDepth 100000 in
set_option maxHeartbeats 4000000 in
theorem T_Flo_isNegative (l : Launch) (D : va_G) (g : Nat → ClassId) (q : Nat → Nat) (ws : va_W) (k1 : Nat) (A B C : Int32) (hB1 : q_isFlo (nsh g q) q k1 A B C) (x2 : Int64) (hI : q_I (nsh g q) q ws) : q_mI l y_Flo_isNegative prog_7_method_4_code 3 (.boolean) 2 0 0 D g [.ref (q k1), .long x2] ws (fun r u => ws = u ∧ (0 ≤ r.toInt) ∧ (r.toInt ≤ 1)) := by
  intro sz
  refine q_into (by decide) (Nat.le_of_ble_eq_true rfl) ?_
  intro p e s m below meth c ls hsz C0 V hl
  have hx := C0.1
  have hb := C0.2.1
  have hfk10 : q_F (23 ≤ A.toInt ∧ A.toInt ≤ 52) := hB1.2.1
  have hfk11 : q_F (150 ≤ B.toInt ∧ B.toInt ≤ 1075) := hB1.2.2.1
  have hfk12 : q_F (255 ≤ C.toInt ∧ C.toInt ≤ 2047) := hB1.2.2.2.1
  have hl : lv_has ls 3 [(0, .ref (q k1)), (1, .long x2)] := hl
  refine lv_lload_n hx hb d_7_4_0 rfl (lv_at hl 1 rfl) ?_
  refine lv_aload_n hx hb d_7_4_1 rfl (lv_at hl 0 rfl) ?_
  refine lv_iconst (v := 1) hx hb d_7_4_2 (by decide) ?_
  obtain ⟨y2, y3, y4, hO1⟩ := n_flO hI hB1
  refine q_gol V (q_runV (As := [.int 1]) (rest := [.long x2]) (d := 1) (mc := 0) (ms := 0) (ci := 6) C0 V rfl LV_Flo_23 (T_Flo_signBit l D g q ws k1 A B C hB1 1 hI  ⟨(by have y0 : (1 : Int32).toInt = 1 := rfl; omega), (by have y0 : (1 : Int32).toInt = 1 := rfl; omega)⟩ _) rfl rfl hO1 rfl hl.1 rfl (Nat.le_of_ble_eq_true rfl) ⟨by decide, by decide⟩ ⟨Nat.le_of_ble_eq_true rfl, Nat.le_of_ble_eq_true rfl⟩ d_7_4_3) (fun j7 u5 H locs hp6 V => ?_)
  obtain ⟨rfl, -⟩ := hp6
  refine lv_land hx hb d_7_4_6 ?_
  obtain ⟨j9, e10⟩ := q_nm (x2 &&& j7 : Int64)
  refine q_tl (v := j9) e10 ?_
  refine lv_lconst (v := 0) hx hb d_7_4_7 (by decide) ?_
  refine W.lcmp hx hb d_7_4_8 ?_
  obtain ⟨a11, e12⟩ := q_nm (lg_cmp j9 0 : Int32)
  refine q_ti (v := a11) e12 ?_
  have b13 : q_F (-1 ≤ a11.toInt ∧ a11.toInt ≤ 1 ∧ ((a11.toInt = -1 ∧ j9.toInt < 0) ∨ (a11.toInt = 0 ∧ j9.toInt = 0) ∨ (a11.toInt = 1 ∧ 0 < j9.toInt))) := (by rw [← e12]; show -1 ≤ (lg_cmp j9 0 : Int32).toInt ∧ (lg_cmp j9 0 : Int32).toInt ≤ 1 ∧ (((lg_cmp j9 0 : Int32).toInt = -1 ∧ j9.toInt < 0) ∨ ((lg_cmp j9 0 : Int32).toInt = 0 ∧ j9.toInt = 0) ∨ ((lg_cmp j9 0 : Int32).toInt = 1 ∧ 0 < j9.toInt)); exact (by have y1 : (0 : Int64).toInt = 0 := rfl; have z := s_lcmp (a := j9) (b := 0); omega))
  refine lv_if_eq (tgt := 16) hx hb d_7_4_9 (by decide) (fun c14 => ?_) (fun c14 => ?_)
  ·
    have b15 : q_F (a11.toInt = 0) := (q_eqI c14)
    refine lv_iconst (v := 0) hx hb d_7_4_16 (by decide) ?_
    exact q_retz C0 V (by decide) (⟨rfl, (show 0 ≤ (0 : Int32).toInt from (by have z4 : (0 : Int32).toInt = 0 := rfl; omega)), (show (0 : Int32).toInt ≤ 1 from (by have z4 : (0 : Int32).toInt = 0 := rfl; omega))⟩) d_7_4_17
  ·
    have b16 : q_F (a11.toInt ≠ 0) := (q_neI c14)
    refine lv_iconst (v := 1) hx hb d_7_4_12 (by decide) ?_
    refine lv_goto (tgt := 17) hx hb d_7_4_13 (by decide) ?_
    exact q_retz C0 V (by decide) (⟨rfl, (show 0 ≤ (1 : Int32).toInt from (by have z4 : (1 : Int32).toInt = 1 := rfl; omega)), (show (1 : Int32).toInt ≤ 1 from (by have z4 : (1 : Int32).toInt = 1 := rfl; omega))⟩) d_7_4_17
theorem d_7_5_0 : decode prog_7_method_5_code 0 = .ok (.aload_n 0, 1) := by decide +kernel
theorem d_7_5_1 : decode prog_7_method_5_code 1 = .ok (.lload_n 1, 1) := by decide +kernel
theorem d_7_5_2 : decode prog_7_method_5_code 2 = .ok (.invokevirtual 27, 3) := by decide +kernel
set_option maxRecDepth 100000 in
theorem w_1159 : (Cond.code ({ cls := "NumberHouse$Floats", name := "exponent", desc := "(J)I" } : MethodName) prog_7_method_2_code (3 : Nat) (some .int)) ∈ q_tbl := q_of5 199 rfl (by decide +kernel)
set_option maxRecDepth 100000 in
theorem w_1156 : (Cond.methodLink "NumberHouse$Floats" (27 : Nat) ({ cls := "NumberHouse$Floats", name := "exponent", desc := "(J)I" } : MethodName)) ∈ q_tbl := q_of5 196 rfl (by decide +kernel)
set_option maxRecDepth 100000 in
theorem w_1157 : (Cond.instanceMethod ({ cls := "NumberHouse$Floats", name := "exponent", desc := "(J)I" } : MethodName)) ∈ q_tbl := q_of5 197 rfl (by decide +kernel)
set_option maxRecDepth 100000 in
theorem w_1158 : (Cond.selects "NumberHouse$Floats" ({ cls := "NumberHouse$Floats", name := "exponent", desc := "(J)I" } : MethodName) ({ cls := "NumberHouse$Floats", name := "exponent", desc := "(J)I" } : MethodName)) ∈ q_tbl := q_of5 198 rfl (by decide +kernel)
theorem LV_Flo_27 : q_LV "NumberHouse$Floats" 27 y_Flo_exponent prog_7_method_2_code 3 (some .int) 1 := ⟨w_1159, w_8, w_1156, w_1157, w_1158, ⟨by decide, by decide, by decide +kernel⟩⟩
theorem d_7_5_5 : decode prog_7_method_5_code 5 = .ok (.aload_n 0, 1) := by decide +kernel
theorem d_7_5_6 : decode prog_7_method_5_code 6 = .ok (.getfield 16, 3) := by decide +kernel
theorem d_7_5_9 : decode prog_7_method_5_code 9 = .ok (.if_icmp .eq 7, 3) := by decide +kernel
theorem d_7_5_16 : decode prog_7_method_5_code 16 = .ok (.iconst 0, 1) := by decide +kernel
theorem d_7_5_17 : decode prog_7_method_5_code 17 = .ok (.ireturn, 1) := by decide +kernel
theorem d_7_5_12 : decode prog_7_method_5_code 12 = .ok (.iconst 1, 1) := by decide +kernel
theorem d_7_5_13 : decode prog_7_method_5_code 13 = .ok (.goto 4, 3) := by decide +kernel
def y_Flo_isFinite : MethodName := ⟨"NumberHouse$Floats", "isFinite", "(J)Z"⟩
set_option maxRecDepth 100000 in
set_option maxHeartbeats 4000000 in
theorem T_Flo_isFinite (l : Launch) (D : va_G) (g : Nat → ClassId) (q : Nat → Nat) (ws : va_W) (k1 : Nat) (A B C : Int32) (hB1 : q_isFlo (nsh g q) q k1 A B C) (x2 : Int64) (hI : q_I (nsh g q) q ws) : q_mI l y_Flo_isFinite prog_7_method_5_code 3 (.boolean) 2 0 0 D g [.ref (q k1), .long x2] ws (fun r u => ws = u ∧ (0 ≤ r.toInt) ∧ (r.toInt ≤ 1)) := by
  intro sz
  refine q_into (by decide) (Nat.le_of_ble_eq_true rfl) ?_
  intro p e s m below meth c ls hsz C0 V hl
  have hx := C0.1
  have hb := C0.2.1
  have hfk10 : q_F (23 ≤ A.toInt ∧ A.toInt ≤ 52) := hB1.2.1
  have hfk11 : q_F (150 ≤ B.toInt ∧ B.toInt ≤ 1075) := hB1.2.2.1
  have hfk12 : q_F (255 ≤ C.toInt ∧ C.toInt ≤ 2047) := hB1.2.2.2.1
  have hl : lv_has ls 3 [(0, .ref (q k1)), (1, .long x2)] := hl
  refine lv_aload_n hx hb d_7_5_0 rfl (lv_at hl 0 rfl) ?_
  refine lv_lload_n hx hb d_7_5_1 rfl (lv_at hl 1 rfl) ?_
  obtain ⟨y2, y3, y4, hO1⟩ := n_flO hI hB1
  refine q_goi V (q_runV (As := [.long x2]) (rest := []) (d := 1) (mc := 0) (ms := 0) (ci := 6) C0 V rfl LV_Flo_27 (T_Flo_exponent l D g q ws k1 A B C hB1 x2 hI   _) rfl rfl hO1 rfl hl.1 rfl (Nat.le_of_ble_eq_true rfl) ⟨by decide, by decide⟩ ⟨Nat.le_of_ble_eq_true rfl, Nat.le_of_ble_eq_true rfl⟩ d_7_5_2) (fun a7 u5 H locs hp6 V => ?_)
  obtain ⟨rfl, b8, b9⟩ := hp6
  replace b8 : q_F (0 ≤ a7.toInt) := b8
  replace b9 : q_F (a7.toInt ≤ C.toInt) := b9
  refine lv_aload_n hx hb d_7_5_5 rfl (lv_at hl 0 rfl) ?_
  refine q_get (ci := 6) (j := 2) (v := .int C) C0 V i_Flo rfl rfl hO1 (by decide) w_234 rfl d_7_5_6 ?_
  refine lv_icmp_eq (tgt := 16) hx hb d_7_5_9 (by decide) (fun c11 => ?_) (fun c11 => ?_)
  ·
    have b12 : q_F (a7.toInt = C.toInt) := (q_eqI c11)
    refine lv_iconst (v := 0) hx hb d_7_5_16 (by decide) ?_
    exact q_retz C0 V (by decide) (⟨rfl, (show 0 ≤ (0 : Int32).toInt from (by have z4 : (0 : Int32).toInt = 0 := rfl; omega)), (show (0 : Int32).toInt ≤ 1 from (by have z4 : (0 : Int32).toInt = 0 := rfl; omega))⟩) d_7_5_17
  ·
    have b13 : q_F (a7.toInt ≠ C.toInt) := (q_neI c11)
    refine lv_iconst (v := 1) hx hb d_7_5_12 (by decide) ?_
    refine lv_goto (tgt := 17) hx hb d_7_5_13 (by decide) ?_
    exact q_retz C0 V (by decide) (⟨rfl, (show 0 ≤ (1 : Int32).toInt from (by have z4 : (1 : Int32).toInt = 1 := rfl; omega)), (show (1 : Int32).toInt ≤ 1 from (by have z4 : (1 : Int32).toInt = 1 := rfl; omega))⟩) d_7_5_17
theorem d_7_6_0 : decode prog_7_method_6_code 0 = .ok (.aload_n 0, 1) := by decide +kernel
theorem d_7_6_1 : decode prog_7_method_6_code 1 = .ok (.lload_n 1, 1) := by decide +kernel
theorem d_7_6_2 : decode prog_7_method_6_code 2 = .ok (.invokevirtual 31, 3) := by decide +kernel
set_option maxRecDepth 100000 in
theorem w_1155 : (Cond.code ({ cls := "NumberHouse$Floats", name := "isFinite", desc := "(J)Z" } : MethodName) prog_7_method_5_code (3 : Nat) (some .boolean)) ∈ q_tbl := q_of5 195 rfl (by decide +kernel)
set_option maxRecDepth 100000 in
theorem w_1235 : (Cond.methodLink "NumberHouse$Floats" (31 : Nat) ({ cls := "NumberHouse$Floats", name := "isFinite", desc := "(J)Z" } : MethodName)) ∈ q_tbl := q_of6 35 rfl (by decide +kernel)
set_option maxRecDepth 100000 in
theorem w_1153 : (Cond.instanceMethod ({ cls := "NumberHouse$Floats", name := "isFinite", desc := "(J)Z" } : MethodName)) ∈ q_tbl := q_of5 193 rfl (by decide +kernel)
set_option maxRecDepth 100000 in
theorem w_1154 : (Cond.selects "NumberHouse$Floats" ({ cls := "NumberHouse$Floats", name := "isFinite", desc := "(J)Z" } : MethodName) ({ cls := "NumberHouse$Floats", name := "isFinite", desc := "(J)Z" } : MethodName)) ∈ q_tbl := q_of5 194 rfl (by decide +kernel)
theorem LV_Flo_31 : q_LV "NumberHouse$Floats" 31 y_Flo_isFinite prog_7_method_5_code 3 (some .boolean) 1 := ⟨w_1155, w_8, w_1235, w_1153, w_1154, ⟨by decide, by decide, by decide +kernel⟩⟩
theorem d_7_6_5 : decode prog_7_method_6_code 5 = .ok (.ifCond .ne 17, 3) := by decide +kernel
theorem d_7_6_22 : decode prog_7_method_6_code 22 = .ok (.iconst 0, 1) := by decide +kernel
theorem d_7_6_23 : decode prog_7_method_6_code 23 = .ok (.ireturn, 1) := by decide +kernel
theorem d_7_6_8 : decode prog_7_method_6_code 8 = .ok (.aload_n 0, 1) := by decide +kernel
theorem d_7_6_9 : decode prog_7_method_6_code 9 = .ok (.lload_n 1, 1) := by decide +kernel
theorem d_7_6_10 : decode prog_7_method_6_code 10 = .ok (.invokevirtual 35, 3) := by decide +kernel
set_option maxRecDepth 100000 in
theorem w_1171 : (Cond.code ({ cls := "NumberHouse$Floats", name := "fraction", desc := "(J)J" } : MethodName) prog_7_method_3_code (3 : Nat) (some .long)) ∈ q_tbl := q_of5 211 rfl (by decide +kernel)
set_option maxRecDepth 100000 in
theorem w_1168 : (Cond.methodLink "NumberHouse$Floats" (35 : Nat) ({ cls := "NumberHouse$Floats", name := "fraction", desc := "(J)J" } : MethodName)) ∈ q_tbl := q_of5 208 rfl (by decide +kernel)
set_option maxRecDepth 100000 in
theorem w_1169 : (Cond.instanceMethod ({ cls := "NumberHouse$Floats", name := "fraction", desc := "(J)J" } : MethodName)) ∈ q_tbl := q_of5 209 rfl (by decide +kernel)
set_option maxRecDepth 100000 in
theorem w_1170 : (Cond.selects "NumberHouse$Floats" ({ cls := "NumberHouse$Floats", name := "fraction", desc := "(J)J" } : MethodName) ({ cls := "NumberHouse$Floats", name := "fraction", desc := "(J)J" } : MethodName)) ∈ q_tbl := q_of5 210 rfl (by decide +kernel)
theorem LV_Flo_35 : q_LV "NumberHouse$Floats" 35 y_Flo_fraction prog_7_method_3_code 3 (some .long) 1 := ⟨w_1171, w_8, w_1168, w_1169, w_1170, ⟨by decide, by decide, by decide +kernel⟩⟩
theorem d_7_6_13 : decode prog_7_method_6_code 13 = .ok (.lconst 0, 1) := by decide +kernel
theorem d_7_6_14 : decode prog_7_method_6_code 14 = .ok (.lcmp, 1) := by decide +kernel
theorem d_7_6_15 : decode prog_7_method_6_code 15 = .ok (.ifCond .eq 7, 3) := by decide +kernel
theorem d_7_6_18 : decode prog_7_method_6_code 18 = .ok (.iconst 1, 1) := by decide +kernel
theorem d_7_6_19 : decode prog_7_method_6_code 19 = .ok (.goto 4, 3) := by decide +kernel
def y_Flo_isNoNumber : MethodName := ⟨"NumberHouse$Floats", "isNoNumber", "(J)Z"⟩
set_option maxRecDepth 100000 in
set_option maxHeartbeats 4000000 in
theorem T_Flo_isNoNumber (l : Launch) (D : va_G) (g : Nat → ClassId) (q : Nat → Nat) (ws : va_W) (k1 : Nat) (A B C : Int32) (hB1 : q_isFlo (nsh g q) q k1 A B C) (x2 : Int64) (hI : q_I (nsh g q) q ws) : q_mI l y_Flo_isNoNumber prog_7_method_6_code 3 (.boolean) 3 0 0 D g [.ref (q k1), .long x2] ws (fun r u => ws = u ∧ (0 ≤ r.toInt) ∧ (r.toInt ≤ 1)) := by
  intro sz
  refine q_into (by decide) (Nat.le_of_ble_eq_true rfl) ?_
  intro p e s m below meth c ls hsz C0 V hl
  have hx := C0.1
  have hb := C0.2.1
  have hfk10 : q_F (23 ≤ A.toInt ∧ A.toInt ≤ 52) := hB1.2.1
  have hfk11 : q_F (150 ≤ B.toInt ∧ B.toInt ≤ 1075) := hB1.2.2.1
  have hfk12 : q_F (255 ≤ C.toInt ∧ C.toInt ≤ 2047) := hB1.2.2.2.1
  have hl : lv_has ls 3 [(0, .ref (q k1)), (1, .long x2)] := hl
  refine lv_aload_n hx hb d_7_6_0 rfl (lv_at hl 0 rfl) ?_
  refine lv_lload_n hx hb d_7_6_1 rfl (lv_at hl 1 rfl) ?_
  obtain ⟨y2, y3, y4, hO1⟩ := n_flO hI hB1
  refine q_goi V (q_runV (As := [.long x2]) (rest := []) (d := 2) (mc := 0) (ms := 0) (ci := 6) C0 V rfl LV_Flo_31 (T_Flo_isFinite l D g q ws k1 A B C hB1 x2 hI   _) rfl rfl hO1 rfl hl.1 rfl (Nat.le_of_ble_eq_true rfl) ⟨by decide, by decide⟩ ⟨Nat.le_of_ble_eq_true rfl, Nat.le_of_ble_eq_true rfl⟩ d_7_6_2) (fun a7 u5 H locs hp6 V => ?_)
  obtain ⟨rfl, b8, b9⟩ := hp6
  replace b8 : q_F (0 ≤ a7.toInt) := b8
  replace b9 : q_F (a7.toInt ≤ 1) := b9
  refine lv_if_ne (tgt := 22) hx hb d_7_6_5 (by decide) (fun c11 => ?_) (fun c11 => ?_)
  ·
    have b12 : q_F (a7.toInt ≠ 0) := (q_neI c11)
    refine lv_iconst (v := 0) hx hb d_7_6_22 (by decide) ?_
    exact q_retz C0 V (by decide) (⟨rfl, (show 0 ≤ (0 : Int32).toInt from (by have z4 : (0 : Int32).toInt = 0 := rfl; omega)), (show (0 : Int32).toInt ≤ 1 from (by have z4 : (0 : Int32).toInt = 0 := rfl; omega))⟩) d_7_6_23
  ·
    have b13 : q_F (a7.toInt = 0) := (q_eqI c11)
    refine lv_aload_n hx hb d_7_6_8 rfl (lv_at hl 0 rfl) ?_
    refine lv_lload_n hx hb d_7_6_9 rfl (lv_at hl 1 rfl) ?_
    refine q_gol V (q_runV (As := [.long x2]) (rest := []) (d := 1) (mc := 0) (ms := 0) (ci := 6) C0 V rfl LV_Flo_35 (T_Flo_fraction l D g q ws k1 A B C hB1 x2 hI   _) rfl rfl hO1 rfl hl.1 rfl (Nat.le_of_ble_eq_true rfl) ⟨by decide, by decide⟩ ⟨Nat.le_of_ble_eq_true rfl, Nat.le_of_ble_eq_true rfl⟩ d_7_6_10) (fun j16 u14 H locs hp15 V => ?_)
    obtain ⟨rfl, -⟩ := hp15
    refine lv_lconst (v := 0) hx hb d_7_6_13 (by decide) ?_
    refine W.lcmp hx hb d_7_6_14 ?_
    obtain ⟨a18, e19⟩ := q_nm (lg_cmp j16 0 : Int32)
    refine q_ti (v := a18) e19 ?_
    have b20 : q_F (-1 ≤ a18.toInt ∧ a18.toInt ≤ 1 ∧ ((a18.toInt = -1 ∧ j16.toInt < 0) ∨ (a18.toInt = 0 ∧ j16.toInt = 0) ∨ (a18.toInt = 1 ∧ 0 < j16.toInt))) := (by rw [← e19]; show -1 ≤ (lg_cmp j16 0 : Int32).toInt ∧ (lg_cmp j16 0 : Int32).toInt ≤ 1 ∧ (((lg_cmp j16 0 : Int32).toInt = -1 ∧ j16.toInt < 0) ∨ ((lg_cmp j16 0 : Int32).toInt = 0 ∧ j16.toInt = 0) ∨ ((lg_cmp j16 0 : Int32).toInt = 1 ∧ 0 < j16.toInt)); exact (by have y1 : (0 : Int64).toInt = 0 := rfl; have z := s_lcmp (a := j16) (b := 0); omega))
    refine lv_if_eq (tgt := 22) hx hb d_7_6_15 (by decide) (fun c21 => ?_) (fun c21 => ?_)
    ·
      have b22 : q_F (a18.toInt = 0) := (q_eqI c21)
      refine lv_iconst (v := 0) hx hb d_7_6_22 (by decide) ?_
      exact q_retz C0 V (by decide) (⟨rfl, (show 0 ≤ (0 : Int32).toInt from (by have z4 : (0 : Int32).toInt = 0 := rfl; omega)), (show (0 : Int32).toInt ≤ 1 from (by have z4 : (0 : Int32).toInt = 0 := rfl; omega))⟩) d_7_6_23
    ·
      have b23 : q_F (a18.toInt ≠ 0) := (q_neI c21)
      refine lv_iconst (v := 1) hx hb d_7_6_18 (by decide) ?_
      refine lv_goto (tgt := 23) hx hb d_7_6_19 (by decide) ?_
      exact q_retz C0 V (by decide) (⟨rfl, (show 0 ≤ (1 : Int32).toInt from (by have z4 : (1 : Int32).toInt = 1 := rfl; omega)), (show (1 : Int32).toInt ≤ 1 from (by have z4 : (1 : Int32).toInt = 1 := rfl; omega))⟩) d_7_6_23
theorem d_7_7_0 : decode prog_7_method_7_code 0 = .ok (.aload_n 0, 1) := by decide +kernel
theorem d_7_7_1 : decode prog_7_method_7_code 1 = .ok (.lload_n 1, 1) := by decide +kernel
theorem d_7_7_2 : decode prog_7_method_7_code 2 = .ok (.invokevirtual 27, 3) := by decide +kernel
theorem d_7_7_5 : decode prog_7_method_7_code 5 = .ok (.ifCond .ne 17, 3) := by decide +kernel
theorem d_7_7_22 : decode prog_7_method_7_code 22 = .ok (.iconst 0, 1) := by decide +kernel
theorem d_7_7_23 : decode prog_7_method_7_code 23 = .ok (.ireturn, 1) := by decide +kernel
theorem d_7_7_8 : decode prog_7_method_7_code 8 = .ok (.aload_n 0, 1) := by decide +kernel
theorem d_7_7_9 : decode prog_7_method_7_code 9 = .ok (.lload_n 1, 1) := by decide +kernel
theorem d_7_7_10 : decode prog_7_method_7_code 10 = .ok (.invokevirtual 35, 3) := by decide +kernel
theorem d_7_7_13 : decode prog_7_method_7_code 13 = .ok (.lconst 0, 1) := by decide +kernel
theorem d_7_7_14 : decode prog_7_method_7_code 14 = .ok (.lcmp, 1) := by decide +kernel
theorem d_7_7_15 : decode prog_7_method_7_code 15 = .ok (.ifCond .ne 7, 3) := by decide +kernel
theorem d_7_7_18 : decode prog_7_method_7_code 18 = .ok (.iconst 1, 1) := by decide +kernel
theorem d_7_7_19 : decode prog_7_method_7_code 19 = .ok (.goto 4, 3) := by decide +kernel
def y_Flo_isZero : MethodName := ⟨"NumberHouse$Floats", "isZero", "(J)Z"⟩
set_option maxRecDepth 100000 in
set_option maxHeartbeats 4000000 in
theorem T_Flo_isZero (l : Launch) (D : va_G) (g : Nat → ClassId) (q : Nat → Nat) (ws : va_W) (k1 : Nat) (A B C : Int32) (hB1 : q_isFlo (nsh g q) q k1 A B C) (x2 : Int64) (hI : q_I (nsh g q) q ws) : q_mI l y_Flo_isZero prog_7_method_7_code 3 (.boolean) 2 0 0 D g [.ref (q k1), .long x2] ws (fun r u => ws = u ∧ (0 ≤ r.toInt) ∧ (r.toInt ≤ 1)) := by
  intro sz
  refine q_into (by decide) (Nat.le_of_ble_eq_true rfl) ?_
  intro p e s m below meth c ls hsz C0 V hl
  have hx := C0.1
  have hb := C0.2.1
  have hfk10 : q_F (23 ≤ A.toInt ∧ A.toInt ≤ 52) := hB1.2.1
  have hfk11 : q_F (150 ≤ B.toInt ∧ B.toInt ≤ 1075) := hB1.2.2.1
  have hfk12 : q_F (255 ≤ C.toInt ∧ C.toInt ≤ 2047) := hB1.2.2.2.1
  have hl : lv_has ls 3 [(0, .ref (q k1)), (1, .long x2)] := hl
  refine lv_aload_n hx hb d_7_7_0 rfl (lv_at hl 0 rfl) ?_
  refine lv_lload_n hx hb d_7_7_1 rfl (lv_at hl 1 rfl) ?_
  obtain ⟨y2, y3, y4, hO1⟩ := n_flO hI hB1
  refine q_goi V (q_runV (As := [.long x2]) (rest := []) (d := 1) (mc := 0) (ms := 0) (ci := 6) C0 V rfl LV_Flo_27 (T_Flo_exponent l D g q ws k1 A B C hB1 x2 hI   _) rfl rfl hO1 rfl hl.1 rfl (Nat.le_of_ble_eq_true rfl) ⟨by decide, by decide⟩ ⟨Nat.le_of_ble_eq_true rfl, Nat.le_of_ble_eq_true rfl⟩ d_7_7_2) (fun a7 u5 H locs hp6 V => ?_)
  obtain ⟨rfl, b8, b9⟩ := hp6
  replace b8 : q_F (0 ≤ a7.toInt) := b8
  replace b9 : q_F (a7.toInt ≤ C.toInt) := b9
  refine lv_if_ne (tgt := 22) hx hb d_7_7_5 (by decide) (fun c11 => ?_) (fun c11 => ?_)
  ·
    have b12 : q_F (a7.toInt ≠ 0) := (q_neI c11)
    refine lv_iconst (v := 0) hx hb d_7_7_22 (by decide) ?_
    exact q_retz C0 V (by decide) (⟨rfl, (show 0 ≤ (0 : Int32).toInt from (by have z4 : (0 : Int32).toInt = 0 := rfl; omega)), (show (0 : Int32).toInt ≤ 1 from (by have z4 : (0 : Int32).toInt = 0 := rfl; omega))⟩) d_7_7_23
  ·
    have b13 : q_F (a7.toInt = 0) := (q_eqI c11)
    refine lv_aload_n hx hb d_7_7_8 rfl (lv_at hl 0 rfl) ?_
    refine lv_lload_n hx hb d_7_7_9 rfl (lv_at hl 1 rfl) ?_
    refine q_gol V (q_runV (As := [.long x2]) (rest := []) (d := 1) (mc := 0) (ms := 0) (ci := 6) C0 V rfl LV_Flo_35 (T_Flo_fraction l D g q ws k1 A B C hB1 x2 hI   _) rfl rfl hO1 rfl hl.1 rfl (Nat.le_of_ble_eq_true rfl) ⟨by decide, by decide⟩ ⟨Nat.le_of_ble_eq_true rfl, Nat.le_of_ble_eq_true rfl⟩ d_7_7_10) (fun j16 u14 H locs hp15 V => ?_)
    obtain ⟨rfl, -⟩ := hp15
    refine lv_lconst (v := 0) hx hb d_7_7_13 (by decide) ?_
    refine W.lcmp hx hb d_7_7_14 ?_
    obtain ⟨a18, e19⟩ := q_nm (lg_cmp j16 0 : Int32)
    refine q_ti (v := a18) e19 ?_
    have b20 : q_F (-1 ≤ a18.toInt ∧ a18.toInt ≤ 1 ∧ ((a18.toInt = -1 ∧ j16.toInt < 0) ∨ (a18.toInt = 0 ∧ j16.toInt = 0) ∨ (a18.toInt = 1 ∧ 0 < j16.toInt))) := (by rw [← e19]; show -1 ≤ (lg_cmp j16 0 : Int32).toInt ∧ (lg_cmp j16 0 : Int32).toInt ≤ 1 ∧ (((lg_cmp j16 0 : Int32).toInt = -1 ∧ j16.toInt < 0) ∨ ((lg_cmp j16 0 : Int32).toInt = 0 ∧ j16.toInt = 0) ∨ ((lg_cmp j16 0 : Int32).toInt = 1 ∧ 0 < j16.toInt)); exact (by have y1 : (0 : Int64).toInt = 0 := rfl; have z := s_lcmp (a := j16) (b := 0); omega))
    refine lv_if_ne (tgt := 22) hx hb d_7_7_15 (by decide) (fun c21 => ?_) (fun c21 => ?_)
    ·
      have b22 : q_F (a18.toInt ≠ 0) := (q_neI c21)
      refine lv_iconst (v := 0) hx hb d_7_7_22 (by decide) ?_
      exact q_retz C0 V (by decide) (⟨rfl, (show 0 ≤ (0 : Int32).toInt from (by have z4 : (0 : Int32).toInt = 0 := rfl; omega)), (show (0 : Int32).toInt ≤ 1 from (by have z4 : (0 : Int32).toInt = 0 := rfl; omega))⟩) d_7_7_23
    ·
      have b23 : q_F (a18.toInt = 0) := (q_eqI c21)
      refine lv_iconst (v := 1) hx hb d_7_7_18 (by decide) ?_
      refine lv_goto (tgt := 23) hx hb d_7_7_19 (by decide) ?_
      exact q_retz C0 V (by decide) (⟨rfl, (show 0 ≤ (1 : Int32).toInt from (by have z4 : (1 : Int32).toInt = 1 := rfl; omega)), (show (1 : Int32).toInt ≤ 1 from (by have z4 : (1 : Int32).toInt = 1 := rfl; omega))⟩) d_7_7_23
theorem d_7_9_0 : decode prog_7_method_9_code 0 = .ok (.aload_n 0, 1) := by decide +kernel
theorem d_7_9_1 : decode prog_7_method_9_code 1 = .ok (.getfield 16, 3) := by decide +kernel
theorem d_7_9_4 : decode prog_7_method_9_code 4 = .ok (.i2l, 1) := by decide +kernel
theorem d_7_9_5 : decode prog_7_method_9_code 5 = .ok (.aload_n 0, 1) := by decide +kernel
theorem d_7_9_6 : decode prog_7_method_9_code 6 = .ok (.getfield 7, 3) := by decide +kernel
theorem d_7_9_9 : decode prog_7_method_9_code 9 = .ok (.lshl, 1) := by decide +kernel
theorem d_7_9_10 : decode prog_7_method_9_code 10 = .ok (.lreturn, 1) := by decide +kernel
def y_Flo_infinity : MethodName := ⟨"NumberHouse$Floats", "infinity", "()J"⟩
set_option maxRecDepth 100000 in
set_option maxHeartbeats 4000000 in
theorem T_Flo_infinity (l : Launch) (D : va_G) (g : Nat → ClassId) (q : Nat → Nat) (ws : va_W) (k1 : Nat) (A B C : Int32) (hB1 : q_isFlo (nsh g q) q k1 A B C) (hI : q_I (nsh g q) q ws) : q_mL l y_Flo_infinity prog_7_method_9_code 1 1 0 0 D g [.ref (q k1)] ws (fun r u => ws = u ∧ True) := by
  intro sz
  refine q_into (by decide) (Nat.le_of_ble_eq_true rfl) ?_
  intro p e s m below meth c ls hsz C0 V hl
  have hx := C0.1
  have hb := C0.2.1
  have hfk10 : q_F (23 ≤ A.toInt ∧ A.toInt ≤ 52) := hB1.2.1
  have hfk11 : q_F (150 ≤ B.toInt ∧ B.toInt ≤ 1075) := hB1.2.2.1
  have hfk12 : q_F (255 ≤ C.toInt ∧ C.toInt ≤ 2047) := hB1.2.2.2.1
  have hl : lv_has ls 1 [(0, .ref (q k1))] := hl
  refine lv_aload_n hx hb d_7_9_0 rfl (lv_at hl 0 rfl) ?_
  obtain ⟨y2, y3, y4, hO1⟩ := n_flO hI hB1
  refine q_get (ci := 6) (j := 2) (v := .int C) C0 V i_Flo rfl rfl hO1 (by decide) w_234 rfl d_7_9_1 ?_
  refine lv_i2l hx hb d_7_9_4 rfl ?_
  obtain ⟨j5, e6⟩ := q_nm (C.toInt64 : Int64)
  refine q_tl (v := j5) e6 ?_
  have b7 : q_F (j5.toInt = C.toInt) := (by rw [← e6]; show (C.toInt64 : Int64).toInt = C.toInt; exact q_i2l rfl)
  refine lv_aload_n hx hb d_7_9_5 rfl (lv_at hl 0 rfl) ?_
  refine q_get (ci := 6) (j := 0) (v := .int A) C0 V i_Flo rfl rfl hO1 (by decide) w_231 rfl d_7_9_6 ?_
  refine lv_lshl hx hb d_7_9_9 rfl ?_
  obtain ⟨j8, e9⟩ := q_nm (j5 <<< (A.toInt64 &&& 63) : Int64)
  refine q_tl (v := j8) e9 ?_
  exact q_retl C0 V (⟨rfl, trivial⟩) d_7_9_10
theorem d_7_10_0 : decode prog_7_method_10_code 0 = .ok (.aload_n 0, 1) := by decide +kernel
theorem d_7_10_1 : decode prog_7_method_10_code 1 = .ok (.invokevirtual 39, 3) := by decide +kernel
set_option maxRecDepth 100000 in
theorem w_710 : (Cond.code ({ cls := "NumberHouse$Floats", name := "infinity", desc := "()J" } : MethodName) prog_7_method_9_code (1 : Nat) (some .long)) ∈ q_tbl := q_of3 230 rfl (by decide +kernel)
set_option maxRecDepth 100000 in
theorem w_707 : (Cond.methodLink "NumberHouse$Floats" (39 : Nat) ({ cls := "NumberHouse$Floats", name := "infinity", desc := "()J" } : MethodName)) ∈ q_tbl := q_of3 227 rfl (by decide +kernel)
set_option maxRecDepth 100000 in
theorem w_708 : (Cond.instanceMethod ({ cls := "NumberHouse$Floats", name := "infinity", desc := "()J" } : MethodName)) ∈ q_tbl := q_of3 228 rfl (by decide +kernel)
set_option maxRecDepth 100000 in
theorem w_709 : (Cond.selects "NumberHouse$Floats" ({ cls := "NumberHouse$Floats", name := "infinity", desc := "()J" } : MethodName) ({ cls := "NumberHouse$Floats", name := "infinity", desc := "()J" } : MethodName)) ∈ q_tbl := q_of3 229 rfl (by decide +kernel)
theorem LV_Flo_39 : q_LV "NumberHouse$Floats" 39 y_Flo_infinity prog_7_method_9_code 1 (some .long) 0 := ⟨w_710, w_8, w_707, w_708, w_709, ⟨by decide, by decide, by decide +kernel⟩⟩
theorem d_7_10_4 : decode prog_7_method_10_code 4 = .ok (.lconst 1, 1) := by decide +kernel
theorem d_7_10_5 : decode prog_7_method_10_code 5 = .ok (.aload_n 0, 1) := by decide +kernel
theorem d_7_10_6 : decode prog_7_method_10_code 6 = .ok (.getfield 7, 3) := by decide +kernel
theorem d_7_10_9 : decode prog_7_method_10_code 9 = .ok (.iconst 1, 1) := by decide +kernel
theorem d_7_10_10 : decode prog_7_method_10_code 10 = .ok (.isub, 1) := by decide +kernel
theorem d_7_10_11 : decode prog_7_method_10_code 11 = .ok (.lshl, 1) := by decide +kernel
theorem d_7_10_12 : decode prog_7_method_10_code 12 = .ok (.lor, 1) := by decide +kernel
theorem d_7_10_13 : decode prog_7_method_10_code 13 = .ok (.lreturn, 1) := by decide +kernel
def y_Flo_noNumber : MethodName := ⟨"NumberHouse$Floats", "noNumber", "()J"⟩
set_option maxRecDepth 100000 in
set_option maxHeartbeats 4000000 in
theorem T_Flo_noNumber (l : Launch) (D : va_G) (g : Nat → ClassId) (q : Nat → Nat) (ws : va_W) (k1 : Nat) (A B C : Int32) (hB1 : q_isFlo (nsh g q) q k1 A B C) (hI : q_I (nsh g q) q ws) : q_mL l y_Flo_noNumber prog_7_method_10_code 1 2 0 0 D g [.ref (q k1)] ws (fun r u => ws = u ∧ True) := by
  intro sz
  refine q_into (by decide) (Nat.le_of_ble_eq_true rfl) ?_
  intro p e s m below meth c ls hsz C0 V hl
  have hx := C0.1
  have hb := C0.2.1
  have hfk10 : q_F (23 ≤ A.toInt ∧ A.toInt ≤ 52) := hB1.2.1
  have hfk11 : q_F (150 ≤ B.toInt ∧ B.toInt ≤ 1075) := hB1.2.2.1
  have hfk12 : q_F (255 ≤ C.toInt ∧ C.toInt ≤ 2047) := hB1.2.2.2.1
  have hl : lv_has ls 1 [(0, .ref (q k1))] := hl
  refine lv_aload_n hx hb d_7_10_0 rfl (lv_at hl 0 rfl) ?_
  obtain ⟨y2, y3, y4, hO1⟩ := n_flO hI hB1
  refine q_gol V (q_runV (As := []) (rest := []) (d := 1) (mc := 0) (ms := 0) (ci := 6) C0 V rfl LV_Flo_39 (T_Flo_infinity l D g q ws k1 A B C hB1  hI   _) rfl rfl hO1 rfl hl.1 rfl (Nat.le_of_ble_eq_true rfl) ⟨by decide, by decide⟩ ⟨Nat.le_of_ble_eq_true rfl, Nat.le_of_ble_eq_true rfl⟩ d_7_10_1) (fun j7 u5 H locs hp6 V => ?_)
  obtain ⟨rfl, -⟩ := hp6
  refine lv_lconst (v := 1) hx hb d_7_10_4 (by decide) ?_
  refine lv_aload_n hx hb d_7_10_5 rfl (lv_at hl 0 rfl) ?_
  refine q_get (ci := 6) (j := 0) (v := .int A) C0 V i_Flo rfl rfl hO1 (by decide) w_231 rfl d_7_10_6 ?_
  refine lv_iconst (v := 1) hx hb d_7_10_9 (by decide) ?_
  refine lv_isub hx hb d_7_10_10 ?_
  obtain ⟨a9, e10⟩ := q_nm (A - 1 : Int32)
  refine q_ti (v := a9) e10 ?_
  have b11 : q_F (a9.toInt = A.toInt - 1) := (by rw [← e10]; show (A - 1 : Int32).toInt = A.toInt - 1; exact q_subI (x := A.toInt) (y := 1) rfl (by decide) (by have t1 : 23 ≤ A.toInt ∧ A.toInt ≤ 52 := hfk10; omega) (by have t1 : 23 ≤ A.toInt ∧ A.toInt ≤ 52 := hfk10; omega))
  refine lv_lshl hx hb d_7_10_11 rfl ?_
  obtain ⟨j12, e13⟩ := q_nm ((1 : Int64) <<< (a9.toInt64 &&& 63) : Int64)
  refine q_tl (v := j12) e13 ?_
  refine lv_lor hx hb d_7_10_12 ?_
  obtain ⟨j14, e15⟩ := q_nm (j7 ||| j12 : Int64)
  refine q_tl (v := j14) e15 ?_
  exact q_retl C0 V (⟨rfl, trivial⟩) d_7_10_13
theorem d_7_11_0 : decode prog_7_method_11_code 0 = .ok (.lload_n 1, 1) := by decide +kernel
theorem d_7_11_1 : decode prog_7_method_11_code 1 = .ok (.aload_n 0, 1) := by decide +kernel
theorem d_7_11_2 : decode prog_7_method_11_code 2 = .ok (.iconst 1, 1) := by decide +kernel
theorem d_7_11_3 : decode prog_7_method_11_code 3 = .ok (.invokevirtual 23, 3) := by decide +kernel
theorem d_7_11_6 : decode prog_7_method_11_code 6 = .ok (.lconst 1, 1) := by decide +kernel
theorem d_7_11_7 : decode prog_7_method_11_code 7 = .ok (.lsub, 1) := by decide +kernel
theorem d_7_11_8 : decode prog_7_method_11_code 8 = .ok (.land, 1) := by decide +kernel
theorem d_7_11_9 : decode prog_7_method_11_code 9 = .ok (.lstore_n 3, 1) := by decide +kernel
theorem d_7_11_10 : decode prog_7_method_11_code 10 = .ok (.aload_n 0, 1) := by decide +kernel
theorem d_7_11_11 : decode prog_7_method_11_code 11 = .ok (.lload_n 1, 1) := by decide +kernel
theorem d_7_11_12 : decode prog_7_method_11_code 12 = .ok (.invokevirtual 43, 3) := by decide +kernel
set_option maxRecDepth 100000 in
theorem w_1244 : (Cond.code ({ cls := "NumberHouse$Floats", name := "isNegative", desc := "(J)Z" } : MethodName) prog_7_method_4_code (3 : Nat) (some .boolean)) ∈ q_tbl := q_of6 44 rfl (by decide +kernel)
set_option maxRecDepth 100000 in
theorem w_1241 : (Cond.methodLink "NumberHouse$Floats" (43 : Nat) ({ cls := "NumberHouse$Floats", name := "isNegative", desc := "(J)Z" } : MethodName)) ∈ q_tbl := q_of6 41 rfl (by decide +kernel)
set_option maxRecDepth 100000 in
theorem w_1242 : (Cond.instanceMethod ({ cls := "NumberHouse$Floats", name := "isNegative", desc := "(J)Z" } : MethodName)) ∈ q_tbl := q_of6 42 rfl (by decide +kernel)
set_option maxRecDepth 100000 in
theorem w_1243 : (Cond.selects "NumberHouse$Floats" ({ cls := "NumberHouse$Floats", name := "isNegative", desc := "(J)Z" } : MethodName) ({ cls := "NumberHouse$Floats", name := "isNegative", desc := "(J)Z" } : MethodName)) ∈ q_tbl := q_of6 43 rfl (by decide +kernel)
theorem LV_Flo_43 : q_LV "NumberHouse$Floats" 43 y_Flo_isNegative prog_7_method_4_code 3 (some .boolean) 1 := ⟨w_1244, w_8, w_1241, w_1242, w_1243, ⟨by decide, by decide, by decide +kernel⟩⟩
theorem d_7_11_15 : decode prog_7_method_11_code 15 = .ok (.ifCond .eq 8, 3) := by decide +kernel
theorem d_7_11_23 : decode prog_7_method_11_code 23 = .ok (.lload_n 3, 1) := by decide +kernel
theorem d_7_11_24 : decode prog_7_method_11_code 24 = .ok (.lreturn, 1) := by decide +kernel
theorem d_7_11_18 : decode prog_7_method_11_code 18 = .ok (.lload_n 3, 1) := by decide +kernel
theorem d_7_11_19 : decode prog_7_method_11_code 19 = .ok (.lneg, 1) := by decide +kernel
theorem d_7_11_20 : decode prog_7_method_11_code 20 = .ok (.goto 4, 3) := by decide +kernel
def y_Flo_place : MethodName := ⟨"NumberHouse$Floats", "place", "(J)J"⟩
set_option maxRecDepth 100000 in
set_option maxHeartbeats 4000000 in
theorem T_Flo_place (l : Launch) (D : va_G) (g : Nat → ClassId) (q : Nat → Nat) (ws : va_W) (k1 : Nat) (A B C : Int32) (hB1 : q_isFlo (nsh g q) q k1 A B C) (x2 : Int64) (hI : q_I (nsh g q) q ws) : q_mL l y_Flo_place prog_7_method_11_code 5 3 0 0 D g [.ref (q k1), .long x2] ws (fun r u => ws = u ∧ True) := by
  intro sz
  refine q_into (by decide) (Nat.le_of_ble_eq_true rfl) ?_
  intro p e s m below meth c ls hsz C0 V hl
  have hx := C0.1
  have hb := C0.2.1
  have hfk10 : q_F (23 ≤ A.toInt ∧ A.toInt ≤ 52) := hB1.2.1
  have hfk11 : q_F (150 ≤ B.toInt ∧ B.toInt ≤ 1075) := hB1.2.2.1
  have hfk12 : q_F (255 ≤ C.toInt ∧ C.toInt ≤ 2047) := hB1.2.2.2.1
  have hl : lv_has ls 5 [(0, .ref (q k1)), (1, .long x2)] := hl
  refine lv_lload_n hx hb d_7_11_0 rfl (lv_at hl 1 rfl) ?_
  refine lv_aload_n hx hb d_7_11_1 rfl (lv_at hl 0 rfl) ?_
  refine lv_iconst (v := 1) hx hb d_7_11_2 (by decide) ?_
  obtain ⟨y2, y3, y4, hO1⟩ := n_flO hI hB1
  refine q_gol V (q_runV (As := [.int 1]) (rest := [.long x2]) (d := 1) (mc := 0) (ms := 0) (ci := 6) C0 V rfl LV_Flo_23 (T_Flo_signBit l D g q ws k1 A B C hB1 1 hI  ⟨(by have y0 : (1 : Int32).toInt = 1 := rfl; omega), (by have y0 : (1 : Int32).toInt = 1 := rfl; omega)⟩ _) rfl rfl hO1 rfl hl.1 rfl (Nat.le_of_ble_eq_true rfl) ⟨by decide, by decide⟩ ⟨Nat.le_of_ble_eq_true rfl, Nat.le_of_ble_eq_true rfl⟩ d_7_11_3) (fun j7 u5 H locs hp6 V => ?_)
  obtain ⟨rfl, -⟩ := hp6
  refine lv_lconst (v := 1) hx hb d_7_11_6 (by decide) ?_
  refine lv_lsub hx hb d_7_11_7 ?_
  obtain ⟨j9, e10⟩ := q_nm (j7 - 1 : Int64)
  refine q_tl (v := j9) e10 ?_
  refine lv_land hx hb d_7_11_8 ?_
  obtain ⟨j11, e12⟩ := q_nm (x2 &&& j9 : Int64)
  refine q_tl (v := j11) e12 ?_
  refine lv_lstore_n (lv' := [(3, .long j11), (0, .ref (q k1)), (1, .long x2)]) hx hb d_7_11_9 rfl hl (by decide) rfl (fun ls hl => ?_)
  refine lv_aload_n hx hb d_7_11_10 rfl (lv_at hl 1 rfl) ?_
  refine lv_lload_n hx hb d_7_11_11 rfl (lv_at hl 2 rfl) ?_
  refine q_goi V (q_runV (As := [.long x2]) (rest := []) (d := 2) (mc := 0) (ms := 0) (ci := 6) C0 V rfl LV_Flo_43 (T_Flo_isNegative l D g q ws k1 A B C hB1 x2 hI   _) rfl rfl hO1 rfl hl.1 rfl (Nat.le_of_ble_eq_true rfl) ⟨by decide, by decide⟩ ⟨Nat.le_of_ble_eq_true rfl, Nat.le_of_ble_eq_true rfl⟩ d_7_11_12) (fun a15 u13 H locs hp14 V => ?_)
  obtain ⟨rfl, b16, b17⟩ := hp14
  replace b16 : q_F (0 ≤ a15.toInt) := b16
  replace b17 : q_F (a15.toInt ≤ 1) := b17
  refine lv_if_eq (tgt := 23) hx hb d_7_11_15 (by decide) (fun c19 => ?_) (fun c19 => ?_)
  ·
    have b20 : q_F (a15.toInt = 0) := (q_eqI c19)
    refine lv_lload_n hx hb d_7_11_23 rfl (lv_at hl 0 rfl) ?_
    exact q_retl C0 V (⟨rfl, trivial⟩) d_7_11_24
  ·
    have b21 : q_F (a15.toInt ≠ 0) := (q_neI c19)
    refine lv_lload_n hx hb d_7_11_18 rfl (lv_at hl 0 rfl) ?_
    refine lv_lneg hx hb d_7_11_19 ?_
    obtain ⟨j22, e23⟩ := q_nm (-j11 : Int64)
    refine q_tl (v := j22) e23 ?_
    refine lv_goto (tgt := 24) hx hb d_7_11_20 (by decide) ?_
    exact q_retl C0 V (⟨rfl, trivial⟩) d_7_11_24
theorem d_7_12_0 : decode prog_7_method_12_code 0 = .ok (.aload_n 0, 1) := by decide +kernel
theorem d_7_12_1 : decode prog_7_method_12_code 1 = .ok (.lload_n 1, 1) := by decide +kernel
theorem d_7_12_2 : decode prog_7_method_12_code 2 = .ok (.invokevirtual 27, 3) := by decide +kernel
theorem d_7_12_5 : decode prog_7_method_12_code 5 = .ok (.ifCond .ne 11, 3) := by decide +kernel
theorem d_7_12_16 : decode prog_7_method_12_code 16 = .ok (.aload_n 0, 1) := by decide +kernel
theorem d_7_12_17 : decode prog_7_method_12_code 17 = .ok (.lload_n 1, 1) := by decide +kernel
theorem d_7_12_18 : decode prog_7_method_12_code 18 = .ok (.invokevirtual 35, 3) := by decide +kernel
theorem d_7_12_21 : decode prog_7_method_12_code 21 = .ok (.lconst 1, 1) := by decide +kernel
theorem d_7_12_22 : decode prog_7_method_12_code 22 = .ok (.aload_n 0, 1) := by decide +kernel
theorem d_7_12_23 : decode prog_7_method_12_code 23 = .ok (.getfield 7, 3) := by decide +kernel
theorem d_7_12_26 : decode prog_7_method_12_code 26 = .ok (.lshl, 1) := by decide +kernel
theorem d_7_12_27 : decode prog_7_method_12_code 27 = .ok (.lor, 1) := by decide +kernel
theorem d_7_12_28 : decode prog_7_method_12_code 28 = .ok (.lreturn, 1) := by decide +kernel
theorem d_7_12_8 : decode prog_7_method_12_code 8 = .ok (.aload_n 0, 1) := by decide +kernel
theorem d_7_12_9 : decode prog_7_method_12_code 9 = .ok (.lload_n 1, 1) := by decide +kernel
theorem d_7_12_10 : decode prog_7_method_12_code 10 = .ok (.invokevirtual 35, 3) := by decide +kernel
theorem d_7_12_13 : decode prog_7_method_12_code 13 = .ok (.goto 15, 3) := by decide +kernel
def y_Flo_number : MethodName := ⟨"NumberHouse$Floats", "number", "(J)J"⟩
set_option maxRecDepth 100000 in
set_option maxHeartbeats 4000000 in
theorem T_Flo_number (l : Launch) (D : va_G) (g : Nat → ClassId) (q : Nat → Nat) (ws : va_W) (k1 : Nat) (A B C : Int32) (hB1 : q_isFlo (nsh g q) q k1 A B C) (x2 : Int64) (hI : q_I (nsh g q) q ws) : q_mL l y_Flo_number prog_7_method_12_code 3 2 0 0 D g [.ref (q k1), .long x2] ws (fun r u => ws = u ∧ True) := by
  intro sz
  refine q_into (by decide) (Nat.le_of_ble_eq_true rfl) ?_
  intro p e s m below meth c ls hsz C0 V hl
  have hx := C0.1
  have hb := C0.2.1
  have hfk10 : q_F (23 ≤ A.toInt ∧ A.toInt ≤ 52) := hB1.2.1
  have hfk11 : q_F (150 ≤ B.toInt ∧ B.toInt ≤ 1075) := hB1.2.2.1
  have hfk12 : q_F (255 ≤ C.toInt ∧ C.toInt ≤ 2047) := hB1.2.2.2.1
  have hl : lv_has ls 3 [(0, .ref (q k1)), (1, .long x2)] := hl
  refine lv_aload_n hx hb d_7_12_0 rfl (lv_at hl 0 rfl) ?_
  refine lv_lload_n hx hb d_7_12_1 rfl (lv_at hl 1 rfl) ?_
  obtain ⟨y2, y3, y4, hO1⟩ := n_flO hI hB1
  refine q_goi V (q_runV (As := [.long x2]) (rest := []) (d := 1) (mc := 0) (ms := 0) (ci := 6) C0 V rfl LV_Flo_27 (T_Flo_exponent l D g q ws k1 A B C hB1 x2 hI   _) rfl rfl hO1 rfl hl.1 rfl (Nat.le_of_ble_eq_true rfl) ⟨by decide, by decide⟩ ⟨Nat.le_of_ble_eq_true rfl, Nat.le_of_ble_eq_true rfl⟩ d_7_12_2) (fun a7 u5 H locs hp6 V => ?_)
  obtain ⟨rfl, b8, b9⟩ := hp6
  replace b8 : q_F (0 ≤ a7.toInt) := b8
  replace b9 : q_F (a7.toInt ≤ C.toInt) := b9
  refine lv_if_ne (tgt := 16) hx hb d_7_12_5 (by decide) (fun c11 => ?_) (fun c11 => ?_)
  ·
    have b12 : q_F (a7.toInt ≠ 0) := (q_neI c11)
    refine lv_aload_n hx hb d_7_12_16 rfl (lv_at hl 0 rfl) ?_
    refine lv_lload_n hx hb d_7_12_17 rfl (lv_at hl 1 rfl) ?_
    refine q_gol V (q_runV (As := [.long x2]) (rest := []) (d := 1) (mc := 0) (ms := 0) (ci := 6) C0 V rfl LV_Flo_35 (T_Flo_fraction l D g q ws k1 A B C hB1 x2 hI   _) rfl rfl hO1 rfl hl.1 rfl (Nat.le_of_ble_eq_true rfl) ⟨by decide, by decide⟩ ⟨Nat.le_of_ble_eq_true rfl, Nat.le_of_ble_eq_true rfl⟩ d_7_12_18) (fun j15 u13 H locs hp14 V => ?_)
    obtain ⟨rfl, -⟩ := hp14
    refine lv_lconst (v := 1) hx hb d_7_12_21 (by decide) ?_
    refine lv_aload_n hx hb d_7_12_22 rfl (lv_at hl 0 rfl) ?_
    refine q_get (ci := 6) (j := 0) (v := .int A) C0 V i_Flo rfl rfl hO1 (by decide) w_231 rfl d_7_12_23 ?_
    refine lv_lshl hx hb d_7_12_26 rfl ?_
    obtain ⟨j17, e18⟩ := q_nm ((1 : Int64) <<< (A.toInt64 &&& 63) : Int64)
    refine q_tl (v := j17) e18 ?_
    refine lv_lor hx hb d_7_12_27 ?_
    obtain ⟨j19, e20⟩ := q_nm (j15 ||| j17 : Int64)
    refine q_tl (v := j19) e20 ?_
    exact q_retl C0 V (⟨rfl, trivial⟩) d_7_12_28
  ·
    have b21 : q_F (a7.toInt = 0) := (q_eqI c11)
    refine lv_aload_n hx hb d_7_12_8 rfl (lv_at hl 0 rfl) ?_
    refine lv_lload_n hx hb d_7_12_9 rfl (lv_at hl 1 rfl) ?_
    refine q_gol V (q_runV (As := [.long x2]) (rest := []) (d := 1) (mc := 0) (ms := 0) (ci := 6) C0 V rfl LV_Flo_35 (T_Flo_fraction l D g q ws k1 A B C hB1 x2 hI   _) rfl rfl hO1 rfl hl.1 rfl (Nat.le_of_ble_eq_true rfl) ⟨by decide, by decide⟩ ⟨Nat.le_of_ble_eq_true rfl, Nat.le_of_ble_eq_true rfl⟩ d_7_12_10) (fun j24 u22 H locs hp23 V => ?_)
    obtain ⟨rfl, -⟩ := hp23
    refine lv_goto (tgt := 28) hx hb d_7_12_13 (by decide) ?_
    exact q_retl C0 V (⟨rfl, trivial⟩) d_7_12_28
theorem d_7_13_0 : decode prog_7_method_13_code 0 = .ok (.aload_n 0, 1) := by decide +kernel
theorem d_7_13_1 : decode prog_7_method_13_code 1 = .ok (.lload_n 1, 1) := by decide +kernel
theorem d_7_13_2 : decode prog_7_method_13_code 2 = .ok (.invokevirtual 27, 3) := by decide +kernel
theorem d_7_13_5 : decode prog_7_method_13_code 5 = .ok (.iconst 1, 1) := by decide +kernel
theorem d_7_13_6 : decode prog_7_method_13_code 6 = .ok (.invokestatic 46, 3) := by decide +kernel
set_option maxRecDepth 100000 in
theorem w_802 : (Cond.methodLink "NumberHouse$Floats" (46 : Nat) ({ cls := "java/lang/Math", name := "max", desc := "(II)I" } : MethodName)) ∈ q_tbl := q_of4 82 rfl (by decide +kernel)
theorem d_7_13_9 : decode prog_7_method_13_code 9 = .ok (.aload_n 0, 1) := by decide +kernel
theorem d_7_13_10 : decode prog_7_method_13_code 10 = .ok (.getfield 13, 3) := by decide +kernel
theorem d_7_13_13 : decode prog_7_method_13_code 13 = .ok (.isub, 1) := by decide +kernel
theorem d_7_13_14 : decode prog_7_method_13_code 14 = .ok (.ireturn, 1) := by decide +kernel
def y_Flo_power : MethodName := ⟨"NumberHouse$Floats", "power", "(J)I"⟩
set_option maxRecDepth 100000 in
set_option maxHeartbeats 4000000 in
theorem T_Flo_power (l : Launch) (D : va_G) (g : Nat → ClassId) (q : Nat → Nat) (ws : va_W) (k1 : Nat) (A B C : Int32) (hB1 : q_isFlo (nsh g q) q k1 A B C) (x2 : Int64) (hI : q_I (nsh g q) q ws) : q_mI l y_Flo_power prog_7_method_13_code 3 (.int) 2 0 0 D g [.ref (q k1), .long x2] ws (fun r u => ws = u ∧ (0 ≤ r.toInt + 1074) ∧ (r.toInt + 150 ≤ C.toInt)) := by
  intro sz
  refine q_into (by decide) (Nat.le_of_ble_eq_true rfl) ?_
  intro p e s m below meth c ls hsz C0 V hl
  have hx := C0.1
  have hb := C0.2.1
  have hfk10 : q_F (23 ≤ A.toInt ∧ A.toInt ≤ 52) := hB1.2.1
  have hfk11 : q_F (150 ≤ B.toInt ∧ B.toInt ≤ 1075) := hB1.2.2.1
  have hfk12 : q_F (255 ≤ C.toInt ∧ C.toInt ≤ 2047) := hB1.2.2.2.1
  have hl : lv_has ls 3 [(0, .ref (q k1)), (1, .long x2)] := hl
  refine lv_aload_n hx hb d_7_13_0 rfl (lv_at hl 0 rfl) ?_
  refine lv_lload_n hx hb d_7_13_1 rfl (lv_at hl 1 rfl) ?_
  obtain ⟨y2, y3, y4, hO1⟩ := n_flO hI hB1
  refine q_goi V (q_runV (As := [.long x2]) (rest := []) (d := 1) (mc := 0) (ms := 0) (ci := 6) C0 V rfl LV_Flo_27 (T_Flo_exponent l D g q ws k1 A B C hB1 x2 hI   _) rfl rfl hO1 rfl hl.1 rfl (Nat.le_of_ble_eq_true rfl) ⟨by decide, by decide⟩ ⟨Nat.le_of_ble_eq_true rfl, Nat.le_of_ble_eq_true rfl⟩ d_7_13_2) (fun a7 u5 H locs hp6 V => ?_)
  obtain ⟨rfl, b8, b9⟩ := hp6
  replace b8 : q_F (0 ≤ a7.toInt) := b8
  replace b9 : q_F (a7.toInt ≤ C.toInt) := b9
  refine lv_iconst (v := 1) hx hb d_7_13_5 (by decide) ?_
  refine q_max C0 hl.1 rfl w_802 w_803 w_7 w_804 ⟨Nat.le_of_ble_eq_true rfl, Nat.le_of_ble_eq_true rfl⟩ ⟨Nat.le_of_ble_eq_true rfl, Nat.le_of_ble_eq_true rfl⟩ d_7_13_6 ?_
  obtain ⟨a11, e12⟩ := q_nm (if a7 < 1 then 1 else a7 : Int32)
  refine q_ti (v := a11) e12 ?_
  have b13 : q_F (a7.toInt ≤ a11.toInt ∧ 1 ≤ a11.toInt ∧ (a11.toInt = a7.toInt ∨ a11.toInt = 1)) := (by rw [← e12]; show a7.toInt ≤ (if a7 < 1 then 1 else a7 : Int32).toInt ∧ 1 ≤ (if a7 < 1 then 1 else a7 : Int32).toInt ∧ ((if a7 < 1 then 1 else a7 : Int32).toInt = a7.toInt ∨ (if a7 < 1 then 1 else a7 : Int32).toInt = 1); exact (by have y1 : (1 : Int32).toInt = 1 := rfl; have z := s_max (a := a7) (b := 1); omega))
  refine lv_aload_n hx hb d_7_13_9 rfl (lv_at hl 0 rfl) ?_
  refine q_get (ci := 6) (j := 1) (v := .int B) C0 V i_Flo rfl rfl hO1 (by decide) w_233 rfl d_7_13_10 ?_
  refine lv_isub hx hb d_7_13_13 ?_
  obtain ⟨a14, e15⟩ := q_nm (a11 - B : Int32)
  refine q_ti (v := a14) e15 ?_
  have b16 : q_F (a14.toInt = a11.toInt - B.toInt) := (by rw [← e15]; show (a11 - B : Int32).toInt = a11.toInt - B.toInt; exact q_subI (x := a11.toInt) (y := B.toInt) rfl rfl (by have t1 : 150 ≤ B.toInt ∧ B.toInt ≤ 1075 := hfk11; have t2 : a7.toInt ≤ a11.toInt ∧ 1 ≤ a11.toInt ∧ (a11.toInt = a7.toInt ∨ a11.toInt = 1) := b13; have _ := q_lo32 (x := a11); have _ := q_hi32 (x := a11); omega) (by have t1 : 150 ≤ B.toInt ∧ B.toInt ≤ 1075 := hfk11; have t2 : a7.toInt ≤ a11.toInt ∧ 1 ≤ a11.toInt ∧ (a11.toInt = a7.toInt ∨ a11.toInt = 1) := b13; have _ := q_lo32 (x := a11); have _ := q_hi32 (x := a11); omega))
  exact q_reti C0 V (⟨rfl, (show 0 ≤ a14.toInt + 1074 from (by have t1 : 150 ≤ B.toInt ∧ B.toInt ≤ 1075 := hfk11; have t2 : a7.toInt ≤ a11.toInt ∧ 1 ≤ a11.toInt ∧ (a11.toInt = a7.toInt ∨ a11.toInt = 1) := b13; have t3 : a14.toInt = a11.toInt - B.toInt := b16; omega)), (show a14.toInt + 150 ≤ C.toInt from (by have t1 : 150 ≤ B.toInt ∧ B.toInt ≤ 1075 := hfk11; have t2 : 255 ≤ C.toInt ∧ C.toInt ≤ 2047 := hfk12; have t3 : a7.toInt ≤ C.toInt := b9; have t4 : a7.toInt ≤ a11.toInt ∧ 1 ≤ a11.toInt ∧ (a11.toInt = a7.toInt ∨ a11.toInt = 1) := b13; have t5 : a14.toInt = a11.toInt - B.toInt := b16; omega))⟩) d_7_13_14
theorem d_7_14_0 : decode prog_7_method_14_code 0 = .ok (.aload_n 0, 1) := by decide +kernel
theorem d_7_14_1 : decode prog_7_method_14_code 1 = .ok (.lload_n 1, 1) := by decide +kernel
theorem d_7_14_2 : decode prog_7_method_14_code 2 = .ok (.invokevirtual 52, 3) := by decide +kernel
set_option maxRecDepth 100000 in
theorem w_1179 : (Cond.code ({ cls := "NumberHouse$Floats", name := "power", desc := "(J)I" } : MethodName) prog_7_method_13_code (3 : Nat) (some .int)) ∈ q_tbl := q_of5 219 rfl (by decide +kernel)
set_option maxRecDepth 100000 in
theorem w_1176 : (Cond.methodLink "NumberHouse$Floats" (52 : Nat) ({ cls := "NumberHouse$Floats", name := "power", desc := "(J)I" } : MethodName)) ∈ q_tbl := q_of5 216 rfl (by decide +kernel)
set_option maxRecDepth 100000 in
theorem w_1177 : (Cond.instanceMethod ({ cls := "NumberHouse$Floats", name := "power", desc := "(J)I" } : MethodName)) ∈ q_tbl := q_of5 217 rfl (by decide +kernel)
set_option maxRecDepth 100000 in
theorem w_1178 : (Cond.selects "NumberHouse$Floats" ({ cls := "NumberHouse$Floats", name := "power", desc := "(J)I" } : MethodName) ({ cls := "NumberHouse$Floats", name := "power", desc := "(J)I" } : MethodName)) ∈ q_tbl := q_of5 218 rfl (by decide +kernel)
theorem LV_Flo_52 : q_LV "NumberHouse$Floats" 52 y_Flo_power prog_7_method_13_code 3 (some .int) 1 := ⟨w_1179, w_8, w_1176, w_1177, w_1178, ⟨by decide, by decide, by decide +kernel⟩⟩
theorem d_7_14_5 : decode prog_7_method_14_code 5 = .ok (.istore_n 3, 1) := by decide +kernel
theorem d_7_14_6 : decode prog_7_method_14_code 6 = .ok (.aload_n 0, 1) := by decide +kernel
theorem d_7_14_7 : decode prog_7_method_14_code 7 = .ok (.getfield 19, 3) := by decide +kernel
theorem d_7_14_10 : decode prog_7_method_14_code 10 = .ok (.getfield 55, 3) := by decide +kernel
set_option maxRecDepth 100000 in
theorem w_113 : (Cond.fieldLink "NumberHouse$Floats" (55 : Nat) "NumberHouse$Mill" "number" "LNumberHouse$Big;") ∈ q_tbl := q_of1 113 rfl (by decide +kernel)
theorem d_7_14_13 : decode prog_7_method_14_code 13 = .ok (.aload_n 0, 1) := by decide +kernel
theorem d_7_14_14 : decode prog_7_method_14_code 14 = .ok (.lload_n 1, 1) := by decide +kernel
theorem d_7_14_15 : decode prog_7_method_14_code 15 = .ok (.invokevirtual 61, 3) := by decide +kernel
set_option maxRecDepth 100000 in
theorem w_1183 : (Cond.code ({ cls := "NumberHouse$Floats", name := "number", desc := "(J)J" } : MethodName) prog_7_method_12_code (3 : Nat) (some .long)) ∈ q_tbl := q_of5 223 rfl (by decide +kernel)
set_option maxRecDepth 100000 in
theorem w_1180 : (Cond.methodLink "NumberHouse$Floats" (61 : Nat) ({ cls := "NumberHouse$Floats", name := "number", desc := "(J)J" } : MethodName)) ∈ q_tbl := q_of5 220 rfl (by decide +kernel)
set_option maxRecDepth 100000 in
theorem w_1181 : (Cond.instanceMethod ({ cls := "NumberHouse$Floats", name := "number", desc := "(J)J" } : MethodName)) ∈ q_tbl := q_of5 221 rfl (by decide +kernel)
set_option maxRecDepth 100000 in
theorem w_1182 : (Cond.selects "NumberHouse$Floats" ({ cls := "NumberHouse$Floats", name := "number", desc := "(J)J" } : MethodName) ({ cls := "NumberHouse$Floats", name := "number", desc := "(J)J" } : MethodName)) ∈ q_tbl := q_of5 222 rfl (by decide +kernel)
theorem LV_Flo_61 : q_LV "NumberHouse$Floats" 61 y_Flo_number prog_7_method_12_code 3 (some .long) 1 := ⟨w_1183, w_8, w_1180, w_1181, w_1182, ⟨by decide, by decide, by decide +kernel⟩⟩
theorem d_7_14_18 : decode prog_7_method_14_code 18 = .ok (.invokevirtual 63, 3) := by decide +kernel
set_option maxRecDepth 100000 in
theorem w_801 : (Cond.methodLink "NumberHouse$Floats" (63 : Nat) ({ cls := "NumberHouse$Big", name := "setLong", desc := "(J)V" } : MethodName)) ∈ q_tbl := q_of4 81 rfl (by decide +kernel)
theorem LV_Flo_63 : q_LV "NumberHouse$Floats" 63 y_Big_setLong prog_2_method_3_code 6 none 1 := ⟨w_193, w_4, w_801, w_191, w_192, ⟨by decide, by decide, by decide +kernel⟩⟩
theorem d_7_14_21 : decode prog_7_method_14_code 21 = .ok (.aload_n 0, 1) := by decide +kernel
theorem d_7_14_22 : decode prog_7_method_14_code 22 = .ok (.getfield 19, 3) := by decide +kernel
theorem d_7_14_25 : decode prog_7_method_14_code 25 = .ok (.getfield 55, 3) := by decide +kernel
theorem d_7_14_28 : decode prog_7_method_14_code 28 = .ok (.iload_n 3, 1) := by decide +kernel
theorem d_7_14_29 : decode prog_7_method_14_code 29 = .ok (.invokevirtual 69, 3) := by decide +kernel
set_option maxRecDepth 100000 in
theorem w_805 : (Cond.methodLink "NumberHouse$Floats" (69 : Nat) ({ cls := "NumberHouse$Big", name := "shiftLeft", desc := "(I)V" } : MethodName)) ∈ q_tbl := q_of4 85 rfl (by decide +kernel)
theorem LV_Flo_69 : q_LV "NumberHouse$Floats" 69 y_Big_shiftLeft prog_2_method_32_code 6 none 1 := ⟨w_808, w_4, w_805, w_806, w_807, ⟨by decide, by decide, by decide +kernel⟩⟩
theorem d_7_14_32 : decode prog_7_method_14_code 32 = .ok (.aload_n 0, 1) := by decide +kernel
theorem d_7_14_33 : decode prog_7_method_14_code 33 = .ok (.getfield 19, 3) := by decide +kernel
theorem d_7_14_36 : decode prog_7_method_14_code 36 = .ok (.getfield 55, 3) := by decide +kernel
theorem d_7_14_39 : decode prog_7_method_14_code 39 = .ok (.iload_n 3, 1) := by decide +kernel
theorem d_7_14_40 : decode prog_7_method_14_code 40 = .ok (.ineg, 1) := by decide +kernel
theorem d_7_14_41 : decode prog_7_method_14_code 41 = .ok (.invokevirtual 73, 3) := by decide +kernel
set_option maxRecDepth 100000 in
theorem w_1190 : (Cond.methodLink "NumberHouse$Floats" (73 : Nat) ({ cls := "NumberHouse$Big", name := "shiftRight", desc := "(I)Z" } : MethodName)) ∈ q_tbl := q_of5 230 rfl (by decide +kernel)
theorem LV_Flo_73 : q_LV "NumberHouse$Floats" 73 y_Big_shiftRight prog_2_method_33_code 7 (some .boolean) 1 := ⟨w_1062, w_4, w_1190, w_1060, w_1061, ⟨by decide, by decide, by decide +kernel⟩⟩
theorem d_7_14_44 : decode prog_7_method_14_code 44 = .ok (.pop, 1) := by decide +kernel
theorem d_7_14_45 : decode prog_7_method_14_code 45 = .ok (.aload_n 0, 1) := by decide +kernel
theorem d_7_14_46 : decode prog_7_method_14_code 46 = .ok (.getfield 19, 3) := by decide +kernel
theorem d_7_14_49 : decode prog_7_method_14_code 49 = .ok (.getfield 55, 3) := by decide +kernel
theorem d_7_14_52 : decode prog_7_method_14_code 52 = .ok (.aload_n 0, 1) := by decide +kernel
theorem d_7_14_53 : decode prog_7_method_14_code 53 = .ok (.getfield 19, 3) := by decide +kernel
theorem d_7_14_56 : decode prog_7_method_14_code 56 = .ok (.getfield 55, 3) := by decide +kernel
theorem d_7_14_59 : decode prog_7_method_14_code 59 = .ok (.getfield 77, 3) := by decide +kernel
set_option maxRecDepth 100000 in
theorem w_92 : (Cond.fieldLink "NumberHouse$Floats" (77 : Nat) "NumberHouse$Big" "size" "I") ∈ q_tbl := q_of1 92 rfl (by decide +kernel)
theorem d_7_14_62 : decode prog_7_method_14_code 62 = .ok (.ifCond .le 15, 3) := by decide +kernel
theorem d_7_14_77 : decode prog_7_method_14_code 77 = .ok (.iconst 0, 1) := by decide +kernel
theorem d_7_14_78 : decode prog_7_method_14_code 78 = .ok (.putfield 80, 3) := by decide +kernel
set_option maxRecDepth 100000 in
theorem w_99 : (Cond.fieldLink "NumberHouse$Floats" (80 : Nat) "NumberHouse$Big" "negative" "Z") ∈ q_tbl := q_of1 99 rfl (by decide +kernel)
theorem d_7_14_81 : decode prog_7_method_14_code 81 = .ok (.return_, 1) := by decide +kernel
theorem d_7_14_65 : decode prog_7_method_14_code 65 = .ok (.aload_n 0, 1) := by decide +kernel
theorem d_7_14_66 : decode prog_7_method_14_code 66 = .ok (.lload_n 1, 1) := by decide +kernel
theorem d_7_14_67 : decode prog_7_method_14_code 67 = .ok (.invokevirtual 43, 3) := by decide +kernel
theorem d_7_14_70 : decode prog_7_method_14_code 70 = .ok (.ifCond .eq 7, 3) := by decide +kernel
theorem d_7_14_73 : decode prog_7_method_14_code 73 = .ok (.iconst 1, 1) := by decide +kernel
theorem d_7_14_74 : decode prog_7_method_14_code 74 = .ok (.goto 4, 3) := by decide +kernel
def y_Flo_towardsZero : MethodName := ⟨"NumberHouse$Floats", "towardsZero", "(J)V"⟩
set_option maxRecDepth 100000 in
set_option maxHeartbeats 4000000 in
theorem T_Flo_towardsZero (l : Launch) (D : va_G) (g : Nat → ClassId) (q : Nat → Nat) (ws : va_W) (k1 : Nat) (A B C : Int32) (hB1 : q_isFlo (nsh g q) q k1 A B C) (x2 : Int64) (hI : q_I (nsh g q) q ws) : q_mV l y_Flo_towardsZero prog_7_method_14_code 4 4 0 0 D g [.ref (q k1), .long x2] ws (fun u => q_I (nsh g q) q u ∧ q_un ws u [10, 11] ∧ True) := by
  intro sz
  refine q_into (by decide) (Nat.le_of_ble_eq_true rfl) ?_
  intro p e s m below meth c ls hsz C0 V hl
  have hx := C0.1
  have hb := C0.2.1
  have hfk10 : q_F (23 ≤ A.toInt ∧ A.toInt ≤ 52) := hB1.2.1
  have hfk11 : q_F (150 ≤ B.toInt ∧ B.toInt ≤ 1075) := hB1.2.2.1
  have hfk12 : q_F (255 ≤ C.toInt ∧ C.toInt ≤ 2047) := hB1.2.2.2.1
  have hF : q_un ws ws [10, 11] := q_u0
  have hl : lv_has ls 4 [(0, .ref (q k1)), (1, .long x2)] := hl
  refine lv_aload_n hx hb d_7_14_0 rfl (lv_at hl 0 rfl) ?_
  refine lv_lload_n hx hb d_7_14_1 rfl (lv_at hl 1 rfl) ?_
  obtain ⟨y2, y3, y4, hO1⟩ := n_flO hI hB1
  refine q_goi V (q_runV (As := [.long x2]) (rest := []) (d := 2) (mc := 0) (ms := 0) (ci := 6) C0 V rfl LV_Flo_52 (T_Flo_power l D g q ws k1 A B C hB1 x2 hI   _) rfl rfl hO1 rfl hl.1 rfl (Nat.le_of_ble_eq_true rfl) ⟨by decide, by decide⟩ ⟨Nat.le_of_ble_eq_true rfl, Nat.le_of_ble_eq_true rfl⟩ d_7_14_2) (fun a7 u5 H locs hp6 V => ?_)
  obtain ⟨rfl, b8, b9⟩ := hp6
  replace b8 : q_F (0 ≤ a7.toInt + 1074) := b8
  replace b9 : q_F (a7.toInt + 150 ≤ C.toInt) := b9
  refine lv_istore_n (lv' := [(3, .int a7), (0, .ref (q k1)), (1, .long x2)]) hx hb d_7_14_5 rfl hl (by decide) rfl (fun ls hl => ?_)
  refine lv_aload_n hx hb d_7_14_6 rfl (lv_at hl 1 rfl) ?_
  refine q_get (ci := 6) (j := 5) (v := .ref (q 9)) C0 V i_Flo rfl rfl hO1 (by decide) w_241 rfl d_7_14_7 ?_
  have hO11 := n_o9 hI
  refine q_get (ci := 4) (j := 0) (v := .ref (q 10)) C0 V i_Mil rfl rfl hO11 (by decide) w_113 rfl d_7_14_10 ?_
  refine lv_aload_n hx hb d_7_14_13 rfl (lv_at hl 1 rfl) ?_
  refine lv_lload_n hx hb d_7_14_14 rfl (lv_at hl 2 rfl) ?_
  refine q_gol V (q_runV (As := [.long x2]) (rest := [.ref (q 10)]) (d := 2) (mc := 0) (ms := 0) (ci := 6) C0 V rfl LV_Flo_61 (T_Flo_number l D g q ws k1 A B C hB1 x2 hI   _) rfl rfl hO1 rfl hl.1 rfl (Nat.le_of_ble_eq_true rfl) ⟨by decide, by decide⟩ ⟨Nat.le_of_ble_eq_true rfl, Nat.le_of_ble_eq_true rfl⟩ d_7_14_15) (fun j14 u12 H locs hp13 V => ?_)
  obtain ⟨rfl, -⟩ := hp13
  obtain ⟨y17, y18, hO16, b19, b20⟩ := q_bigO hI (n_b10 g q)
  replace b19 : q_F (0 ≤ y17.toInt ∧ y17.toInt ≤ 220) := b19
  replace b20 : q_F (0 ≤ y18.toInt ∧ y18.toInt ≤ 1) := b20
  refine q_gov V (q_runV (As := [.long j14]) (rest := []) (d := 2) (mc := 0) (ms := 0) (ci := 2) C0 V rfl LV_Flo_63 (S_Big_setLong l D g (nsh g q) q ws 10 220 (n_b10 g q) j14 hI   _) rfl rfl hO16 rfl hl.1 rfl (Nat.le_of_ble_eq_true rfl) ⟨by decide, by decide⟩ ⟨Nat.le_of_ble_eq_true rfl, Nat.le_of_ble_eq_true rfl⟩ d_7_14_18) (fun u21 H locs hp22 V => ?_)
  obtain ⟨_, hI, hu23⟩ := hp22
  replace hO1 := (hu23 _ (by have z0 := hB1.2.2.2.2; simp only [List.mem_cons, List.not_mem_nil, or_false, not_or]; omega)).trans hO1
  replace hO11 := (hu23 _ (by decide)).trans hO11
  replace hF := q_uc hF hu23 (by simp)
  refine lv_aload_n hx hb d_7_14_21 rfl (lv_at hl 1 rfl) ?_
  refine q_get (ci := 6) (j := 5) (v := .ref (q 9)) C0 V i_Flo rfl rfl hO1 (by decide) w_241 rfl d_7_14_22 ?_
  refine q_get (ci := 4) (j := 0) (v := .ref (q 10)) C0 V i_Mil rfl rfl hO11 (by decide) w_113 rfl d_7_14_25 ?_
  refine lv_iload_n hx hb d_7_14_28 rfl (lv_at hl 0 rfl) ?_
  obtain ⟨y25, y26, hO24, b27, b28⟩ := q_bigO hI (n_b10 g q)
  replace b27 : q_F (0 ≤ y25.toInt ∧ y25.toInt ≤ 220) := b27
  replace b28 : q_F (0 ≤ y26.toInt ∧ y26.toInt ≤ 1) := b28
  refine q_gov V (q_runV (As := [.int a7]) (rest := []) (d := 3) (mc := 0) (ms := 0) (ci := 2) C0 V rfl LV_Flo_69 (T_Big_shiftLeft l D g q u21 10 220 (n_b10 g q) (by decide) a7 hI   _) rfl rfl hO24 rfl hl.1 rfl (Nat.le_of_ble_eq_true rfl) ⟨by decide, by decide⟩ ⟨Nat.le_of_ble_eq_true rfl, Nat.le_of_ble_eq_true rfl⟩ d_7_14_29) (fun u29 H locs hp30 V => ?_)
  obtain ⟨hI, hu32, -⟩ := hp30
  replace hO1 := (hu32 _ (by have z0 := hB1.2.2.2.2; simp only [List.mem_cons, List.not_mem_nil, or_false, not_or]; omega)).trans hO1
  replace hO11 := (hu32 _ (by decide)).trans hO11
  replace hF := q_uc hF hu32 (by simp)
  refine lv_aload_n hx hb d_7_14_32 rfl (lv_at hl 1 rfl) ?_
  refine q_get (ci := 6) (j := 5) (v := .ref (q 9)) C0 V i_Flo rfl rfl hO1 (by decide) w_241 rfl d_7_14_33 ?_
  refine q_get (ci := 4) (j := 0) (v := .ref (q 10)) C0 V i_Mil rfl rfl hO11 (by decide) w_113 rfl d_7_14_36 ?_
  refine lv_iload_n hx hb d_7_14_39 rfl (lv_at hl 0 rfl) ?_
  refine lv_ineg hx hb d_7_14_40 ?_
  obtain ⟨a33, e34⟩ := q_nm (-a7 : Int32)
  refine q_ti (v := a33) e34 ?_
  have b35 : q_F (a33.toInt = -a7.toInt) := (by rw [← e34]; show (-a7 : Int32).toInt = -a7.toInt; exact q_negI rfl (by have t1 : 0 ≤ a7.toInt + 1074 := b8; omega))
  obtain ⟨y37, y38, hO36, b39, b40⟩ := q_bigO hI (n_b10 g q)
  replace b39 : q_F (0 ≤ y37.toInt ∧ y37.toInt ≤ 220) := b39
  replace b40 : q_F (0 ≤ y38.toInt ∧ y38.toInt ≤ 1) := b40
  refine q_goi V (q_runV (As := [.int a33]) (rest := []) (d := 3) (mc := 0) (ms := 0) (ci := 2) C0 V rfl LV_Flo_73 (T_Big_shiftRight l D g q u29 10 220 (n_b10 g q) (by decide) a33 hI   _) rfl rfl hO36 rfl hl.1 rfl (Nat.le_of_ble_eq_true rfl) ⟨by decide, by decide⟩ ⟨Nat.le_of_ble_eq_true rfl, Nat.le_of_ble_eq_true rfl⟩ d_7_14_41) (fun a43 u41 H locs hp42 V => ?_)
  obtain ⟨hI, hu48, b44, b45, b46⟩ := hp42
  replace b44 : q_F (0 ≤ a43.toInt) := b44
  replace b45 : q_F (a43.toInt ≤ 1) := b45
  replace b46 : q_F (a43.toInt ≤ 220) := b46
  replace hO1 := (hu48 _ (by have z0 := hB1.2.2.2.2; simp only [List.mem_cons, List.not_mem_nil, or_false, not_or]; omega)).trans hO1
  replace hO11 := (hu48 _ (by decide)).trans hO11
  replace hF := q_uc hF hu48 (by simp)
  refine lv_pop hx hb d_7_14_44 rfl ?_
  refine lv_aload_n hx hb d_7_14_45 rfl (lv_at hl 1 rfl) ?_
  refine q_get (ci := 6) (j := 5) (v := .ref (q 9)) C0 V i_Flo rfl rfl hO1 (by decide) w_241 rfl d_7_14_46 ?_
  refine q_get (ci := 4) (j := 0) (v := .ref (q 10)) C0 V i_Mil rfl rfl hO11 (by decide) w_113 rfl d_7_14_49 ?_
  refine lv_aload_n hx hb d_7_14_52 rfl (lv_at hl 1 rfl) ?_
  refine q_get (ci := 6) (j := 5) (v := .ref (q 9)) C0 V i_Flo rfl rfl hO1 (by decide) w_241 rfl d_7_14_53 ?_
  refine q_get (ci := 4) (j := 0) (v := .ref (q 10)) C0 V i_Mil rfl rfl hO11 (by decide) w_113 rfl d_7_14_56 ?_
  obtain ⟨y50, y51, hO49, b52, b53⟩ := q_bigO hI (n_b10 g q)
  replace b52 : q_F (0 ≤ y50.toInt ∧ y50.toInt ≤ 220) := b52
  replace b53 : q_F (0 ≤ y51.toInt ∧ y51.toInt ≤ 1) := b53
  refine q_get (ci := 2) (j := 1) (v := .int y50) C0 V i_Big rfl rfl hO49 (by decide) w_92 rfl d_7_14_59 ?_
  refine lv_if_le (tgt := 77) hx hb d_7_14_62 (by decide) (fun c54 => ?_) (fun c54 => ?_)
  ·
    have b55 : q_F (y50.toInt ≤ 0) := (q_leI c54)
    refine lv_iconst (v := 0) hx hb d_7_14_77 (by decide) ?_
    refine q_put (ci := 2) (j := 2) (v := .int 0) (ty := .boolean) C0 V i_Big o_Big n_Big rfl rfl hO49 (by decide) w_99 rfl rfl rfl rfl (Nat.le_of_ble_eq_true rfl) d_7_14_78 (fun H locs w56 hu57 hO49 V => ?_)
    replace hO49 : w56[10]? = (some (q 10, .inr (2, [.ref (q 11), .int y50, .int 0])) : Option (Nat × va_E)) := hO49
    replace hI := q_bigO' hI (n_b10 g q) hu57 hO49 ⟨(by have zR : (220 : Int32).toInt = 220 := rfl; have t1 : 0 ≤ y50.toInt ∧ y50.toInt ≤ 220 := b52; omega), (by have zR : (220 : Int32).toInt = 220 := rfl; have t1 : 0 ≤ y50.toInt ∧ y50.toInt ≤ 220 := b52; omega)⟩ ⟨(by have z9 : (0 : Int32).toInt = 0 := rfl; omega), (by have z9 : (0 : Int32).toInt = 0 := rfl; omega)⟩
    replace hO1 := (hu57 _ (by have z0 := hB1.2.2.2.2; omega)).trans hO1
    replace hO11 := (hu57 _ (by decide)).trans hO11
    replace hF := q_us hF hu57 (by simp)
    exact q_retv C0 V (⟨hI, hF, trivial⟩) d_7_14_81
  ·
    have b58 : q_F (0 < y50.toInt) := (q_nleI c54)
    refine lv_aload_n hx hb d_7_14_65 rfl (lv_at hl 1 rfl) ?_
    refine lv_lload_n hx hb d_7_14_66 rfl (lv_at hl 2 rfl) ?_
    refine q_goi V (q_runV (As := [.long x2]) (rest := [.ref (q 10)]) (d := 2) (mc := 0) (ms := 0) (ci := 6) C0 V rfl LV_Flo_43 (T_Flo_isNegative l D g q u41 k1 A B C hB1 x2 hI   _) rfl rfl hO1 rfl hl.1 rfl (Nat.le_of_ble_eq_true rfl) ⟨by decide, by decide⟩ ⟨Nat.le_of_ble_eq_true rfl, Nat.le_of_ble_eq_true rfl⟩ d_7_14_67) (fun a61 u59 H locs hp60 V => ?_)
    obtain ⟨rfl, b62, b63⟩ := hp60
    replace b62 : q_F (0 ≤ a61.toInt) := b62
    replace b63 : q_F (a61.toInt ≤ 1) := b63
    refine lv_if_eq (tgt := 77) hx hb d_7_14_70 (by decide) (fun c65 => ?_) (fun c65 => ?_)
    ·
      have b66 : q_F (a61.toInt = 0) := (q_eqI c65)
      refine lv_iconst (v := 0) hx hb d_7_14_77 (by decide) ?_
      refine q_put (ci := 2) (j := 2) (v := .int 0) (ty := .boolean) C0 V i_Big o_Big n_Big rfl rfl hO49 (by decide) w_99 rfl rfl rfl rfl (Nat.le_of_ble_eq_true rfl) d_7_14_78 (fun H locs w67 hu68 hO49 V => ?_)
      replace hO49 : w67[10]? = (some (q 10, .inr (2, [.ref (q 11), .int y50, .int 0])) : Option (Nat × va_E)) := hO49
      replace hI := q_bigO' hI (n_b10 g q) hu68 hO49 ⟨(by have zR : (220 : Int32).toInt = 220 := rfl; have t1 : 0 ≤ y50.toInt ∧ y50.toInt ≤ 220 := b52; omega), (by have zR : (220 : Int32).toInt = 220 := rfl; have t1 : 0 ≤ y50.toInt ∧ y50.toInt ≤ 220 := b52; omega)⟩ ⟨(by have z9 : (0 : Int32).toInt = 0 := rfl; omega), (by have z9 : (0 : Int32).toInt = 0 := rfl; omega)⟩
      replace hO1 := (hu68 _ (by have z0 := hB1.2.2.2.2; omega)).trans hO1
      replace hO11 := (hu68 _ (by decide)).trans hO11
      replace hF := q_us hF hu68 (by simp)
      exact q_retv C0 V (⟨hI, hF, trivial⟩) d_7_14_81
    ·
      have b69 : q_F (a61.toInt ≠ 0) := (q_neI c65)
      refine lv_iconst (v := 1) hx hb d_7_14_73 (by decide) ?_
      refine lv_goto (tgt := 78) hx hb d_7_14_74 (by decide) ?_
      refine q_put (ci := 2) (j := 2) (v := .int 1) (ty := .boolean) C0 V i_Big o_Big n_Big rfl rfl hO49 (by decide) w_99 rfl rfl rfl rfl (Nat.le_of_ble_eq_true rfl) d_7_14_78 (fun H locs w70 hu71 hO49 V => ?_)
      replace hO49 : w70[10]? = (some (q 10, .inr (2, [.ref (q 11), .int y50, .int 1])) : Option (Nat × va_E)) := hO49
      replace hI := q_bigO' hI (n_b10 g q) hu71 hO49 ⟨(by have zR : (220 : Int32).toInt = 220 := rfl; have t1 : 0 ≤ y50.toInt ∧ y50.toInt ≤ 220 := b52; omega), (by have zR : (220 : Int32).toInt = 220 := rfl; have t1 : 0 ≤ y50.toInt ∧ y50.toInt ≤ 220 := b52; omega)⟩ ⟨(by have z9 : (1 : Int32).toInt = 1 := rfl; omega), (by have z9 : (1 : Int32).toInt = 1 := rfl; omega)⟩
      replace hO1 := (hu71 _ (by have z0 := hB1.2.2.2.2; omega)).trans hO1
      replace hO11 := (hu71 _ (by decide)).trans hO11
      replace hF := q_us hF hu71 (by simp)
      exact q_retv C0 V (⟨hI, hF, trivial⟩) d_7_14_81
theorem d_7_15_0 : decode prog_7_method_15_code 0 = .ok (.aload_n 0, 1) := by decide +kernel
theorem d_7_15_1 : decode prog_7_method_15_code 1 = .ok (.lload_n 1, 1) := by decide +kernel
theorem d_7_15_2 : decode prog_7_method_15_code 2 = .ok (.invokevirtual 52, 3) := by decide +kernel
theorem d_7_15_5 : decode prog_7_method_15_code 5 = .ok (.istore_n 3, 1) := by decide +kernel
theorem d_7_15_6 : decode prog_7_method_15_code 6 = .ok (.aload_n 0, 1) := by decide +kernel
theorem d_7_15_7 : decode prog_7_method_15_code 7 = .ok (.getfield 19, 3) := by decide +kernel
theorem d_7_15_10 : decode prog_7_method_15_code 10 = .ok (.getfield 55, 3) := by decide +kernel
theorem d_7_15_13 : decode prog_7_method_15_code 13 = .ok (.astore 4, 2) := by decide +kernel
theorem d_7_15_15 : decode prog_7_method_15_code 15 = .ok (.aload 4, 2) := by decide +kernel
theorem d_7_15_17 : decode prog_7_method_15_code 17 = .ok (.aload_n 0, 1) := by decide +kernel
theorem d_7_15_18 : decode prog_7_method_15_code 18 = .ok (.lload_n 1, 1) := by decide +kernel
theorem d_7_15_19 : decode prog_7_method_15_code 19 = .ok (.invokevirtual 61, 3) := by decide +kernel
theorem d_7_15_22 : decode prog_7_method_15_code 22 = .ok (.invokevirtual 63, 3) := by decide +kernel
theorem d_7_15_25 : decode prog_7_method_15_code 25 = .ok (.aload 4, 2) := by decide +kernel
theorem d_7_15_27 : decode prog_7_method_15_code 27 = .ok (.getfield 77, 3) := by decide +kernel
theorem d_7_15_30 : decode prog_7_method_15_code 30 = .ok (.ifCond .ne 5, 3) := by decide +kernel
theorem d_7_15_35 : decode prog_7_method_15_code 35 = .ok (.aload 4, 2) := by decide +kernel
theorem d_7_15_37 : decode prog_7_method_15_code 37 = .ok (.invokevirtual 84, 3) := by decide +kernel
set_option maxRecDepth 100000 in
theorem w_751 : (Cond.methodLink "NumberHouse$Floats" (84 : Nat) ({ cls := "NumberHouse$Big", name := "lowestOne", desc := "()I" } : MethodName)) ∈ q_tbl := q_of4 31 rfl (by decide +kernel)
theorem LV_Flo_84 : q_LV "NumberHouse$Floats" 84 y_Big_lowestOne prog_2_method_15_code 2 (some .int) 0 := ⟨w_754, w_4, w_751, w_752, w_753, ⟨by decide, by decide, by decide +kernel⟩⟩
theorem d_7_15_40 : decode prog_7_method_15_code 40 = .ok (.iconst 0, 1) := by decide +kernel
theorem d_7_15_41 : decode prog_7_method_15_code 41 = .ok (.iload_n 3, 1) := by decide +kernel
theorem d_7_15_42 : decode prog_7_method_15_code 42 = .ok (.ineg, 1) := by decide +kernel
theorem d_7_15_43 : decode prog_7_method_15_code 43 = .ok (.invokestatic 46, 3) := by decide +kernel
theorem d_7_15_46 : decode prog_7_method_15_code 46 = .ok (.invokestatic 88, 3) := by decide +kernel
set_option maxRecDepth 100000 in
theorem w_1516 : (Cond.methodLink "NumberHouse$Floats" (88 : Nat) ({ cls := "java/lang/Math", name := "min", desc := "(II)I" } : MethodName)) ∈ q_tbl := q_of7 76 rfl (by decide +kernel)
theorem d_7_15_49 : decode prog_7_method_15_code 49 = .ok (.istore 5, 2) := by decide +kernel
theorem d_7_15_51 : decode prog_7_method_15_code 51 = .ok (.aload 4, 2) := by decide +kernel
theorem d_7_15_53 : decode prog_7_method_15_code 53 = .ok (.iload 5, 2) := by decide +kernel
theorem d_7_15_55 : decode prog_7_method_15_code 55 = .ok (.invokevirtual 73, 3) := by decide +kernel
theorem d_7_15_58 : decode prog_7_method_15_code 58 = .ok (.pop, 1) := by decide +kernel
theorem d_7_15_59 : decode prog_7_method_15_code 59 = .ok (.aload 4, 2) := by decide +kernel
theorem d_7_15_61 : decode prog_7_method_15_code 61 = .ok (.iload_n 3, 1) := by decide +kernel
theorem d_7_15_62 : decode prog_7_method_15_code 62 = .ok (.invokevirtual 69, 3) := by decide +kernel
theorem d_7_15_65 : decode prog_7_method_15_code 65 = .ok (.iconst 0, 1) := by decide +kernel
theorem d_7_15_66 : decode prog_7_method_15_code 66 = .ok (.iload_n 3, 1) := by decide +kernel
theorem d_7_15_67 : decode prog_7_method_15_code 67 = .ok (.ineg, 1) := by decide +kernel
theorem d_7_15_68 : decode prog_7_method_15_code 68 = .ok (.iload 5, 2) := by decide +kernel
theorem d_7_15_70 : decode prog_7_method_15_code 70 = .ok (.isub, 1) := by decide +kernel
theorem d_7_15_71 : decode prog_7_method_15_code 71 = .ok (.invokestatic 46, 3) := by decide +kernel
theorem d_7_15_74 : decode prog_7_method_15_code 74 = .ok (.istore 6, 2) := by decide +kernel
theorem d_7_15_76 : decode prog_7_method_15_code 76 = .ok (.aload 4, 2) := by decide +kernel
theorem d_7_15_78 : decode prog_7_method_15_code 78 = .ok (.iload 6, 2) := by decide +kernel
theorem d_7_15_80 : decode prog_7_method_15_code 80 = .ok (.invokevirtual 91, 3) := by decide +kernel
set_option maxRecDepth 100000 in
theorem w_797 : (Cond.code ({ cls := "NumberHouse$Big", name := "timesFive", desc := "(I)V" } : MethodName) prog_2_method_29_code (3 : Nat) (none : Option ClassFile.FieldType)) ∈ q_tbl := q_of4 77 rfl (by decide +kernel)
set_option maxRecDepth 100000 in
theorem w_794 : (Cond.methodLink "NumberHouse$Floats" (91 : Nat) ({ cls := "NumberHouse$Big", name := "timesFive", desc := "(I)V" } : MethodName)) ∈ q_tbl := q_of4 74 rfl (by decide +kernel)
set_option maxRecDepth 100000 in
theorem w_795 : (Cond.instanceMethod ({ cls := "NumberHouse$Big", name := "timesFive", desc := "(I)V" } : MethodName)) ∈ q_tbl := q_of4 75 rfl (by decide +kernel)
set_option maxRecDepth 100000 in
theorem w_796 : (Cond.selects "NumberHouse$Big" ({ cls := "NumberHouse$Big", name := "timesFive", desc := "(I)V" } : MethodName) ({ cls := "NumberHouse$Big", name := "timesFive", desc := "(I)V" } : MethodName)) ∈ q_tbl := q_of4 76 rfl (by decide +kernel)
theorem LV_Flo_91 : q_LV "NumberHouse$Floats" 91 y_Big_timesFive prog_2_method_29_code 3 none 1 := ⟨w_797, w_4, w_794, w_795, w_796, ⟨by decide, by decide, by decide +kernel⟩⟩
theorem d_7_15_83 : decode prog_7_method_15_code 83 = .ok (.aload 4, 2) := by decide +kernel
theorem d_7_15_85 : decode prog_7_method_15_code 85 = .ok (.aload_n 0, 1) := by decide +kernel
theorem d_7_15_86 : decode prog_7_method_15_code 86 = .ok (.lload_n 1, 1) := by decide +kernel
theorem d_7_15_87 : decode prog_7_method_15_code 87 = .ok (.invokevirtual 43, 3) := by decide +kernel
theorem d_7_15_90 : decode prog_7_method_15_code 90 = .ok (.putfield 80, 3) := by decide +kernel
theorem d_7_15_93 : decode prog_7_method_15_code 93 = .ok (.iload 6, 2) := by decide +kernel
theorem d_7_15_95 : decode prog_7_method_15_code 95 = .ok (.ireturn, 1) := by decide +kernel
theorem d_7_15_33 : decode prog_7_method_15_code 33 = .ok (.iconst 0, 1) := by decide +kernel
theorem d_7_15_34 : decode prog_7_method_15_code 34 = .ok (.ireturn, 1) := by decide +kernel
def y_Flo_exactly : MethodName := ⟨"NumberHouse$Floats", "exactly", "(J)I"⟩
set_option maxRecDepth 100000 in
set_option maxHeartbeats 4000000 in
theorem T_Flo_exactly (l : Launch) (D : va_G) (g : Nat → ClassId) (q : Nat → Nat) (ws : va_W) (k1 : Nat) (A B C : Int32) (hB1 : q_isFlo (nsh g q) q k1 A B C) (x2 : Int64) (hI : q_I (nsh g q) q ws) : q_mI l y_Flo_exactly prog_7_method_15_code 7 (.int) 4 0 0 D g [.ref (q k1), .long x2] ws (fun r u => q_I (nsh g q) q u ∧ q_un ws u [10, 11] ∧ (0 ≤ r.toInt) ∧ (r.toInt ≤ 1074)) := by
  intro sz
  refine q_into (by decide) (Nat.le_of_ble_eq_true rfl) ?_
  intro p e s m below meth c ls hsz C0 V hl
  have hx := C0.1
  have hb := C0.2.1
  have hfk10 : q_F (23 ≤ A.toInt ∧ A.toInt ≤ 52) := hB1.2.1
  have hfk11 : q_F (150 ≤ B.toInt ∧ B.toInt ≤ 1075) := hB1.2.2.1
  have hfk12 : q_F (255 ≤ C.toInt ∧ C.toInt ≤ 2047) := hB1.2.2.2.1
  have hF : q_un ws ws [10, 11] := q_u0
  have hl : lv_has ls 7 [(0, .ref (q k1)), (1, .long x2)] := hl
  refine lv_aload_n hx hb d_7_15_0 rfl (lv_at hl 0 rfl) ?_
  refine lv_lload_n hx hb d_7_15_1 rfl (lv_at hl 1 rfl) ?_
  obtain ⟨y2, y3, y4, hO1⟩ := n_flO hI hB1
  refine q_goi V (q_runV (As := [.long x2]) (rest := []) (d := 2) (mc := 0) (ms := 0) (ci := 6) C0 V rfl LV_Flo_52 (T_Flo_power l D g q ws k1 A B C hB1 x2 hI   _) rfl rfl hO1 rfl hl.1 rfl (Nat.le_of_ble_eq_true rfl) ⟨by decide, by decide⟩ ⟨Nat.le_of_ble_eq_true rfl, Nat.le_of_ble_eq_true rfl⟩ d_7_15_2) (fun a7 u5 H locs hp6 V => ?_)
  obtain ⟨rfl, b8, b9⟩ := hp6
  replace b8 : q_F (0 ≤ a7.toInt + 1074) := b8
  replace b9 : q_F (a7.toInt + 150 ≤ C.toInt) := b9
  refine lv_istore_n (lv' := [(3, .int a7), (0, .ref (q k1)), (1, .long x2)]) hx hb d_7_15_5 rfl hl (by decide) rfl (fun ls hl => ?_)
  refine lv_aload_n hx hb d_7_15_6 rfl (lv_at hl 1 rfl) ?_
  refine q_get (ci := 6) (j := 5) (v := .ref (q 9)) C0 V i_Flo rfl rfl hO1 (by decide) w_241 rfl d_7_15_7 ?_
  have hO11 := n_o9 hI
  refine q_get (ci := 4) (j := 0) (v := .ref (q 10)) C0 V i_Mil rfl rfl hO11 (by decide) w_113 rfl d_7_15_10 ?_
  refine lv_astore (lv' := [(4, .ref (q 10)), (3, .int a7), (0, .ref (q k1)), (1, .long x2)]) hx hb d_7_15_13 hl (by decide) rfl (fun ls hl => ?_)
  refine lv_aload hx hb d_7_15_15 (lv_at hl 0 rfl) ?_
  refine lv_aload_n hx hb d_7_15_17 rfl (lv_at hl 2 rfl) ?_
  refine lv_lload_n hx hb d_7_15_18 rfl (lv_at hl 3 rfl) ?_
  refine q_gol V (q_runV (As := [.long x2]) (rest := [.ref (q 10)]) (d := 2) (mc := 0) (ms := 0) (ci := 6) C0 V rfl LV_Flo_61 (T_Flo_number l D g q ws k1 A B C hB1 x2 hI   _) rfl rfl hO1 rfl hl.1 rfl (Nat.le_of_ble_eq_true rfl) ⟨by decide, by decide⟩ ⟨Nat.le_of_ble_eq_true rfl, Nat.le_of_ble_eq_true rfl⟩ d_7_15_19) (fun j14 u12 H locs hp13 V => ?_)
  obtain ⟨rfl, -⟩ := hp13
  obtain ⟨y17, y18, hO16, b19, b20⟩ := q_bigO hI (n_b10 g q)
  replace b19 : q_F (0 ≤ y17.toInt ∧ y17.toInt ≤ 220) := b19
  replace b20 : q_F (0 ≤ y18.toInt ∧ y18.toInt ≤ 1) := b20
  refine q_gov V (q_runV (As := [.long j14]) (rest := []) (d := 2) (mc := 0) (ms := 0) (ci := 2) C0 V rfl LV_Flo_63 (S_Big_setLong l D g (nsh g q) q ws 10 220 (n_b10 g q) j14 hI   _) rfl rfl hO16 rfl hl.1 rfl (Nat.le_of_ble_eq_true rfl) ⟨by decide, by decide⟩ ⟨Nat.le_of_ble_eq_true rfl, Nat.le_of_ble_eq_true rfl⟩ d_7_15_22) (fun u21 H locs hp22 V => ?_)
  obtain ⟨_, hI, hu23⟩ := hp22
  replace hO1 := (hu23 _ (by have z0 := hB1.2.2.2.2; simp only [List.mem_cons, List.not_mem_nil, or_false, not_or]; omega)).trans hO1
  replace hO11 := (hu23 _ (by decide)).trans hO11
  replace hF := q_uc hF hu23 (by simp)
  refine lv_aload hx hb d_7_15_25 (lv_at hl 0 rfl) ?_
  obtain ⟨y25, y26, hO24, b27, b28⟩ := q_bigO hI (n_b10 g q)
  replace b27 : q_F (0 ≤ y25.toInt ∧ y25.toInt ≤ 220) := b27
  replace b28 : q_F (0 ≤ y26.toInt ∧ y26.toInt ≤ 1) := b28
  refine q_get (ci := 2) (j := 1) (v := .int y25) C0 V i_Big rfl rfl hO24 (by decide) w_92 rfl d_7_15_27 ?_
  refine lv_if_ne (tgt := 35) hx hb d_7_15_30 (by decide) (fun c29 => ?_) (fun c29 => ?_)
  ·
    have b30 : q_F (y25.toInt ≠ 0) := (q_neI c29)
    refine lv_aload hx hb d_7_15_35 (lv_at hl 0 rfl) ?_
    refine q_goi V (q_runV (As := []) (rest := []) (d := 2) (mc := 0) (ms := 0) (ci := 2) C0 V rfl LV_Flo_84 (S_Big_lowestOne l D g (nsh g q) q u21 10 220 (n_b10 g q)  hI   _) rfl rfl hO24 rfl hl.1 rfl (Nat.le_of_ble_eq_true rfl) ⟨by decide, by decide⟩ ⟨Nat.le_of_ble_eq_true rfl, Nat.le_of_ble_eq_true rfl⟩ d_7_15_37) (fun a33 u31 H locs hp32 V => ?_)
    obtain ⟨b34, rfl⟩ := hp32
    replace b34 : q_F (0 ≤ a33.toInt ∧ a33.toInt ≤ 6852) := b34
    refine lv_iconst (v := 0) hx hb d_7_15_40 (by decide) ?_
    refine lv_iload_n hx hb d_7_15_41 rfl (lv_at hl 1 rfl) ?_
    refine lv_ineg hx hb d_7_15_42 ?_
    obtain ⟨a35, e36⟩ := q_nm (-a7 : Int32)
    refine q_ti (v := a35) e36 ?_
    have b37 : q_F (a35.toInt = -a7.toInt) := (by rw [← e36]; show (-a7 : Int32).toInt = -a7.toInt; exact q_negI rfl (by have t1 : 0 ≤ a7.toInt + 1074 := b8; omega))
    refine q_max C0 hl.1 rfl w_802 w_803 w_7 w_804 ⟨Nat.le_of_ble_eq_true rfl, Nat.le_of_ble_eq_true rfl⟩ ⟨Nat.le_of_ble_eq_true rfl, Nat.le_of_ble_eq_true rfl⟩ d_7_15_43 ?_
    obtain ⟨a38, e39⟩ := q_nm (if 0 < a35 then a35 else 0 : Int32)
    refine q_ti (v := a38) e39 ?_
    have b40 : q_F (0 ≤ a38.toInt ∧ a35.toInt ≤ a38.toInt ∧ (a38.toInt = 0 ∨ a38.toInt = a35.toInt)) := (by rw [← e39]; show 0 ≤ (if 0 < a35 then a35 else 0 : Int32).toInt ∧ a35.toInt ≤ (if 0 < a35 then a35 else 0 : Int32).toInt ∧ ((if 0 < a35 then a35 else 0 : Int32).toInt = 0 ∨ (if 0 < a35 then a35 else 0 : Int32).toInt = a35.toInt); exact (by have y0 : (0 : Int32).toInt = 0 := rfl; have z := s_max (a := 0) (b := a35); omega))
    refine q_min C0 hl.1 rfl w_1516 w_774 w_7 w_775 ⟨Nat.le_of_ble_eq_true rfl, Nat.le_of_ble_eq_true rfl⟩ ⟨Nat.le_of_ble_eq_true rfl, Nat.le_of_ble_eq_true rfl⟩ d_7_15_46 ?_
    obtain ⟨a41, e42⟩ := q_nm (if a38 < a33 then a38 else a33 : Int32)
    refine q_ti (v := a41) e42 ?_
    have b43 : q_F (a41.toInt ≤ a33.toInt ∧ a41.toInt ≤ a38.toInt ∧ (a41.toInt = a33.toInt ∨ a41.toInt = a38.toInt)) := (by rw [← e42]; show (if a38 < a33 then a38 else a33 : Int32).toInt ≤ a33.toInt ∧ (if a38 < a33 then a38 else a33 : Int32).toInt ≤ a38.toInt ∧ ((if a38 < a33 then a38 else a33 : Int32).toInt = a33.toInt ∨ (if a38 < a33 then a38 else a33 : Int32).toInt = a38.toInt); exact s_min (a := a33) (b := a38))
    refine lv_istore (lv' := [(5, .int a41), (4, .ref (q 10)), (3, .int a7), (0, .ref (q k1)), (1, .long x2)]) hx hb d_7_15_49 hl (by decide) rfl (fun ls hl => ?_)
    refine lv_aload hx hb d_7_15_51 (lv_at hl 1 rfl) ?_
    refine lv_iload hx hb d_7_15_53 (lv_at hl 0 rfl) ?_
    refine q_goi V (q_runV (As := [.int a41]) (rest := []) (d := 3) (mc := 0) (ms := 0) (ci := 2) C0 V rfl LV_Flo_73 (T_Big_shiftRight l D g q u21 10 220 (n_b10 g q) (by decide) a41 hI   _) rfl rfl hO24 rfl hl.1 rfl (Nat.le_of_ble_eq_true rfl) ⟨by decide, by decide⟩ ⟨Nat.le_of_ble_eq_true rfl, Nat.le_of_ble_eq_true rfl⟩ d_7_15_55) (fun a46 u44 H locs hp45 V => ?_)
    obtain ⟨hI, hu51, b47, b48, b49⟩ := hp45
    replace b47 : q_F (0 ≤ a46.toInt) := b47
    replace b48 : q_F (a46.toInt ≤ 1) := b48
    replace b49 : q_F (a46.toInt ≤ 220) := b49
    replace hO1 := (hu51 _ (by have z0 := hB1.2.2.2.2; simp only [List.mem_cons, List.not_mem_nil, or_false, not_or]; omega)).trans hO1
    replace hO11 := (hu51 _ (by decide)).trans hO11
    replace hF := q_uc hF hu51 (by simp)
    refine lv_pop hx hb d_7_15_58 rfl ?_
    refine lv_aload hx hb d_7_15_59 (lv_at hl 1 rfl) ?_
    refine lv_iload_n hx hb d_7_15_61 rfl (lv_at hl 2 rfl) ?_
    obtain ⟨y53, y54, hO52, b55, b56⟩ := q_bigO hI (n_b10 g q)
    replace b55 : q_F (0 ≤ y53.toInt ∧ y53.toInt ≤ 220) := b55
    replace b56 : q_F (0 ≤ y54.toInt ∧ y54.toInt ≤ 1) := b56
    refine q_gov V (q_runV (As := [.int a7]) (rest := []) (d := 3) (mc := 0) (ms := 0) (ci := 2) C0 V rfl LV_Flo_69 (T_Big_shiftLeft l D g q u44 10 220 (n_b10 g q) (by decide) a7 hI   _) rfl rfl hO52 rfl hl.1 rfl (Nat.le_of_ble_eq_true rfl) ⟨by decide, by decide⟩ ⟨Nat.le_of_ble_eq_true rfl, Nat.le_of_ble_eq_true rfl⟩ d_7_15_62) (fun u57 H locs hp58 V => ?_)
    obtain ⟨hI, hu60, -⟩ := hp58
    replace hO1 := (hu60 _ (by have z0 := hB1.2.2.2.2; simp only [List.mem_cons, List.not_mem_nil, or_false, not_or]; omega)).trans hO1
    replace hO11 := (hu60 _ (by decide)).trans hO11
    replace hF := q_uc hF hu60 (by simp)
    refine lv_iconst (v := 0) hx hb d_7_15_65 (by decide) ?_
    refine lv_iload_n hx hb d_7_15_66 rfl (lv_at hl 2 rfl) ?_
    refine lv_ineg hx hb d_7_15_67 ?_
    obtain ⟨a61, e62⟩ := q_nm (-a7 : Int32)
    refine q_ti (v := a61) e62 ?_
    have b63 : q_F (a61.toInt = -a7.toInt) := (by rw [← e62]; show (-a7 : Int32).toInt = -a7.toInt; exact q_negI rfl (by have t1 : 0 ≤ a7.toInt + 1074 := b8; omega))
    refine lv_iload hx hb d_7_15_68 (lv_at hl 0 rfl) ?_
    refine lv_isub hx hb d_7_15_70 ?_
    obtain ⟨a64, e65⟩ := q_nm (a61 - a41 : Int32)
    refine q_ti (v := a64) e65 ?_
    have b66 : q_F (a64.toInt = a61.toInt - a41.toInt) := (by rw [← e65]; show (a61 - a41 : Int32).toInt = a61.toInt - a41.toInt; exact q_subI (x := a61.toInt) (y := a41.toInt) rfl rfl (by have t1 : a7.toInt + 150 ≤ C.toInt := b9; have t2 : a35.toInt = -a7.toInt := b37; have t3 : 0 ≤ a38.toInt ∧ a35.toInt ≤ a38.toInt ∧ (a38.toInt = 0 ∨ a38.toInt = a35.toInt) := b40; have t4 : a41.toInt ≤ a33.toInt ∧ a41.toInt ≤ a38.toInt ∧ (a41.toInt = a33.toInt ∨ a41.toInt = a38.toInt) := b43; have t5 : a61.toInt = -a7.toInt := b63; have _ := q_lo32 (x := C); have _ := q_hi32 (x := C); have t6 : 0 ≤ a7.toInt + 1074 := b8; have t7 : 0 ≤ a33.toInt ∧ a33.toInt ≤ 6852 := b34; omega) (by have t1 : a7.toInt + 150 ≤ C.toInt := b9; have t2 : a35.toInt = -a7.toInt := b37; have t3 : 0 ≤ a38.toInt ∧ a35.toInt ≤ a38.toInt ∧ (a38.toInt = 0 ∨ a38.toInt = a35.toInt) := b40; have t4 : a41.toInt ≤ a33.toInt ∧ a41.toInt ≤ a38.toInt ∧ (a41.toInt = a33.toInt ∨ a41.toInt = a38.toInt) := b43; have t5 : a61.toInt = -a7.toInt := b63; have _ := q_lo32 (x := C); have _ := q_hi32 (x := C); have t6 : 0 ≤ a7.toInt + 1074 := b8; have t7 : 0 ≤ a33.toInt ∧ a33.toInt ≤ 6852 := b34; omega))
    refine q_max C0 hl.1 rfl w_802 w_803 w_7 w_804 ⟨Nat.le_of_ble_eq_true rfl, Nat.le_of_ble_eq_true rfl⟩ ⟨Nat.le_of_ble_eq_true rfl, Nat.le_of_ble_eq_true rfl⟩ d_7_15_71 ?_
    obtain ⟨a67, e68⟩ := q_nm (if 0 < a64 then a64 else 0 : Int32)
    refine q_ti (v := a67) e68 ?_
    have b69 : q_F (0 ≤ a67.toInt ∧ a64.toInt ≤ a67.toInt ∧ (a67.toInt = 0 ∨ a67.toInt = a64.toInt)) := (by rw [← e68]; show 0 ≤ (if 0 < a64 then a64 else 0 : Int32).toInt ∧ a64.toInt ≤ (if 0 < a64 then a64 else 0 : Int32).toInt ∧ ((if 0 < a64 then a64 else 0 : Int32).toInt = 0 ∨ (if 0 < a64 then a64 else 0 : Int32).toInt = a64.toInt); exact (by have y0 : (0 : Int32).toInt = 0 := rfl; have z := s_max (a := 0) (b := a64); omega))
    refine lv_istore (lv' := [(6, .int a67), (5, .int a41), (4, .ref (q 10)), (3, .int a7), (0, .ref (q k1)), (1, .long x2)]) hx hb d_7_15_74 hl (by decide) rfl (fun ls hl => ?_)
    refine lv_aload hx hb d_7_15_76 (lv_at hl 2 rfl) ?_
    refine lv_iload hx hb d_7_15_78 (lv_at hl 0 rfl) ?_
    obtain ⟨y71, y72, hO70, b73, b74⟩ := q_bigO hI (n_b10 g q)
    replace b73 : q_F (0 ≤ y71.toInt ∧ y71.toInt ≤ 220) := b73
    replace b74 : q_F (0 ≤ y72.toInt ∧ y72.toInt ≤ 1) := b74
    refine q_gov V (q_runV (As := [.int a67]) (rest := []) (d := 2) (mc := 0) (ms := 0) (ci := 2) C0 V rfl LV_Flo_91 (S_Big_timesFive l D g (nsh g q) q u57 10 220 (n_b10 g q) a67 hI   _) rfl rfl hO70 rfl hl.1 rfl (Nat.le_of_ble_eq_true rfl) ⟨by decide, by decide⟩ ⟨Nat.le_of_ble_eq_true rfl, Nat.le_of_ble_eq_true rfl⟩ d_7_15_80) (fun u75 H locs hp76 V => ?_)
    obtain ⟨_, hI, hu77⟩ := hp76
    replace hO1 := (hu77 _ (by have z0 := hB1.2.2.2.2; simp only [List.mem_cons, List.not_mem_nil, or_false, not_or]; omega)).trans hO1
    replace hO11 := (hu77 _ (by decide)).trans hO11
    replace hF := q_uc hF hu77 (by simp)
    refine lv_aload hx hb d_7_15_83 (lv_at hl 2 rfl) ?_
    refine lv_aload_n hx hb d_7_15_85 rfl (lv_at hl 4 rfl) ?_
    refine lv_lload_n hx hb d_7_15_86 rfl (lv_at hl 5 rfl) ?_
    refine q_goi V (q_runV (As := [.long x2]) (rest := [.ref (q 10)]) (d := 2) (mc := 0) (ms := 0) (ci := 6) C0 V rfl LV_Flo_43 (T_Flo_isNegative l D g q u75 k1 A B C hB1 x2 hI   _) rfl rfl hO1 rfl hl.1 rfl (Nat.le_of_ble_eq_true rfl) ⟨by decide, by decide⟩ ⟨Nat.le_of_ble_eq_true rfl, Nat.le_of_ble_eq_true rfl⟩ d_7_15_87) (fun a80 u78 H locs hp79 V => ?_)
    obtain ⟨rfl, b81, b82⟩ := hp79
    replace b81 : q_F (0 ≤ a80.toInt) := b81
    replace b82 : q_F (a80.toInt ≤ 1) := b82
    obtain ⟨y85, y86, hO84, b87, b88⟩ := q_bigO hI (n_b10 g q)
    replace b87 : q_F (0 ≤ y85.toInt ∧ y85.toInt ≤ 220) := b87
    replace b88 : q_F (0 ≤ y86.toInt ∧ y86.toInt ≤ 1) := b88
    refine q_put (ci := 2) (j := 2) (v := .int a80) (ty := .boolean) C0 V i_Big o_Big n_Big rfl rfl hO84 (by decide) w_99 rfl rfl (q_nz01 (q_Ile (x := 0) (y := a80.toInt) (by decide) rfl (by have t1 : 0 ≤ a80.toInt := b81; omega)) (q_Ile (x := a80.toInt) (y := 1) rfl (by decide) (by have t1 : a80.toInt ≤ 1 := b82; omega))) (q_fz01 (q_Ile (x := 0) (y := a80.toInt) (by decide) rfl (by have t1 : 0 ≤ a80.toInt := b81; omega)) (q_Ile (x := a80.toInt) (y := 1) rfl (by decide) (by have t1 : a80.toInt ≤ 1 := b82; omega))) (Nat.le_of_ble_eq_true rfl) d_7_15_90 (fun H locs w89 hu90 hO84 V => ?_)
    replace hO84 : w89[10]? = (some (q 10, .inr (2, [.ref (q 11), .int y85, .int a80])) : Option (Nat × va_E)) := hO84
    replace hI := q_bigO' hI (n_b10 g q) hu90 hO84 ⟨(by have zR : (220 : Int32).toInt = 220 := rfl; have t1 : 0 ≤ y85.toInt ∧ y85.toInt ≤ 220 := b87; omega), (by have zR : (220 : Int32).toInt = 220 := rfl; have t1 : 0 ≤ y85.toInt ∧ y85.toInt ≤ 220 := b87; omega)⟩ ⟨(by have t1 : 0 ≤ a80.toInt := b81; omega), (by have t1 : a80.toInt ≤ 1 := b82; omega)⟩
    replace hO1 := (hu90 _ (by have z0 := hB1.2.2.2.2; omega)).trans hO1
    replace hO11 := (hu90 _ (by decide)).trans hO11
    replace hF := q_us hF hu90 (by simp)
    refine lv_iload hx hb d_7_15_93 (lv_at hl 0 rfl) ?_
    exact q_reti C0 V (⟨hI, hF, (show 0 ≤ a67.toInt from (by have t1 : 0 ≤ a67.toInt ∧ a64.toInt ≤ a67.toInt ∧ (a67.toInt = 0 ∨ a67.toInt = a64.toInt) := b69; omega)), (show a67.toInt ≤ 1074 from (by have t1 : 0 ≤ a7.toInt + 1074 := b8; have t2 : 0 ≤ a33.toInt ∧ a33.toInt ≤ 6852 := b34; have t3 : 0 ≤ a38.toInt ∧ a35.toInt ≤ a38.toInt ∧ (a38.toInt = 0 ∨ a38.toInt = a35.toInt) := b40; have t4 : a41.toInt ≤ a33.toInt ∧ a41.toInt ≤ a38.toInt ∧ (a41.toInt = a33.toInt ∨ a41.toInt = a38.toInt) := b43; have t5 : a61.toInt = -a7.toInt := b63; have t6 : a64.toInt = a61.toInt - a41.toInt := b66; have t7 : 0 ≤ a67.toInt ∧ a64.toInt ≤ a67.toInt ∧ (a67.toInt = 0 ∨ a67.toInt = a64.toInt) := b69; omega))⟩) d_7_15_95
  ·
    have b91 : q_F (y25.toInt = 0) := (q_eqI c29)
    refine lv_iconst (v := 0) hx hb d_7_15_33 (by decide) ?_
    exact q_reti C0 V (⟨hI, hF, (show 0 ≤ (0 : Int32).toInt from (by have z4 : (0 : Int32).toInt = 0 := rfl; omega)), (show (0 : Int32).toInt ≤ 1074 from (by have z4 : (0 : Int32).toInt = 0 := rfl; omega))⟩) d_7_15_34
theorem d_7_17_0 : decode prog_7_method_17_code 0 = .ok (.aload_n 1, 1) := by decide +kernel
theorem d_7_17_1 : decode prog_7_method_17_code 1 = .ok (.invokevirtual 104, 3) := by decide +kernel
set_option maxRecDepth 100000 in
theorem w_738 : (Cond.methodLink "NumberHouse$Floats" (104 : Nat) ({ cls := "NumberHouse$Big", name := "bitLength", desc := "()I" } : MethodName)) ∈ q_tbl := q_of4 18 rfl (by decide +kernel)
theorem LV_Flo_104 : q_LV "NumberHouse$Floats" 104 y_Big_bitLength prog_2_method_12_code 1 (some .int) 0 := ⟨w_610, w_4, w_738, w_608, w_609, ⟨by decide, by decide, by decide +kernel⟩⟩
theorem d_7_17_4 : decode prog_7_method_17_code 4 = .ok (.istore 5, 2) := by decide +kernel
theorem d_7_17_6 : decode prog_7_method_17_code 6 = .ok (.iload 5, 2) := by decide +kernel
theorem d_7_17_8 : decode prog_7_method_17_code 8 = .ok (.ifCond .eq 15, 3) := by decide +kernel
theorem d_7_17_23 : decode prog_7_method_17_code 23 = .ok (.lconst 0, 1) := by decide +kernel
theorem d_7_17_24 : decode prog_7_method_17_code 24 = .ok (.lreturn, 1) := by decide +kernel
theorem d_7_17_11 : decode prog_7_method_17_code 11 = .ok (.iload 5, 2) := by decide +kernel
theorem d_7_17_13 : decode prog_7_method_17_code 13 = .ok (.i2l, 1) := by decide +kernel
theorem d_7_17_14 : decode prog_7_method_17_code 14 = .ok (.lload_n 2, 1) := by decide +kernel
theorem d_7_17_15 : decode prog_7_method_17_code 15 = .ok (.ladd, 1) := by decide +kernel
theorem d_7_17_16 : decode prog_7_method_17_code 16 = .ok (.ldc2_w 107, 3) := by decide +kernel
set_option maxRecDepth 100000 in
theorem w_739 : (Cond.constantLong "NumberHouse$Floats" (107 : Nat) (-3000 : Int64)) ∈ q_tbl := q_of4 19 rfl (by decide +kernel)
theorem d_7_17_19 : decode prog_7_method_17_code 19 = .ok (.lcmp, 1) := by decide +kernel
theorem d_7_17_20 : decode prog_7_method_17_code 20 = .ok (.ifCond .ge 5, 3) := by decide +kernel
theorem d_7_17_25 : decode prog_7_method_17_code 25 = .ok (.iload 5, 2) := by decide +kernel
theorem d_7_17_27 : decode prog_7_method_17_code 27 = .ok (.i2l, 1) := by decide +kernel
theorem d_7_17_28 : decode prog_7_method_17_code 28 = .ok (.lload_n 2, 1) := by decide +kernel
theorem d_7_17_29 : decode prog_7_method_17_code 29 = .ok (.ladd, 1) := by decide +kernel
theorem d_7_17_30 : decode prog_7_method_17_code 30 = .ok (.aload_n 0, 1) := by decide +kernel
theorem d_7_17_31 : decode prog_7_method_17_code 31 = .ok (.getfield 7, 3) := by decide +kernel
theorem d_7_17_34 : decode prog_7_method_17_code 34 = .ok (.i2l, 1) := by decide +kernel
theorem d_7_17_35 : decode prog_7_method_17_code 35 = .ok (.lsub, 1) := by decide +kernel
theorem d_7_17_36 : decode prog_7_method_17_code 36 = .ok (.lconst 1, 1) := by decide +kernel
theorem d_7_17_37 : decode prog_7_method_17_code 37 = .ok (.lsub, 1) := by decide +kernel
theorem d_7_17_38 : decode prog_7_method_17_code 38 = .ok (.aload_n 0, 1) := by decide +kernel
theorem d_7_17_39 : decode prog_7_method_17_code 39 = .ok (.getfield 16, 3) := by decide +kernel
theorem d_7_17_42 : decode prog_7_method_17_code 42 = .ok (.aload_n 0, 1) := by decide +kernel
theorem d_7_17_43 : decode prog_7_method_17_code 43 = .ok (.getfield 13, 3) := by decide +kernel
theorem d_7_17_46 : decode prog_7_method_17_code 46 = .ok (.isub, 1) := by decide +kernel
theorem d_7_17_47 : decode prog_7_method_17_code 47 = .ok (.i2l, 1) := by decide +kernel
theorem d_7_17_48 : decode prog_7_method_17_code 48 = .ok (.lcmp, 1) := by decide +kernel
theorem d_7_17_49 : decode prog_7_method_17_code 49 = .ok (.ifCond .lt 8, 3) := by decide +kernel
theorem d_7_17_57 : decode prog_7_method_17_code 57 = .ok (.iload 5, 2) := by decide +kernel
theorem d_7_17_59 : decode prog_7_method_17_code 59 = .ok (.i2l, 1) := by decide +kernel
theorem d_7_17_60 : decode prog_7_method_17_code 60 = .ok (.lload_n 2, 1) := by decide +kernel
theorem d_7_17_61 : decode prog_7_method_17_code 61 = .ok (.ladd, 1) := by decide +kernel
theorem d_7_17_62 : decode prog_7_method_17_code 62 = .ok (.aload_n 0, 1) := by decide +kernel
theorem d_7_17_63 : decode prog_7_method_17_code 63 = .ok (.getfield 7, 3) := by decide +kernel
theorem d_7_17_66 : decode prog_7_method_17_code 66 = .ok (.i2l, 1) := by decide +kernel
theorem d_7_17_67 : decode prog_7_method_17_code 67 = .ok (.lsub, 1) := by decide +kernel
theorem d_7_17_68 : decode prog_7_method_17_code 68 = .ok (.lconst 1, 1) := by decide +kernel
theorem d_7_17_69 : decode prog_7_method_17_code 69 = .ok (.lsub, 1) := by decide +kernel
theorem d_7_17_70 : decode prog_7_method_17_code 70 = .ok (.iconst 1, 1) := by decide +kernel
theorem d_7_17_71 : decode prog_7_method_17_code 71 = .ok (.aload_n 0, 1) := by decide +kernel
theorem d_7_17_72 : decode prog_7_method_17_code 72 = .ok (.getfield 13, 3) := by decide +kernel
theorem d_7_17_75 : decode prog_7_method_17_code 75 = .ok (.isub, 1) := by decide +kernel
theorem d_7_17_76 : decode prog_7_method_17_code 76 = .ok (.i2l, 1) := by decide +kernel
theorem d_7_17_77 : decode prog_7_method_17_code 77 = .ok (.invokestatic 109, 3) := by decide +kernel
set_option maxRecDepth 100000 in
theorem w_740 : (Cond.methodLink "NumberHouse$Floats" (109 : Nat) ({ cls := "java/lang/Math", name := "max", desc := "(JJ)J" } : MethodName)) ∈ q_tbl := q_of4 20 rfl (by decide +kernel)
theorem LS_Flo_109 : q_LS "NumberHouse$Floats" 109 y_jMath_max_JJJ prog_29_method_66_code 4 (some .long) 2 := ⟨w_742, w_7, w_740, w_741, ⟨by decide, by decide, by decide +kernel⟩⟩
theorem d_7_17_80 : decode prog_7_method_17_code 80 = .ok (.l2i, 1) := by decide +kernel
theorem d_7_17_81 : decode prog_7_method_17_code 81 = .ok (.istore 6, 2) := by decide +kernel
theorem d_7_17_83 : decode prog_7_method_17_code 83 = .ok (.iload 6, 2) := by decide +kernel
theorem d_7_17_85 : decode prog_7_method_17_code 85 = .ok (.i2l, 1) := by decide +kernel
theorem d_7_17_86 : decode prog_7_method_17_code 86 = .ok (.lload_n 2, 1) := by decide +kernel
theorem d_7_17_87 : decode prog_7_method_17_code 87 = .ok (.lsub, 1) := by decide +kernel
theorem d_7_17_88 : decode prog_7_method_17_code 88 = .ok (.l2i, 1) := by decide +kernel
theorem d_7_17_89 : decode prog_7_method_17_code 89 = .ok (.istore 7, 2) := by decide +kernel
theorem d_7_17_91 : decode prog_7_method_17_code 91 = .ok (.lconst 0, 1) := by decide +kernel
theorem d_7_17_92 : decode prog_7_method_17_code 92 = .ok (.lstore 8, 2) := by decide +kernel
theorem d_7_17_94 : decode prog_7_method_17_code 94 = .ok (.aload_n 0, 1) := by decide +kernel
theorem d_7_17_95 : decode prog_7_method_17_code 95 = .ok (.getfield 7, 3) := by decide +kernel
theorem d_7_17_98 : decode prog_7_method_17_code 98 = .ok (.iconst 1, 1) := by decide +kernel
theorem d_7_17_99 : decode prog_7_method_17_code 99 = .ok (.iadd, 1) := by decide +kernel
theorem d_7_17_100 : decode prog_7_method_17_code 100 = .ok (.istore 10, 2) := by decide +kernel
theorem d_7_17_102 : decode prog_7_method_17_code 102 = .ok (.iload 10, 2) := by decide +kernel
theorem d_7_17_104 : decode prog_7_method_17_code 104 = .ok (.ifCond .lt 38, 3) := by decide +kernel
theorem d_7_17_142 : decode prog_7_method_17_code 142 = .ok (.iload 7, 2) := by decide +kernel
theorem d_7_17_164 : decode prog_7_method_17_code 164 = .ok (.istore 10, 2) := by decide +kernel
theorem d_7_17_166 : decode prog_7_method_17_code 166 = .ok (.iload 4, 2) := by decide +kernel
theorem d_7_17_187 : decode prog_7_method_17_code 187 = .ok (.istore 11, 2) := by decide +kernel
theorem d_7_17_189 : decode prog_7_method_17_code 189 = .ok (.iload 10, 2) := by decide +kernel
theorem d_7_17_191 : decode prog_7_method_17_code 191 = .ok (.ifCond .eq 23, 3) := by decide +kernel
theorem d_7_17_214 : decode prog_7_method_17_code 214 = .ok (.iload 6, 2) := by decide +kernel
theorem d_7_17_216 : decode prog_7_method_17_code 216 = .ok (.aload_n 0, 1) := by decide +kernel
theorem d_7_17_217 : decode prog_7_method_17_code 217 = .ok (.getfield 13, 3) := by decide +kernel
theorem d_7_17_220 : decode prog_7_method_17_code 220 = .ok (.iadd, 1) := by decide +kernel
theorem d_7_17_221 : decode prog_7_method_17_code 221 = .ok (.iconst 1, 1) := by decide +kernel
theorem d_7_17_222 : decode prog_7_method_17_code 222 = .ok (.isub, 1) := by decide +kernel
theorem d_7_17_223 : decode prog_7_method_17_code 223 = .ok (.i2l, 1) := by decide +kernel
theorem d_7_17_224 : decode prog_7_method_17_code 224 = .ok (.aload_n 0, 1) := by decide +kernel
theorem d_7_17_225 : decode prog_7_method_17_code 225 = .ok (.getfield 7, 3) := by decide +kernel
theorem d_7_17_228 : decode prog_7_method_17_code 228 = .ok (.lshl, 1) := by decide +kernel
theorem d_7_17_229 : decode prog_7_method_17_code 229 = .ok (.lload 8, 2) := by decide +kernel
theorem d_7_17_231 : decode prog_7_method_17_code 231 = .ok (.ladd, 1) := by decide +kernel
theorem d_7_17_232 : decode prog_7_method_17_code 232 = .ok (.lreturn, 1) := by decide +kernel
theorem d_7_17_194 : decode prog_7_method_17_code 194 = .ok (.iload 11, 2) := by decide +kernel
theorem d_7_17_208 : decode prog_7_method_17_code 208 = .ok (.lload 8, 2) := by decide +kernel
theorem d_7_17_210 : decode prog_7_method_17_code 210 = .ok (.lconst 1, 1) := by decide +kernel
theorem d_7_17_211 : decode prog_7_method_17_code 211 = .ok (.ladd, 1) := by decide +kernel
theorem d_7_17_212 : decode prog_7_method_17_code 212 = .ok (.lstore 8, 2) := by decide +kernel
theorem d_7_17_196 : decode prog_7_method_17_code 196 = .ok (.ifCond .ne 12, 3) := by decide +kernel
theorem d_7_17_199 : decode prog_7_method_17_code 199 = .ok (.lload 8, 2) := by decide +kernel
theorem d_7_17_201 : decode prog_7_method_17_code 201 = .ok (.lconst 1, 1) := by decide +kernel
theorem d_7_17_202 : decode prog_7_method_17_code 202 = .ok (.land, 1) := by decide +kernel
theorem d_7_17_203 : decode prog_7_method_17_code 203 = .ok (.lconst 1, 1) := by decide +kernel
theorem d_7_17_204 : decode prog_7_method_17_code 204 = .ok (.lcmp, 1) := by decide +kernel
theorem d_7_17_205 : decode prog_7_method_17_code 205 = .ok (.ifCond .ne 9, 3) := by decide +kernel
theorem d_7_17_182 : decode prog_7_method_17_code 182 = .ok (.iconst 1, 1) := by decide +kernel
theorem d_7_17_183 : decode prog_7_method_17_code 183 = .ok (.goto 4, 3) := by decide +kernel
theorem d_7_17_168 : decode prog_7_method_17_code 168 = .ok (.ifCond .ne 14, 3) := by decide +kernel
theorem d_7_17_171 : decode prog_7_method_17_code 171 = .ok (.aload_n 1, 1) := by decide +kernel
theorem d_7_17_172 : decode prog_7_method_17_code 172 = .ok (.invokevirtual 84, 3) := by decide +kernel
theorem d_7_17_175 : decode prog_7_method_17_code 175 = .ok (.iload 7, 2) := by decide +kernel
theorem d_7_17_177 : decode prog_7_method_17_code 177 = .ok (.iconst 1, 1) := by decide +kernel
theorem d_7_17_178 : decode prog_7_method_17_code 178 = .ok (.isub, 1) := by decide +kernel
theorem d_7_17_179 : decode prog_7_method_17_code 179 = .ok (.if_icmp .ge 7, 3) := by decide +kernel
theorem d_7_17_186 : decode prog_7_method_17_code 186 = .ok (.iconst 0, 1) := by decide +kernel
theorem d_7_17_163 : decode prog_7_method_17_code 163 = .ok (.iconst 0, 1) := by decide +kernel
theorem d_7_17_144 : decode prog_7_method_17_code 144 = .ok (.ifCond .le 19, 3) := by decide +kernel
theorem d_7_17_147 : decode prog_7_method_17_code 147 = .ok (.aload_n 1, 1) := by decide +kernel
theorem d_7_17_148 : decode prog_7_method_17_code 148 = .ok (.iload 7, 2) := by decide +kernel
theorem d_7_17_150 : decode prog_7_method_17_code 150 = .ok (.iconst 1, 1) := by decide +kernel
theorem d_7_17_151 : decode prog_7_method_17_code 151 = .ok (.isub, 1) := by decide +kernel
theorem d_7_17_152 : decode prog_7_method_17_code 152 = .ok (.invokevirtual 112, 3) := by decide +kernel
set_option maxRecDepth 100000 in
theorem w_746 : (Cond.code ({ cls := "NumberHouse$Big", name := "bit", desc := "(I)I" } : MethodName) prog_2_method_17_code (2 : Nat) (some .int)) ∈ q_tbl := q_of4 26 rfl (by decide +kernel)
set_option maxRecDepth 100000 in
theorem w_743 : (Cond.methodLink "NumberHouse$Floats" (112 : Nat) ({ cls := "NumberHouse$Big", name := "bit", desc := "(I)I" } : MethodName)) ∈ q_tbl := q_of4 23 rfl (by decide +kernel)
set_option maxRecDepth 100000 in
theorem w_744 : (Cond.instanceMethod ({ cls := "NumberHouse$Big", name := "bit", desc := "(I)I" } : MethodName)) ∈ q_tbl := q_of4 24 rfl (by decide +kernel)
set_option maxRecDepth 100000 in
theorem w_745 : (Cond.selects "NumberHouse$Big" ({ cls := "NumberHouse$Big", name := "bit", desc := "(I)I" } : MethodName) ({ cls := "NumberHouse$Big", name := "bit", desc := "(I)I" } : MethodName)) ∈ q_tbl := q_of4 25 rfl (by decide +kernel)
theorem LV_Flo_112 : q_LV "NumberHouse$Floats" 112 y_Big_bit prog_2_method_17_code 2 (some .int) 1 := ⟨w_746, w_4, w_743, w_744, w_745, ⟨by decide, by decide, by decide +kernel⟩⟩
theorem d_7_17_155 : decode prog_7_method_17_code 155 = .ok (.iconst 1, 1) := by decide +kernel
theorem d_7_17_156 : decode prog_7_method_17_code 156 = .ok (.if_icmp .ne 7, 3) := by decide +kernel
theorem d_7_17_159 : decode prog_7_method_17_code 159 = .ok (.iconst 1, 1) := by decide +kernel
theorem d_7_17_160 : decode prog_7_method_17_code 160 = .ok (.goto 4, 3) := by decide +kernel
theorem d_7_17_107 : decode prog_7_method_17_code 107 = .ok (.lload 8, 2) := by decide +kernel
theorem d_7_17_109 : decode prog_7_method_17_code 109 = .ok (.iconst 1, 1) := by decide +kernel
theorem d_7_17_110 : decode prog_7_method_17_code 110 = .ok (.lshl, 1) := by decide +kernel
theorem d_7_17_111 : decode prog_7_method_17_code 111 = .ok (.iload 7, 2) := by decide +kernel
theorem d_7_17_113 : decode prog_7_method_17_code 113 = .ok (.iload 10, 2) := by decide +kernel
theorem d_7_17_115 : decode prog_7_method_17_code 115 = .ok (.iadd, 1) := by decide +kernel
theorem d_7_17_116 : decode prog_7_method_17_code 116 = .ok (.ifCond .lt 15, 3) := by decide +kernel
theorem d_7_17_131 : decode prog_7_method_17_code 131 = .ok (.iconst 0, 1) := by decide +kernel
theorem d_7_17_132 : decode prog_7_method_17_code 132 = .ok (.i2l, 1) := by decide +kernel
theorem d_7_17_133 : decode prog_7_method_17_code 133 = .ok (.lor, 1) := by decide +kernel
theorem d_7_17_134 : decode prog_7_method_17_code 134 = .ok (.lstore 8, 2) := by decide +kernel
theorem d_7_17_136 : decode prog_7_method_17_code 136 = .ok (.iinc 10 (-1), 3) := by decide +kernel
theorem d_7_17_139 : decode prog_7_method_17_code 139 = .ok (.goto (-37), 3) := by decide +kernel
theorem d_7_17_119 : decode prog_7_method_17_code 119 = .ok (.aload_n 1, 1) := by decide +kernel
theorem d_7_17_120 : decode prog_7_method_17_code 120 = .ok (.iload 7, 2) := by decide +kernel
theorem d_7_17_122 : decode prog_7_method_17_code 122 = .ok (.iload 10, 2) := by decide +kernel
theorem d_7_17_124 : decode prog_7_method_17_code 124 = .ok (.iadd, 1) := by decide +kernel
theorem d_7_17_125 : decode prog_7_method_17_code 125 = .ok (.invokevirtual 112, 3) := by decide +kernel
theorem d_7_17_128 : decode prog_7_method_17_code 128 = .ok (.goto 4, 3) := by decide +kernel
theorem d_7_17_52 : decode prog_7_method_17_code 52 = .ok (.aload_n 0, 1) := by decide +kernel
theorem d_7_17_53 : decode prog_7_method_17_code 53 = .ok (.invokevirtual 39, 3) := by decide +kernel
theorem d_7_17_56 : decode prog_7_method_17_code 56 = .ok (.lreturn, 1) := by decide +kernel
def y_Flo_nearest : MethodName := ⟨"NumberHouse$Floats", "nearest", "(LNumberHouse$Big;JZ)J"⟩
set_option maxRecDepth 100000 in
set_option maxHeartbeats 4000000 in
theorem T_Flo_nearest (l : Launch) (D : va_G) (g : Nat → ClassId) (q : Nat → Nat) (ws : va_W) (k1 : Nat) (A B C : Int32) (hB1 : q_isFlo (nsh g q) q k1 A B C) (k2 : Nat) (R2 : Int32) (hB2 : q_isBig (nsh g q) g q k2 R2) (zk2 : (10 ≤ k2 ∧ k2 ≤ 32) ∨ 66 ≤ k2) (x3 : Int64) (x4 : Int32) (hI : q_I (nsh g q) q ws) (hzx4 : 0 ≤ x4.toInt ∧ x4.toInt ≤ 1) : q_mL l y_Flo_nearest prog_7_method_17_code 12 4 0 0 D g [.ref (q k1), .ref (q k2), .long x3, .int x4] ws (fun r u => ws = u ∧ True) := by
  intro sz
  refine q_into (by decide) (Nat.le_of_ble_eq_true rfl) ?_
  intro p e s m below meth c ls hsz C0 V hl
  have hx := C0.1
  have hb := C0.2.1
  have hfk10 : q_F (23 ≤ A.toInt ∧ A.toInt ≤ 52) := hB1.2.1
  have hfk11 : q_F (150 ≤ B.toInt ∧ B.toInt ≤ 1075) := hB1.2.2.1
  have hfk12 : q_F (255 ≤ C.toInt ∧ C.toInt ≤ 2047) := hB1.2.2.2.1
  have hfk20 : q_F (0 ≤ R2.toInt ∧ R2.toInt ≤ 220) := hB2.2.2
  replace hzx4 : q_F (0 ≤ x4.toInt ∧ x4.toInt ≤ 1) := hzx4
  have hl : lv_has ls 12 [(0, .ref (q k1)), (1, .ref (q k2)), (2, .long x3), (4, .int x4)] := hl
  refine lv_aload_n hx hb d_7_17_0 rfl (lv_at hl 1 rfl) ?_
  obtain ⟨y2, y3, hO1, b4, b5⟩ := q_bigO hI hB2
  replace b4 : q_F (0 ≤ y2.toInt ∧ y2.toInt ≤ R2.toInt) := b4
  replace b5 : q_F (0 ≤ y3.toInt ∧ y3.toInt ≤ 1) := b5
  refine q_goi V (q_runV (As := []) (rest := []) (d := 3) (mc := 0) (ms := 0) (ci := 2) C0 V rfl LV_Flo_104 (S_Big_bitLength l D g (nsh g q) q ws k2 R2 hB2  hI   _) rfl rfl hO1 rfl hl.1 rfl (Nat.le_of_ble_eq_true rfl) ⟨by decide, by decide⟩ ⟨Nat.le_of_ble_eq_true rfl, Nat.le_of_ble_eq_true rfl⟩ d_7_17_1) (fun a8 u6 H locs hp7 V => ?_)
  obtain ⟨b9, rfl⟩ := hp7
  replace b9 : q_F (0 ≤ a8.toInt ∧ a8.toInt ≤ 6852) := b9
  refine lv_istore (lv' := [(5, .int a8), (0, .ref (q k1)), (1, .ref (q k2)), (2, .long x3), (4, .int x4)]) hx hb d_7_17_4 hl (by decide) rfl (fun ls hl => ?_)
  refine lv_iload hx hb d_7_17_6 (lv_at hl 0 rfl) ?_
  refine lv_if_eq (tgt := 23) hx hb d_7_17_8 (by decide) (fun c10 => ?_) (fun c10 => ?_)
  ·
    have b11 : q_F (a8.toInt = 0) := (q_eqI c10)
    refine lv_lconst (v := 0) hx hb d_7_17_23 (by decide) ?_
    exact q_retl C0 V (⟨rfl, trivial⟩) d_7_17_24
  ·
    have b12 : q_F (a8.toInt ≠ 0) := (q_neI c10)
    refine lv_iload hx hb d_7_17_11 (lv_at hl 0 rfl) ?_
    refine lv_i2l hx hb d_7_17_13 rfl ?_
    obtain ⟨j13, e14⟩ := q_nm (a8.toInt64 : Int64)
    refine q_tl (v := j13) e14 ?_
    have b15 : q_F (j13.toInt = a8.toInt) := (by rw [← e14]; show (a8.toInt64 : Int64).toInt = a8.toInt; exact q_i2l rfl)
    refine lv_lload_n hx hb d_7_17_14 rfl (lv_at hl 3 rfl) ?_
    refine lv_ladd hx hb d_7_17_15 ?_
    obtain ⟨j16, e17⟩ := q_nm (j13 + x3 : Int64)
    refine q_tl (v := j16) e17 ?_
    refine q_ldc2 C0 rfl w_739 d_7_17_16 ?_
    refine W.lcmp hx hb d_7_17_19 ?_
    obtain ⟨a18, e19⟩ := q_nm (lg_cmp j16 (-3000) : Int32)
    refine q_ti (v := a18) e19 ?_
    have b20 : q_F (-1 ≤ a18.toInt ∧ a18.toInt ≤ 1 ∧ ((a18.toInt = -1 ∧ j16.toInt < (-3000)) ∨ (a18.toInt = 0 ∧ j16.toInt = (-3000)) ∨ (a18.toInt = 1 ∧ (-3000) < j16.toInt))) := (by rw [← e19]; show -1 ≤ (lg_cmp j16 (-3000) : Int32).toInt ∧ (lg_cmp j16 (-3000) : Int32).toInt ≤ 1 ∧ (((lg_cmp j16 (-3000) : Int32).toInt = -1 ∧ j16.toInt < (-3000)) ∨ ((lg_cmp j16 (-3000) : Int32).toInt = 0 ∧ j16.toInt = (-3000)) ∨ ((lg_cmp j16 (-3000) : Int32).toInt = 1 ∧ (-3000) < j16.toInt)); exact (by have y1 : (-3000 : Int64).toInt = -3000 := rfl; have z := s_lcmp (a := j16) (b := (-3000)); omega))
    refine lv_if_ge (tgt := 25) hx hb d_7_17_20 (by decide) (fun c21 => ?_) (fun c21 => ?_)
    ·
      have b22 : q_F (0 ≤ a18.toInt) := (q_leI c21)
      refine lv_iload hx hb d_7_17_25 (lv_at hl 0 rfl) ?_
      refine lv_i2l hx hb d_7_17_27 rfl ?_
      obtain ⟨j23, e24⟩ := q_nm (a8.toInt64 : Int64)
      refine q_tl (v := j23) e24 ?_
      have b25 : q_F (j23.toInt = a8.toInt) := (by rw [← e24]; show (a8.toInt64 : Int64).toInt = a8.toInt; exact q_i2l rfl)
      refine lv_lload_n hx hb d_7_17_28 rfl (lv_at hl 3 rfl) ?_
      refine lv_ladd hx hb d_7_17_29 ?_
      obtain ⟨j26, e27⟩ := q_nm (j23 + x3 : Int64)
      refine q_tl (v := j26) e27 ?_
      refine lv_aload_n hx hb d_7_17_30 rfl (lv_at hl 1 rfl) ?_
      obtain ⟨y29, y30, y31, hO28⟩ := n_flO hI hB1
      refine q_get (ci := 6) (j := 0) (v := .int A) C0 V i_Flo rfl rfl hO28 (by decide) w_231 rfl d_7_17_31 ?_
      refine lv_i2l hx hb d_7_17_34 rfl ?_
      obtain ⟨j32, e33⟩ := q_nm (A.toInt64 : Int64)
      refine q_tl (v := j32) e33 ?_
      have b34 : q_F (j32.toInt = A.toInt) := (by rw [← e33]; show (A.toInt64 : Int64).toInt = A.toInt; exact q_i2l rfl)
      refine lv_lsub hx hb d_7_17_35 ?_
      obtain ⟨j35, e36⟩ := q_nm (j26 - j32 : Int64)
      refine q_tl (v := j35) e36 ?_
      refine lv_lconst (v := 1) hx hb d_7_17_36 (by decide) ?_
      refine lv_lsub hx hb d_7_17_37 ?_
      obtain ⟨j37, e38⟩ := q_nm (j35 - 1 : Int64)
      refine q_tl (v := j37) e38 ?_
      refine lv_aload_n hx hb d_7_17_38 rfl (lv_at hl 1 rfl) ?_
      refine q_get (ci := 6) (j := 2) (v := .int C) C0 V i_Flo rfl rfl hO28 (by decide) w_234 rfl d_7_17_39 ?_
      refine lv_aload_n hx hb d_7_17_42 rfl (lv_at hl 1 rfl) ?_
      refine q_get (ci := 6) (j := 1) (v := .int B) C0 V i_Flo rfl rfl hO28 (by decide) w_233 rfl d_7_17_43 ?_
      refine lv_isub hx hb d_7_17_46 ?_
      obtain ⟨a39, e40⟩ := q_nm (C - B : Int32)
      refine q_ti (v := a39) e40 ?_
      have b41 : q_F (a39.toInt = C.toInt - B.toInt) := (by rw [← e40]; show (C - B : Int32).toInt = C.toInt - B.toInt; exact q_subI (x := C.toInt) (y := B.toInt) rfl rfl (by have t1 : 150 ≤ B.toInt ∧ B.toInt ≤ 1075 := hfk11; have t2 : 255 ≤ C.toInt ∧ C.toInt ≤ 2047 := hfk12; omega) (by have t1 : 150 ≤ B.toInt ∧ B.toInt ≤ 1075 := hfk11; have t2 : 255 ≤ C.toInt ∧ C.toInt ≤ 2047 := hfk12; omega))
      refine lv_i2l hx hb d_7_17_47 rfl ?_
      obtain ⟨j42, e43⟩ := q_nm (a39.toInt64 : Int64)
      refine q_tl (v := j42) e43 ?_
      have b44 : q_F (j42.toInt = a39.toInt) := (by rw [← e43]; show (a39.toInt64 : Int64).toInt = a39.toInt; exact q_i2l rfl)
      refine W.lcmp hx hb d_7_17_48 ?_
      obtain ⟨a45, e46⟩ := q_nm (lg_cmp j37 j42 : Int32)
      refine q_ti (v := a45) e46 ?_
      have b47 : q_F (-1 ≤ a45.toInt ∧ a45.toInt ≤ 1 ∧ ((a45.toInt = -1 ∧ j37.toInt < j42.toInt) ∨ (a45.toInt = 0 ∧ j37.toInt = j42.toInt) ∨ (a45.toInt = 1 ∧ j42.toInt < j37.toInt))) := (by rw [← e46]; show -1 ≤ (lg_cmp j37 j42 : Int32).toInt ∧ (lg_cmp j37 j42 : Int32).toInt ≤ 1 ∧ (((lg_cmp j37 j42 : Int32).toInt = -1 ∧ j37.toInt < j42.toInt) ∨ ((lg_cmp j37 j42 : Int32).toInt = 0 ∧ j37.toInt = j42.toInt) ∨ ((lg_cmp j37 j42 : Int32).toInt = 1 ∧ j42.toInt < j37.toInt)); exact s_lcmp)
      refine lv_if_lt (tgt := 57) hx hb d_7_17_49 (by decide) (fun c48 => ?_) (fun c48 => ?_)
      ·
        have b49 : q_F (a45.toInt < 0) := (q_ltI c48)
        refine lv_iload hx hb d_7_17_57 (lv_at hl 0 rfl) ?_
        refine lv_i2l hx hb d_7_17_59 rfl ?_
        obtain ⟨j50, e51⟩ := q_nm (a8.toInt64 : Int64)
        refine q_tl (v := j50) e51 ?_
        have b52 : q_F (j50.toInt = a8.toInt) := (by rw [← e51]; show (a8.toInt64 : Int64).toInt = a8.toInt; exact q_i2l rfl)
        refine lv_lload_n hx hb d_7_17_60 rfl (lv_at hl 3 rfl) ?_
        refine lv_ladd hx hb d_7_17_61 ?_
        obtain ⟨j53, e54⟩ := q_nm (j50 + x3 : Int64)
        refine q_tl (v := j53) e54 ?_
        refine lv_aload_n hx hb d_7_17_62 rfl (lv_at hl 1 rfl) ?_
        refine q_get (ci := 6) (j := 0) (v := .int A) C0 V i_Flo rfl rfl hO28 (by decide) w_231 rfl d_7_17_63 ?_
        refine lv_i2l hx hb d_7_17_66 rfl ?_
        obtain ⟨j55, e56⟩ := q_nm (A.toInt64 : Int64)
        refine q_tl (v := j55) e56 ?_
        have b57 : q_F (j55.toInt = A.toInt) := (by rw [← e56]; show (A.toInt64 : Int64).toInt = A.toInt; exact q_i2l rfl)
        refine lv_lsub hx hb d_7_17_67 ?_
        obtain ⟨j58, e59⟩ := q_nm (j53 - j55 : Int64)
        refine q_tl (v := j58) e59 ?_
        refine lv_lconst (v := 1) hx hb d_7_17_68 (by decide) ?_
        refine lv_lsub hx hb d_7_17_69 ?_
        obtain ⟨j60, e61⟩ := q_nm (j58 - 1 : Int64)
        refine q_tl (v := j60) e61 ?_
        refine lv_iconst (v := 1) hx hb d_7_17_70 (by decide) ?_
        refine lv_aload_n hx hb d_7_17_71 rfl (lv_at hl 1 rfl) ?_
        refine q_get (ci := 6) (j := 1) (v := .int B) C0 V i_Flo rfl rfl hO28 (by decide) w_233 rfl d_7_17_72 ?_
        refine lv_isub hx hb d_7_17_75 ?_
        obtain ⟨a62, e63⟩ := q_nm (1 - B : Int32)
        refine q_ti (v := a62) e63 ?_
        have b64 : q_F (a62.toInt = 1 - B.toInt) := (by rw [← e63]; show (1 - B : Int32).toInt = 1 - B.toInt; exact q_subI (x := 1) (y := B.toInt) (by decide) rfl (by have t1 : 150 ≤ B.toInt ∧ B.toInt ≤ 1075 := hfk11; omega) (by have t1 : 150 ≤ B.toInt ∧ B.toInt ≤ 1075 := hfk11; omega))
        refine lv_i2l hx hb d_7_17_76 rfl ?_
        obtain ⟨j65, e66⟩ := q_nm (a62.toInt64 : Int64)
        refine q_tl (v := j65) e66 ?_
        have b67 : q_F (j65.toInt = a62.toInt) := (by rw [← e66]; show (a62.toInt64 : Int64).toInt = a62.toInt; exact q_i2l rfl)
        refine q_gol V (q_runS (As := [.long j60, .long j65]) (rest := []) (d := 1) (mc := 0) (ms := 0) C0 V rfl LS_Flo_109 (T_jMath_max_JJJ l D g q ws  j60 j65 hI   _) rfl hl.1 rfl (Nat.le_of_ble_eq_true rfl) ⟨by decide, by decide⟩ ⟨Nat.le_of_ble_eq_true rfl, Nat.le_of_ble_eq_true rfl⟩ d_7_17_77) (fun j70 u68 H locs hp69 V => ?_)
        obtain ⟨rfl, b71, b72⟩ := hp69
        replace b71 : q_F (j60.toInt ≤ j70.toInt) := b71
        replace b72 : q_F (j65.toInt ≤ j70.toInt) := b72
        refine lv_l2i hx hb d_7_17_80 rfl ?_
        obtain ⟨a74, e75⟩ := q_nm (j70.toInt32 : Int32)
        refine q_ti (v := a74) e75 ?_
        refine lv_istore (lv' := [(6, .int a74), (5, .int a8), (0, .ref (q k1)), (1, .ref (q k2)), (2, .long x3), (4, .int x4)]) hx hb d_7_17_81 hl (by decide) rfl (fun ls hl => ?_)
        refine lv_iload hx hb d_7_17_83 (lv_at hl 0 rfl) ?_
        refine lv_i2l hx hb d_7_17_85 rfl ?_
        obtain ⟨j76, e77⟩ := q_nm (a74.toInt64 : Int64)
        refine q_tl (v := j76) e77 ?_
        have b78 : q_F (j76.toInt = a74.toInt) := (by rw [← e77]; show (a74.toInt64 : Int64).toInt = a74.toInt; exact q_i2l rfl)
        refine lv_lload_n hx hb d_7_17_86 rfl (lv_at hl 4 rfl) ?_
        refine lv_lsub hx hb d_7_17_87 ?_
        obtain ⟨j79, e80⟩ := q_nm (j76 - x3 : Int64)
        refine q_tl (v := j79) e80 ?_
        refine lv_l2i hx hb d_7_17_88 rfl ?_
        obtain ⟨a81, e82⟩ := q_nm (j79.toInt32 : Int32)
        refine q_ti (v := a81) e82 ?_
        refine lv_istore (lv' := [(7, .int a81), (6, .int a74), (5, .int a8), (0, .ref (q k1)), (1, .ref (q k2)), (2, .long x3), (4, .int x4)]) hx hb d_7_17_89 hl (by decide) rfl (fun ls hl => ?_)
        refine lv_lconst (v := 0) hx hb d_7_17_91 (by decide) ?_
        refine lv_lstore (lv' := [(8, .long 0), (7, .int a81), (6, .int a74), (5, .int a8), (0, .ref (q k1)), (1, .ref (q k2)), (2, .long x3), (4, .int x4)]) hx hb d_7_17_92 hl (by decide) rfl (fun ls hl => ?_)
        refine lv_aload_n hx hb d_7_17_94 rfl (lv_at hl 4 rfl) ?_
        refine q_get (ci := 6) (j := 0) (v := .int A) C0 V i_Flo rfl rfl hO28 (by decide) w_231 rfl d_7_17_95 ?_
        refine lv_iconst (v := 1) hx hb d_7_17_98 (by decide) ?_
        refine lv_iadd hx hb d_7_17_99 ?_
        obtain ⟨a83, e84⟩ := q_nm (A + 1 : Int32)
        refine q_ti (v := a83) e84 ?_
        have b85 : q_F (a83.toInt = A.toInt + 1) := (by rw [← e84]; show (A + 1 : Int32).toInt = A.toInt + 1; exact q_addI (x := A.toInt) (y := 1) rfl (by decide) (by have t1 : 23 ≤ A.toInt ∧ A.toInt ≤ 52 := hfk10; omega) (by have t1 : 23 ≤ A.toInt ∧ A.toInt ≤ 52 := hfk10; omega))
        refine lv_istore (lv' := [(10, .int a83), (8, .long 0), (7, .int a81), (6, .int a74), (5, .int a8), (0, .ref (q k1)), (1, .ref (q k2)), (2, .long x3), (4, .int x4)]) hx hb d_7_17_100 hl (by decide) rfl (fun ls hl => ?_)
        refine q_loop (X := Int32 × Int64) (fun z H locs ls _ => q_F (0 ≤ z.1.toInt + 1) ∧ q_F (z.1.toInt ≤ A.toInt + 1) ∧ q_Wd D g (va_A ws sz) s ws H locs ∧ lv_has ls 12 [(10, .int z.1), (8, .long z.2), (7, .int a81), (6, .int a74), (0, .ref (q k1)), (1, .ref (q k2)), (4, .int x4)]) (fun z => (z.1.toInt - ((-1))).toNat) ?_ ((a83 : Int32), (0 : Int64)) _ _ _ ws ⟨(show q_F (0 ≤ a83.toInt + 1) from (show 0 ≤ a83.toInt + 1 from by have t1 : 23 ≤ A.toInt ∧ A.toInt ≤ 52 := hfk10; have t2 : a83.toInt = A.toInt + 1 := b85; omega)), (show q_F (a83.toInt ≤ A.toInt + 1) from (show a83.toInt ≤ A.toInt + 1 from by have t1 : a83.toInt = A.toInt + 1 := b85; omega)), V, q_lw hl (q_lw1 0 rfl (q_lw1 1 rfl (q_lw1 2 rfl (q_lw1 3 rfl (q_lw1 5 rfl (q_lw1 6 rfl (q_lw1 8 rfl q_lw0)))))))⟩
        rintro ⟨lx88, lx89⟩ H locs ls _ ⟨i90, i91, V, hl⟩ ih92
        replace i90 : q_F (0 ≤ lx88.toInt + 1) := i90
        replace i91 : q_F (lx88.toInt ≤ A.toInt + 1) := i91
        replace hl : lv_has ls 12 [(10, .int lx88), (8, .long lx89), (7, .int a81), (6, .int a74), (0, .ref (q k1)), (1, .ref (q k2)), (4, .int x4)] := hl
        refine lv_iload hx hb d_7_17_102 (lv_at hl 0 rfl) ?_
        refine lv_if_lt (tgt := 142) hx hb d_7_17_104 (by decide) (fun c93 => ?_) (fun c93 => ?_)
        ·
          have b94 : q_F (lx88.toInt < 0) := (q_ltI c93)
          refine lv_iload hx hb d_7_17_142 (lv_at hl 2 rfl) ?_
          refine q_join (X := Int32) (fun z H locs ls _ => q_F (lx88.toInt + 1 ≤ z.toInt) ∧ q_F (z.toInt ≤ lx88.toInt + 2) ∧ q_Wd D g (va_A ws sz) s ws H locs ∧ lv_has ls 12 [(8, .long lx89), (7, .int a81), (6, .int a74), (0, .ref (q k1)), (1, .ref (q k2)), (4, .int x4)]) (fun z => [.int z]) 164 0 0 ?_ ?_
          ·
            rintro lx95 H locs ls _ ⟨i97, i98, V, hl⟩
            replace i97 : q_F (lx88.toInt + 1 ≤ lx95.toInt) := i97
            replace i98 : q_F (lx95.toInt ≤ lx88.toInt + 2) := i98
            replace hl : lv_has ls 12 [(8, .long lx89), (7, .int a81), (6, .int a74), (0, .ref (q k1)), (1, .ref (q k2)), (4, .int x4)] := hl
            refine lv_istore (lv' := [(10, .int lx95), (8, .long lx89), (7, .int a81), (6, .int a74), (0, .ref (q k1)), (1, .ref (q k2)), (4, .int x4)]) hx hb d_7_17_164 hl (by decide) rfl (fun ls hl => ?_)
            refine lv_iload hx hb d_7_17_166 (lv_at hl 6 rfl) ?_
            refine q_join (X := Int32) (fun z H locs ls _ => q_F (z.toInt ≤ 1) ∧ q_F (x4.toInt ≤ z.toInt) ∧ q_Wd D g (va_A ws sz) s ws H locs ∧ lv_has ls 12 [(10, .int lx95), (8, .long lx89), (6, .int a74), (0, .ref (q k1))]) (fun z => [.int z]) 187 0 0 ?_ ?_
            ·
              rintro lx99 H locs ls _ ⟨i101, i102, V, hl⟩
              replace i101 : q_F (lx99.toInt ≤ 1) := i101
              replace i102 : q_F (x4.toInt ≤ lx99.toInt) := i102
              replace hl : lv_has ls 12 [(10, .int lx95), (8, .long lx89), (6, .int a74), (0, .ref (q k1))] := hl
              refine lv_istore (lv' := [(11, .int lx99), (10, .int lx95), (8, .long lx89), (6, .int a74), (0, .ref (q k1))]) hx hb d_7_17_187 hl (by decide) rfl (fun ls hl => ?_)
              refine lv_iload hx hb d_7_17_189 (lv_at hl 1 rfl) ?_
              refine lv_if_eq (tgt := 214) hx hb d_7_17_191 (by decide) (fun c103 => ?_) (fun c103 => ?_)
              ·
                have b104 : q_F (lx95.toInt = 0) := (q_eqI c103)
                refine lv_iload hx hb d_7_17_214 (lv_at hl 3 rfl) ?_
                refine lv_aload_n hx hb d_7_17_216 rfl (lv_at hl 4 rfl) ?_
                refine q_get (ci := 6) (j := 1) (v := .int B) C0 V i_Flo rfl rfl hO28 (by decide) w_233 rfl d_7_17_217 ?_
                refine lv_iadd hx hb d_7_17_220 ?_
                obtain ⟨a105, e106⟩ := q_nm (a74 + B : Int32)
                refine q_ti (v := a105) e106 ?_
                refine lv_iconst (v := 1) hx hb d_7_17_221 (by decide) ?_
                refine lv_isub hx hb d_7_17_222 ?_
                obtain ⟨a107, e108⟩ := q_nm (a105 - 1 : Int32)
                refine q_ti (v := a107) e108 ?_
                refine lv_i2l hx hb d_7_17_223 rfl ?_
                obtain ⟨j109, e110⟩ := q_nm (a107.toInt64 : Int64)
                refine q_tl (v := j109) e110 ?_
                have b111 : q_F (j109.toInt = a107.toInt) := (by rw [← e110]; show (a107.toInt64 : Int64).toInt = a107.toInt; exact q_i2l rfl)
                refine lv_aload_n hx hb d_7_17_224 rfl (lv_at hl 4 rfl) ?_
                refine q_get (ci := 6) (j := 0) (v := .int A) C0 V i_Flo rfl rfl hO28 (by decide) w_231 rfl d_7_17_225 ?_
                refine lv_lshl hx hb d_7_17_228 rfl ?_
                obtain ⟨j112, e113⟩ := q_nm (j109 <<< (A.toInt64 &&& 63) : Int64)
                refine q_tl (v := j112) e113 ?_
                refine lv_lload hx hb d_7_17_229 (lv_at hl 2 rfl) ?_
                refine lv_ladd hx hb d_7_17_231 ?_
                obtain ⟨j114, e115⟩ := q_nm (j112 + lx89 : Int64)
                refine q_tl (v := j114) e115 ?_
                exact q_retl C0 V (⟨rfl, trivial⟩) d_7_17_232
              ·
                have b116 : q_F (lx95.toInt ≠ 0) := (q_neI c103)
                refine lv_iload hx hb d_7_17_194 (lv_at hl 0 rfl) ?_
                refine q_join (X := Unit) (fun z H locs ls _ => q_Wd D g (va_A ws sz) s ws H locs ∧ lv_has ls 12 [(8, .long lx89), (6, .int a74), (0, .ref (q k1))]) (fun z => []) 208 0 0 ?_ ?_
                ·
                  rintro _ H locs ls _ ⟨V, hl⟩
                  replace hl : lv_has ls 12 [(8, .long lx89), (6, .int a74), (0, .ref (q k1))] := hl
                  refine lv_lload hx hb d_7_17_208 (lv_at hl 0 rfl) ?_
                  refine lv_lconst (v := 1) hx hb d_7_17_210 (by decide) ?_
                  refine lv_ladd hx hb d_7_17_211 ?_
                  obtain ⟨j118, e119⟩ := q_nm (lx89 + 1 : Int64)
                  refine q_tl (v := j118) e119 ?_
                  refine lv_lstore (lv' := [(8, .long j118), (6, .int a74), (0, .ref (q k1))]) hx hb d_7_17_212 hl (by decide) rfl (fun ls hl => ?_)
                  refine lv_iload hx hb d_7_17_214 (lv_at hl 1 rfl) ?_
                  refine lv_aload_n hx hb d_7_17_216 rfl (lv_at hl 2 rfl) ?_
                  refine q_get (ci := 6) (j := 1) (v := .int B) C0 V i_Flo rfl rfl hO28 (by decide) w_233 rfl d_7_17_217 ?_
                  refine lv_iadd hx hb d_7_17_220 ?_
                  obtain ⟨a120, e121⟩ := q_nm (a74 + B : Int32)
                  refine q_ti (v := a120) e121 ?_
                  refine lv_iconst (v := 1) hx hb d_7_17_221 (by decide) ?_
                  refine lv_isub hx hb d_7_17_222 ?_
                  obtain ⟨a122, e123⟩ := q_nm (a120 - 1 : Int32)
                  refine q_ti (v := a122) e123 ?_
                  refine lv_i2l hx hb d_7_17_223 rfl ?_
                  obtain ⟨j124, e125⟩ := q_nm (a122.toInt64 : Int64)
                  refine q_tl (v := j124) e125 ?_
                  have b126 : q_F (j124.toInt = a122.toInt) := (by rw [← e125]; show (a122.toInt64 : Int64).toInt = a122.toInt; exact q_i2l rfl)
                  refine lv_aload_n hx hb d_7_17_224 rfl (lv_at hl 2 rfl) ?_
                  refine q_get (ci := 6) (j := 0) (v := .int A) C0 V i_Flo rfl rfl hO28 (by decide) w_231 rfl d_7_17_225 ?_
                  refine lv_lshl hx hb d_7_17_228 rfl ?_
                  obtain ⟨j127, e128⟩ := q_nm (j124 <<< (A.toInt64 &&& 63) : Int64)
                  refine q_tl (v := j127) e128 ?_
                  refine lv_lload hx hb d_7_17_229 (lv_at hl 0 rfl) ?_
                  refine lv_ladd hx hb d_7_17_231 ?_
                  obtain ⟨j129, e130⟩ := q_nm (j127 + j118 : Int64)
                  refine q_tl (v := j129) e130 ?_
                  exact q_retl C0 V (⟨rfl, trivial⟩) d_7_17_232
                ·
                  intro J117
                  refine lv_if_ne (tgt := 208) hx hb d_7_17_196 (by decide) (fun c131 => ?_) (fun c131 => ?_)
                  ·
                    have b132 : q_F (lx99.toInt ≠ 0) := (q_neI c131)
                    exact J117 (()) _ _ _ ws ⟨V, q_lw hl (q_lw1 2 rfl (q_lw1 3 rfl (q_lw1 4 rfl q_lw0)))⟩
                  ·
                    have b133 : q_F (lx99.toInt = 0) := (q_eqI c131)
                    refine lv_lload hx hb d_7_17_199 (lv_at hl 2 rfl) ?_
                    refine lv_lconst (v := 1) hx hb d_7_17_201 (by decide) ?_
                    refine lv_land hx hb d_7_17_202 ?_
                    obtain ⟨j134, e135⟩ := q_nm (lx89 &&& 1 : Int64)
                    refine q_tl (v := j134) e135 ?_
                    have b136 : q_F (0 ≤ j134.toInt ∧ j134.toInt ≤ 1) := (by rw [← e135]; show 0 ≤ (lx89 &&& 1 : Int64).toInt ∧ (lx89 &&& 1 : Int64).toInt ≤ 1; exact s_andJ (by decide))
                    refine lv_lconst (v := 1) hx hb d_7_17_203 (by decide) ?_
                    refine W.lcmp hx hb d_7_17_204 ?_
                    obtain ⟨a137, e138⟩ := q_nm (lg_cmp j134 1 : Int32)
                    refine q_ti (v := a137) e138 ?_
                    have b139 : q_F (-1 ≤ a137.toInt ∧ a137.toInt ≤ 1 ∧ ((a137.toInt = -1 ∧ j134.toInt < 1) ∨ (a137.toInt = 0 ∧ j134.toInt = 1) ∨ (a137.toInt = 1 ∧ 1 < j134.toInt))) := (by rw [← e138]; show -1 ≤ (lg_cmp j134 1 : Int32).toInt ∧ (lg_cmp j134 1 : Int32).toInt ≤ 1 ∧ (((lg_cmp j134 1 : Int32).toInt = -1 ∧ j134.toInt < 1) ∨ ((lg_cmp j134 1 : Int32).toInt = 0 ∧ j134.toInt = 1) ∨ ((lg_cmp j134 1 : Int32).toInt = 1 ∧ 1 < j134.toInt)); exact (by have y1 : (1 : Int64).toInt = 1 := rfl; have z := s_lcmp (a := j134) (b := 1); omega))
                    refine lv_if_ne (tgt := 214) hx hb d_7_17_205 (by decide) (fun c140 => ?_) (fun c140 => ?_)
                    ·
                      have b141 : q_F (a137.toInt ≠ 0) := (q_neI c140)
                      refine lv_iload hx hb d_7_17_214 (lv_at hl 3 rfl) ?_
                      refine lv_aload_n hx hb d_7_17_216 rfl (lv_at hl 4 rfl) ?_
                      refine q_get (ci := 6) (j := 1) (v := .int B) C0 V i_Flo rfl rfl hO28 (by decide) w_233 rfl d_7_17_217 ?_
                      refine lv_iadd hx hb d_7_17_220 ?_
                      obtain ⟨a142, e143⟩ := q_nm (a74 + B : Int32)
                      refine q_ti (v := a142) e143 ?_
                      refine lv_iconst (v := 1) hx hb d_7_17_221 (by decide) ?_
                      refine lv_isub hx hb d_7_17_222 ?_
                      obtain ⟨a144, e145⟩ := q_nm (a142 - 1 : Int32)
                      refine q_ti (v := a144) e145 ?_
                      refine lv_i2l hx hb d_7_17_223 rfl ?_
                      obtain ⟨j146, e147⟩ := q_nm (a144.toInt64 : Int64)
                      refine q_tl (v := j146) e147 ?_
                      have b148 : q_F (j146.toInt = a144.toInt) := (by rw [← e147]; show (a144.toInt64 : Int64).toInt = a144.toInt; exact q_i2l rfl)
                      refine lv_aload_n hx hb d_7_17_224 rfl (lv_at hl 4 rfl) ?_
                      refine q_get (ci := 6) (j := 0) (v := .int A) C0 V i_Flo rfl rfl hO28 (by decide) w_231 rfl d_7_17_225 ?_
                      refine lv_lshl hx hb d_7_17_228 rfl ?_
                      obtain ⟨j149, e150⟩ := q_nm (j146 <<< (A.toInt64 &&& 63) : Int64)
                      refine q_tl (v := j149) e150 ?_
                      refine lv_lload hx hb d_7_17_229 (lv_at hl 2 rfl) ?_
                      refine lv_ladd hx hb d_7_17_231 ?_
                      obtain ⟨j151, e152⟩ := q_nm (j149 + lx89 : Int64)
                      refine q_tl (v := j151) e152 ?_
                      exact q_retl C0 V (⟨rfl, trivial⟩) d_7_17_232
                    ·
                      have b153 : q_F (a137.toInt = 0) := (q_eqI c140)
                      exact J117 (()) _ _ _ ws ⟨V, q_lw hl (q_lw1 2 rfl (q_lw1 3 rfl (q_lw1 4 rfl q_lw0)))⟩
            ·
              intro J100
              refine q_join (X := Unit) (fun z H locs ls _ => q_Wd D g (va_A ws sz) s ws H locs ∧ lv_has ls 12 [(10, .int lx95), (8, .long lx89), (6, .int a74), (0, .ref (q k1))]) (fun z => []) 182 0 0 ?_ ?_
              ·
                rintro _ H locs ls _ ⟨V, hl⟩
                replace hl : lv_has ls 12 [(10, .int lx95), (8, .long lx89), (6, .int a74), (0, .ref (q k1))] := hl
                refine lv_iconst (v := 1) hx hb d_7_17_182 (by decide) ?_
                refine lv_goto (tgt := 187) hx hb d_7_17_183 (by decide) ?_
                exact J100 ((1 : Int32)) _ _ _ ws ⟨(show q_F (1 ≤ 1) from (show 1 ≤ 1 from by omega)), (show q_F (x4.toInt ≤ 1) from (show x4.toInt ≤ 1 from by have t1 : 0 ≤ x4.toInt ∧ x4.toInt ≤ 1 := hzx4; omega)), V, q_lw hl (q_lw1 0 rfl (q_lw1 1 rfl (q_lw1 2 rfl (q_lw1 3 rfl q_lw0))))⟩
              ·
                intro J154
                refine lv_if_ne (tgt := 182) hx hb d_7_17_168 (by decide) (fun c155 => ?_) (fun c155 => ?_)
                ·
                  have b156 : q_F (x4.toInt ≠ 0) := (q_neI c155)
                  exact J154 (()) _ _ _ ws ⟨V, q_lw hl (q_lw1 0 rfl (q_lw1 1 rfl (q_lw1 3 rfl (q_lw1 4 rfl q_lw0))))⟩
                ·
                  have b157 : q_F (x4.toInt = 0) := (q_eqI c155)
                  refine lv_aload_n hx hb d_7_17_171 rfl (lv_at hl 5 rfl) ?_
                  refine q_goi V (q_runV (As := []) (rest := []) (d := 2) (mc := 0) (ms := 0) (ci := 2) C0 V rfl LV_Flo_84 (S_Big_lowestOne l D g (nsh g q) q ws k2 R2 hB2  hI   _) rfl rfl hO1 rfl hl.1 rfl (Nat.le_of_ble_eq_true rfl) ⟨by decide, by decide⟩ ⟨Nat.le_of_ble_eq_true rfl, Nat.le_of_ble_eq_true rfl⟩ d_7_17_172) (fun a160 u158 H locs hp159 V => ?_)
                  obtain ⟨b161, rfl⟩ := hp159
                  replace b161 : q_F (0 ≤ a160.toInt ∧ a160.toInt ≤ 6852) := b161
                  refine lv_iload hx hb d_7_17_175 (lv_at hl 2 rfl) ?_
                  refine lv_iconst (v := 1) hx hb d_7_17_177 (by decide) ?_
                  refine lv_isub hx hb d_7_17_178 ?_
                  obtain ⟨a162, e163⟩ := q_nm (a81 - 1 : Int32)
                  refine q_ti (v := a162) e163 ?_
                  refine lv_icmp_ge (tgt := 186) hx hb d_7_17_179 (by decide) (fun c164 => ?_) (fun c164 => ?_)
                  ·
                    have b165 : q_F (a162.toInt ≤ a160.toInt) := (q_leI c164)
                    refine lv_iconst (v := 0) hx hb d_7_17_186 (by decide) ?_
                    exact J100 ((0 : Int32)) _ _ _ ws ⟨(show q_F (0 ≤ 1) from (show 0 ≤ 1 from by omega)), (show q_F (x4.toInt ≤ 0) from (show x4.toInt ≤ 0 from by have t1 : x4.toInt = 0 := b157; omega)), V, q_lw hl (q_lw1 0 rfl (q_lw1 1 rfl (q_lw1 3 rfl (q_lw1 4 rfl q_lw0))))⟩
                  ·
                    have b166 : q_F (a160.toInt < a162.toInt) := (q_nleI c164)
                    exact J154 (()) _ _ _ ws ⟨V, q_lw hl (q_lw1 0 rfl (q_lw1 1 rfl (q_lw1 3 rfl (q_lw1 4 rfl q_lw0))))⟩
          ·
            intro J96
            refine q_join (X := Unit) (fun z H locs ls _ => q_Wd D g (va_A ws sz) s ws H locs ∧ lv_has ls 12 [(8, .long lx89), (7, .int a81), (6, .int a74), (0, .ref (q k1)), (1, .ref (q k2)), (4, .int x4)]) (fun z => []) 163 0 0 ?_ ?_
            ·
              rintro _ H locs ls _ ⟨V, hl⟩
              replace hl : lv_has ls 12 [(8, .long lx89), (7, .int a81), (6, .int a74), (0, .ref (q k1)), (1, .ref (q k2)), (4, .int x4)] := hl
              refine lv_iconst (v := 0) hx hb d_7_17_163 (by decide) ?_
              exact J96 ((0 : Int32)) _ _ _ ws ⟨(show q_F (lx88.toInt + 1 ≤ 0) from (show lx88.toInt + 1 ≤ 0 from by have t1 : lx88.toInt < 0 := b94; omega)), (show q_F (0 ≤ lx88.toInt + 2) from (show 0 ≤ lx88.toInt + 2 from by have t1 : 0 ≤ lx88.toInt + 1 := i90; omega)), V, q_lw hl (q_lw1 0 rfl (q_lw1 1 rfl (q_lw1 2 rfl (q_lw1 3 rfl (q_lw1 4 rfl (q_lw1 5 rfl q_lw0))))))⟩
            ·
              intro J167
              refine lv_if_le (tgt := 163) hx hb d_7_17_144 (by decide) (fun c168 => ?_) (fun c168 => ?_)
              ·
                have b169 : q_F (a81.toInt ≤ 0) := (q_leI c168)
                exact J167 (()) _ _ _ ws ⟨V, q_lw hl (q_lw1 1 rfl (q_lw1 2 rfl (q_lw1 3 rfl (q_lw1 4 rfl (q_lw1 5 rfl (q_lw1 6 rfl q_lw0))))))⟩
              ·
                have b170 : q_F (0 < a81.toInt) := (q_nleI c168)
                refine lv_aload_n hx hb d_7_17_147 rfl (lv_at hl 5 rfl) ?_
                refine lv_iload hx hb d_7_17_148 (lv_at hl 2 rfl) ?_
                refine lv_iconst (v := 1) hx hb d_7_17_150 (by decide) ?_
                refine lv_isub hx hb d_7_17_151 ?_
                obtain ⟨a171, e172⟩ := q_nm (a81 - 1 : Int32)
                refine q_ti (v := a171) e172 ?_
                have b173 : q_F (a171.toInt = a81.toInt - 1) := (by rw [← e172]; show (a81 - 1 : Int32).toInt = a81.toInt - 1; exact q_subI (x := a81.toInt) (y := 1) rfl (by decide) (by have t1 : 0 < a81.toInt := b170; have _ := q_lo32 (x := a81); have _ := q_hi32 (x := a81); omega) (by have t1 : 0 < a81.toInt := b170; have _ := q_lo32 (x := a81); have _ := q_hi32 (x := a81); omega))
                refine q_goi V (q_runV (As := [.int a171]) (rest := []) (d := 2) (mc := 0) (ms := 0) (ci := 2) C0 V rfl LV_Flo_112 (S_Big_bit l D g (nsh g q) q ws k2 R2 hB2 a171 hI   _) rfl rfl hO1 rfl hl.1 rfl (Nat.le_of_ble_eq_true rfl) ⟨by decide, by decide⟩ ⟨Nat.le_of_ble_eq_true rfl, Nat.le_of_ble_eq_true rfl⟩ d_7_17_152) (fun a176 u174 H locs hp175 V => ?_)
                obtain ⟨b177, rfl⟩ := hp175
                replace b177 : q_F (0 ≤ a176.toInt ∧ a176.toInt ≤ 1) := b177
                refine lv_iconst (v := 1) hx hb d_7_17_155 (by decide) ?_
                refine lv_icmp_ne (tgt := 163) hx hb d_7_17_156 (by decide) (fun c178 => ?_) (fun c178 => ?_)
                ·
                  have b179 : q_F (a176.toInt ≠ 1) := (q_neI c178)
                  exact J167 (()) _ _ _ ws ⟨V, q_lw hl (q_lw1 1 rfl (q_lw1 2 rfl (q_lw1 3 rfl (q_lw1 4 rfl (q_lw1 5 rfl (q_lw1 6 rfl q_lw0))))))⟩
                ·
                  have b180 : q_F (a176.toInt = 1) := (q_eqI c178)
                  refine lv_iconst (v := 1) hx hb d_7_17_159 (by decide) ?_
                  refine lv_goto (tgt := 164) hx hb d_7_17_160 (by decide) ?_
                  exact J96 ((1 : Int32)) _ _ _ ws ⟨(show q_F (lx88.toInt + 1 ≤ 1) from (show lx88.toInt + 1 ≤ 1 from by have t1 : lx88.toInt < 0 := b94; omega)), (show q_F (1 ≤ lx88.toInt + 2) from (show 1 ≤ lx88.toInt + 2 from by have t1 : 0 ≤ lx88.toInt + 1 := i90; omega)), V, q_lw hl (q_lw1 1 rfl (q_lw1 2 rfl (q_lw1 3 rfl (q_lw1 4 rfl (q_lw1 5 rfl (q_lw1 6 rfl q_lw0))))))⟩
        ·
          have b181 : q_F (0 ≤ lx88.toInt) := (q_nltI c93)
          refine lv_lload hx hb d_7_17_107 (lv_at hl 1 rfl) ?_
          refine lv_iconst (v := 1) hx hb d_7_17_109 (by decide) ?_
          refine lv_lshl hx hb d_7_17_110 rfl ?_
          obtain ⟨j182, e183⟩ := q_nm (lx89 <<< ((1 : Int32).toInt64 &&& 63) : Int64)
          refine q_tl (v := j182) e183 ?_
          refine lv_iload hx hb d_7_17_111 (lv_at hl 2 rfl) ?_
          refine lv_iload hx hb d_7_17_113 (lv_at hl 0 rfl) ?_
          refine lv_iadd hx hb d_7_17_115 ?_
          obtain ⟨a184, e185⟩ := q_nm (a81 + lx88 : Int32)
          refine q_ti (v := a184) e185 ?_
          refine lv_if_lt (tgt := 131) hx hb d_7_17_116 (by decide) (fun c186 => ?_) (fun c186 => ?_)
          ·
            have b187 : q_F (a184.toInt < 0) := (q_ltI c186)
            refine lv_iconst (v := 0) hx hb d_7_17_131 (by decide) ?_
            refine lv_i2l hx hb d_7_17_132 rfl ?_
            refine q_tl (v := 0) (by decide) ?_
            refine lv_lor hx hb d_7_17_133 ?_
            obtain ⟨j188, e189⟩ := q_nm (j182 ||| 0 : Int64)
            refine q_tl (v := j188) e189 ?_
            refine lv_lstore (lv' := [(8, .long j188), (10, .int lx88), (7, .int a81), (6, .int a74), (0, .ref (q k1)), (1, .ref (q k2)), (4, .int x4)]) hx hb d_7_17_134 hl (by decide) rfl (fun ls hl => ?_)
            obtain ⟨a190, e191⟩ := q_nm (lx88 + (-1) : Int32)
            have b192 : q_F (a190.toInt = lx88.toInt + (-1)) := (by rw [← e191]; exact q_addI (y := (-1)) rfl (by decide) (by have t1 : 0 ≤ lx88.toInt + 1 := i90; have t2 : lx88.toInt ≤ A.toInt + 1 := i91; have _ := q_lo32 (x := A); have _ := q_hi32 (x := A); omega) (by have t1 : 0 ≤ lx88.toInt + 1 := i90; have t2 : lx88.toInt ≤ A.toInt + 1 := i91; have _ := q_lo32 (x := A); have _ := q_hi32 (x := A); omega))
            refine lv_iinc (v := a190) (lv' := [(10, .int a190), (8, .long j188), (7, .int a81), (6, .int a74), (0, .ref (q k1)), (1, .ref (q k2)), (4, .int x4)]) hx hb d_7_17_136 hl (k := 1) rfl (e191) (by decide) rfl (fun ls hl => ?_)
            refine lv_goto (tgt := 102) hx hb d_7_17_139 (by decide) ?_
            exact ih92 ((a190 : Int32), (j188 : Int64)) _ _ _ ws (show (a190.toInt - ((-1))).toNat < (lx88.toInt - ((-1))).toNat from by have t1 : a190.toInt = lx88.toInt + (-1) := b192; have t2 : 0 ≤ lx88.toInt + 1 := i90; have t3 : 0 ≤ lx88.toInt := b181; omega) ⟨(show q_F (0 ≤ a190.toInt + 1) from (show 0 ≤ a190.toInt + 1 from by have t1 : 0 ≤ lx88.toInt := b181; have t2 : a190.toInt = lx88.toInt + (-1) := b192; omega)), (show q_F (a190.toInt ≤ A.toInt + 1) from (show a190.toInt ≤ A.toInt + 1 from by have t1 : lx88.toInt ≤ A.toInt + 1 := i91; have t2 : a190.toInt = lx88.toInt + (-1) := b192; omega)), V, q_lw hl (q_lw1 0 rfl (q_lw1 1 rfl (q_lw1 2 rfl (q_lw1 3 rfl (q_lw1 4 rfl (q_lw1 5 rfl (q_lw1 6 rfl q_lw0)))))))⟩
          ·
            have b193 : q_F (0 ≤ a184.toInt) := (q_nltI c186)
            refine lv_aload_n hx hb d_7_17_119 rfl (lv_at hl 5 rfl) ?_
            refine lv_iload hx hb d_7_17_120 (lv_at hl 2 rfl) ?_
            refine lv_iload hx hb d_7_17_122 (lv_at hl 0 rfl) ?_
            refine lv_iadd hx hb d_7_17_124 ?_
            obtain ⟨a194, e195⟩ := q_nm (a81 + lx88 : Int32)
            refine q_ti (v := a194) e195 ?_
            refine q_goi V (q_runV (As := [.int a194]) (rest := [.long j182]) (d := 2) (mc := 0) (ms := 0) (ci := 2) C0 V rfl LV_Flo_112 (S_Big_bit l D g (nsh g q) q ws k2 R2 hB2 a194 hI   _) rfl rfl hO1 rfl hl.1 rfl (Nat.le_of_ble_eq_true rfl) ⟨by decide, by decide⟩ ⟨Nat.le_of_ble_eq_true rfl, Nat.le_of_ble_eq_true rfl⟩ d_7_17_125) (fun a198 u196 H locs hp197 V => ?_)
            obtain ⟨b199, rfl⟩ := hp197
            replace b199 : q_F (0 ≤ a198.toInt ∧ a198.toInt ≤ 1) := b199
            refine lv_goto (tgt := 132) hx hb d_7_17_128 (by decide) ?_
            refine lv_i2l hx hb d_7_17_132 rfl ?_
            obtain ⟨j200, e201⟩ := q_nm (a198.toInt64 : Int64)
            refine q_tl (v := j200) e201 ?_
            have b202 : q_F (j200.toInt = a198.toInt) := (by rw [← e201]; show (a198.toInt64 : Int64).toInt = a198.toInt; exact q_i2l rfl)
            refine lv_lor hx hb d_7_17_133 ?_
            obtain ⟨j203, e204⟩ := q_nm (j182 ||| j200 : Int64)
            refine q_tl (v := j203) e204 ?_
            refine lv_lstore (lv' := [(8, .long j203), (10, .int lx88), (7, .int a81), (6, .int a74), (0, .ref (q k1)), (1, .ref (q k2)), (4, .int x4)]) hx hb d_7_17_134 hl (by decide) rfl (fun ls hl => ?_)
            obtain ⟨a205, e206⟩ := q_nm (lx88 + (-1) : Int32)
            have b207 : q_F (a205.toInt = lx88.toInt + (-1)) := (by rw [← e206]; exact q_addI (y := (-1)) rfl (by decide) (by have t1 : 0 ≤ lx88.toInt + 1 := i90; have t2 : lx88.toInt ≤ A.toInt + 1 := i91; have _ := q_lo32 (x := A); have _ := q_hi32 (x := A); omega) (by have t1 : 0 ≤ lx88.toInt + 1 := i90; have t2 : lx88.toInt ≤ A.toInt + 1 := i91; have _ := q_lo32 (x := A); have _ := q_hi32 (x := A); omega))
            refine lv_iinc (v := a205) (lv' := [(10, .int a205), (8, .long j203), (7, .int a81), (6, .int a74), (0, .ref (q k1)), (1, .ref (q k2)), (4, .int x4)]) hx hb d_7_17_136 hl (k := 1) rfl (e206) (by decide) rfl (fun ls hl => ?_)
            refine lv_goto (tgt := 102) hx hb d_7_17_139 (by decide) ?_
            exact ih92 ((a205 : Int32), (j203 : Int64)) _ _ _ ws (show (a205.toInt - ((-1))).toNat < (lx88.toInt - ((-1))).toNat from by have t1 : a205.toInt = lx88.toInt + (-1) := b207; have t2 : 0 ≤ lx88.toInt + 1 := i90; have t3 : 0 ≤ lx88.toInt := b181; omega) ⟨(show q_F (0 ≤ a205.toInt + 1) from (show 0 ≤ a205.toInt + 1 from by have t1 : 0 ≤ lx88.toInt := b181; have t2 : a205.toInt = lx88.toInt + (-1) := b207; omega)), (show q_F (a205.toInt ≤ A.toInt + 1) from (show a205.toInt ≤ A.toInt + 1 from by have t1 : lx88.toInt ≤ A.toInt + 1 := i91; have t2 : a205.toInt = lx88.toInt + (-1) := b207; omega)), V, q_lw hl (q_lw1 0 rfl (q_lw1 1 rfl (q_lw1 2 rfl (q_lw1 3 rfl (q_lw1 4 rfl (q_lw1 5 rfl (q_lw1 6 rfl q_lw0)))))))⟩
      ·
        have b208 : q_F (0 ≤ a45.toInt) := (q_nltI c48)
        refine lv_aload_n hx hb d_7_17_52 rfl (lv_at hl 1 rfl) ?_
        refine q_gol V (q_runV (As := []) (rest := []) (d := 1) (mc := 0) (ms := 0) (ci := 6) C0 V rfl LV_Flo_39 (T_Flo_infinity l D g q ws k1 A B C hB1  hI   _) rfl rfl hO28 rfl hl.1 rfl (Nat.le_of_ble_eq_true rfl) ⟨by decide, by decide⟩ ⟨Nat.le_of_ble_eq_true rfl, Nat.le_of_ble_eq_true rfl⟩ d_7_17_53) (fun j211 u209 H locs hp210 V => ?_)
        obtain ⟨rfl, -⟩ := hp210
        exact q_retl C0 V (⟨rfl, trivial⟩) d_7_17_56
    ·
      have b213 : q_F (a18.toInt < 0) := (q_nleI c21)
      refine lv_lconst (v := 0) hx hb d_7_17_23 (by decide) ?_
      exact q_retl C0 V (⟨rfl, trivial⟩) d_7_17_24
theorem d_7_16_0 : decode prog_7_method_16_code 0 = .ok (.aload_n 3, 1) := by decide +kernel
theorem d_7_16_1 : decode prog_7_method_16_code 1 = .ok (.aload_n 0, 1) := by decide +kernel
theorem d_7_16_2 : decode prog_7_method_16_code 2 = .ok (.if_acmp .ne 5, 3) := by decide +kernel
theorem d_7_16_7 : decode prog_7_method_16_code 7 = .ok (.aload_n 3, 1) := by decide +kernel
theorem d_7_16_8 : decode prog_7_method_16_code 8 = .ok (.lload_n 1, 1) := by decide +kernel
theorem d_7_16_9 : decode prog_7_method_16_code 9 = .ok (.invokevirtual 94, 3) := by decide +kernel
set_option maxRecDepth 100000 in
theorem w_1234 : (Cond.code ({ cls := "NumberHouse$Floats", name := "isNoNumber", desc := "(J)Z" } : MethodName) prog_7_method_6_code (3 : Nat) (some .boolean)) ∈ q_tbl := q_of6 34 rfl (by decide +kernel)
set_option maxRecDepth 100000 in
theorem w_1528 : (Cond.methodLink "NumberHouse$Floats" (94 : Nat) ({ cls := "NumberHouse$Floats", name := "isNoNumber", desc := "(J)Z" } : MethodName)) ∈ q_tbl := q_of7 88 rfl (by decide +kernel)
set_option maxRecDepth 100000 in
theorem w_1232 : (Cond.instanceMethod ({ cls := "NumberHouse$Floats", name := "isNoNumber", desc := "(J)Z" } : MethodName)) ∈ q_tbl := q_of6 32 rfl (by decide +kernel)
set_option maxRecDepth 100000 in
theorem w_1233 : (Cond.selects "NumberHouse$Floats" ({ cls := "NumberHouse$Floats", name := "isNoNumber", desc := "(J)Z" } : MethodName) ({ cls := "NumberHouse$Floats", name := "isNoNumber", desc := "(J)Z" } : MethodName)) ∈ q_tbl := q_of6 33 rfl (by decide +kernel)
theorem LV_Flo_94 : q_LV "NumberHouse$Floats" 94 y_Flo_isNoNumber prog_7_method_6_code 3 (some .boolean) 1 := ⟨w_1234, w_8, w_1528, w_1232, w_1233, ⟨by decide, by decide, by decide +kernel⟩⟩
theorem d_7_16_12 : decode prog_7_method_16_code 12 = .ok (.ifCond .eq 8, 3) := by decide +kernel
theorem d_7_16_20 : decode prog_7_method_16_code 20 = .ok (.aload_n 0, 1) := by decide +kernel
theorem d_7_16_21 : decode prog_7_method_16_code 21 = .ok (.aload_n 3, 1) := by decide +kernel
theorem d_7_16_22 : decode prog_7_method_16_code 22 = .ok (.lload_n 1, 1) := by decide +kernel
theorem d_7_16_23 : decode prog_7_method_16_code 23 = .ok (.invokevirtual 43, 3) := by decide +kernel
theorem d_7_16_26 : decode prog_7_method_16_code 26 = .ok (.invokevirtual 23, 3) := by decide +kernel
theorem d_7_16_29 : decode prog_7_method_16_code 29 = .ok (.lstore 4, 2) := by decide +kernel
theorem d_7_16_31 : decode prog_7_method_16_code 31 = .ok (.aload_n 3, 1) := by decide +kernel
theorem d_7_16_32 : decode prog_7_method_16_code 32 = .ok (.lload_n 1, 1) := by decide +kernel
theorem d_7_16_33 : decode prog_7_method_16_code 33 = .ok (.invokevirtual 31, 3) := by decide +kernel
theorem d_7_16_36 : decode prog_7_method_16_code 36 = .ok (.ifCond .ne 11, 3) := by decide +kernel
theorem d_7_16_47 : decode prog_7_method_16_code 47 = .ok (.aload_n 0, 1) := by decide +kernel
theorem d_7_16_48 : decode prog_7_method_16_code 48 = .ok (.getfield 19, 3) := by decide +kernel
theorem d_7_16_51 : decode prog_7_method_16_code 51 = .ok (.getfield 55, 3) := by decide +kernel
theorem d_7_16_54 : decode prog_7_method_16_code 54 = .ok (.aload_n 3, 1) := by decide +kernel
theorem d_7_16_55 : decode prog_7_method_16_code 55 = .ok (.lload_n 1, 1) := by decide +kernel
theorem d_7_16_56 : decode prog_7_method_16_code 56 = .ok (.invokevirtual 61, 3) := by decide +kernel
theorem d_7_16_59 : decode prog_7_method_16_code 59 = .ok (.invokevirtual 63, 3) := by decide +kernel
theorem d_7_16_62 : decode prog_7_method_16_code 62 = .ok (.aload_n 0, 1) := by decide +kernel
theorem d_7_16_63 : decode prog_7_method_16_code 63 = .ok (.aload_n 0, 1) := by decide +kernel
theorem d_7_16_64 : decode prog_7_method_16_code 64 = .ok (.getfield 19, 3) := by decide +kernel
theorem d_7_16_67 : decode prog_7_method_16_code 67 = .ok (.getfield 55, 3) := by decide +kernel
theorem d_7_16_70 : decode prog_7_method_16_code 70 = .ok (.aload_n 3, 1) := by decide +kernel
theorem d_7_16_71 : decode prog_7_method_16_code 71 = .ok (.lload_n 1, 1) := by decide +kernel
theorem d_7_16_72 : decode prog_7_method_16_code 72 = .ok (.invokevirtual 52, 3) := by decide +kernel
theorem d_7_16_75 : decode prog_7_method_16_code 75 = .ok (.i2l, 1) := by decide +kernel
theorem d_7_16_76 : decode prog_7_method_16_code 76 = .ok (.iconst 0, 1) := by decide +kernel
theorem d_7_16_77 : decode prog_7_method_16_code 77 = .ok (.invokevirtual 100, 3) := by decide +kernel
set_option maxRecDepth 100000 in
theorem w_737 : (Cond.code ({ cls := "NumberHouse$Floats", name := "nearest", desc := "(LNumberHouse$Big;JZ)J" } : MethodName) prog_7_method_17_code (12 : Nat) (some .long)) ∈ q_tbl := q_of4 17 rfl (by decide +kernel)
set_option maxRecDepth 100000 in
theorem w_800 : (Cond.methodLink "NumberHouse$Floats" (100 : Nat) ({ cls := "NumberHouse$Floats", name := "nearest", desc := "(LNumberHouse$Big;JZ)J" } : MethodName)) ∈ q_tbl := q_of4 80 rfl (by decide +kernel)
set_option maxRecDepth 100000 in
theorem w_735 : (Cond.instanceMethod ({ cls := "NumberHouse$Floats", name := "nearest", desc := "(LNumberHouse$Big;JZ)J" } : MethodName)) ∈ q_tbl := q_of4 15 rfl (by decide +kernel)
set_option maxRecDepth 100000 in
theorem w_736 : (Cond.selects "NumberHouse$Floats" ({ cls := "NumberHouse$Floats", name := "nearest", desc := "(LNumberHouse$Big;JZ)J" } : MethodName) ({ cls := "NumberHouse$Floats", name := "nearest", desc := "(LNumberHouse$Big;JZ)J" } : MethodName)) ∈ q_tbl := q_of4 16 rfl (by decide +kernel)
theorem LV_Flo_100 : q_LV "NumberHouse$Floats" 100 y_Flo_nearest prog_7_method_17_code 12 (some .long) 3 := ⟨w_737, w_8, w_800, w_735, w_736, ⟨by decide, by decide, by decide +kernel⟩⟩
theorem d_7_16_80 : decode prog_7_method_16_code 80 = .ok (.lload 4, 2) := by decide +kernel
theorem d_7_16_82 : decode prog_7_method_16_code 82 = .ok (.lor, 1) := by decide +kernel
theorem d_7_16_83 : decode prog_7_method_16_code 83 = .ok (.lreturn, 1) := by decide +kernel
theorem d_7_16_39 : decode prog_7_method_16_code 39 = .ok (.aload_n 0, 1) := by decide +kernel
theorem d_7_16_40 : decode prog_7_method_16_code 40 = .ok (.invokevirtual 39, 3) := by decide +kernel
theorem d_7_16_43 : decode prog_7_method_16_code 43 = .ok (.lload 4, 2) := by decide +kernel
theorem d_7_16_45 : decode prog_7_method_16_code 45 = .ok (.lor, 1) := by decide +kernel
theorem d_7_16_46 : decode prog_7_method_16_code 46 = .ok (.lreturn, 1) := by decide +kernel
theorem d_7_16_15 : decode prog_7_method_16_code 15 = .ok (.aload_n 0, 1) := by decide +kernel
theorem d_7_16_16 : decode prog_7_method_16_code 16 = .ok (.invokevirtual 97, 3) := by decide +kernel
set_option maxRecDepth 100000 in
theorem w_706 : (Cond.code ({ cls := "NumberHouse$Floats", name := "noNumber", desc := "()J" } : MethodName) prog_7_method_10_code (1 : Nat) (some .long)) ∈ q_tbl := q_of3 226 rfl (by decide +kernel)
set_option maxRecDepth 100000 in
theorem w_1529 : (Cond.methodLink "NumberHouse$Floats" (97 : Nat) ({ cls := "NumberHouse$Floats", name := "noNumber", desc := "()J" } : MethodName)) ∈ q_tbl := q_of7 89 rfl (by decide +kernel)
set_option maxRecDepth 100000 in
theorem w_704 : (Cond.instanceMethod ({ cls := "NumberHouse$Floats", name := "noNumber", desc := "()J" } : MethodName)) ∈ q_tbl := q_of3 224 rfl (by decide +kernel)
set_option maxRecDepth 100000 in
theorem w_705 : (Cond.selects "NumberHouse$Floats" ({ cls := "NumberHouse$Floats", name := "noNumber", desc := "()J" } : MethodName) ({ cls := "NumberHouse$Floats", name := "noNumber", desc := "()J" } : MethodName)) ∈ q_tbl := q_of3 225 rfl (by decide +kernel)
theorem LV_Flo_97 : q_LV "NumberHouse$Floats" 97 y_Flo_noNumber prog_7_method_10_code 1 (some .long) 0 := ⟨w_706, w_8, w_1529, w_704, w_705, ⟨by decide, by decide, by decide +kernel⟩⟩
theorem d_7_16_19 : decode prog_7_method_16_code 19 = .ok (.lreturn, 1) := by decide +kernel
theorem d_7_16_5 : decode prog_7_method_16_code 5 = .ok (.lload_n 1, 1) := by decide +kernel
theorem d_7_16_6 : decode prog_7_method_16_code 6 = .ok (.lreturn, 1) := by decide +kernel
def y_Flo_changed : MethodName := ⟨"NumberHouse$Floats", "changed", "(JLNumberHouse$Floats;)J"⟩
set_option maxRecDepth 100000 in
set_option maxHeartbeats 4000000 in
theorem T_Flo_changed (l : Launch) (D : va_G) (g : Nat → ClassId) (q : Nat → Nat) (ws : va_W) (k1 : Nat) (A B C : Int32) (hB1 : q_isFlo (nsh g q) q k1 A B C) (k3 : Nat) (A2 B2 C2 : Int32) (hB3 : q_isFlo (nsh g q) q k3 A2 B2 C2) (x2 : Int64) (hI : q_I (nsh g q) q ws) : q_mL l y_Flo_changed prog_7_method_16_code 6 5 0 0 D g [.ref (q k1), .long x2, .ref (q k3)] ws (fun r u => q_I (nsh g q) q u ∧ q_un ws u [10, 11] ∧ True) := by
  intro sz
  refine q_into (by decide) (Nat.le_of_ble_eq_true rfl) ?_
  intro p e s m below meth c ls hsz C0 V hl
  have hx := C0.1
  have hb := C0.2.1
  have hfk10 : q_F (23 ≤ A.toInt ∧ A.toInt ≤ 52) := hB1.2.1
  have hfk11 : q_F (150 ≤ B.toInt ∧ B.toInt ≤ 1075) := hB1.2.2.1
  have hfk12 : q_F (255 ≤ C.toInt ∧ C.toInt ≤ 2047) := hB1.2.2.2.1
  have hfk30 : q_F (23 ≤ A2.toInt ∧ A2.toInt ≤ 52) := hB3.2.1
  have hfk31 : q_F (150 ≤ B2.toInt ∧ B2.toInt ≤ 1075) := hB3.2.2.1
  have hfk32 : q_F (255 ≤ C2.toInt ∧ C2.toInt ≤ 2047) := hB3.2.2.2.1
  have hF : q_un ws ws [10, 11] := q_u0
  have hl : lv_has ls 6 [(0, .ref (q k1)), (1, .long x2), (3, .ref (q k3))] := hl
  refine lv_aload_n hx hb d_7_16_0 rfl (lv_at hl 2 rfl) ?_
  refine lv_aload_n hx hb d_7_16_1 rfl (lv_at hl 0 rfl) ?_
  obtain ⟨y3, y4, y5, hO2⟩ := n_flO hI hB3
  obtain ⟨y7, y8, y9, hO6⟩ := n_flO hI hB1
  refine lv_acmp_ne (rx := some (q k3)) (ry := some (q k1)) (tgt := 7) hx hb d_7_16_2 (by decide) (fun c1 => ?_) (fun c1 => ?_)
  ·
    refine lv_aload_n hx hb d_7_16_7 rfl (lv_at hl 2 rfl) ?_
    refine lv_lload_n hx hb d_7_16_8 rfl (lv_at hl 1 rfl) ?_
    refine q_goi V (q_runV (As := [.long x2]) (rest := []) (d := 3) (mc := 0) (ms := 0) (ci := 6) C0 V rfl LV_Flo_94 (T_Flo_isNoNumber l D g q ws k3 A2 B2 C2 hB3 x2 hI   _) rfl rfl hO2 rfl hl.1 rfl (Nat.le_of_ble_eq_true rfl) ⟨by decide, by decide⟩ ⟨Nat.le_of_ble_eq_true rfl, Nat.le_of_ble_eq_true rfl⟩ d_7_16_9) (fun a12 u10 H locs hp11 V => ?_)
    obtain ⟨rfl, b13, b14⟩ := hp11
    replace b13 : q_F (0 ≤ a12.toInt) := b13
    replace b14 : q_F (a12.toInt ≤ 1) := b14
    refine lv_if_eq (tgt := 20) hx hb d_7_16_12 (by decide) (fun c16 => ?_) (fun c16 => ?_)
    ·
      have b17 : q_F (a12.toInt = 0) := (q_eqI c16)
      refine lv_aload_n hx hb d_7_16_20 rfl (lv_at hl 0 rfl) ?_
      refine lv_aload_n hx hb d_7_16_21 rfl (lv_at hl 2 rfl) ?_
      refine lv_lload_n hx hb d_7_16_22 rfl (lv_at hl 1 rfl) ?_
      refine q_goi V (q_runV (As := [.long x2]) (rest := [.ref (q k1)]) (d := 2) (mc := 0) (ms := 0) (ci := 6) C0 V rfl LV_Flo_43 (T_Flo_isNegative l D g q ws k3 A2 B2 C2 hB3 x2 hI   _) rfl rfl hO2 rfl hl.1 rfl (Nat.le_of_ble_eq_true rfl) ⟨by decide, by decide⟩ ⟨Nat.le_of_ble_eq_true rfl, Nat.le_of_ble_eq_true rfl⟩ d_7_16_23) (fun a20 u18 H locs hp19 V => ?_)
      obtain ⟨rfl, b21, b22⟩ := hp19
      replace b21 : q_F (0 ≤ a20.toInt) := b21
      replace b22 : q_F (a20.toInt ≤ 1) := b22
      refine q_gol V (q_runV (As := [.int a20]) (rest := []) (d := 1) (mc := 0) (ms := 0) (ci := 6) C0 V rfl LV_Flo_23 (T_Flo_signBit l D g q ws k1 A B C hB1 a20 hI  ⟨(by have t1 : 0 ≤ a20.toInt := b21; omega), (by have t1 : a20.toInt ≤ 1 := b22; omega)⟩ _) rfl rfl hO6 rfl hl.1 rfl (Nat.le_of_ble_eq_true rfl) ⟨by decide, by decide⟩ ⟨Nat.le_of_ble_eq_true rfl, Nat.le_of_ble_eq_true rfl⟩ d_7_16_26) (fun j26 u24 H locs hp25 V => ?_)
      obtain ⟨rfl, -⟩ := hp25
      refine lv_lstore (lv' := [(4, .long j26), (0, .ref (q k1)), (1, .long x2), (3, .ref (q k3))]) hx hb d_7_16_29 hl (by decide) rfl (fun ls hl => ?_)
      refine lv_aload_n hx hb d_7_16_31 rfl (lv_at hl 3 rfl) ?_
      refine lv_lload_n hx hb d_7_16_32 rfl (lv_at hl 2 rfl) ?_
      refine q_goi V (q_runV (As := [.long x2]) (rest := []) (d := 2) (mc := 0) (ms := 0) (ci := 6) C0 V rfl LV_Flo_31 (T_Flo_isFinite l D g q ws k3 A2 B2 C2 hB3 x2 hI   _) rfl rfl hO2 rfl hl.1 rfl (Nat.le_of_ble_eq_true rfl) ⟨by decide, by decide⟩ ⟨Nat.le_of_ble_eq_true rfl, Nat.le_of_ble_eq_true rfl⟩ d_7_16_33) (fun a30 u28 H locs hp29 V => ?_)
      obtain ⟨rfl, b31, b32⟩ := hp29
      replace b31 : q_F (0 ≤ a30.toInt) := b31
      replace b32 : q_F (a30.toInt ≤ 1) := b32
      refine lv_if_ne (tgt := 47) hx hb d_7_16_36 (by decide) (fun c34 => ?_) (fun c34 => ?_)
      ·
        have b35 : q_F (a30.toInt ≠ 0) := (q_neI c34)
        refine lv_aload_n hx hb d_7_16_47 rfl (lv_at hl 1 rfl) ?_
        refine q_get (ci := 6) (j := 5) (v := .ref (q 9)) C0 V i_Flo rfl rfl hO6 (by decide) w_241 rfl d_7_16_48 ?_
        have hO36 := n_o9 hI
        refine q_get (ci := 4) (j := 0) (v := .ref (q 10)) C0 V i_Mil rfl rfl hO36 (by decide) w_113 rfl d_7_16_51 ?_
        refine lv_aload_n hx hb d_7_16_54 rfl (lv_at hl 3 rfl) ?_
        refine lv_lload_n hx hb d_7_16_55 rfl (lv_at hl 2 rfl) ?_
        refine q_gol V (q_runV (As := [.long x2]) (rest := [.ref (q 10)]) (d := 2) (mc := 0) (ms := 0) (ci := 6) C0 V rfl LV_Flo_61 (T_Flo_number l D g q ws k3 A2 B2 C2 hB3 x2 hI   _) rfl rfl hO2 rfl hl.1 rfl (Nat.le_of_ble_eq_true rfl) ⟨by decide, by decide⟩ ⟨Nat.le_of_ble_eq_true rfl, Nat.le_of_ble_eq_true rfl⟩ d_7_16_56) (fun j39 u37 H locs hp38 V => ?_)
        obtain ⟨rfl, -⟩ := hp38
        obtain ⟨y42, y43, hO41, b44, b45⟩ := q_bigO hI (n_b10 g q)
        replace b44 : q_F (0 ≤ y42.toInt ∧ y42.toInt ≤ 220) := b44
        replace b45 : q_F (0 ≤ y43.toInt ∧ y43.toInt ≤ 1) := b45
        refine q_gov V (q_runV (As := [.long j39]) (rest := []) (d := 2) (mc := 0) (ms := 0) (ci := 2) C0 V rfl LV_Flo_63 (S_Big_setLong l D g (nsh g q) q ws 10 220 (n_b10 g q) j39 hI   _) rfl rfl hO41 rfl hl.1 rfl (Nat.le_of_ble_eq_true rfl) ⟨by decide, by decide⟩ ⟨Nat.le_of_ble_eq_true rfl, Nat.le_of_ble_eq_true rfl⟩ d_7_16_59) (fun u46 H locs hp47 V => ?_)
        obtain ⟨_, hI, hu48⟩ := hp47
        replace hO2 := (hu48 _ (by have z0 := hB3.2.2.2.2; simp only [List.mem_cons, List.not_mem_nil, or_false, not_or]; omega)).trans hO2
        replace hO6 := (hu48 _ (by have z0 := hB1.2.2.2.2; simp only [List.mem_cons, List.not_mem_nil, or_false, not_or]; omega)).trans hO6
        replace hO36 := (hu48 _ (by decide)).trans hO36
        replace hF := q_uc hF hu48 (by simp)
        refine lv_aload_n hx hb d_7_16_62 rfl (lv_at hl 1 rfl) ?_
        refine lv_aload_n hx hb d_7_16_63 rfl (lv_at hl 1 rfl) ?_
        refine q_get (ci := 6) (j := 5) (v := .ref (q 9)) C0 V i_Flo rfl rfl hO6 (by decide) w_241 rfl d_7_16_64 ?_
        refine q_get (ci := 4) (j := 0) (v := .ref (q 10)) C0 V i_Mil rfl rfl hO36 (by decide) w_113 rfl d_7_16_67 ?_
        refine lv_aload_n hx hb d_7_16_70 rfl (lv_at hl 3 rfl) ?_
        refine lv_lload_n hx hb d_7_16_71 rfl (lv_at hl 2 rfl) ?_
        refine q_goi V (q_runV (As := [.long x2]) (rest := [.ref (q 10), .ref (q k1)]) (d := 2) (mc := 0) (ms := 0) (ci := 6) C0 V rfl LV_Flo_52 (T_Flo_power l D g q u46 k3 A2 B2 C2 hB3 x2 hI   _) rfl rfl hO2 rfl hl.1 rfl (Nat.le_of_ble_eq_true rfl) ⟨by decide, by decide⟩ ⟨Nat.le_of_ble_eq_true rfl, Nat.le_of_ble_eq_true rfl⟩ d_7_16_72) (fun a51 u49 H locs hp50 V => ?_)
        obtain ⟨rfl, b52, b53⟩ := hp50
        replace b52 : q_F (0 ≤ a51.toInt + 1074) := b52
        replace b53 : q_F (a51.toInt + 150 ≤ C2.toInt) := b53
        refine lv_i2l hx hb d_7_16_75 rfl ?_
        obtain ⟨j55, e56⟩ := q_nm (a51.toInt64 : Int64)
        refine q_tl (v := j55) e56 ?_
        have b57 : q_F (j55.toInt = a51.toInt) := (by rw [← e56]; show (a51.toInt64 : Int64).toInt = a51.toInt; exact q_i2l rfl)
        refine lv_iconst (v := 0) hx hb d_7_16_76 (by decide) ?_
        refine q_gol V (q_runV (As := [.ref (q 10), .long j55, .int 0]) (rest := []) (d := 4) (mc := 0) (ms := 0) (ci := 6) C0 V rfl LV_Flo_100 (T_Flo_nearest l D g q u46 k1 A B C hB1 10 220 (n_b10 g q) (by decide) j55 0 hI  ⟨(by have y0 : (220 : Int32).toInt = 220 := rfl; have y1 : (0 : Int32).toInt = 0 := rfl; omega), (by have y0 : (220 : Int32).toInt = 220 := rfl; have y1 : (0 : Int32).toInt = 0 := rfl; omega)⟩ _) rfl rfl hO6 rfl hl.1 rfl (Nat.le_of_ble_eq_true rfl) ⟨by decide, by decide⟩ ⟨Nat.le_of_ble_eq_true rfl, Nat.le_of_ble_eq_true rfl⟩ d_7_16_77) (fun j60 u58 H locs hp59 V => ?_)
        obtain ⟨rfl, -⟩ := hp59
        refine lv_lload hx hb d_7_16_80 (lv_at hl 0 rfl) ?_
        refine lv_lor hx hb d_7_16_82 ?_
        obtain ⟨j62, e63⟩ := q_nm (j60 ||| j26 : Int64)
        refine q_tl (v := j62) e63 ?_
        exact q_retl C0 V (⟨hI, hF, trivial⟩) d_7_16_83
      ·
        have b64 : q_F (a30.toInt = 0) := (q_eqI c34)
        refine lv_aload_n hx hb d_7_16_39 rfl (lv_at hl 1 rfl) ?_
        refine q_gol V (q_runV (As := []) (rest := []) (d := 1) (mc := 0) (ms := 0) (ci := 6) C0 V rfl LV_Flo_39 (T_Flo_infinity l D g q ws k1 A B C hB1  hI   _) rfl rfl hO6 rfl hl.1 rfl (Nat.le_of_ble_eq_true rfl) ⟨by decide, by decide⟩ ⟨Nat.le_of_ble_eq_true rfl, Nat.le_of_ble_eq_true rfl⟩ d_7_16_40) (fun j67 u65 H locs hp66 V => ?_)
        obtain ⟨rfl, -⟩ := hp66
        refine lv_lload hx hb d_7_16_43 (lv_at hl 0 rfl) ?_
        refine lv_lor hx hb d_7_16_45 ?_
        obtain ⟨j69, e70⟩ := q_nm (j67 ||| j26 : Int64)
        refine q_tl (v := j69) e70 ?_
        exact q_retl C0 V (⟨hI, hF, trivial⟩) d_7_16_46
    ·
      have b71 : q_F (a12.toInt ≠ 0) := (q_neI c16)
      refine lv_aload_n hx hb d_7_16_15 rfl (lv_at hl 0 rfl) ?_
      refine q_gol V (q_runV (As := []) (rest := []) (d := 2) (mc := 0) (ms := 0) (ci := 6) C0 V rfl LV_Flo_97 (T_Flo_noNumber l D g q ws k1 A B C hB1  hI   _) rfl rfl hO6 rfl hl.1 rfl (Nat.le_of_ble_eq_true rfl) ⟨by decide, by decide⟩ ⟨Nat.le_of_ble_eq_true rfl, Nat.le_of_ble_eq_true rfl⟩ d_7_16_16) (fun j74 u72 H locs hp73 V => ?_)
      obtain ⟨rfl, -⟩ := hp73
      exact q_retl C0 V (⟨hI, hF, trivial⟩) d_7_16_19
  ·
    refine lv_lload_n hx hb d_7_16_5 rfl (lv_at hl 1 rfl) ?_
    exact q_retl C0 V (⟨hI, hF, trivial⟩) d_7_16_6
theorem d_7_21_0 : decode prog_7_method_21_code 0 = .ok (.aload_n 0, 1) := by decide +kernel
theorem d_7_21_1 : decode prog_7_method_21_code 1 = .ok (.getfield 19, 3) := by decide +kernel
theorem d_7_21_4 : decode prog_7_method_21_code 4 = .ok (.getfield 124, 3) := by decide +kernel
set_option maxRecDepth 100000 in
theorem w_127 : (Cond.fieldLink "NumberHouse$Floats" (124 : Nat) "NumberHouse$Mill" "one" "LNumberHouse$Big;") ∈ q_tbl := q_of1 127 rfl (by decide +kernel)
theorem d_7_21_7 : decode prog_7_method_21_code 7 = .ok (.bipush 10, 2) := by decide +kernel
theorem d_7_21_9 : decode prog_7_method_21_code 9 = .ok (.iconst 0, 1) := by decide +kernel
theorem d_7_21_10 : decode prog_7_method_21_code 10 = .ok (.invokevirtual 190, 3) := by decide +kernel
set_option maxRecDepth 100000 in
theorem w_1193 : (Cond.methodLink "NumberHouse$Floats" (190 : Nat) ({ cls := "NumberHouse$Big", name := "multiplySmall", desc := "(II)V" } : MethodName)) ∈ q_tbl := q_of5 233 rfl (by decide +kernel)
theorem LV_Flo_190 : q_LV "NumberHouse$Floats" 190 y_Big_multiplySmall prog_2_method_26_code 8 none 2 := ⟨w_606, w_4, w_1193, w_604, w_605, ⟨by decide, by decide, by decide +kernel⟩⟩
theorem d_7_21_13 : decode prog_7_method_21_code 13 = .ok (.aload_n 0, 1) := by decide +kernel
theorem d_7_21_14 : decode prog_7_method_21_code 14 = .ok (.getfield 19, 3) := by decide +kernel
theorem d_7_21_17 : decode prog_7_method_21_code 17 = .ok (.getfield 165, 3) := by decide +kernel
set_option maxRecDepth 100000 in
theorem w_132 : (Cond.fieldLink "NumberHouse$Floats" (165 : Nat) "NumberHouse$Mill" "three" "LNumberHouse$Big;") ∈ q_tbl := q_of1 132 rfl (by decide +kernel)
theorem d_7_21_20 : decode prog_7_method_21_code 20 = .ok (.bipush 10, 2) := by decide +kernel
theorem d_7_21_22 : decode prog_7_method_21_code 22 = .ok (.iconst 0, 1) := by decide +kernel
theorem d_7_21_23 : decode prog_7_method_21_code 23 = .ok (.invokevirtual 190, 3) := by decide +kernel
theorem d_7_21_26 : decode prog_7_method_21_code 26 = .ok (.aload_n 0, 1) := by decide +kernel
theorem d_7_21_27 : decode prog_7_method_21_code 27 = .ok (.getfield 19, 3) := by decide +kernel
theorem d_7_21_30 : decode prog_7_method_21_code 30 = .ok (.getfield 159, 3) := by decide +kernel
set_option maxRecDepth 100000 in
theorem w_134 : (Cond.fieldLink "NumberHouse$Floats" (159 : Nat) "NumberHouse$Mill" "four" "LNumberHouse$Big;") ∈ q_tbl := q_of1 134 rfl (by decide +kernel)
theorem d_7_21_33 : decode prog_7_method_21_code 33 = .ok (.bipush 10, 2) := by decide +kernel
theorem d_7_21_35 : decode prog_7_method_21_code 35 = .ok (.iconst 0, 1) := by decide +kernel
theorem d_7_21_36 : decode prog_7_method_21_code 36 = .ok (.invokevirtual 190, 3) := by decide +kernel
theorem d_7_21_39 : decode prog_7_method_21_code 39 = .ok (.iconst 0, 1) := by decide +kernel
theorem d_7_21_40 : decode prog_7_method_21_code 40 = .ok (.istore_n 1, 1) := by decide +kernel
theorem d_7_21_41 : decode prog_7_method_21_code 41 = .ok (.iload_n 1, 1) := by decide +kernel
theorem d_7_21_42 : decode prog_7_method_21_code 42 = .ok (.bipush 9, 2) := by decide +kernel
theorem d_7_21_44 : decode prog_7_method_21_code 44 = .ok (.if_icmp .ge 46, 3) := by decide +kernel
theorem d_7_21_90 : decode prog_7_method_21_code 90 = .ok (.iload_n 1, 1) := by decide +kernel
theorem d_7_21_91 : decode prog_7_method_21_code 91 = .ok (.ireturn, 1) := by decide +kernel
theorem d_7_21_47 : decode prog_7_method_21_code 47 = .ok (.aload_n 0, 1) := by decide +kernel
theorem d_7_21_48 : decode prog_7_method_21_code 48 = .ok (.getfield 19, 3) := by decide +kernel
theorem d_7_21_51 : decode prog_7_method_21_code 51 = .ok (.getfield 124, 3) := by decide +kernel
theorem d_7_21_54 : decode prog_7_method_21_code 54 = .ok (.aload_n 0, 1) := by decide +kernel
theorem d_7_21_55 : decode prog_7_method_21_code 55 = .ok (.getfield 19, 3) := by decide +kernel
theorem d_7_21_58 : decode prog_7_method_21_code 58 = .ok (.getfield 131, 3) := by decide +kernel
set_option maxRecDepth 100000 in
theorem w_130 : (Cond.fieldLink "NumberHouse$Floats" (131 : Nat) "NumberHouse$Mill" "two" "LNumberHouse$Big;") ∈ q_tbl := q_of1 130 rfl (by decide +kernel)
theorem d_7_21_61 : decode prog_7_method_21_code 61 = .ok (.invokevirtual 162, 3) := by decide +kernel
set_option maxRecDepth 100000 in
theorem w_1192 : (Cond.methodLink "NumberHouse$Floats" (162 : Nat) ({ cls := "NumberHouse$Big", name := "compareSize", desc := "(LNumberHouse$Big;)I" } : MethodName)) ∈ q_tbl := q_of5 232 rfl (by decide +kernel)
theorem LV_Flo_162 : q_LV "NumberHouse$Floats" 162 y_Big_compareSize prog_2_method_21_code 3 (some .int) 1 := ⟨w_780, w_4, w_1192, w_778, w_779, ⟨by decide, by decide, by decide +kernel⟩⟩
theorem d_7_21_64 : decode prog_7_method_21_code 64 = .ok (.ifCond .lt 26, 3) := by decide +kernel
theorem d_7_21_67 : decode prog_7_method_21_code 67 = .ok (.aload_n 0, 1) := by decide +kernel
theorem d_7_21_68 : decode prog_7_method_21_code 68 = .ok (.getfield 19, 3) := by decide +kernel
theorem d_7_21_71 : decode prog_7_method_21_code 71 = .ok (.getfield 124, 3) := by decide +kernel
theorem d_7_21_74 : decode prog_7_method_21_code 74 = .ok (.aload_n 0, 1) := by decide +kernel
theorem d_7_21_75 : decode prog_7_method_21_code 75 = .ok (.getfield 19, 3) := by decide +kernel
theorem d_7_21_78 : decode prog_7_method_21_code 78 = .ok (.getfield 131, 3) := by decide +kernel
theorem d_7_21_81 : decode prog_7_method_21_code 81 = .ok (.invokevirtual 194, 3) := by decide +kernel
set_option maxRecDepth 100000 in
theorem w_1199 : (Cond.methodLink "NumberHouse$Floats" (194 : Nat) ({ cls := "NumberHouse$Big", name := "subtractSize", desc := "(LNumberHouse$Big;)V" } : MethodName)) ∈ q_tbl := q_of5 239 rfl (by decide +kernel)
theorem LV_Flo_194 : q_LV "NumberHouse$Floats" 194 y_Big_subtractSize prog_2_method_24_code 5 none 1 := ⟨w_1202, w_4, w_1199, w_1200, w_1201, ⟨by decide, by decide, by decide +kernel⟩⟩
theorem d_7_21_84 : decode prog_7_method_21_code 84 = .ok (.iinc 1 1, 3) := by decide +kernel
theorem d_7_21_87 : decode prog_7_method_21_code 87 = .ok (.goto (-46), 3) := by decide +kernel
def y_Flo_nextFigure : MethodName := ⟨"NumberHouse$Floats", "nextFigure", "()I"⟩
set_option maxRecDepth 100000 in
set_option maxHeartbeats 4000000 in
theorem T_Flo_nextFigure (l : Launch) (D : va_G) (g : Nat → ClassId) (q : Nat → Nat) (ws : va_W) (k1 : Nat) (A B C : Int32) (hB1 : q_isFlo (nsh g q) q k1 A B C) (hI : q_I (nsh g q) q ws) : q_mI l y_Flo_nextFigure prog_7_method_21_code 2 (.int) 3 0 0 D g [.ref (q k1)] ws (fun r u => q_I (nsh g q) q u ∧ q_un ws u [22, 23, 26, 27, 28, 29] ∧ (0 ≤ r.toInt) ∧ (r.toInt ≤ 9)) := by
  intro sz
  refine q_into (by decide) (Nat.le_of_ble_eq_true rfl) ?_
  intro p e s m below meth c ls hsz C0 V hl
  have hx := C0.1
  have hb := C0.2.1
  have hfk10 : q_F (23 ≤ A.toInt ∧ A.toInt ≤ 52) := hB1.2.1
  have hfk11 : q_F (150 ≤ B.toInt ∧ B.toInt ≤ 1075) := hB1.2.2.1
  have hfk12 : q_F (255 ≤ C.toInt ∧ C.toInt ≤ 2047) := hB1.2.2.2.1
  have hF : q_un ws ws [22, 23, 26, 27, 28, 29] := q_u0
  have hl : lv_has ls 2 [(0, .ref (q k1))] := hl
  refine lv_aload_n hx hb d_7_21_0 rfl (lv_at hl 0 rfl) ?_
  obtain ⟨y2, y3, y4, hO1⟩ := n_flO hI hB1
  refine q_get (ci := 6) (j := 5) (v := .ref (q 9)) C0 V i_Flo rfl rfl hO1 (by decide) w_241 rfl d_7_21_1 ?_
  have hO5 := n_o9 hI
  refine q_get (ci := 4) (j := 6) (v := .ref (q 22)) C0 V i_Mil rfl rfl hO5 (by decide) w_127 rfl d_7_21_4 ?_
  refine lv_bipush (v := 10) hx hb d_7_21_7 (by decide) ?_
  refine lv_iconst (v := 0) hx hb d_7_21_9 (by decide) ?_
  obtain ⟨y7, y8, hO6, b9, b10⟩ := q_bigO hI (n_b22 g q)
  replace b9 : q_F (0 ≤ y7.toInt ∧ y7.toInt ≤ 220) := b9
  replace b10 : q_F (0 ≤ y8.toInt ∧ y8.toInt ≤ 1) := b10
  refine q_gov V (q_runV (As := [.int 10, .int 0]) (rest := []) (d := 1) (mc := 0) (ms := 0) (ci := 2) C0 V rfl LV_Flo_190 (S_Big_multiplySmall l D g (nsh g q) q ws 22 220 (n_b22 g q) 10 0 hI   _) rfl rfl hO6 rfl hl.1 rfl (Nat.le_of_ble_eq_true rfl) ⟨by decide, by decide⟩ ⟨Nat.le_of_ble_eq_true rfl, Nat.le_of_ble_eq_true rfl⟩ d_7_21_10) (fun u11 H locs hp12 V => ?_)
  obtain ⟨_, hI, hu13⟩ := hp12
  replace hO1 := (hu13 _ (by have z0 := hB1.2.2.2.2; simp only [List.mem_cons, List.not_mem_nil, or_false, not_or]; omega)).trans hO1
  replace hO5 := (hu13 _ (by decide)).trans hO5
  replace hF := q_uc hF hu13 (by simp)
  refine lv_aload_n hx hb d_7_21_13 rfl (lv_at hl 0 rfl) ?_
  refine q_get (ci := 6) (j := 5) (v := .ref (q 9)) C0 V i_Flo rfl rfl hO1 (by decide) w_241 rfl d_7_21_14 ?_
  refine q_get (ci := 4) (j := 8) (v := .ref (q 26)) C0 V i_Mil rfl rfl hO5 (by decide) w_132 rfl d_7_21_17 ?_
  refine lv_bipush (v := 10) hx hb d_7_21_20 (by decide) ?_
  refine lv_iconst (v := 0) hx hb d_7_21_22 (by decide) ?_
  obtain ⟨y15, y16, hO14, b17, b18⟩ := q_bigO hI (n_b26 g q)
  replace b17 : q_F (0 ≤ y15.toInt ∧ y15.toInt ≤ 220) := b17
  replace b18 : q_F (0 ≤ y16.toInt ∧ y16.toInt ≤ 1) := b18
  refine q_gov V (q_runV (As := [.int 10, .int 0]) (rest := []) (d := 1) (mc := 0) (ms := 0) (ci := 2) C0 V rfl LV_Flo_190 (S_Big_multiplySmall l D g (nsh g q) q u11 26 220 (n_b26 g q) 10 0 hI   _) rfl rfl hO14 rfl hl.1 rfl (Nat.le_of_ble_eq_true rfl) ⟨by decide, by decide⟩ ⟨Nat.le_of_ble_eq_true rfl, Nat.le_of_ble_eq_true rfl⟩ d_7_21_23) (fun u19 H locs hp20 V => ?_)
  obtain ⟨_, hI, hu21⟩ := hp20
  replace hO1 := (hu21 _ (by have z0 := hB1.2.2.2.2; simp only [List.mem_cons, List.not_mem_nil, or_false, not_or]; omega)).trans hO1
  replace hO5 := (hu21 _ (by decide)).trans hO5
  replace hF := q_uc hF hu21 (by simp)
  refine lv_aload_n hx hb d_7_21_26 rfl (lv_at hl 0 rfl) ?_
  refine q_get (ci := 6) (j := 5) (v := .ref (q 9)) C0 V i_Flo rfl rfl hO1 (by decide) w_241 rfl d_7_21_27 ?_
  refine q_get (ci := 4) (j := 9) (v := .ref (q 28)) C0 V i_Mil rfl rfl hO5 (by decide) w_134 rfl d_7_21_30 ?_
  refine lv_bipush (v := 10) hx hb d_7_21_33 (by decide) ?_
  refine lv_iconst (v := 0) hx hb d_7_21_35 (by decide) ?_
  obtain ⟨y23, y24, hO22, b25, b26⟩ := q_bigO hI (n_b28 g q)
  replace b25 : q_F (0 ≤ y23.toInt ∧ y23.toInt ≤ 220) := b25
  replace b26 : q_F (0 ≤ y24.toInt ∧ y24.toInt ≤ 1) := b26
  refine q_gov V (q_runV (As := [.int 10, .int 0]) (rest := []) (d := 1) (mc := 0) (ms := 0) (ci := 2) C0 V rfl LV_Flo_190 (S_Big_multiplySmall l D g (nsh g q) q u19 28 220 (n_b28 g q) 10 0 hI   _) rfl rfl hO22 rfl hl.1 rfl (Nat.le_of_ble_eq_true rfl) ⟨by decide, by decide⟩ ⟨Nat.le_of_ble_eq_true rfl, Nat.le_of_ble_eq_true rfl⟩ d_7_21_36) (fun u27 H locs hp28 V => ?_)
  obtain ⟨_, hI, hu29⟩ := hp28
  replace hO1 := (hu29 _ (by have z0 := hB1.2.2.2.2; simp only [List.mem_cons, List.not_mem_nil, or_false, not_or]; omega)).trans hO1
  replace hO5 := (hu29 _ (by decide)).trans hO5
  replace hF := q_uc hF hu29 (by simp)
  refine lv_iconst (v := 0) hx hb d_7_21_39 (by decide) ?_
  refine lv_istore_n (lv' := [(1, .int 0), (0, .ref (q k1))]) hx hb d_7_21_40 rfl hl (by decide) rfl (fun ls hl => ?_)
  refine q_loop (X := Int32) (fun z H locs ls w34 => q_F (0 ≤ z.toInt) ∧ q_F (z.toInt ≤ 9) ∧ q_Wd D g (va_A ws sz) s w34 H locs ∧ lv_has ls 2 [(1, .int z), (0, .ref (q k1))] ∧ q_I (nsh g q) q w34 ∧ q_un ws w34 [22, 23, 26, 27, 28, 29]) (fun z => (9 - z.toInt).toNat) ?_ ((0 : Int32)) _ _ _ u27 ⟨(show q_F (0 ≤ 0) from (show 0 ≤ 0 from by omega)), (show q_F (0 ≤ 9) from (show 0 ≤ 9 from by omega)), V, q_lw hl (q_lw1 0 rfl (q_lw1 1 rfl q_lw0)), hI, hF⟩
  rintro lx30 H locs ls w34 ⟨i31, i32, V, hl, hI, hF⟩ ih33
  replace i31 : q_F (0 ≤ lx30.toInt) := i31
  replace i32 : q_F (lx30.toInt ≤ 9) := i32
  replace hl : lv_has ls 2 [(1, .int lx30), (0, .ref (q k1))] := hl
  refine lv_iload_n hx hb d_7_21_41 rfl (lv_at hl 0 rfl) ?_
  refine lv_bipush (v := 9) hx hb d_7_21_42 (by decide) ?_
  refine lv_icmp_ge (tgt := 90) hx hb d_7_21_44 (by decide) (fun c35 => ?_) (fun c35 => ?_)
  ·
    have b36 : q_F (9 ≤ lx30.toInt) := (q_leI c35)
    refine lv_iload_n hx hb d_7_21_90 rfl (lv_at hl 0 rfl) ?_
    exact q_reti C0 V (⟨hI, hF, (show 0 ≤ lx30.toInt from (by have t1 : 0 ≤ lx30.toInt := i31; omega)), (show lx30.toInt ≤ 9 from (by have t1 : lx30.toInt ≤ 9 := i32; omega))⟩) d_7_21_91
  ·
    have b37 : q_F (lx30.toInt < 9) := (q_nleI c35)
    refine lv_aload_n hx hb d_7_21_47 rfl (lv_at hl 1 rfl) ?_
    obtain ⟨y39, y40, y41, hO38⟩ := n_flO hI hB1
    refine q_get (ci := 6) (j := 5) (v := .ref (q 9)) C0 V i_Flo rfl rfl hO38 (by decide) w_241 rfl d_7_21_48 ?_
    have hO42 := n_o9 hI
    refine q_get (ci := 4) (j := 6) (v := .ref (q 22)) C0 V i_Mil rfl rfl hO42 (by decide) w_127 rfl d_7_21_51 ?_
    refine lv_aload_n hx hb d_7_21_54 rfl (lv_at hl 1 rfl) ?_
    refine q_get (ci := 6) (j := 5) (v := .ref (q 9)) C0 V i_Flo rfl rfl hO38 (by decide) w_241 rfl d_7_21_55 ?_
    refine q_get (ci := 4) (j := 7) (v := .ref (q 24)) C0 V i_Mil rfl rfl hO42 (by decide) w_130 rfl d_7_21_58 ?_
    obtain ⟨y44, y45, hO43, b46, b47⟩ := q_bigO hI (n_b22 g q)
    replace b46 : q_F (0 ≤ y44.toInt ∧ y44.toInt ≤ 220) := b46
    replace b47 : q_F (0 ≤ y45.toInt ∧ y45.toInt ≤ 1) := b47
    refine q_goi V (q_runV (As := [.ref (q 24)]) (rest := []) (d := 2) (mc := 0) (ms := 0) (ci := 2) C0 V rfl LV_Flo_162 (S_Big_compareSize l D g (nsh g q) q w34 22 220 (n_b22 g q) 24 220 (n_b24 g q)  hI   _) rfl rfl hO43 rfl hl.1 rfl (Nat.le_of_ble_eq_true rfl) ⟨by decide, by decide⟩ ⟨Nat.le_of_ble_eq_true rfl, Nat.le_of_ble_eq_true rfl⟩ d_7_21_61) (fun a50 u48 H locs hp49 V => ?_)
    obtain ⟨b51, rfl⟩ := hp49
    replace b51 : q_F (-1 ≤ a50.toInt ∧ a50.toInt ≤ 1) := b51
    refine lv_if_lt (tgt := 90) hx hb d_7_21_64 (by decide) (fun c52 => ?_) (fun c52 => ?_)
    ·
      have b53 : q_F (a50.toInt < 0) := (q_ltI c52)
      refine lv_iload_n hx hb d_7_21_90 rfl (lv_at hl 0 rfl) ?_
      exact q_reti C0 V (⟨hI, hF, (show 0 ≤ lx30.toInt from (by have t1 : 0 ≤ lx30.toInt := i31; omega)), (show lx30.toInt ≤ 9 from (by have t1 : lx30.toInt ≤ 9 := i32; omega))⟩) d_7_21_91
    ·
      have b54 : q_F (0 ≤ a50.toInt) := (q_nltI c52)
      refine lv_aload_n hx hb d_7_21_67 rfl (lv_at hl 1 rfl) ?_
      refine q_get (ci := 6) (j := 5) (v := .ref (q 9)) C0 V i_Flo rfl rfl hO38 (by decide) w_241 rfl d_7_21_68 ?_
      refine q_get (ci := 4) (j := 6) (v := .ref (q 22)) C0 V i_Mil rfl rfl hO42 (by decide) w_127 rfl d_7_21_71 ?_
      refine lv_aload_n hx hb d_7_21_74 rfl (lv_at hl 1 rfl) ?_
      refine q_get (ci := 6) (j := 5) (v := .ref (q 9)) C0 V i_Flo rfl rfl hO38 (by decide) w_241 rfl d_7_21_75 ?_
      refine q_get (ci := 4) (j := 7) (v := .ref (q 24)) C0 V i_Mil rfl rfl hO42 (by decide) w_130 rfl d_7_21_78 ?_
      refine q_gov V (q_runV (As := [.ref (q 24)]) (rest := []) (d := 2) (mc := 0) (ms := 0) (ci := 2) C0 V rfl LV_Flo_194 (S_Big_subtractSize l D g (nsh g q) q w34 22 220 (n_b22 g q) 24 220 (n_b24 g q)  hI   _) rfl rfl hO43 rfl hl.1 rfl (Nat.le_of_ble_eq_true rfl) ⟨by decide, by decide⟩ ⟨Nat.le_of_ble_eq_true rfl, Nat.le_of_ble_eq_true rfl⟩ d_7_21_81) (fun u55 H locs hp56 V => ?_)
      obtain ⟨_, hI, hu57⟩ := hp56
      replace hO38 := (hu57 _ (by have z0 := hB1.2.2.2.2; simp only [List.mem_cons, List.not_mem_nil, or_false, not_or]; omega)).trans hO38
      replace hO42 := (hu57 _ (by decide)).trans hO42
      replace hF := q_uc hF hu57 (by simp)
      obtain ⟨a58, e59⟩ := q_nm (lx30 + 1 : Int32)
      have b60 : q_F (a58.toInt = lx30.toInt + 1) := (by rw [← e59]; exact q_addI (y := 1) rfl (by decide) (by have t1 : 0 ≤ lx30.toInt := i31; have t2 : lx30.toInt ≤ 9 := i32; omega) (by have t1 : 0 ≤ lx30.toInt := i31; have t2 : lx30.toInt ≤ 9 := i32; omega))
      refine lv_iinc (v := a58) (lv' := [(1, .int a58), (0, .ref (q k1))]) hx hb d_7_21_84 hl (k := 0) rfl (e59) (by decide) rfl (fun ls hl => ?_)
      refine lv_goto (tgt := 41) hx hb d_7_21_87 (by decide) ?_
      exact ih33 ((a58 : Int32)) _ _ _ _ (show (9 - a58.toInt).toNat < (9 - lx30.toInt).toNat from by have t1 : a58.toInt = lx30.toInt + 1 := b60; have t2 : lx30.toInt ≤ 9 := i32; have t3 : lx30.toInt < 9 := b37; omega) ⟨(show q_F (0 ≤ a58.toInt) from (show 0 ≤ a58.toInt from by have t1 : 0 ≤ lx30.toInt := i31; have t2 : a58.toInt = lx30.toInt + 1 := b60; omega)), (show q_F (a58.toInt ≤ 9) from (show a58.toInt ≤ 9 from by have t1 : lx30.toInt < 9 := b37; have t2 : a58.toInt = lx30.toInt + 1 := b60; omega)), V, q_lw hl (q_lw1 0 rfl (q_lw1 1 rfl q_lw0)), hI, hF⟩
theorem d_7_22_0 : decode prog_7_method_22_code 0 = .ok (.iload_n 2, 1) := by decide +kernel
theorem d_7_22_1 : decode prog_7_method_22_code 1 = .ok (.istore 4, 2) := by decide +kernel
theorem d_7_22_3 : decode prog_7_method_22_code 3 = .ok (.iload_n 1, 1) := by decide +kernel
theorem d_7_22_69 : decode prog_7_method_22_code 69 = .ok (.aload_n 0, 1) := by decide +kernel
theorem d_7_22_70 : decode prog_7_method_22_code 70 = .ok (.iload_n 3, 1) := by decide +kernel
theorem d_7_22_71 : decode prog_7_method_22_code 71 = .ok (.putfield 145, 3) := by decide +kernel
set_option maxRecDepth 100000 in
theorem w_240 : (Cond.fieldLink "NumberHouse$Floats" (145 : Nat) "NumberHouse$Floats" "shortPower" "I") ∈ q_tbl := q_of2 0 rfl (by decide +kernel)
theorem d_7_22_74 : decode prog_7_method_22_code 74 = .ok (.iload 4, 2) := by decide +kernel
theorem d_7_22_89 : decode prog_7_method_22_code 89 = .ok (.iconst 0, 1) := by decide +kernel
theorem d_7_22_90 : decode prog_7_method_22_code 90 = .ok (.istore 5, 2) := by decide +kernel
theorem d_7_22_92 : decode prog_7_method_22_code 92 = .ok (.iload 5, 2) := by decide +kernel
theorem d_7_22_94 : decode prog_7_method_22_code 94 = .ok (.bipush 20, 2) := by decide +kernel
theorem d_7_22_96 : decode prog_7_method_22_code 96 = .ok (.if_icmp .ge 44, 3) := by decide +kernel
theorem d_7_22_140 : decode prog_7_method_22_code 140 = .ok (.return_, 1) := by decide +kernel
theorem d_7_22_99 : decode prog_7_method_22_code 99 = .ok (.aload_n 0, 1) := by decide +kernel
theorem d_7_22_100 : decode prog_7_method_22_code 100 = .ok (.getfield 141, 3) := by decide +kernel
set_option maxRecDepth 100000 in
theorem w_237 : (Cond.fieldLink "NumberHouse$Floats" (141 : Nat) "NumberHouse$Floats" "shortNumber" "J") ∈ q_tbl := q_of1 237 rfl (by decide +kernel)
theorem d_7_22_103 : decode prog_7_method_22_code 103 = .ok (.ldc2_w 154, 3) := by decide +kernel
set_option maxRecDepth 100000 in
theorem w_1194 : (Cond.constantLong "NumberHouse$Floats" (154 : Nat) (10 : Int64)) ∈ q_tbl := q_of5 234 rfl (by decide +kernel)
theorem d_7_22_106 : decode prog_7_method_22_code 106 = .ok (.lrem, 1) := by decide +kernel
theorem d_7_22_107 : decode prog_7_method_22_code 107 = .ok (.lconst 0, 1) := by decide +kernel
theorem d_7_22_108 : decode prog_7_method_22_code 108 = .ok (.lcmp, 1) := by decide +kernel
theorem d_7_22_109 : decode prog_7_method_22_code 109 = .ok (.ifCond .ne 31, 3) := by decide +kernel
theorem d_7_22_112 : decode prog_7_method_22_code 112 = .ok (.aload_n 0, 1) := by decide +kernel
theorem d_7_22_113 : decode prog_7_method_22_code 113 = .ok (.dup, 1) := by decide +kernel
theorem d_7_22_114 : decode prog_7_method_22_code 114 = .ok (.getfield 141, 3) := by decide +kernel
theorem d_7_22_117 : decode prog_7_method_22_code 117 = .ok (.ldc2_w 154, 3) := by decide +kernel
theorem d_7_22_120 : decode prog_7_method_22_code 120 = .ok (.ldiv, 1) := by decide +kernel
theorem d_7_22_121 : decode prog_7_method_22_code 121 = .ok (.putfield 141, 3) := by decide +kernel
theorem d_7_22_124 : decode prog_7_method_22_code 124 = .ok (.aload_n 0, 1) := by decide +kernel
theorem d_7_22_125 : decode prog_7_method_22_code 125 = .ok (.dup, 1) := by decide +kernel
theorem d_7_22_126 : decode prog_7_method_22_code 126 = .ok (.getfield 145, 3) := by decide +kernel
theorem d_7_22_129 : decode prog_7_method_22_code 129 = .ok (.iconst 1, 1) := by decide +kernel
theorem d_7_22_130 : decode prog_7_method_22_code 130 = .ok (.iadd, 1) := by decide +kernel
theorem d_7_22_131 : decode prog_7_method_22_code 131 = .ok (.putfield 145, 3) := by decide +kernel
theorem d_7_22_134 : decode prog_7_method_22_code 134 = .ok (.iinc 5 1, 3) := by decide +kernel
theorem d_7_22_137 : decode prog_7_method_22_code 137 = .ok (.goto (-45), 3) := by decide +kernel
theorem d_7_22_76 : decode prog_7_method_22_code 76 = .ok (.ifCond .eq 13, 3) := by decide +kernel
theorem d_7_22_79 : decode prog_7_method_22_code 79 = .ok (.aload_n 0, 1) := by decide +kernel
theorem d_7_22_80 : decode prog_7_method_22_code 80 = .ok (.dup, 1) := by decide +kernel
theorem d_7_22_81 : decode prog_7_method_22_code 81 = .ok (.getfield 141, 3) := by decide +kernel
theorem d_7_22_84 : decode prog_7_method_22_code 84 = .ok (.lconst 1, 1) := by decide +kernel
theorem d_7_22_85 : decode prog_7_method_22_code 85 = .ok (.ladd, 1) := by decide +kernel
theorem d_7_22_86 : decode prog_7_method_22_code 86 = .ok (.putfield 141, 3) := by decide +kernel
theorem d_7_22_4 : decode prog_7_method_22_code 4 = .ok (.ifCond .eq 65, 3) := by decide +kernel
theorem d_7_22_7 : decode prog_7_method_22_code 7 = .ok (.iload_n 2, 1) := by decide +kernel
theorem d_7_22_8 : decode prog_7_method_22_code 8 = .ok (.ifCond .eq 61, 3) := by decide +kernel
theorem d_7_22_11 : decode prog_7_method_22_code 11 = .ok (.aload_n 0, 1) := by decide +kernel
theorem d_7_22_12 : decode prog_7_method_22_code 12 = .ok (.getfield 19, 3) := by decide +kernel
theorem d_7_22_15 : decode prog_7_method_22_code 15 = .ok (.getfield 124, 3) := by decide +kernel
theorem d_7_22_18 : decode prog_7_method_22_code 18 = .ok (.iconst 1, 1) := by decide +kernel
theorem d_7_22_19 : decode prog_7_method_22_code 19 = .ok (.invokevirtual 69, 3) := by decide +kernel
theorem d_7_22_22 : decode prog_7_method_22_code 22 = .ok (.aload_n 0, 1) := by decide +kernel
theorem d_7_22_23 : decode prog_7_method_22_code 23 = .ok (.getfield 19, 3) := by decide +kernel
theorem d_7_22_26 : decode prog_7_method_22_code 26 = .ok (.getfield 124, 3) := by decide +kernel
theorem d_7_22_29 : decode prog_7_method_22_code 29 = .ok (.aload_n 0, 1) := by decide +kernel
theorem d_7_22_30 : decode prog_7_method_22_code 30 = .ok (.getfield 19, 3) := by decide +kernel
theorem d_7_22_33 : decode prog_7_method_22_code 33 = .ok (.getfield 131, 3) := by decide +kernel
theorem d_7_22_36 : decode prog_7_method_22_code 36 = .ok (.invokevirtual 162, 3) := by decide +kernel
theorem d_7_22_39 : decode prog_7_method_22_code 39 = .ok (.istore 5, 2) := by decide +kernel
theorem d_7_22_41 : decode prog_7_method_22_code 41 = .ok (.iload 5, 2) := by decide +kernel
theorem d_7_22_67 : decode prog_7_method_22_code 67 = .ok (.istore 4, 2) := by decide +kernel
theorem d_7_22_62 : decode prog_7_method_22_code 62 = .ok (.iconst 1, 1) := by decide +kernel
theorem d_7_22_63 : decode prog_7_method_22_code 63 = .ok (.goto 4, 3) := by decide +kernel
theorem d_7_22_43 : decode prog_7_method_22_code 43 = .ok (.ifCond .gt 19, 3) := by decide +kernel
theorem d_7_22_46 : decode prog_7_method_22_code 46 = .ok (.iload 5, 2) := by decide +kernel
theorem d_7_22_66 : decode prog_7_method_22_code 66 = .ok (.iconst 0, 1) := by decide +kernel
theorem d_7_22_48 : decode prog_7_method_22_code 48 = .ok (.ifCond .ne 18, 3) := by decide +kernel
theorem d_7_22_51 : decode prog_7_method_22_code 51 = .ok (.aload_n 0, 1) := by decide +kernel
theorem d_7_22_52 : decode prog_7_method_22_code 52 = .ok (.getfield 141, 3) := by decide +kernel
theorem d_7_22_55 : decode prog_7_method_22_code 55 = .ok (.lconst 1, 1) := by decide +kernel
theorem d_7_22_56 : decode prog_7_method_22_code 56 = .ok (.land, 1) := by decide +kernel
theorem d_7_22_57 : decode prog_7_method_22_code 57 = .ok (.lconst 1, 1) := by decide +kernel
theorem d_7_22_58 : decode prog_7_method_22_code 58 = .ok (.lcmp, 1) := by decide +kernel
theorem d_7_22_59 : decode prog_7_method_22_code 59 = .ok (.ifCond .ne 7, 3) := by decide +kernel
def y_Flo_chooseEnd : MethodName := ⟨"NumberHouse$Floats", "chooseEnd", "(ZZI)V"⟩
set_option maxRecDepth 100000 in
set_option maxHeartbeats 4000000 in
theorem T_Flo_chooseEnd (l : Launch) (D : va_G) (g : Nat → ClassId) (q : Nat → Nat) (ws : va_W) (k1 : Nat) (A B C : Int32) (hB1 : q_isFlo (nsh g q) q k1 A B C) (x2 : Int32) (x3 : Int32) (x4 : Int32) (hI : q_I (nsh g q) q ws) (hzx2 : 0 ≤ x2.toInt ∧ x2.toInt ≤ 1) (hzx3 : 0 ≤ x3.toInt ∧ x3.toInt ≤ 1) : q_mV l y_Flo_chooseEnd prog_7_method_22_code 6 4 0 0 D g [.ref (q k1), .int x2, .int x3, .int x4] ws (fun u => q_I (nsh g q) q u ∧ q_un ws u [22, 23, k1] ∧ True) := by
  intro sz
  refine q_into (by decide) (Nat.le_of_ble_eq_true rfl) ?_
  intro p e s m below meth c ls hsz C0 V hl
  have hx := C0.1
  have hb := C0.2.1
  have hfk10 : q_F (23 ≤ A.toInt ∧ A.toInt ≤ 52) := hB1.2.1
  have hfk11 : q_F (150 ≤ B.toInt ∧ B.toInt ≤ 1075) := hB1.2.2.1
  have hfk12 : q_F (255 ≤ C.toInt ∧ C.toInt ≤ 2047) := hB1.2.2.2.1
  replace hzx2 : q_F (0 ≤ x2.toInt ∧ x2.toInt ≤ 1) := hzx2
  replace hzx3 : q_F (0 ≤ x3.toInt ∧ x3.toInt ≤ 1) := hzx3
  have hF : q_un ws ws [22, 23, k1] := q_u0
  have hl : lv_has ls 6 [(0, .ref (q k1)), (1, .int x2), (2, .int x3), (3, .int x4)] := hl
  refine lv_iload_n hx hb d_7_22_0 rfl (lv_at hl 2 rfl) ?_
  refine lv_istore (lv' := [(4, .int x3), (0, .ref (q k1)), (1, .int x2), (2, .int x3), (3, .int x4)]) hx hb d_7_22_1 hl (by decide) rfl (fun ls hl => ?_)
  refine lv_iload_n hx hb d_7_22_3 rfl (lv_at hl 2 rfl) ?_
  refine q_join (X := Int32) (fun z H locs ls w5 => q_F (0 ≤ z.toInt) ∧ q_F (z.toInt ≤ x3.toInt) ∧ q_Wd D g (va_A ws sz) s w5 H locs ∧ lv_has ls 6 [(4, .int z), (0, .ref (q k1)), (3, .int x4)] ∧ q_I (nsh g q) q w5 ∧ q_un ws w5 [22, 23, k1]) (fun z => []) 69 0 0 ?_ ?_
  ·
    rintro lx1 H locs ls w5 ⟨i3, i4, V, hl, hI, hF⟩
    replace i3 : q_F (0 ≤ lx1.toInt) := i3
    replace i4 : q_F (lx1.toInt ≤ x3.toInt) := i4
    replace hl : lv_has ls 6 [(4, .int lx1), (0, .ref (q k1)), (3, .int x4)] := hl
    refine lv_aload_n hx hb d_7_22_69 rfl (lv_at hl 1 rfl) ?_
    refine lv_iload_n hx hb d_7_22_70 rfl (lv_at hl 2 rfl) ?_
    obtain ⟨y7, y8, y9, hO6⟩ := n_flO hI hB1
    refine q_put (ci := 6) (j := 4) (v := .int x4) (ty := .int) C0 V i_Flo o_Flo n_Flo rfl rfl hO6 (by decide) w_240 rfl rfl rfl rfl (Nat.le_of_ble_eq_true rfl) d_7_22_71 (fun H locs w10 hu11 hO6 V => ?_)
    replace hO6 : w10[k1]? = (some (q k1, .inr (6, [.int A, .int B, .int C, .long y7, .int x4, .ref (q 9), .int y9])) : Option (Nat × va_E)) := hO6
    replace hI := n_flO' hI hB1 hu11 hO6 
    replace hF := q_us hF hu11 (by simp)
    refine lv_iload hx hb d_7_22_74 (lv_at hl 0 rfl) ?_
    refine q_join (X := Unit) (fun z H locs ls w13 => q_Wd D g (va_A ws sz) s w13 H locs ∧ lv_has ls 6 [(0, .ref (q k1))] ∧ q_I (nsh g q) q w13 ∧ q_un ws w13 [22, 23, k1]) (fun z => []) 89 0 0 ?_ ?_
    ·
      rintro _ H locs ls w13 ⟨V, hl, hI, hF⟩
      replace hl : lv_has ls 6 [(0, .ref (q k1))] := hl
      refine lv_iconst (v := 0) hx hb d_7_22_89 (by decide) ?_
      refine lv_istore (lv' := [(5, .int 0), (0, .ref (q k1))]) hx hb d_7_22_90 hl (by decide) rfl (fun ls hl => ?_)
      refine q_loop (X := Int32) (fun z H locs ls w18 => q_F (0 ≤ z.toInt) ∧ q_F (z.toInt ≤ 20) ∧ q_Wd D g (va_A ws sz) s w18 H locs ∧ lv_has ls 6 [(5, .int z), (0, .ref (q k1))] ∧ q_I (nsh g q) q w18 ∧ q_un ws w18 [22, 23, k1]) (fun z => (20 - z.toInt).toNat) ?_ ((0 : Int32)) _ _ _ w13 ⟨(show q_F (0 ≤ 0) from (show 0 ≤ 0 from by omega)), (show q_F (0 ≤ 20) from (show 0 ≤ 20 from by omega)), V, q_lw hl (q_lw1 0 rfl (q_lw1 1 rfl q_lw0)), hI, hF⟩
      rintro lx14 H locs ls w18 ⟨i15, i16, V, hl, hI, hF⟩ ih17
      replace i15 : q_F (0 ≤ lx14.toInt) := i15
      replace i16 : q_F (lx14.toInt ≤ 20) := i16
      replace hl : lv_has ls 6 [(5, .int lx14), (0, .ref (q k1))] := hl
      refine lv_iload hx hb d_7_22_92 (lv_at hl 0 rfl) ?_
      refine lv_bipush (v := 20) hx hb d_7_22_94 (by decide) ?_
      refine lv_icmp_ge (tgt := 140) hx hb d_7_22_96 (by decide) (fun c19 => ?_) (fun c19 => ?_)
      ·
        have b20 : q_F (20 ≤ lx14.toInt) := (q_leI c19)
        exact q_retv C0 V (⟨hI, hF, trivial⟩) d_7_22_140
      ·
        have b21 : q_F (lx14.toInt < 20) := (q_nleI c19)
        refine lv_aload_n hx hb d_7_22_99 rfl (lv_at hl 1 rfl) ?_
        obtain ⟨y23, y24, y25, hO22⟩ := n_flO hI hB1
        refine q_get (ci := 6) (j := 3) (v := .long y23) C0 V i_Flo rfl rfl hO22 (by decide) w_237 rfl d_7_22_100 ?_
        refine q_ldc2 C0 rfl w_1194 d_7_22_103 ?_
        refine lv_lrem hx hb d_7_22_106 (by decide) ?_
        obtain ⟨j26, e27⟩ := q_nm (y23 - y23 / 10 * 10 : Int64)
        refine q_tl (v := j26) e27 ?_
        refine lv_lconst (v := 0) hx hb d_7_22_107 (by decide) ?_
        refine W.lcmp hx hb d_7_22_108 ?_
        obtain ⟨a28, e29⟩ := q_nm (lg_cmp j26 0 : Int32)
        refine q_ti (v := a28) e29 ?_
        have b30 : q_F (-1 ≤ a28.toInt ∧ a28.toInt ≤ 1 ∧ ((a28.toInt = -1 ∧ j26.toInt < 0) ∨ (a28.toInt = 0 ∧ j26.toInt = 0) ∨ (a28.toInt = 1 ∧ 0 < j26.toInt))) := (by rw [← e29]; show -1 ≤ (lg_cmp j26 0 : Int32).toInt ∧ (lg_cmp j26 0 : Int32).toInt ≤ 1 ∧ (((lg_cmp j26 0 : Int32).toInt = -1 ∧ j26.toInt < 0) ∨ ((lg_cmp j26 0 : Int32).toInt = 0 ∧ j26.toInt = 0) ∨ ((lg_cmp j26 0 : Int32).toInt = 1 ∧ 0 < j26.toInt)); exact (by have y1 : (0 : Int64).toInt = 0 := rfl; have z := s_lcmp (a := j26) (b := 0); omega))
        refine lv_if_ne (tgt := 140) hx hb d_7_22_109 (by decide) (fun c31 => ?_) (fun c31 => ?_)
        ·
          have b32 : q_F (a28.toInt ≠ 0) := (q_neI c31)
          exact q_retv C0 V (⟨hI, hF, trivial⟩) d_7_22_140
        ·
          have b33 : q_F (a28.toInt = 0) := (q_eqI c31)
          refine lv_aload_n hx hb d_7_22_112 rfl (lv_at hl 1 rfl) ?_
          refine lv_dup hx hb d_7_22_113 rfl ?_
          refine q_get (ci := 6) (j := 3) (v := .long y23) C0 V i_Flo rfl rfl hO22 (by decide) w_237 rfl d_7_22_114 ?_
          refine q_ldc2 C0 rfl w_1194 d_7_22_117 ?_
          refine lv_ldiv hx hb d_7_22_120 (by decide) ?_
          obtain ⟨j34, e35⟩ := q_nm (y23 / 10 : Int64)
          refine q_tl (v := j34) e35 ?_
          refine q_put (ci := 6) (j := 3) (v := .long j34) (ty := .long) C0 V i_Flo o_Flo n_Flo rfl rfl hO22 (by decide) w_237 rfl rfl rfl rfl (Nat.le_of_ble_eq_true rfl) d_7_22_121 (fun H locs w36 hu37 hO22 V => ?_)
          replace hO22 : w36[k1]? = (some (q k1, .inr (6, [.int A, .int B, .int C, .long j34, .int y24, .ref (q 9), .int y25])) : Option (Nat × va_E)) := hO22
          replace hI := n_flO' hI hB1 hu37 hO22 
          replace hF := q_us hF hu37 (by simp)
          refine lv_aload_n hx hb d_7_22_124 rfl (lv_at hl 1 rfl) ?_
          refine lv_dup hx hb d_7_22_125 rfl ?_
          refine q_get (ci := 6) (j := 4) (v := .int y24) C0 V i_Flo rfl rfl hO22 (by decide) w_240 rfl d_7_22_126 ?_
          refine lv_iconst (v := 1) hx hb d_7_22_129 (by decide) ?_
          refine lv_iadd hx hb d_7_22_130 ?_
          obtain ⟨a38, e39⟩ := q_nm (y24 + 1 : Int32)
          refine q_ti (v := a38) e39 ?_
          refine q_put (ci := 6) (j := 4) (v := .int a38) (ty := .int) C0 V i_Flo o_Flo n_Flo rfl rfl hO22 (by decide) w_240 rfl rfl rfl rfl (Nat.le_of_ble_eq_true rfl) d_7_22_131 (fun H locs w40 hu41 hO22 V => ?_)
          replace hO22 : w40[k1]? = (some (q k1, .inr (6, [.int A, .int B, .int C, .long j34, .int a38, .ref (q 9), .int y25])) : Option (Nat × va_E)) := hO22
          replace hI := n_flO' hI hB1 hu41 hO22 
          replace hF := q_us hF hu41 (by simp)
          obtain ⟨a42, e43⟩ := q_nm (lx14 + 1 : Int32)
          have b44 : q_F (a42.toInt = lx14.toInt + 1) := (by rw [← e43]; exact q_addI (y := 1) rfl (by decide) (by have t1 : 0 ≤ lx14.toInt := i15; have t2 : lx14.toInt ≤ 20 := i16; omega) (by have t1 : 0 ≤ lx14.toInt := i15; have t2 : lx14.toInt ≤ 20 := i16; omega))
          refine lv_iinc (v := a42) (lv' := [(5, .int a42), (0, .ref (q k1))]) hx hb d_7_22_134 hl (k := 0) rfl (e43) (by decide) rfl (fun ls hl => ?_)
          refine lv_goto (tgt := 92) hx hb d_7_22_137 (by decide) ?_
          exact ih17 ((a42 : Int32)) _ _ _ _ (show (20 - a42.toInt).toNat < (20 - lx14.toInt).toNat from by have t1 : a42.toInt = lx14.toInt + 1 := b44; have t2 : lx14.toInt ≤ 20 := i16; have t3 : lx14.toInt < 20 := b21; omega) ⟨(show q_F (0 ≤ a42.toInt) from (show 0 ≤ a42.toInt from by have t1 : 0 ≤ lx14.toInt := i15; have t2 : a42.toInt = lx14.toInt + 1 := b44; omega)), (show q_F (a42.toInt ≤ 20) from (show a42.toInt ≤ 20 from by have t1 : lx14.toInt < 20 := b21; have t2 : a42.toInt = lx14.toInt + 1 := b44; omega)), V, q_lw hl (q_lw1 0 rfl (q_lw1 1 rfl q_lw0)), hI, hF⟩
    ·
      intro J12
      refine lv_if_eq (tgt := 89) hx hb d_7_22_76 (by decide) (fun c45 => ?_) (fun c45 => ?_)
      ·
        have b46 : q_F (lx1.toInt = 0) := (q_eqI c45)
        exact J12 (()) _ _ _ _ ⟨V, q_lw hl (q_lw1 1 rfl q_lw0), hI, hF⟩
      ·
        have b47 : q_F (lx1.toInt ≠ 0) := (q_neI c45)
        refine lv_aload_n hx hb d_7_22_79 rfl (lv_at hl 1 rfl) ?_
        refine lv_dup hx hb d_7_22_80 rfl ?_
        refine q_get (ci := 6) (j := 3) (v := .long y7) C0 V i_Flo rfl rfl hO6 (by decide) w_237 rfl d_7_22_81 ?_
        refine lv_lconst (v := 1) hx hb d_7_22_84 (by decide) ?_
        refine lv_ladd hx hb d_7_22_85 ?_
        obtain ⟨j48, e49⟩ := q_nm (y7 + 1 : Int64)
        refine q_tl (v := j48) e49 ?_
        refine q_put (ci := 6) (j := 3) (v := .long j48) (ty := .long) C0 V i_Flo o_Flo n_Flo rfl rfl hO6 (by decide) w_237 rfl rfl rfl rfl (Nat.le_of_ble_eq_true rfl) d_7_22_86 (fun H locs w50 hu51 hO6 V => ?_)
        replace hO6 : w50[k1]? = (some (q k1, .inr (6, [.int A, .int B, .int C, .long j48, .int x4, .ref (q 9), .int y9])) : Option (Nat × va_E)) := hO6
        replace hI := n_flO' hI hB1 hu51 hO6 
        replace hF := q_us hF hu51 (by simp)
        exact J12 (()) _ _ _ _ ⟨V, q_lw hl (q_lw1 1 rfl q_lw0), hI, hF⟩
  ·
    intro J2
    refine lv_if_eq (tgt := 69) hx hb d_7_22_4 (by decide) (fun c52 => ?_) (fun c52 => ?_)
    ·
      have b53 : q_F (x2.toInt = 0) := (q_eqI c52)
      exact J2 ((x3 : Int32)) _ _ _ _ ⟨(show q_F (0 ≤ x3.toInt) from (show 0 ≤ x3.toInt from by have t1 : 0 ≤ x3.toInt ∧ x3.toInt ≤ 1 := hzx3; omega)), (show q_F (x3.toInt ≤ x3.toInt) from (show x3.toInt ≤ x3.toInt from by omega)), V, q_lw hl (q_lw1 0 rfl (q_lw1 1 rfl (q_lw1 4 rfl q_lw0))), hI, hF⟩
    ·
      have b54 : q_F (x2.toInt ≠ 0) := (q_neI c52)
      refine lv_iload_n hx hb d_7_22_7 rfl (lv_at hl 3 rfl) ?_
      refine lv_if_eq (tgt := 69) hx hb d_7_22_8 (by decide) (fun c55 => ?_) (fun c55 => ?_)
      ·
        have b56 : q_F (x3.toInt = 0) := (q_eqI c55)
        exact J2 ((x3 : Int32)) _ _ _ _ ⟨(show q_F (0 ≤ x3.toInt) from (show 0 ≤ x3.toInt from by have t1 : 0 ≤ x3.toInt ∧ x3.toInt ≤ 1 := hzx3; omega)), (show q_F (x3.toInt ≤ x3.toInt) from (show x3.toInt ≤ x3.toInt from by omega)), V, q_lw hl (q_lw1 0 rfl (q_lw1 1 rfl (q_lw1 4 rfl q_lw0))), hI, hF⟩
      ·
        have b57 : q_F (x3.toInt ≠ 0) := (q_neI c55)
        refine lv_aload_n hx hb d_7_22_11 rfl (lv_at hl 1 rfl) ?_
        obtain ⟨y59, y60, y61, hO58⟩ := n_flO hI hB1
        refine q_get (ci := 6) (j := 5) (v := .ref (q 9)) C0 V i_Flo rfl rfl hO58 (by decide) w_241 rfl d_7_22_12 ?_
        have hO62 := n_o9 hI
        refine q_get (ci := 4) (j := 6) (v := .ref (q 22)) C0 V i_Mil rfl rfl hO62 (by decide) w_127 rfl d_7_22_15 ?_
        refine lv_iconst (v := 1) hx hb d_7_22_18 (by decide) ?_
        obtain ⟨y64, y65, hO63, b66, b67⟩ := q_bigO hI (n_b22 g q)
        replace b66 : q_F (0 ≤ y64.toInt ∧ y64.toInt ≤ 220) := b66
        replace b67 : q_F (0 ≤ y65.toInt ∧ y65.toInt ≤ 1) := b67
        refine q_gov V (q_runV (As := [.int 1]) (rest := []) (d := 3) (mc := 0) (ms := 0) (ci := 2) C0 V rfl LV_Flo_69 (T_Big_shiftLeft l D g q ws 22 220 (n_b22 g q) (by decide) 1 hI   _) rfl rfl hO63 rfl hl.1 rfl (Nat.le_of_ble_eq_true rfl) ⟨by decide, by decide⟩ ⟨Nat.le_of_ble_eq_true rfl, Nat.le_of_ble_eq_true rfl⟩ d_7_22_19) (fun u68 H locs hp69 V => ?_)
        obtain ⟨hI, hu71, -⟩ := hp69
        replace hO58 := (hu71 _ (by have z0 := hB1.2.2.2.2; simp only [List.mem_cons, List.not_mem_nil, or_false, not_or]; omega)).trans hO58
        replace hO62 := (hu71 _ (by decide)).trans hO62
        replace hF := q_uc hF hu71 (by simp)
        refine lv_aload_n hx hb d_7_22_22 rfl (lv_at hl 1 rfl) ?_
        refine q_get (ci := 6) (j := 5) (v := .ref (q 9)) C0 V i_Flo rfl rfl hO58 (by decide) w_241 rfl d_7_22_23 ?_
        refine q_get (ci := 4) (j := 6) (v := .ref (q 22)) C0 V i_Mil rfl rfl hO62 (by decide) w_127 rfl d_7_22_26 ?_
        refine lv_aload_n hx hb d_7_22_29 rfl (lv_at hl 1 rfl) ?_
        refine q_get (ci := 6) (j := 5) (v := .ref (q 9)) C0 V i_Flo rfl rfl hO58 (by decide) w_241 rfl d_7_22_30 ?_
        refine q_get (ci := 4) (j := 7) (v := .ref (q 24)) C0 V i_Mil rfl rfl hO62 (by decide) w_130 rfl d_7_22_33 ?_
        obtain ⟨y73, y74, hO72, b75, b76⟩ := q_bigO hI (n_b22 g q)
        replace b75 : q_F (0 ≤ y73.toInt ∧ y73.toInt ≤ 220) := b75
        replace b76 : q_F (0 ≤ y74.toInt ∧ y74.toInt ≤ 1) := b76
        refine q_goi V (q_runV (As := [.ref (q 24)]) (rest := []) (d := 2) (mc := 0) (ms := 0) (ci := 2) C0 V rfl LV_Flo_162 (S_Big_compareSize l D g (nsh g q) q u68 22 220 (n_b22 g q) 24 220 (n_b24 g q)  hI   _) rfl rfl hO72 rfl hl.1 rfl (Nat.le_of_ble_eq_true rfl) ⟨by decide, by decide⟩ ⟨Nat.le_of_ble_eq_true rfl, Nat.le_of_ble_eq_true rfl⟩ d_7_22_36) (fun a79 u77 H locs hp78 V => ?_)
        obtain ⟨b80, rfl⟩ := hp78
        replace b80 : q_F (-1 ≤ a79.toInt ∧ a79.toInt ≤ 1) := b80
        refine lv_istore (lv' := [(5, .int a79), (4, .int x3), (0, .ref (q k1)), (1, .int x2), (2, .int x3), (3, .int x4)]) hx hb d_7_22_39 hl (by decide) rfl (fun ls hl => ?_)
        refine lv_iload hx hb d_7_22_41 (lv_at hl 0 rfl) ?_
        refine q_join (X := Int32) (fun z H locs ls _ => q_F (a79.toInt ≤ z.toInt) ∧ q_F (x2.toInt ≤ z.toInt + 1) ∧ q_F (z.toInt ≤ x2.toInt) ∧ q_Wd D g (va_A ws sz) s u68 H locs ∧ lv_has ls 6 [(0, .ref (q k1)), (3, .int x4)]) (fun z => [.int z]) 67 0 0 ?_ ?_
        ·
          rintro lx81 H locs ls _ ⟨i83, i84, i85, V, hl⟩
          replace i83 : q_F (a79.toInt ≤ lx81.toInt) := i83
          replace i84 : q_F (x2.toInt ≤ lx81.toInt + 1) := i84
          replace i85 : q_F (lx81.toInt ≤ x2.toInt) := i85
          replace hl : lv_has ls 6 [(0, .ref (q k1)), (3, .int x4)] := hl
          refine lv_istore (lv' := [(4, .int lx81), (0, .ref (q k1)), (3, .int x4)]) hx hb d_7_22_67 hl (by decide) rfl (fun ls hl => ?_)
          exact J2 ((lx81 : Int32)) _ _ _ _ ⟨(show q_F (0 ≤ lx81.toInt) from (show 0 ≤ lx81.toInt from by have t1 : 0 ≤ x2.toInt ∧ x2.toInt ≤ 1 := hzx2; have t2 : x2.toInt ≠ 0 := b54; have t3 : x2.toInt ≤ lx81.toInt + 1 := i84; omega)), (show q_F (lx81.toInt ≤ x3.toInt) from (show lx81.toInt ≤ x3.toInt from by have t1 : 0 ≤ x2.toInt ∧ x2.toInt ≤ 1 := hzx2; have t2 : 0 ≤ x3.toInt ∧ x3.toInt ≤ 1 := hzx3; have t3 : x3.toInt ≠ 0 := b57; have t4 : lx81.toInt ≤ x2.toInt := i85; omega)), V, q_lw hl (q_lw1 0 rfl (q_lw1 1 rfl (q_lw1 2 rfl q_lw0))), hI, hF⟩
        ·
          intro J82
          refine q_join (X := Unit) (fun z H locs ls _ => q_Wd D g (va_A ws sz) s u68 H locs ∧ lv_has ls 6 [(0, .ref (q k1)), (3, .int x4)]) (fun z => []) 62 0 0 ?_ ?_
          ·
            rintro _ H locs ls _ ⟨V, hl⟩
            replace hl : lv_has ls 6 [(0, .ref (q k1)), (3, .int x4)] := hl
            refine lv_iconst (v := 1) hx hb d_7_22_62 (by decide) ?_
            refine lv_goto (tgt := 67) hx hb d_7_22_63 (by decide) ?_
            exact J82 ((1 : Int32)) _ _ _ u68 ⟨(show q_F (a79.toInt ≤ 1) from (show a79.toInt ≤ 1 from by have t1 : -1 ≤ a79.toInt ∧ a79.toInt ≤ 1 := b80; omega)), (show q_F (x2.toInt ≤ 1 + 1) from (show x2.toInt ≤ 1 + 1 from by have t1 : 0 ≤ x2.toInt ∧ x2.toInt ≤ 1 := hzx2; omega)), (show q_F (1 ≤ x2.toInt) from (show 1 ≤ x2.toInt from by have t1 : 0 ≤ x2.toInt ∧ x2.toInt ≤ 1 := hzx2; have t2 : x2.toInt ≠ 0 := b54; omega)), V, q_lw hl (q_lw1 0 rfl (q_lw1 1 rfl q_lw0))⟩
          ·
            intro J86
            refine lv_if_gt (tgt := 62) hx hb d_7_22_43 (by decide) (fun c87 => ?_) (fun c87 => ?_)
            ·
              have b88 : q_F (0 < a79.toInt) := (q_ltI c87)
              exact J86 (()) _ _ _ u68 ⟨V, q_lw hl (q_lw1 2 rfl (q_lw1 5 rfl q_lw0))⟩
            ·
              have b89 : q_F (a79.toInt ≤ 0) := (q_nltI c87)
              refine lv_iload hx hb d_7_22_46 (lv_at hl 0 rfl) ?_
              refine q_join (X := Unit) (fun z H locs ls _ => q_Wd D g (va_A ws sz) s u68 H locs ∧ lv_has ls 6 [(0, .ref (q k1)), (3, .int x4)]) (fun z => []) 66 0 0 ?_ ?_
              ·
                rintro _ H locs ls _ ⟨V, hl⟩
                replace hl : lv_has ls 6 [(0, .ref (q k1)), (3, .int x4)] := hl
                refine lv_iconst (v := 0) hx hb d_7_22_66 (by decide) ?_
                exact J82 ((0 : Int32)) _ _ _ u68 ⟨(show q_F (a79.toInt ≤ 0) from (show a79.toInt ≤ 0 from by have t1 : a79.toInt ≤ 0 := b89; omega)), (show q_F (x2.toInt ≤ 0 + 1) from (show x2.toInt ≤ 0 + 1 from by have t1 : 0 ≤ x2.toInt ∧ x2.toInt ≤ 1 := hzx2; omega)), (show q_F (0 ≤ x2.toInt) from (show 0 ≤ x2.toInt from by have t1 : 0 ≤ x2.toInt ∧ x2.toInt ≤ 1 := hzx2; omega)), V, q_lw hl (q_lw1 0 rfl (q_lw1 1 rfl q_lw0))⟩
              ·
                intro J90
                refine lv_if_ne (tgt := 66) hx hb d_7_22_48 (by decide) (fun c91 => ?_) (fun c91 => ?_)
                ·
                  have b92 : q_F (a79.toInt ≠ 0) := (q_neI c91)
                  exact J90 (()) _ _ _ u68 ⟨V, q_lw hl (q_lw1 2 rfl (q_lw1 5 rfl q_lw0))⟩
                ·
                  have b93 : q_F (a79.toInt = 0) := (q_eqI c91)
                  refine lv_aload_n hx hb d_7_22_51 rfl (lv_at hl 2 rfl) ?_
                  refine q_get (ci := 6) (j := 3) (v := .long y59) C0 V i_Flo rfl rfl hO58 (by decide) w_237 rfl d_7_22_52 ?_
                  refine lv_lconst (v := 1) hx hb d_7_22_55 (by decide) ?_
                  refine lv_land hx hb d_7_22_56 ?_
                  obtain ⟨j94, e95⟩ := q_nm (y59 &&& 1 : Int64)
                  refine q_tl (v := j94) e95 ?_
                  have b96 : q_F (0 ≤ j94.toInt ∧ j94.toInt ≤ 1) := (by rw [← e95]; show 0 ≤ (y59 &&& 1 : Int64).toInt ∧ (y59 &&& 1 : Int64).toInt ≤ 1; exact s_andJ (by decide))
                  refine lv_lconst (v := 1) hx hb d_7_22_57 (by decide) ?_
                  refine W.lcmp hx hb d_7_22_58 ?_
                  obtain ⟨a97, e98⟩ := q_nm (lg_cmp j94 1 : Int32)
                  refine q_ti (v := a97) e98 ?_
                  have b99 : q_F (-1 ≤ a97.toInt ∧ a97.toInt ≤ 1 ∧ ((a97.toInt = -1 ∧ j94.toInt < 1) ∨ (a97.toInt = 0 ∧ j94.toInt = 1) ∨ (a97.toInt = 1 ∧ 1 < j94.toInt))) := (by rw [← e98]; show -1 ≤ (lg_cmp j94 1 : Int32).toInt ∧ (lg_cmp j94 1 : Int32).toInt ≤ 1 ∧ (((lg_cmp j94 1 : Int32).toInt = -1 ∧ j94.toInt < 1) ∨ ((lg_cmp j94 1 : Int32).toInt = 0 ∧ j94.toInt = 1) ∨ ((lg_cmp j94 1 : Int32).toInt = 1 ∧ 1 < j94.toInt)); exact (by have y1 : (1 : Int64).toInt = 1 := rfl; have z := s_lcmp (a := j94) (b := 1); omega))
                  refine lv_if_ne (tgt := 66) hx hb d_7_22_59 (by decide) (fun c100 => ?_) (fun c100 => ?_)
                  ·
                    have b101 : q_F (a97.toInt ≠ 0) := (q_neI c100)
                    exact J90 (()) _ _ _ u68 ⟨V, q_lw hl (q_lw1 2 rfl (q_lw1 5 rfl q_lw0))⟩
                  ·
                    have b102 : q_F (a97.toInt = 0) := (q_eqI c100)
                    exact J86 (()) _ _ _ u68 ⟨V, q_lw hl (q_lw1 2 rfl (q_lw1 5 rfl q_lw0))⟩
theorem d_7_20_0 : decode prog_7_method_20_code 0 = .ok (.aload_n 0, 1) := by decide +kernel
theorem d_7_20_1 : decode prog_7_method_20_code 1 = .ok (.lload_n 1, 1) := by decide +kernel
theorem d_7_20_2 : decode prog_7_method_20_code 2 = .ok (.invokevirtual 52, 3) := by decide +kernel
theorem d_7_20_5 : decode prog_7_method_20_code 5 = .ok (.istore_n 3, 1) := by decide +kernel
theorem d_7_20_6 : decode prog_7_method_20_code 6 = .ok (.aload_n 0, 1) := by decide +kernel
theorem d_7_20_7 : decode prog_7_method_20_code 7 = .ok (.getfield 19, 3) := by decide +kernel
theorem d_7_20_10 : decode prog_7_method_20_code 10 = .ok (.getfield 124, 3) := by decide +kernel
theorem d_7_20_13 : decode prog_7_method_20_code 13 = .ok (.astore 4, 2) := by decide +kernel
theorem d_7_20_15 : decode prog_7_method_20_code 15 = .ok (.aload_n 0, 1) := by decide +kernel
theorem d_7_20_16 : decode prog_7_method_20_code 16 = .ok (.getfield 19, 3) := by decide +kernel
theorem d_7_20_19 : decode prog_7_method_20_code 19 = .ok (.getfield 131, 3) := by decide +kernel
theorem d_7_20_22 : decode prog_7_method_20_code 22 = .ok (.astore 5, 2) := by decide +kernel
theorem d_7_20_24 : decode prog_7_method_20_code 24 = .ok (.aload 4, 2) := by decide +kernel
theorem d_7_20_26 : decode prog_7_method_20_code 26 = .ok (.aload_n 0, 1) := by decide +kernel
theorem d_7_20_27 : decode prog_7_method_20_code 27 = .ok (.lload_n 1, 1) := by decide +kernel
theorem d_7_20_28 : decode prog_7_method_20_code 28 = .ok (.invokevirtual 61, 3) := by decide +kernel
theorem d_7_20_31 : decode prog_7_method_20_code 31 = .ok (.invokevirtual 63, 3) := by decide +kernel
theorem d_7_20_34 : decode prog_7_method_20_code 34 = .ok (.aload_n 0, 1) := by decide +kernel
theorem d_7_20_35 : decode prog_7_method_20_code 35 = .ok (.aload 4, 2) := by decide +kernel
theorem d_7_20_37 : decode prog_7_method_20_code 37 = .ok (.invokevirtual 104, 3) := by decide +kernel
theorem d_7_20_40 : decode prog_7_method_20_code 40 = .ok (.iconst 1, 1) := by decide +kernel
theorem d_7_20_41 : decode prog_7_method_20_code 41 = .ok (.isub, 1) := by decide +kernel
theorem d_7_20_42 : decode prog_7_method_20_code 42 = .ok (.iload_n 3, 1) := by decide +kernel
theorem d_7_20_43 : decode prog_7_method_20_code 43 = .ok (.iadd, 1) := by decide +kernel
theorem d_7_20_44 : decode prog_7_method_20_code 44 = .ok (.i2l, 1) := by decide +kernel
theorem d_7_20_45 : decode prog_7_method_20_code 45 = .ok (.ldc2_w 178, 3) := by decide +kernel
set_option maxRecDepth 100000 in
theorem w_1184 : (Cond.constantLong "NumberHouse$Floats" (178 : Nat) (301029995 : Int64)) ∈ q_tbl := q_of5 224 rfl (by decide +kernel)
theorem d_7_20_48 : decode prog_7_method_20_code 48 = .ok (.lmul, 1) := by decide +kernel
theorem d_7_20_49 : decode prog_7_method_20_code 49 = .ok (.ldc2_w 180, 3) := by decide +kernel
set_option maxRecDepth 100000 in
theorem w_1185 : (Cond.constantLong "NumberHouse$Floats" (180 : Nat) (1000000000 : Int64)) ∈ q_tbl := q_of5 225 rfl (by decide +kernel)
theorem d_7_20_52 : decode prog_7_method_20_code 52 = .ok (.invokestatic 182, 3) := by decide +kernel
set_option maxRecDepth 100000 in
theorem w_1188 : (Cond.code ({ cls := "java/lang/Math", name := "floorDiv", desc := "(JJ)J" } : MethodName) prog_29_method_49_code (6 : Nat) (some .long)) ∈ q_tbl := q_of5 228 rfl (by decide +kernel)
set_option maxRecDepth 100000 in
theorem w_1186 : (Cond.methodLink "NumberHouse$Floats" (182 : Nat) ({ cls := "java/lang/Math", name := "floorDiv", desc := "(JJ)J" } : MethodName)) ∈ q_tbl := q_of5 226 rfl (by decide +kernel)
set_option maxRecDepth 100000 in
theorem w_1187 : (Cond.static ({ cls := "java/lang/Math", name := "floorDiv", desc := "(JJ)J" } : MethodName)) ∈ q_tbl := q_of5 227 rfl (by decide +kernel)
theorem LS_Flo_182 : q_LS "NumberHouse$Floats" 182 y_jMath_floorDiv_JJJ prog_29_method_49_code 6 (some .long) 2 := ⟨w_1188, w_7, w_1186, w_1187, ⟨by decide, by decide, by decide +kernel⟩⟩
theorem d_7_20_55 : decode prog_7_method_20_code 55 = .ok (.l2i, 1) := by decide +kernel
theorem d_7_20_56 : decode prog_7_method_20_code 56 = .ok (.putfield 171, 3) := by decide +kernel
set_option maxRecDepth 100000 in
theorem w_242 : (Cond.fieldLink "NumberHouse$Floats" (171 : Nat) "NumberHouse$Floats" "estimate" "I") ∈ q_tbl := q_of2 2 rfl (by decide +kernel)
theorem d_7_20_59 : decode prog_7_method_20_code 59 = .ok (.aload 4, 2) := by decide +kernel
theorem d_7_20_61 : decode prog_7_method_20_code 61 = .ok (.iconst 2, 1) := by decide +kernel
theorem d_7_20_62 : decode prog_7_method_20_code 62 = .ok (.iconst 0, 1) := by decide +kernel
theorem d_7_20_63 : decode prog_7_method_20_code 63 = .ok (.iload_n 3, 1) := by decide +kernel
theorem d_7_20_64 : decode prog_7_method_20_code 64 = .ok (.invokestatic 46, 3) := by decide +kernel
theorem d_7_20_67 : decode prog_7_method_20_code 67 = .ok (.iadd, 1) := by decide +kernel
theorem d_7_20_68 : decode prog_7_method_20_code 68 = .ok (.invokevirtual 69, 3) := by decide +kernel
theorem d_7_20_71 : decode prog_7_method_20_code 71 = .ok (.aload 5, 2) := by decide +kernel
theorem d_7_20_73 : decode prog_7_method_20_code 73 = .ok (.lconst 1, 1) := by decide +kernel
theorem d_7_20_74 : decode prog_7_method_20_code 74 = .ok (.invokevirtual 63, 3) := by decide +kernel
theorem d_7_20_77 : decode prog_7_method_20_code 77 = .ok (.aload 5, 2) := by decide +kernel
theorem d_7_20_79 : decode prog_7_method_20_code 79 = .ok (.iconst 2, 1) := by decide +kernel
theorem d_7_20_80 : decode prog_7_method_20_code 80 = .ok (.iconst 0, 1) := by decide +kernel
theorem d_7_20_81 : decode prog_7_method_20_code 81 = .ok (.iload_n 3, 1) := by decide +kernel
theorem d_7_20_82 : decode prog_7_method_20_code 82 = .ok (.ineg, 1) := by decide +kernel
theorem d_7_20_83 : decode prog_7_method_20_code 83 = .ok (.invokestatic 46, 3) := by decide +kernel
theorem d_7_20_86 : decode prog_7_method_20_code 86 = .ok (.iadd, 1) := by decide +kernel
theorem d_7_20_87 : decode prog_7_method_20_code 87 = .ok (.invokevirtual 69, 3) := by decide +kernel
theorem d_7_20_90 : decode prog_7_method_20_code 90 = .ok (.aload_n 0, 1) := by decide +kernel
theorem d_7_20_91 : decode prog_7_method_20_code 91 = .ok (.getfield 19, 3) := by decide +kernel
theorem d_7_20_94 : decode prog_7_method_20_code 94 = .ok (.getfield 165, 3) := by decide +kernel
theorem d_7_20_97 : decode prog_7_method_20_code 97 = .ok (.ldc2_w 185, 3) := by decide +kernel
set_option maxRecDepth 100000 in
theorem w_1189 : (Cond.constantLong "NumberHouse$Floats" (185 : Nat) (2 : Int64)) ∈ q_tbl := q_of5 229 rfl (by decide +kernel)
theorem d_7_20_100 : decode prog_7_method_20_code 100 = .ok (.invokevirtual 63, 3) := by decide +kernel
theorem d_7_20_103 : decode prog_7_method_20_code 103 = .ok (.aload_n 0, 1) := by decide +kernel
theorem d_7_20_104 : decode prog_7_method_20_code 104 = .ok (.getfield 19, 3) := by decide +kernel
theorem d_7_20_107 : decode prog_7_method_20_code 107 = .ok (.getfield 165, 3) := by decide +kernel
theorem d_7_20_110 : decode prog_7_method_20_code 110 = .ok (.iconst 0, 1) := by decide +kernel
theorem d_7_20_111 : decode prog_7_method_20_code 111 = .ok (.iload_n 3, 1) := by decide +kernel
theorem d_7_20_112 : decode prog_7_method_20_code 112 = .ok (.invokestatic 46, 3) := by decide +kernel
theorem d_7_20_115 : decode prog_7_method_20_code 115 = .ok (.invokevirtual 69, 3) := by decide +kernel
theorem d_7_20_118 : decode prog_7_method_20_code 118 = .ok (.aload_n 0, 1) := by decide +kernel
theorem d_7_20_119 : decode prog_7_method_20_code 119 = .ok (.getfield 19, 3) := by decide +kernel
theorem d_7_20_122 : decode prog_7_method_20_code 122 = .ok (.getfield 159, 3) := by decide +kernel
theorem d_7_20_125 : decode prog_7_method_20_code 125 = .ok (.aload_n 0, 1) := by decide +kernel
theorem d_7_20_126 : decode prog_7_method_20_code 126 = .ok (.getfield 19, 3) := by decide +kernel
theorem d_7_20_129 : decode prog_7_method_20_code 129 = .ok (.getfield 165, 3) := by decide +kernel
theorem d_7_20_132 : decode prog_7_method_20_code 132 = .ok (.invokevirtual 127, 3) := by decide +kernel
set_option maxRecDepth 100000 in
theorem w_787 : (Cond.methodLink "NumberHouse$Floats" (127 : Nat) ({ cls := "NumberHouse$Big", name := "copy", desc := "(LNumberHouse$Big;)V" } : MethodName)) ∈ q_tbl := q_of4 67 rfl (by decide +kernel)
theorem LV_Flo_127 : q_LV "NumberHouse$Floats" 127 y_Big_copy prog_2_method_4_code 2 none 1 := ⟨w_790, w_4, w_787, w_788, w_789, ⟨by decide, by decide, by decide +kernel⟩⟩
theorem d_7_20_135 : decode prog_7_method_20_code 135 = .ok (.aload_n 0, 1) := by decide +kernel
theorem d_7_20_136 : decode prog_7_method_20_code 136 = .ok (.lload_n 1, 1) := by decide +kernel
theorem d_7_20_137 : decode prog_7_method_20_code 137 = .ok (.invokevirtual 35, 3) := by decide +kernel
theorem d_7_20_140 : decode prog_7_method_20_code 140 = .ok (.lconst 0, 1) := by decide +kernel
theorem d_7_20_141 : decode prog_7_method_20_code 141 = .ok (.lcmp, 1) := by decide +kernel
theorem d_7_20_166 : decode prog_7_method_20_code 166 = .ok (.aload 5, 2) := by decide +kernel
theorem d_7_20_168 : decode prog_7_method_20_code 168 = .ok (.aload_n 0, 1) := by decide +kernel
theorem d_7_20_169 : decode prog_7_method_20_code 169 = .ok (.getfield 171, 3) := by decide +kernel
theorem d_7_20_172 : decode prog_7_method_20_code 172 = .ok (.invokevirtual 187, 3) := by decide +kernel
set_option maxRecDepth 100000 in
theorem w_1191 : (Cond.methodLink "NumberHouse$Floats" (187 : Nat) ({ cls := "NumberHouse$Big", name := "timesTen", desc := "(I)V" } : MethodName)) ∈ q_tbl := q_of5 231 rfl (by decide +kernel)
theorem LV_Flo_187 : q_LV "NumberHouse$Floats" 187 y_Big_timesTen prog_2_method_28_code 3 none 1 := ⟨w_770, w_4, w_1191, w_768, w_769, ⟨by decide, by decide, by decide +kernel⟩⟩
theorem d_7_20_175 : decode prog_7_method_20_code 175 = .ok (.aload 4, 2) := by decide +kernel
theorem d_7_20_177 : decode prog_7_method_20_code 177 = .ok (.aload_n 0, 1) := by decide +kernel
theorem d_7_20_178 : decode prog_7_method_20_code 178 = .ok (.getfield 171, 3) := by decide +kernel
theorem d_7_20_181 : decode prog_7_method_20_code 181 = .ok (.ineg, 1) := by decide +kernel
theorem d_7_20_182 : decode prog_7_method_20_code 182 = .ok (.invokevirtual 187, 3) := by decide +kernel
theorem d_7_20_185 : decode prog_7_method_20_code 185 = .ok (.aload_n 0, 1) := by decide +kernel
theorem d_7_20_186 : decode prog_7_method_20_code 186 = .ok (.getfield 19, 3) := by decide +kernel
theorem d_7_20_189 : decode prog_7_method_20_code 189 = .ok (.getfield 165, 3) := by decide +kernel
theorem d_7_20_192 : decode prog_7_method_20_code 192 = .ok (.aload_n 0, 1) := by decide +kernel
theorem d_7_20_193 : decode prog_7_method_20_code 193 = .ok (.getfield 171, 3) := by decide +kernel
theorem d_7_20_196 : decode prog_7_method_20_code 196 = .ok (.ineg, 1) := by decide +kernel
theorem d_7_20_197 : decode prog_7_method_20_code 197 = .ok (.invokevirtual 187, 3) := by decide +kernel
theorem d_7_20_200 : decode prog_7_method_20_code 200 = .ok (.aload_n 0, 1) := by decide +kernel
theorem d_7_20_201 : decode prog_7_method_20_code 201 = .ok (.getfield 19, 3) := by decide +kernel
theorem d_7_20_204 : decode prog_7_method_20_code 204 = .ok (.getfield 159, 3) := by decide +kernel
theorem d_7_20_207 : decode prog_7_method_20_code 207 = .ok (.aload_n 0, 1) := by decide +kernel
theorem d_7_20_208 : decode prog_7_method_20_code 208 = .ok (.getfield 171, 3) := by decide +kernel
theorem d_7_20_211 : decode prog_7_method_20_code 211 = .ok (.ineg, 1) := by decide +kernel
theorem d_7_20_212 : decode prog_7_method_20_code 212 = .ok (.invokevirtual 187, 3) := by decide +kernel
theorem d_7_20_215 : decode prog_7_method_20_code 215 = .ok (.iconst 0, 1) := by decide +kernel
theorem d_7_20_216 : decode prog_7_method_20_code 216 = .ok (.istore 6, 2) := by decide +kernel
theorem d_7_20_218 : decode prog_7_method_20_code 218 = .ok (.iload 6, 2) := by decide +kernel
theorem d_7_20_220 : decode prog_7_method_20_code 220 = .ok (.iconst 3, 1) := by decide +kernel
theorem d_7_20_221 : decode prog_7_method_20_code 221 = .ok (.if_icmp .ge 37, 3) := by decide +kernel
theorem d_7_20_258 : decode prog_7_method_20_code 258 = .ok (.return_, 1) := by decide +kernel
theorem d_7_20_224 : decode prog_7_method_20_code 224 = .ok (.aload 4, 2) := by decide +kernel
theorem d_7_20_226 : decode prog_7_method_20_code 226 = .ok (.aload 5, 2) := by decide +kernel
theorem d_7_20_228 : decode prog_7_method_20_code 228 = .ok (.invokevirtual 162, 3) := by decide +kernel
theorem d_7_20_231 : decode prog_7_method_20_code 231 = .ok (.ifCond .lt 27, 3) := by decide +kernel
theorem d_7_20_234 : decode prog_7_method_20_code 234 = .ok (.aload 5, 2) := by decide +kernel
theorem d_7_20_236 : decode prog_7_method_20_code 236 = .ok (.bipush 10, 2) := by decide +kernel
theorem d_7_20_238 : decode prog_7_method_20_code 238 = .ok (.iconst 0, 1) := by decide +kernel
theorem d_7_20_239 : decode prog_7_method_20_code 239 = .ok (.invokevirtual 190, 3) := by decide +kernel
theorem d_7_20_242 : decode prog_7_method_20_code 242 = .ok (.aload_n 0, 1) := by decide +kernel
theorem d_7_20_243 : decode prog_7_method_20_code 243 = .ok (.dup, 1) := by decide +kernel
theorem d_7_20_244 : decode prog_7_method_20_code 244 = .ok (.getfield 171, 3) := by decide +kernel
theorem d_7_20_247 : decode prog_7_method_20_code 247 = .ok (.iconst 1, 1) := by decide +kernel
theorem d_7_20_248 : decode prog_7_method_20_code 248 = .ok (.iadd, 1) := by decide +kernel
theorem d_7_20_249 : decode prog_7_method_20_code 249 = .ok (.putfield 171, 3) := by decide +kernel
theorem d_7_20_252 : decode prog_7_method_20_code 252 = .ok (.iinc 6 1, 3) := by decide +kernel
theorem d_7_20_255 : decode prog_7_method_20_code 255 = .ok (.goto (-37), 3) := by decide +kernel
theorem d_7_20_142 : decode prog_7_method_20_code 142 = .ok (.ifCond .ne 24, 3) := by decide +kernel
theorem d_7_20_145 : decode prog_7_method_20_code 145 = .ok (.aload_n 0, 1) := by decide +kernel
theorem d_7_20_146 : decode prog_7_method_20_code 146 = .ok (.lload_n 1, 1) := by decide +kernel
theorem d_7_20_147 : decode prog_7_method_20_code 147 = .ok (.invokevirtual 27, 3) := by decide +kernel
theorem d_7_20_150 : decode prog_7_method_20_code 150 = .ok (.iconst 1, 1) := by decide +kernel
theorem d_7_20_151 : decode prog_7_method_20_code 151 = .ok (.if_icmp .le 15, 3) := by decide +kernel
theorem d_7_20_154 : decode prog_7_method_20_code 154 = .ok (.aload_n 0, 1) := by decide +kernel
theorem d_7_20_155 : decode prog_7_method_20_code 155 = .ok (.getfield 19, 3) := by decide +kernel
theorem d_7_20_158 : decode prog_7_method_20_code 158 = .ok (.getfield 159, 3) := by decide +kernel
theorem d_7_20_161 : decode prog_7_method_20_code 161 = .ok (.iconst 1, 1) := by decide +kernel
theorem d_7_20_162 : decode prog_7_method_20_code 162 = .ok (.invokevirtual 73, 3) := by decide +kernel
theorem d_7_20_165 : decode prog_7_method_20_code 165 = .ok (.pop, 1) := by decide +kernel
def y_Flo_prepare : MethodName := ⟨"NumberHouse$Floats", "prepare", "(J)V"⟩
set_option maxRecDepth 100000 in
set_option maxHeartbeats 4000000 in
theorem T_Flo_prepare (l : Launch) (D : va_G) (g : Nat → ClassId) (q : Nat → Nat) (ws : va_W) (k1 : Nat) (A B C : Int32) (hB1 : q_isFlo (nsh g q) q k1 A B C) (x2 : Int64) (hI : q_I (nsh g q) q ws) : q_mV l y_Flo_prepare prog_7_method_20_code 7 4 0 0 D g [.ref (q k1), .long x2] ws (fun u => q_I (nsh g q) q u ∧ q_un ws u [22, 23, 24, 25, 26, 27, 28, 29, k1] ∧ True) := by
  intro sz
  refine q_into (by decide) (Nat.le_of_ble_eq_true rfl) ?_
  intro p e s m below meth c ls hsz C0 V hl
  have hx := C0.1
  have hb := C0.2.1
  have hfk10 : q_F (23 ≤ A.toInt ∧ A.toInt ≤ 52) := hB1.2.1
  have hfk11 : q_F (150 ≤ B.toInt ∧ B.toInt ≤ 1075) := hB1.2.2.1
  have hfk12 : q_F (255 ≤ C.toInt ∧ C.toInt ≤ 2047) := hB1.2.2.2.1
  have hF : q_un ws ws [22, 23, 24, 25, 26, 27, 28, 29, k1] := q_u0
  have hl : lv_has ls 7 [(0, .ref (q k1)), (1, .long x2)] := hl
  refine lv_aload_n hx hb d_7_20_0 rfl (lv_at hl 0 rfl) ?_
  refine lv_lload_n hx hb d_7_20_1 rfl (lv_at hl 1 rfl) ?_
  obtain ⟨y2, y3, y4, hO1⟩ := n_flO hI hB1
  refine q_goi V (q_runV (As := [.long x2]) (rest := []) (d := 2) (mc := 0) (ms := 0) (ci := 6) C0 V rfl LV_Flo_52 (T_Flo_power l D g q ws k1 A B C hB1 x2 hI   _) rfl rfl hO1 rfl hl.1 rfl (Nat.le_of_ble_eq_true rfl) ⟨by decide, by decide⟩ ⟨Nat.le_of_ble_eq_true rfl, Nat.le_of_ble_eq_true rfl⟩ d_7_20_2) (fun a7 u5 H locs hp6 V => ?_)
  obtain ⟨rfl, b8, b9⟩ := hp6
  replace b8 : q_F (0 ≤ a7.toInt + 1074) := b8
  replace b9 : q_F (a7.toInt + 150 ≤ C.toInt) := b9
  refine lv_istore_n (lv' := [(3, .int a7), (0, .ref (q k1)), (1, .long x2)]) hx hb d_7_20_5 rfl hl (by decide) rfl (fun ls hl => ?_)
  refine lv_aload_n hx hb d_7_20_6 rfl (lv_at hl 1 rfl) ?_
  refine q_get (ci := 6) (j := 5) (v := .ref (q 9)) C0 V i_Flo rfl rfl hO1 (by decide) w_241 rfl d_7_20_7 ?_
  have hO11 := n_o9 hI
  refine q_get (ci := 4) (j := 6) (v := .ref (q 22)) C0 V i_Mil rfl rfl hO11 (by decide) w_127 rfl d_7_20_10 ?_
  refine lv_astore (lv' := [(4, .ref (q 22)), (3, .int a7), (0, .ref (q k1)), (1, .long x2)]) hx hb d_7_20_13 hl (by decide) rfl (fun ls hl => ?_)
  refine lv_aload_n hx hb d_7_20_15 rfl (lv_at hl 2 rfl) ?_
  refine q_get (ci := 6) (j := 5) (v := .ref (q 9)) C0 V i_Flo rfl rfl hO1 (by decide) w_241 rfl d_7_20_16 ?_
  refine q_get (ci := 4) (j := 7) (v := .ref (q 24)) C0 V i_Mil rfl rfl hO11 (by decide) w_130 rfl d_7_20_19 ?_
  refine lv_astore (lv' := [(5, .ref (q 24)), (4, .ref (q 22)), (3, .int a7), (0, .ref (q k1)), (1, .long x2)]) hx hb d_7_20_22 hl (by decide) rfl (fun ls hl => ?_)
  refine lv_aload hx hb d_7_20_24 (lv_at hl 1 rfl) ?_
  refine lv_aload_n hx hb d_7_20_26 rfl (lv_at hl 3 rfl) ?_
  refine lv_lload_n hx hb d_7_20_27 rfl (lv_at hl 4 rfl) ?_
  refine q_gol V (q_runV (As := [.long x2]) (rest := [.ref (q 22)]) (d := 2) (mc := 0) (ms := 0) (ci := 6) C0 V rfl LV_Flo_61 (T_Flo_number l D g q ws k1 A B C hB1 x2 hI   _) rfl rfl hO1 rfl hl.1 rfl (Nat.le_of_ble_eq_true rfl) ⟨by decide, by decide⟩ ⟨Nat.le_of_ble_eq_true rfl, Nat.le_of_ble_eq_true rfl⟩ d_7_20_28) (fun j14 u12 H locs hp13 V => ?_)
  obtain ⟨rfl, -⟩ := hp13
  obtain ⟨y17, y18, hO16, b19, b20⟩ := q_bigO hI (n_b22 g q)
  replace b19 : q_F (0 ≤ y17.toInt ∧ y17.toInt ≤ 220) := b19
  replace b20 : q_F (0 ≤ y18.toInt ∧ y18.toInt ≤ 1) := b20
  refine q_gov V (q_runV (As := [.long j14]) (rest := []) (d := 2) (mc := 0) (ms := 0) (ci := 2) C0 V rfl LV_Flo_63 (S_Big_setLong l D g (nsh g q) q ws 22 220 (n_b22 g q) j14 hI   _) rfl rfl hO16 rfl hl.1 rfl (Nat.le_of_ble_eq_true rfl) ⟨by decide, by decide⟩ ⟨Nat.le_of_ble_eq_true rfl, Nat.le_of_ble_eq_true rfl⟩ d_7_20_31) (fun u21 H locs hp22 V => ?_)
  obtain ⟨_, hI, hu23⟩ := hp22
  replace hO1 := (hu23 _ (by have z0 := hB1.2.2.2.2; simp only [List.mem_cons, List.not_mem_nil, or_false, not_or]; omega)).trans hO1
  replace hO11 := (hu23 _ (by decide)).trans hO11
  replace hF := q_uc hF hu23 (by simp)
  refine lv_aload_n hx hb d_7_20_34 rfl (lv_at hl 3 rfl) ?_
  refine lv_aload hx hb d_7_20_35 (lv_at hl 1 rfl) ?_
  obtain ⟨y25, y26, hO24, b27, b28⟩ := q_bigO hI (n_b22 g q)
  replace b27 : q_F (0 ≤ y25.toInt ∧ y25.toInt ≤ 220) := b27
  replace b28 : q_F (0 ≤ y26.toInt ∧ y26.toInt ≤ 1) := b28
  refine q_goi V (q_runV (As := []) (rest := [.ref (q k1)]) (d := 3) (mc := 0) (ms := 0) (ci := 2) C0 V rfl LV_Flo_104 (S_Big_bitLength l D g (nsh g q) q u21 22 220 (n_b22 g q)  hI   _) rfl rfl hO24 rfl hl.1 rfl (Nat.le_of_ble_eq_true rfl) ⟨by decide, by decide⟩ ⟨Nat.le_of_ble_eq_true rfl, Nat.le_of_ble_eq_true rfl⟩ d_7_20_37) (fun a31 u29 H locs hp30 V => ?_)
  obtain ⟨b32, rfl⟩ := hp30
  replace b32 : q_F (0 ≤ a31.toInt ∧ a31.toInt ≤ 6852) := b32
  refine lv_iconst (v := 1) hx hb d_7_20_40 (by decide) ?_
  refine lv_isub hx hb d_7_20_41 ?_
  obtain ⟨a33, e34⟩ := q_nm (a31 - 1 : Int32)
  refine q_ti (v := a33) e34 ?_
  have b35 : q_F (a33.toInt = a31.toInt - 1) := (by rw [← e34]; show (a31 - 1 : Int32).toInt = a31.toInt - 1; exact q_subI (x := a31.toInt) (y := 1) rfl (by decide) (by have t1 : 0 ≤ a31.toInt ∧ a31.toInt ≤ 6852 := b32; omega) (by have t1 : 0 ≤ a31.toInt ∧ a31.toInt ≤ 6852 := b32; omega))
  refine lv_iload_n hx hb d_7_20_42 rfl (lv_at hl 2 rfl) ?_
  refine lv_iadd hx hb d_7_20_43 ?_
  obtain ⟨a36, e37⟩ := q_nm (a33 + a7 : Int32)
  refine q_ti (v := a36) e37 ?_
  have b38 : q_F (a36.toInt = a33.toInt + a7.toInt) := (by rw [← e37]; show (a33 + a7 : Int32).toInt = a33.toInt + a7.toInt; exact q_addI (x := a33.toInt) (y := a7.toInt) rfl rfl (by have t1 : 0 ≤ a7.toInt + 1074 := b8; have t2 : 0 ≤ a31.toInt ∧ a31.toInt ≤ 6852 := b32; have t3 : a33.toInt = a31.toInt - 1 := b35; have t4 : 255 ≤ C.toInt ∧ C.toInt ≤ 2047 := hfk12; have t5 : a7.toInt + 150 ≤ C.toInt := b9; omega) (by have t1 : 0 ≤ a7.toInt + 1074 := b8; have t2 : 0 ≤ a31.toInt ∧ a31.toInt ≤ 6852 := b32; have t3 : a33.toInt = a31.toInt - 1 := b35; have t4 : 255 ≤ C.toInt ∧ C.toInt ≤ 2047 := hfk12; have t5 : a7.toInt + 150 ≤ C.toInt := b9; omega))
  refine lv_i2l hx hb d_7_20_44 rfl ?_
  obtain ⟨j39, e40⟩ := q_nm (a36.toInt64 : Int64)
  refine q_tl (v := j39) e40 ?_
  have b41 : q_F (j39.toInt = a36.toInt) := (by rw [← e40]; show (a36.toInt64 : Int64).toInt = a36.toInt; exact q_i2l rfl)
  refine q_ldc2 C0 rfl w_1184 d_7_20_45 ?_
  refine lv_lmul hx hb d_7_20_48 ?_
  obtain ⟨j42, e43⟩ := q_nm (j39 * 301029995 : Int64)
  refine q_tl (v := j42) e43 ?_
  have b44 : q_F (j42.toInt = j39.toInt * 301029995) := (by rw [← e43]; show (j39 * 301029995 : Int64).toInt = j39.toInt * 301029995; exact q_mulL (x := j39.toInt) (y := 301029995) rfl (by decide) (by have t1 : j39.toInt = a36.toInt := b41; have _ := q_lo32 (x := a36); have _ := q_hi32 (x := a36); omega) (by have t1 : j39.toInt = a36.toInt := b41; have _ := q_lo32 (x := a36); have _ := q_hi32 (x := a36); omega))
  refine q_ldc2 C0 rfl w_1185 d_7_20_49 ?_
  refine q_gol V (q_runS (As := [.long j42, .long 1000000000]) (rest := [.ref (q k1)]) (d := 1) (mc := 0) (ms := 0) C0 V rfl LS_Flo_182 (T_jMath_floorDiv_JJJ l D g q u21  j42 1000000000 hI  (by have y0 : (1000000000 : Int64).toInt = 1000000000 := rfl; omega) _) rfl hl.1 rfl (Nat.le_of_ble_eq_true rfl) ⟨by decide, by decide⟩ ⟨Nat.le_of_ble_eq_true rfl, Nat.le_of_ble_eq_true rfl⟩ d_7_20_52) (fun j47 u45 H locs hp46 V => ?_)
  obtain ⟨rfl, -⟩ := hp46
  refine lv_l2i hx hb d_7_20_55 rfl ?_
  obtain ⟨a49, e50⟩ := q_nm (j47.toInt32 : Int32)
  refine q_ti (v := a49) e50 ?_
  refine q_put (ci := 6) (j := 6) (v := .int a49) (ty := .int) C0 V i_Flo o_Flo n_Flo rfl rfl hO1 (by decide) w_242 rfl rfl rfl rfl (Nat.le_of_ble_eq_true rfl) d_7_20_56 (fun H locs w51 hu52 hO1 V => ?_)
  replace hO1 : w51[k1]? = (some (q k1, .inr (6, [.int A, .int B, .int C, .long y2, .int y3, .ref (q 9), .int a49])) : Option (Nat × va_E)) := hO1
  replace hI := n_flO' hI hB1 hu52 hO1 
  replace hO11 := (hu52 _ (by have z0 := hB1.2.2.2.2; omega)).trans hO11
  replace hO24 := (hu52 _ (by have z0 := hB1.2.2.2.2; omega)).trans hO24
  replace hF := q_us hF hu52 (by simp)
  refine lv_aload hx hb d_7_20_59 (lv_at hl 1 rfl) ?_
  refine lv_iconst (v := 2) hx hb d_7_20_61 (by decide) ?_
  refine lv_iconst (v := 0) hx hb d_7_20_62 (by decide) ?_
  refine lv_iload_n hx hb d_7_20_63 rfl (lv_at hl 2 rfl) ?_
  refine q_max C0 hl.1 rfl w_802 w_803 w_7 w_804 ⟨Nat.le_of_ble_eq_true rfl, Nat.le_of_ble_eq_true rfl⟩ ⟨Nat.le_of_ble_eq_true rfl, Nat.le_of_ble_eq_true rfl⟩ d_7_20_64 ?_
  obtain ⟨a53, e54⟩ := q_nm (if 0 < a7 then a7 else 0 : Int32)
  refine q_ti (v := a53) e54 ?_
  have b55 : q_F (0 ≤ a53.toInt ∧ a7.toInt ≤ a53.toInt ∧ (a53.toInt = 0 ∨ a53.toInt = a7.toInt)) := (by rw [← e54]; show 0 ≤ (if 0 < a7 then a7 else 0 : Int32).toInt ∧ a7.toInt ≤ (if 0 < a7 then a7 else 0 : Int32).toInt ∧ ((if 0 < a7 then a7 else 0 : Int32).toInt = 0 ∨ (if 0 < a7 then a7 else 0 : Int32).toInt = a7.toInt); exact (by have y0 : (0 : Int32).toInt = 0 := rfl; have z := s_max (a := 0) (b := a7); omega))
  refine lv_iadd hx hb d_7_20_67 ?_
  obtain ⟨a56, e57⟩ := q_nm (2 + a53 : Int32)
  refine q_ti (v := a56) e57 ?_
  have b58 : q_F (a56.toInt = 2 + a53.toInt) := (by rw [← e57]; show (2 + a53 : Int32).toInt = 2 + a53.toInt; exact q_addI (x := 2) (y := a53.toInt) (by decide) rfl (by have t1 : 0 ≤ a53.toInt ∧ a7.toInt ≤ a53.toInt ∧ (a53.toInt = 0 ∨ a53.toInt = a7.toInt) := b55; have t2 : a7.toInt + 150 ≤ C.toInt := b9; have _ := q_lo32 (x := C); have _ := q_hi32 (x := C); omega) (by have t1 : 0 ≤ a53.toInt ∧ a7.toInt ≤ a53.toInt ∧ (a53.toInt = 0 ∨ a53.toInt = a7.toInt) := b55; have t2 : a7.toInt + 150 ≤ C.toInt := b9; have _ := q_lo32 (x := C); have _ := q_hi32 (x := C); omega))
  refine q_gov V (q_runV (As := [.int a56]) (rest := []) (d := 3) (mc := 0) (ms := 0) (ci := 2) C0 V rfl LV_Flo_69 (T_Big_shiftLeft l D g q w51 22 220 (n_b22 g q) (by decide) a56 hI   _) rfl rfl hO24 rfl hl.1 rfl (Nat.le_of_ble_eq_true rfl) ⟨by decide, by decide⟩ ⟨Nat.le_of_ble_eq_true rfl, Nat.le_of_ble_eq_true rfl⟩ d_7_20_68) (fun u59 H locs hp60 V => ?_)
  obtain ⟨hI, hu62, -⟩ := hp60
  replace hO1 := (hu62 _ (by have z0 := hB1.2.2.2.2; simp only [List.mem_cons, List.not_mem_nil, or_false, not_or]; omega)).trans hO1
  replace hO11 := (hu62 _ (by decide)).trans hO11
  replace hF := q_uc hF hu62 (by simp)
  refine lv_aload hx hb d_7_20_71 (lv_at hl 0 rfl) ?_
  refine lv_lconst (v := 1) hx hb d_7_20_73 (by decide) ?_
  obtain ⟨y64, y65, hO63, b66, b67⟩ := q_bigO hI (n_b24 g q)
  replace b66 : q_F (0 ≤ y64.toInt ∧ y64.toInt ≤ 220) := b66
  replace b67 : q_F (0 ≤ y65.toInt ∧ y65.toInt ≤ 1) := b67
  refine q_gov V (q_runV (As := [.long 1]) (rest := []) (d := 2) (mc := 0) (ms := 0) (ci := 2) C0 V rfl LV_Flo_63 (S_Big_setLong l D g (nsh g q) q u59 24 220 (n_b24 g q) 1 hI   _) rfl rfl hO63 rfl hl.1 rfl (Nat.le_of_ble_eq_true rfl) ⟨by decide, by decide⟩ ⟨Nat.le_of_ble_eq_true rfl, Nat.le_of_ble_eq_true rfl⟩ d_7_20_74) (fun u68 H locs hp69 V => ?_)
  obtain ⟨_, hI, hu70⟩ := hp69
  replace hO1 := (hu70 _ (by have z0 := hB1.2.2.2.2; simp only [List.mem_cons, List.not_mem_nil, or_false, not_or]; omega)).trans hO1
  replace hO11 := (hu70 _ (by decide)).trans hO11
  replace hF := q_uc hF hu70 (by simp)
  refine lv_aload hx hb d_7_20_77 (lv_at hl 0 rfl) ?_
  refine lv_iconst (v := 2) hx hb d_7_20_79 (by decide) ?_
  refine lv_iconst (v := 0) hx hb d_7_20_80 (by decide) ?_
  refine lv_iload_n hx hb d_7_20_81 rfl (lv_at hl 2 rfl) ?_
  refine lv_ineg hx hb d_7_20_82 ?_
  obtain ⟨a71, e72⟩ := q_nm (-a7 : Int32)
  refine q_ti (v := a71) e72 ?_
  have b73 : q_F (a71.toInt = -a7.toInt) := (by rw [← e72]; show (-a7 : Int32).toInt = -a7.toInt; exact q_negI rfl (by have t1 : 0 ≤ a7.toInt + 1074 := b8; omega))
  refine q_max C0 hl.1 rfl w_802 w_803 w_7 w_804 ⟨Nat.le_of_ble_eq_true rfl, Nat.le_of_ble_eq_true rfl⟩ ⟨Nat.le_of_ble_eq_true rfl, Nat.le_of_ble_eq_true rfl⟩ d_7_20_83 ?_
  obtain ⟨a74, e75⟩ := q_nm (if 0 < a71 then a71 else 0 : Int32)
  refine q_ti (v := a74) e75 ?_
  have b76 : q_F (0 ≤ a74.toInt ∧ a71.toInt ≤ a74.toInt ∧ (a74.toInt = 0 ∨ a74.toInt = a71.toInt)) := (by rw [← e75]; show 0 ≤ (if 0 < a71 then a71 else 0 : Int32).toInt ∧ a71.toInt ≤ (if 0 < a71 then a71 else 0 : Int32).toInt ∧ ((if 0 < a71 then a71 else 0 : Int32).toInt = 0 ∨ (if 0 < a71 then a71 else 0 : Int32).toInt = a71.toInt); exact (by have y0 : (0 : Int32).toInt = 0 := rfl; have z := s_max (a := 0) (b := a71); omega))
  refine lv_iadd hx hb d_7_20_86 ?_
  obtain ⟨a77, e78⟩ := q_nm (2 + a74 : Int32)
  refine q_ti (v := a77) e78 ?_
  have b79 : q_F (a77.toInt = 2 + a74.toInt) := (by rw [← e78]; show (2 + a74 : Int32).toInt = 2 + a74.toInt; exact q_addI (x := 2) (y := a74.toInt) (by decide) rfl (by have t1 : 0 ≤ a74.toInt ∧ a71.toInt ≤ a74.toInt ∧ (a74.toInt = 0 ∨ a74.toInt = a71.toInt) := b76; have t2 : 0 ≤ a7.toInt + 1074 := b8; have t3 : a71.toInt = -a7.toInt := b73; omega) (by have t1 : 0 ≤ a74.toInt ∧ a71.toInt ≤ a74.toInt ∧ (a74.toInt = 0 ∨ a74.toInt = a71.toInt) := b76; have t2 : 0 ≤ a7.toInt + 1074 := b8; have t3 : a71.toInt = -a7.toInt := b73; omega))
  obtain ⟨y81, y82, hO80, b83, b84⟩ := q_bigO hI (n_b24 g q)
  replace b83 : q_F (0 ≤ y81.toInt ∧ y81.toInt ≤ 220) := b83
  replace b84 : q_F (0 ≤ y82.toInt ∧ y82.toInt ≤ 1) := b84
  refine q_gov V (q_runV (As := [.int a77]) (rest := []) (d := 3) (mc := 0) (ms := 0) (ci := 2) C0 V rfl LV_Flo_69 (T_Big_shiftLeft l D g q u68 24 220 (n_b24 g q) (by decide) a77 hI   _) rfl rfl hO80 rfl hl.1 rfl (Nat.le_of_ble_eq_true rfl) ⟨by decide, by decide⟩ ⟨Nat.le_of_ble_eq_true rfl, Nat.le_of_ble_eq_true rfl⟩ d_7_20_87) (fun u85 H locs hp86 V => ?_)
  obtain ⟨hI, hu88, -⟩ := hp86
  replace hO1 := (hu88 _ (by have z0 := hB1.2.2.2.2; simp only [List.mem_cons, List.not_mem_nil, or_false, not_or]; omega)).trans hO1
  replace hO11 := (hu88 _ (by decide)).trans hO11
  replace hF := q_uc hF hu88 (by simp)
  refine lv_aload_n hx hb d_7_20_90 rfl (lv_at hl 3 rfl) ?_
  refine q_get (ci := 6) (j := 5) (v := .ref (q 9)) C0 V i_Flo rfl rfl hO1 (by decide) w_241 rfl d_7_20_91 ?_
  refine q_get (ci := 4) (j := 8) (v := .ref (q 26)) C0 V i_Mil rfl rfl hO11 (by decide) w_132 rfl d_7_20_94 ?_
  refine q_ldc2 C0 rfl w_1189 d_7_20_97 ?_
  obtain ⟨y90, y91, hO89, b92, b93⟩ := q_bigO hI (n_b26 g q)
  replace b92 : q_F (0 ≤ y90.toInt ∧ y90.toInt ≤ 220) := b92
  replace b93 : q_F (0 ≤ y91.toInt ∧ y91.toInt ≤ 1) := b93
  refine q_gov V (q_runV (As := [.long 2]) (rest := []) (d := 2) (mc := 0) (ms := 0) (ci := 2) C0 V rfl LV_Flo_63 (S_Big_setLong l D g (nsh g q) q u85 26 220 (n_b26 g q) 2 hI   _) rfl rfl hO89 rfl hl.1 rfl (Nat.le_of_ble_eq_true rfl) ⟨by decide, by decide⟩ ⟨Nat.le_of_ble_eq_true rfl, Nat.le_of_ble_eq_true rfl⟩ d_7_20_100) (fun u94 H locs hp95 V => ?_)
  obtain ⟨_, hI, hu96⟩ := hp95
  replace hO1 := (hu96 _ (by have z0 := hB1.2.2.2.2; simp only [List.mem_cons, List.not_mem_nil, or_false, not_or]; omega)).trans hO1
  replace hO11 := (hu96 _ (by decide)).trans hO11
  replace hF := q_uc hF hu96 (by simp)
  refine lv_aload_n hx hb d_7_20_103 rfl (lv_at hl 3 rfl) ?_
  refine q_get (ci := 6) (j := 5) (v := .ref (q 9)) C0 V i_Flo rfl rfl hO1 (by decide) w_241 rfl d_7_20_104 ?_
  refine q_get (ci := 4) (j := 8) (v := .ref (q 26)) C0 V i_Mil rfl rfl hO11 (by decide) w_132 rfl d_7_20_107 ?_
  refine lv_iconst (v := 0) hx hb d_7_20_110 (by decide) ?_
  refine lv_iload_n hx hb d_7_20_111 rfl (lv_at hl 2 rfl) ?_
  refine q_max C0 hl.1 rfl w_802 w_803 w_7 w_804 ⟨Nat.le_of_ble_eq_true rfl, Nat.le_of_ble_eq_true rfl⟩ ⟨Nat.le_of_ble_eq_true rfl, Nat.le_of_ble_eq_true rfl⟩ d_7_20_112 ?_
  obtain ⟨a97, e98⟩ := q_nm (if 0 < a7 then a7 else 0 : Int32)
  refine q_ti (v := a97) e98 ?_
  have b99 : q_F (0 ≤ a97.toInt ∧ a7.toInt ≤ a97.toInt ∧ (a97.toInt = 0 ∨ a97.toInt = a7.toInt)) := (by rw [← e98]; show 0 ≤ (if 0 < a7 then a7 else 0 : Int32).toInt ∧ a7.toInt ≤ (if 0 < a7 then a7 else 0 : Int32).toInt ∧ ((if 0 < a7 then a7 else 0 : Int32).toInt = 0 ∨ (if 0 < a7 then a7 else 0 : Int32).toInt = a7.toInt); exact (by have y0 : (0 : Int32).toInt = 0 := rfl; have z := s_max (a := 0) (b := a7); omega))
  obtain ⟨y101, y102, hO100, b103, b104⟩ := q_bigO hI (n_b26 g q)
  replace b103 : q_F (0 ≤ y101.toInt ∧ y101.toInt ≤ 220) := b103
  replace b104 : q_F (0 ≤ y102.toInt ∧ y102.toInt ≤ 1) := b104
  refine q_gov V (q_runV (As := [.int a97]) (rest := []) (d := 3) (mc := 0) (ms := 0) (ci := 2) C0 V rfl LV_Flo_69 (T_Big_shiftLeft l D g q u94 26 220 (n_b26 g q) (by decide) a97 hI   _) rfl rfl hO100 rfl hl.1 rfl (Nat.le_of_ble_eq_true rfl) ⟨by decide, by decide⟩ ⟨Nat.le_of_ble_eq_true rfl, Nat.le_of_ble_eq_true rfl⟩ d_7_20_115) (fun u105 H locs hp106 V => ?_)
  obtain ⟨hI, hu108, -⟩ := hp106
  replace hO1 := (hu108 _ (by have z0 := hB1.2.2.2.2; simp only [List.mem_cons, List.not_mem_nil, or_false, not_or]; omega)).trans hO1
  replace hO11 := (hu108 _ (by decide)).trans hO11
  replace hF := q_uc hF hu108 (by simp)
  refine lv_aload_n hx hb d_7_20_118 rfl (lv_at hl 3 rfl) ?_
  refine q_get (ci := 6) (j := 5) (v := .ref (q 9)) C0 V i_Flo rfl rfl hO1 (by decide) w_241 rfl d_7_20_119 ?_
  refine q_get (ci := 4) (j := 9) (v := .ref (q 28)) C0 V i_Mil rfl rfl hO11 (by decide) w_134 rfl d_7_20_122 ?_
  refine lv_aload_n hx hb d_7_20_125 rfl (lv_at hl 3 rfl) ?_
  refine q_get (ci := 6) (j := 5) (v := .ref (q 9)) C0 V i_Flo rfl rfl hO1 (by decide) w_241 rfl d_7_20_126 ?_
  refine q_get (ci := 4) (j := 8) (v := .ref (q 26)) C0 V i_Mil rfl rfl hO11 (by decide) w_132 rfl d_7_20_129 ?_
  obtain ⟨y110, y111, hO109, b112, b113⟩ := q_bigO hI (n_b28 g q)
  replace b112 : q_F (0 ≤ y110.toInt ∧ y110.toInt ≤ 220) := b112
  replace b113 : q_F (0 ≤ y111.toInt ∧ y111.toInt ≤ 1) := b113
  refine q_gov V (q_runV (As := [.ref (q 26)]) (rest := []) (d := 2) (mc := 0) (ms := 0) (ci := 2) C0 V rfl LV_Flo_127 (S_Big_copy l D g (nsh g q) q u105 28 220 (n_b28 g q) 26 220 (n_b26 g q)  hI   _) rfl rfl hO109 rfl hl.1 rfl (Nat.le_of_ble_eq_true rfl) ⟨by decide, by decide⟩ ⟨Nat.le_of_ble_eq_true rfl, Nat.le_of_ble_eq_true rfl⟩ d_7_20_132) (fun u114 H locs hp115 V => ?_)
  obtain ⟨_, hI, hu116⟩ := hp115
  replace hO1 := (hu116 _ (by have z0 := hB1.2.2.2.2; simp only [List.mem_cons, List.not_mem_nil, or_false, not_or]; omega)).trans hO1
  replace hO11 := (hu116 _ (by decide)).trans hO11
  replace hF := q_uc hF hu116 (by simp)
  refine lv_aload_n hx hb d_7_20_135 rfl (lv_at hl 3 rfl) ?_
  refine lv_lload_n hx hb d_7_20_136 rfl (lv_at hl 4 rfl) ?_
  refine q_gol V (q_runV (As := [.long x2]) (rest := []) (d := 1) (mc := 0) (ms := 0) (ci := 6) C0 V rfl LV_Flo_35 (T_Flo_fraction l D g q u114 k1 A B C hB1 x2 hI   _) rfl rfl hO1 rfl hl.1 rfl (Nat.le_of_ble_eq_true rfl) ⟨by decide, by decide⟩ ⟨Nat.le_of_ble_eq_true rfl, Nat.le_of_ble_eq_true rfl⟩ d_7_20_137) (fun j119 u117 H locs hp118 V => ?_)
  obtain ⟨rfl, -⟩ := hp118
  refine lv_lconst (v := 0) hx hb d_7_20_140 (by decide) ?_
  refine W.lcmp hx hb d_7_20_141 ?_
  obtain ⟨a121, e122⟩ := q_nm (lg_cmp j119 0 : Int32)
  refine q_ti (v := a121) e122 ?_
  have b123 : q_F (-1 ≤ a121.toInt ∧ a121.toInt ≤ 1 ∧ ((a121.toInt = -1 ∧ j119.toInt < 0) ∨ (a121.toInt = 0 ∧ j119.toInt = 0) ∨ (a121.toInt = 1 ∧ 0 < j119.toInt))) := (by rw [← e122]; show -1 ≤ (lg_cmp j119 0 : Int32).toInt ∧ (lg_cmp j119 0 : Int32).toInt ≤ 1 ∧ (((lg_cmp j119 0 : Int32).toInt = -1 ∧ j119.toInt < 0) ∨ ((lg_cmp j119 0 : Int32).toInt = 0 ∧ j119.toInt = 0) ∨ ((lg_cmp j119 0 : Int32).toInt = 1 ∧ 0 < j119.toInt)); exact (by have y1 : (0 : Int64).toInt = 0 := rfl; have z := s_lcmp (a := j119) (b := 0); omega))
  refine q_join (X := Unit) (fun z H locs ls w125 => q_Wd D g (va_A ws sz) s w125 H locs ∧ lv_has ls 7 [(5, .ref (q 24)), (4, .ref (q 22)), (0, .ref (q k1))] ∧ q_I (nsh g q) q w125 ∧ q_un ws w125 [22, 23, 24, 25, 26, 27, 28, 29, k1]) (fun z => []) 166 0 0 ?_ ?_
  ·
    rintro _ H locs ls w125 ⟨V, hl, hI, hF⟩
    replace hl : lv_has ls 7 [(5, .ref (q 24)), (4, .ref (q 22)), (0, .ref (q k1))] := hl
    refine lv_aload hx hb d_7_20_166 (lv_at hl 0 rfl) ?_
    refine lv_aload_n hx hb d_7_20_168 rfl (lv_at hl 2 rfl) ?_
    obtain ⟨y127, y128, y129, hO126⟩ := n_flO hI hB1
    refine q_get (ci := 6) (j := 6) (v := .int y129) C0 V i_Flo rfl rfl hO126 (by decide) w_242 rfl d_7_20_169 ?_
    obtain ⟨y131, y132, hO130, b133, b134⟩ := q_bigO hI (n_b24 g q)
    replace b133 : q_F (0 ≤ y131.toInt ∧ y131.toInt ≤ 220) := b133
    replace b134 : q_F (0 ≤ y132.toInt ∧ y132.toInt ≤ 1) := b134
    refine q_gov V (q_runV (As := [.int y129]) (rest := []) (d := 2) (mc := 0) (ms := 0) (ci := 2) C0 V rfl LV_Flo_187 (S_Big_timesTen l D g (nsh g q) q w125 24 220 (n_b24 g q) y129 hI   _) rfl rfl hO130 rfl hl.1 rfl (Nat.le_of_ble_eq_true rfl) ⟨by decide, by decide⟩ ⟨Nat.le_of_ble_eq_true rfl, Nat.le_of_ble_eq_true rfl⟩ d_7_20_172) (fun u135 H locs hp136 V => ?_)
    obtain ⟨_, hI, hu137⟩ := hp136
    replace hO126 := (hu137 _ (by have z0 := hB1.2.2.2.2; simp only [List.mem_cons, List.not_mem_nil, or_false, not_or]; omega)).trans hO126
    replace hF := q_uc hF hu137 (by simp)
    refine lv_aload hx hb d_7_20_175 (lv_at hl 1 rfl) ?_
    refine lv_aload_n hx hb d_7_20_177 rfl (lv_at hl 2 rfl) ?_
    refine q_get (ci := 6) (j := 6) (v := .int y129) C0 V i_Flo rfl rfl hO126 (by decide) w_242 rfl d_7_20_178 ?_
    refine lv_ineg hx hb d_7_20_181 ?_
    obtain ⟨a138, e139⟩ := q_nm (-y129 : Int32)
    refine q_ti (v := a138) e139 ?_
    obtain ⟨y141, y142, hO140, b143, b144⟩ := q_bigO hI (n_b22 g q)
    replace b143 : q_F (0 ≤ y141.toInt ∧ y141.toInt ≤ 220) := b143
    replace b144 : q_F (0 ≤ y142.toInt ∧ y142.toInt ≤ 1) := b144
    refine q_gov V (q_runV (As := [.int a138]) (rest := []) (d := 2) (mc := 0) (ms := 0) (ci := 2) C0 V rfl LV_Flo_187 (S_Big_timesTen l D g (nsh g q) q u135 22 220 (n_b22 g q) a138 hI   _) rfl rfl hO140 rfl hl.1 rfl (Nat.le_of_ble_eq_true rfl) ⟨by decide, by decide⟩ ⟨Nat.le_of_ble_eq_true rfl, Nat.le_of_ble_eq_true rfl⟩ d_7_20_182) (fun u145 H locs hp146 V => ?_)
    obtain ⟨_, hI, hu147⟩ := hp146
    replace hO126 := (hu147 _ (by have z0 := hB1.2.2.2.2; simp only [List.mem_cons, List.not_mem_nil, or_false, not_or]; omega)).trans hO126
    replace hF := q_uc hF hu147 (by simp)
    refine lv_aload_n hx hb d_7_20_185 rfl (lv_at hl 2 rfl) ?_
    refine q_get (ci := 6) (j := 5) (v := .ref (q 9)) C0 V i_Flo rfl rfl hO126 (by decide) w_241 rfl d_7_20_186 ?_
    have hO148 := n_o9 hI
    refine q_get (ci := 4) (j := 8) (v := .ref (q 26)) C0 V i_Mil rfl rfl hO148 (by decide) w_132 rfl d_7_20_189 ?_
    refine lv_aload_n hx hb d_7_20_192 rfl (lv_at hl 2 rfl) ?_
    refine q_get (ci := 6) (j := 6) (v := .int y129) C0 V i_Flo rfl rfl hO126 (by decide) w_242 rfl d_7_20_193 ?_
    refine lv_ineg hx hb d_7_20_196 ?_
    obtain ⟨a149, e150⟩ := q_nm (-y129 : Int32)
    refine q_ti (v := a149) e150 ?_
    obtain ⟨y152, y153, hO151, b154, b155⟩ := q_bigO hI (n_b26 g q)
    replace b154 : q_F (0 ≤ y152.toInt ∧ y152.toInt ≤ 220) := b154
    replace b155 : q_F (0 ≤ y153.toInt ∧ y153.toInt ≤ 1) := b155
    refine q_gov V (q_runV (As := [.int a149]) (rest := []) (d := 2) (mc := 0) (ms := 0) (ci := 2) C0 V rfl LV_Flo_187 (S_Big_timesTen l D g (nsh g q) q u145 26 220 (n_b26 g q) a149 hI   _) rfl rfl hO151 rfl hl.1 rfl (Nat.le_of_ble_eq_true rfl) ⟨by decide, by decide⟩ ⟨Nat.le_of_ble_eq_true rfl, Nat.le_of_ble_eq_true rfl⟩ d_7_20_197) (fun u156 H locs hp157 V => ?_)
    obtain ⟨_, hI, hu158⟩ := hp157
    replace hO126 := (hu158 _ (by have z0 := hB1.2.2.2.2; simp only [List.mem_cons, List.not_mem_nil, or_false, not_or]; omega)).trans hO126
    replace hO148 := (hu158 _ (by decide)).trans hO148
    replace hF := q_uc hF hu158 (by simp)
    refine lv_aload_n hx hb d_7_20_200 rfl (lv_at hl 2 rfl) ?_
    refine q_get (ci := 6) (j := 5) (v := .ref (q 9)) C0 V i_Flo rfl rfl hO126 (by decide) w_241 rfl d_7_20_201 ?_
    refine q_get (ci := 4) (j := 9) (v := .ref (q 28)) C0 V i_Mil rfl rfl hO148 (by decide) w_134 rfl d_7_20_204 ?_
    refine lv_aload_n hx hb d_7_20_207 rfl (lv_at hl 2 rfl) ?_
    refine q_get (ci := 6) (j := 6) (v := .int y129) C0 V i_Flo rfl rfl hO126 (by decide) w_242 rfl d_7_20_208 ?_
    refine lv_ineg hx hb d_7_20_211 ?_
    obtain ⟨a159, e160⟩ := q_nm (-y129 : Int32)
    refine q_ti (v := a159) e160 ?_
    obtain ⟨y162, y163, hO161, b164, b165⟩ := q_bigO hI (n_b28 g q)
    replace b164 : q_F (0 ≤ y162.toInt ∧ y162.toInt ≤ 220) := b164
    replace b165 : q_F (0 ≤ y163.toInt ∧ y163.toInt ≤ 1) := b165
    refine q_gov V (q_runV (As := [.int a159]) (rest := []) (d := 2) (mc := 0) (ms := 0) (ci := 2) C0 V rfl LV_Flo_187 (S_Big_timesTen l D g (nsh g q) q u156 28 220 (n_b28 g q) a159 hI   _) rfl rfl hO161 rfl hl.1 rfl (Nat.le_of_ble_eq_true rfl) ⟨by decide, by decide⟩ ⟨Nat.le_of_ble_eq_true rfl, Nat.le_of_ble_eq_true rfl⟩ d_7_20_212) (fun u166 H locs hp167 V => ?_)
    obtain ⟨_, hI, hu168⟩ := hp167
    replace hO126 := (hu168 _ (by have z0 := hB1.2.2.2.2; simp only [List.mem_cons, List.not_mem_nil, or_false, not_or]; omega)).trans hO126
    replace hO148 := (hu168 _ (by decide)).trans hO148
    replace hF := q_uc hF hu168 (by simp)
    refine lv_iconst (v := 0) hx hb d_7_20_215 (by decide) ?_
    refine lv_istore (lv' := [(6, .int 0), (5, .ref (q 24)), (4, .ref (q 22)), (0, .ref (q k1))]) hx hb d_7_20_216 hl (by decide) rfl (fun ls hl => ?_)
    refine q_loop (X := Int32) (fun z H locs ls w173 => q_F (0 ≤ z.toInt) ∧ q_F (z.toInt ≤ 3) ∧ q_Wd D g (va_A ws sz) s w173 H locs ∧ lv_has ls 7 [(6, .int z), (5, .ref (q 24)), (4, .ref (q 22)), (0, .ref (q k1))] ∧ q_I (nsh g q) q w173 ∧ q_un ws w173 [22, 23, 24, 25, 26, 27, 28, 29, k1]) (fun z => (3 - z.toInt).toNat) ?_ ((0 : Int32)) _ _ _ u166 ⟨(show q_F (0 ≤ 0) from (show 0 ≤ 0 from by omega)), (show q_F (0 ≤ 3) from (show 0 ≤ 3 from by omega)), V, q_lw hl (q_lw1 0 rfl (q_lw1 1 rfl (q_lw1 2 rfl (q_lw1 3 rfl q_lw0)))), hI, hF⟩
    rintro lx169 H locs ls w173 ⟨i170, i171, V, hl, hI, hF⟩ ih172
    replace i170 : q_F (0 ≤ lx169.toInt) := i170
    replace i171 : q_F (lx169.toInt ≤ 3) := i171
    replace hl : lv_has ls 7 [(6, .int lx169), (5, .ref (q 24)), (4, .ref (q 22)), (0, .ref (q k1))] := hl
    refine lv_iload hx hb d_7_20_218 (lv_at hl 0 rfl) ?_
    refine lv_iconst (v := 3) hx hb d_7_20_220 (by decide) ?_
    refine lv_icmp_ge (tgt := 258) hx hb d_7_20_221 (by decide) (fun c174 => ?_) (fun c174 => ?_)
    ·
      have b175 : q_F (3 ≤ lx169.toInt) := (q_leI c174)
      exact q_retv C0 V (⟨hI, hF, trivial⟩) d_7_20_258
    ·
      have b176 : q_F (lx169.toInt < 3) := (q_nleI c174)
      refine lv_aload hx hb d_7_20_224 (lv_at hl 2 rfl) ?_
      refine lv_aload hx hb d_7_20_226 (lv_at hl 1 rfl) ?_
      obtain ⟨y178, y179, hO177, b180, b181⟩ := q_bigO hI (n_b22 g q)
      replace b180 : q_F (0 ≤ y178.toInt ∧ y178.toInt ≤ 220) := b180
      replace b181 : q_F (0 ≤ y179.toInt ∧ y179.toInt ≤ 1) := b181
      refine q_goi V (q_runV (As := [.ref (q 24)]) (rest := []) (d := 2) (mc := 0) (ms := 0) (ci := 2) C0 V rfl LV_Flo_162 (S_Big_compareSize l D g (nsh g q) q w173 22 220 (n_b22 g q) 24 220 (n_b24 g q)  hI   _) rfl rfl hO177 rfl hl.1 rfl (Nat.le_of_ble_eq_true rfl) ⟨by decide, by decide⟩ ⟨Nat.le_of_ble_eq_true rfl, Nat.le_of_ble_eq_true rfl⟩ d_7_20_228) (fun a184 u182 H locs hp183 V => ?_)
      obtain ⟨b185, rfl⟩ := hp183
      replace b185 : q_F (-1 ≤ a184.toInt ∧ a184.toInt ≤ 1) := b185
      refine lv_if_lt (tgt := 258) hx hb d_7_20_231 (by decide) (fun c186 => ?_) (fun c186 => ?_)
      ·
        have b187 : q_F (a184.toInt < 0) := (q_ltI c186)
        exact q_retv C0 V (⟨hI, hF, trivial⟩) d_7_20_258
      ·
        have b188 : q_F (0 ≤ a184.toInt) := (q_nltI c186)
        refine lv_aload hx hb d_7_20_234 (lv_at hl 1 rfl) ?_
        refine lv_bipush (v := 10) hx hb d_7_20_236 (by decide) ?_
        refine lv_iconst (v := 0) hx hb d_7_20_238 (by decide) ?_
        obtain ⟨y190, y191, hO189, b192, b193⟩ := q_bigO hI (n_b24 g q)
        replace b192 : q_F (0 ≤ y190.toInt ∧ y190.toInt ≤ 220) := b192
        replace b193 : q_F (0 ≤ y191.toInt ∧ y191.toInt ≤ 1) := b193
        refine q_gov V (q_runV (As := [.int 10, .int 0]) (rest := []) (d := 1) (mc := 0) (ms := 0) (ci := 2) C0 V rfl LV_Flo_190 (S_Big_multiplySmall l D g (nsh g q) q w173 24 220 (n_b24 g q) 10 0 hI   _) rfl rfl hO189 rfl hl.1 rfl (Nat.le_of_ble_eq_true rfl) ⟨by decide, by decide⟩ ⟨Nat.le_of_ble_eq_true rfl, Nat.le_of_ble_eq_true rfl⟩ d_7_20_239) (fun u194 H locs hp195 V => ?_)
        obtain ⟨_, hI, hu196⟩ := hp195
        replace hO177 := (hu196 _ (by decide)).trans hO177
        replace hF := q_uc hF hu196 (by simp)
        refine lv_aload_n hx hb d_7_20_242 rfl (lv_at hl 3 rfl) ?_
        refine lv_dup hx hb d_7_20_243 rfl ?_
        obtain ⟨y198, y199, y200, hO197⟩ := n_flO hI hB1
        refine q_get (ci := 6) (j := 6) (v := .int y200) C0 V i_Flo rfl rfl hO197 (by decide) w_242 rfl d_7_20_244 ?_
        refine lv_iconst (v := 1) hx hb d_7_20_247 (by decide) ?_
        refine lv_iadd hx hb d_7_20_248 ?_
        obtain ⟨a201, e202⟩ := q_nm (y200 + 1 : Int32)
        refine q_ti (v := a201) e202 ?_
        refine q_put (ci := 6) (j := 6) (v := .int a201) (ty := .int) C0 V i_Flo o_Flo n_Flo rfl rfl hO197 (by decide) w_242 rfl rfl rfl rfl (Nat.le_of_ble_eq_true rfl) d_7_20_249 (fun H locs w203 hu204 hO197 V => ?_)
        replace hO197 : w203[k1]? = (some (q k1, .inr (6, [.int A, .int B, .int C, .long y198, .int y199, .ref (q 9), .int a201])) : Option (Nat × va_E)) := hO197
        replace hI := n_flO' hI hB1 hu204 hO197 
        replace hO177 := (hu204 _ (by have z0 := hB1.2.2.2.2; omega)).trans hO177
        replace hF := q_us hF hu204 (by simp)
        obtain ⟨a205, e206⟩ := q_nm (lx169 + 1 : Int32)
        have b207 : q_F (a205.toInt = lx169.toInt + 1) := (by rw [← e206]; exact q_addI (y := 1) rfl (by decide) (by have t1 : 0 ≤ lx169.toInt := i170; have t2 : lx169.toInt ≤ 3 := i171; omega) (by have t1 : 0 ≤ lx169.toInt := i170; have t2 : lx169.toInt ≤ 3 := i171; omega))
        refine lv_iinc (v := a205) (lv' := [(6, .int a205), (5, .ref (q 24)), (4, .ref (q 22)), (0, .ref (q k1))]) hx hb d_7_20_252 hl (k := 0) rfl (e206) (by decide) rfl (fun ls hl => ?_)
        refine lv_goto (tgt := 218) hx hb d_7_20_255 (by decide) ?_
        exact ih172 ((a205 : Int32)) _ _ _ _ (show (3 - a205.toInt).toNat < (3 - lx169.toInt).toNat from by have t1 : a205.toInt = lx169.toInt + 1 := b207; have t2 : lx169.toInt ≤ 3 := i171; have t3 : lx169.toInt < 3 := b176; omega) ⟨(show q_F (0 ≤ a205.toInt) from (show 0 ≤ a205.toInt from by have t1 : 0 ≤ lx169.toInt := i170; have t2 : a205.toInt = lx169.toInt + 1 := b207; omega)), (show q_F (a205.toInt ≤ 3) from (show a205.toInt ≤ 3 from by have t1 : lx169.toInt < 3 := b176; have t2 : a205.toInt = lx169.toInt + 1 := b207; omega)), V, q_lw hl (q_lw1 0 rfl (q_lw1 1 rfl (q_lw1 2 rfl (q_lw1 3 rfl q_lw0)))), hI, hF⟩
  ·
    intro J124
    refine lv_if_ne (tgt := 166) hx hb d_7_20_142 (by decide) (fun c208 => ?_) (fun c208 => ?_)
    ·
      have b209 : q_F (a121.toInt ≠ 0) := (q_neI c208)
      exact J124 (()) _ _ _ _ ⟨V, q_lw hl (q_lw1 0 rfl (q_lw1 1 rfl (q_lw1 3 rfl q_lw0))), hI, hF⟩
    ·
      have b210 : q_F (a121.toInt = 0) := (q_eqI c208)
      refine lv_aload_n hx hb d_7_20_145 rfl (lv_at hl 3 rfl) ?_
      refine lv_lload_n hx hb d_7_20_146 rfl (lv_at hl 4 rfl) ?_
      refine q_goi V (q_runV (As := [.long x2]) (rest := []) (d := 1) (mc := 0) (ms := 0) (ci := 6) C0 V rfl LV_Flo_27 (T_Flo_exponent l D g q u114 k1 A B C hB1 x2 hI   _) rfl rfl hO1 rfl hl.1 rfl (Nat.le_of_ble_eq_true rfl) ⟨by decide, by decide⟩ ⟨Nat.le_of_ble_eq_true rfl, Nat.le_of_ble_eq_true rfl⟩ d_7_20_147) (fun a213 u211 H locs hp212 V => ?_)
      obtain ⟨rfl, b214, b215⟩ := hp212
      replace b214 : q_F (0 ≤ a213.toInt) := b214
      replace b215 : q_F (a213.toInt ≤ C.toInt) := b215
      refine lv_iconst (v := 1) hx hb d_7_20_150 (by decide) ?_
      refine lv_icmp_le (tgt := 166) hx hb d_7_20_151 (by decide) (fun c217 => ?_) (fun c217 => ?_)
      ·
        have b218 : q_F (a213.toInt ≤ 1) := (q_leI c217)
        exact J124 (()) _ _ _ _ ⟨V, q_lw hl (q_lw1 0 rfl (q_lw1 1 rfl (q_lw1 3 rfl q_lw0))), hI, hF⟩
      ·
        have b219 : q_F (1 < a213.toInt) := (q_nleI c217)
        refine lv_aload_n hx hb d_7_20_154 rfl (lv_at hl 3 rfl) ?_
        refine q_get (ci := 6) (j := 5) (v := .ref (q 9)) C0 V i_Flo rfl rfl hO1 (by decide) w_241 rfl d_7_20_155 ?_
        refine q_get (ci := 4) (j := 9) (v := .ref (q 28)) C0 V i_Mil rfl rfl hO11 (by decide) w_134 rfl d_7_20_158 ?_
        refine lv_iconst (v := 1) hx hb d_7_20_161 (by decide) ?_
        obtain ⟨y221, y222, hO220, b223, b224⟩ := q_bigO hI (n_b28 g q)
        replace b223 : q_F (0 ≤ y221.toInt ∧ y221.toInt ≤ 220) := b223
        replace b224 : q_F (0 ≤ y222.toInt ∧ y222.toInt ≤ 1) := b224
        refine q_goi V (q_runV (As := [.int 1]) (rest := []) (d := 3) (mc := 0) (ms := 0) (ci := 2) C0 V rfl LV_Flo_73 (T_Big_shiftRight l D g q u114 28 220 (n_b28 g q) (by decide) 1 hI   _) rfl rfl hO220 rfl hl.1 rfl (Nat.le_of_ble_eq_true rfl) ⟨by decide, by decide⟩ ⟨Nat.le_of_ble_eq_true rfl, Nat.le_of_ble_eq_true rfl⟩ d_7_20_162) (fun a227 u225 H locs hp226 V => ?_)
        obtain ⟨hI, hu232, b228, b229, b230⟩ := hp226
        replace b228 : q_F (0 ≤ a227.toInt) := b228
        replace b229 : q_F (a227.toInt ≤ 1) := b229
        replace b230 : q_F (a227.toInt ≤ 220) := b230
        replace hO1 := (hu232 _ (by have z0 := hB1.2.2.2.2; simp only [List.mem_cons, List.not_mem_nil, or_false, not_or]; omega)).trans hO1
        replace hO11 := (hu232 _ (by decide)).trans hO11
        replace hF := q_uc hF hu232 (by simp)
        refine lv_pop hx hb d_7_20_165 rfl ?_
        exact J124 (()) _ _ _ _ ⟨V, q_lw hl (q_lw1 0 rfl (q_lw1 1 rfl (q_lw1 3 rfl q_lw0))), hI, hF⟩
theorem d_7_19_0 : decode prog_7_method_19_code 0 = .ok (.aload_n 0, 1) := by decide +kernel
theorem d_7_19_1 : decode prog_7_method_19_code 1 = .ok (.lconst 0, 1) := by decide +kernel
theorem d_7_19_2 : decode prog_7_method_19_code 2 = .ok (.putfield 141, 3) := by decide +kernel
theorem d_7_19_5 : decode prog_7_method_19_code 5 = .ok (.aload_n 0, 1) := by decide +kernel
theorem d_7_19_6 : decode prog_7_method_19_code 6 = .ok (.iconst 0, 1) := by decide +kernel
theorem d_7_19_7 : decode prog_7_method_19_code 7 = .ok (.putfield 145, 3) := by decide +kernel
theorem d_7_19_10 : decode prog_7_method_19_code 10 = .ok (.aload_n 0, 1) := by decide +kernel
theorem d_7_19_11 : decode prog_7_method_19_code 11 = .ok (.lload_n 1, 1) := by decide +kernel
theorem d_7_19_12 : decode prog_7_method_19_code 12 = .ok (.invokevirtual 148, 3) := by decide +kernel
set_option maxRecDepth 100000 in
theorem w_1167 : (Cond.code ({ cls := "NumberHouse$Floats", name := "isZero", desc := "(J)Z" } : MethodName) prog_7_method_7_code (3 : Nat) (some .boolean)) ∈ q_tbl := q_of5 207 rfl (by decide +kernel)
set_option maxRecDepth 100000 in
theorem w_1164 : (Cond.methodLink "NumberHouse$Floats" (148 : Nat) ({ cls := "NumberHouse$Floats", name := "isZero", desc := "(J)Z" } : MethodName)) ∈ q_tbl := q_of5 204 rfl (by decide +kernel)
set_option maxRecDepth 100000 in
theorem w_1165 : (Cond.instanceMethod ({ cls := "NumberHouse$Floats", name := "isZero", desc := "(J)Z" } : MethodName)) ∈ q_tbl := q_of5 205 rfl (by decide +kernel)
set_option maxRecDepth 100000 in
theorem w_1166 : (Cond.selects "NumberHouse$Floats" ({ cls := "NumberHouse$Floats", name := "isZero", desc := "(J)Z" } : MethodName) ({ cls := "NumberHouse$Floats", name := "isZero", desc := "(J)Z" } : MethodName)) ∈ q_tbl := q_of5 206 rfl (by decide +kernel)
theorem LV_Flo_148 : q_LV "NumberHouse$Floats" 148 y_Flo_isZero prog_7_method_7_code 3 (some .boolean) 1 := ⟨w_1167, w_8, w_1164, w_1165, w_1166, ⟨by decide, by decide, by decide +kernel⟩⟩
theorem d_7_19_15 : decode prog_7_method_19_code 15 = .ok (.ifCond .eq 4, 3) := by decide +kernel
theorem d_7_19_19 : decode prog_7_method_19_code 19 = .ok (.aload_n 0, 1) := by decide +kernel
theorem d_7_19_20 : decode prog_7_method_19_code 20 = .ok (.lload_n 1, 1) := by decide +kernel
theorem d_7_19_21 : decode prog_7_method_19_code 21 = .ok (.invokevirtual 151, 3) := by decide +kernel
set_option maxRecDepth 100000 in
theorem w_1175 : (Cond.code ({ cls := "NumberHouse$Floats", name := "prepare", desc := "(J)V" } : MethodName) prog_7_method_20_code (7 : Nat) (none : Option ClassFile.FieldType)) ∈ q_tbl := q_of5 215 rfl (by decide +kernel)
set_option maxRecDepth 100000 in
theorem w_1172 : (Cond.methodLink "NumberHouse$Floats" (151 : Nat) ({ cls := "NumberHouse$Floats", name := "prepare", desc := "(J)V" } : MethodName)) ∈ q_tbl := q_of5 212 rfl (by decide +kernel)
set_option maxRecDepth 100000 in
theorem w_1174 : (Cond.instanceMethod ({ cls := "NumberHouse$Floats", name := "prepare", desc := "(J)V" } : MethodName)) ∈ q_tbl := q_of5 214 rfl (by decide +kernel)
theorem ws_23 : Cond.selects "NumberHouse$Floats" (⟨"NumberHouse$Floats", "prepare", "(J)V"⟩ : MethodName) (⟨"NumberHouse$Floats", "prepare", "(J)V"⟩ : MethodName) ∈ q_tbl := q_ofs 23 (by decide +kernel) (by decide +kernel)
theorem LV_Flo_151 : q_LV "NumberHouse$Floats" 151 y_Flo_prepare prog_7_method_20_code 7 none 1 := ⟨w_1175, w_8, w_1172, w_1174, ws_23, ⟨by decide, by decide, by decide +kernel⟩⟩
theorem d_7_19_24 : decode prog_7_method_19_code 24 = .ok (.aload_n 0, 1) := by decide +kernel
theorem d_7_19_25 : decode prog_7_method_19_code 25 = .ok (.getfield 19, 3) := by decide +kernel
theorem d_7_19_28 : decode prog_7_method_19_code 28 = .ok (.getfield 124, 3) := by decide +kernel
theorem d_7_19_31 : decode prog_7_method_19_code 31 = .ok (.astore_n 3, 1) := by decide +kernel
theorem d_7_19_32 : decode prog_7_method_19_code 32 = .ok (.aload_n 0, 1) := by decide +kernel
theorem d_7_19_33 : decode prog_7_method_19_code 33 = .ok (.getfield 19, 3) := by decide +kernel
theorem d_7_19_36 : decode prog_7_method_19_code 36 = .ok (.getfield 131, 3) := by decide +kernel
theorem d_7_19_39 : decode prog_7_method_19_code 39 = .ok (.astore 4, 2) := by decide +kernel
theorem d_7_19_41 : decode prog_7_method_19_code 41 = .ok (.lload_n 1, 1) := by decide +kernel
theorem d_7_19_42 : decode prog_7_method_19_code 42 = .ok (.lconst 1, 1) := by decide +kernel
theorem d_7_19_43 : decode prog_7_method_19_code 43 = .ok (.land, 1) := by decide +kernel
theorem d_7_19_44 : decode prog_7_method_19_code 44 = .ok (.lconst 0, 1) := by decide +kernel
theorem d_7_19_45 : decode prog_7_method_19_code 45 = .ok (.lcmp, 1) := by decide +kernel
theorem d_7_19_54 : decode prog_7_method_19_code 54 = .ok (.istore 5, 2) := by decide +kernel
theorem d_7_19_56 : decode prog_7_method_19_code 56 = .ok (.iconst 1, 1) := by decide +kernel
theorem d_7_19_57 : decode prog_7_method_19_code 57 = .ok (.istore 6, 2) := by decide +kernel
theorem d_7_19_59 : decode prog_7_method_19_code 59 = .ok (.iload 6, 2) := by decide +kernel
theorem d_7_19_61 : decode prog_7_method_19_code 61 = .ok (.bipush 20, 2) := by decide +kernel
theorem d_7_19_63 : decode prog_7_method_19_code 63 = .ok (.if_icmp .gt 153, 3) := by decide +kernel
theorem d_7_19_216 : decode prog_7_method_19_code 216 = .ok (.return_, 1) := by decide +kernel
theorem d_7_19_66 : decode prog_7_method_19_code 66 = .ok (.aload_n 0, 1) := by decide +kernel
theorem d_7_19_67 : decode prog_7_method_19_code 67 = .ok (.aload_n 0, 1) := by decide +kernel
theorem d_7_19_68 : decode prog_7_method_19_code 68 = .ok (.getfield 141, 3) := by decide +kernel
theorem d_7_19_71 : decode prog_7_method_19_code 71 = .ok (.ldc2_w 154, 3) := by decide +kernel
theorem d_7_19_74 : decode prog_7_method_19_code 74 = .ok (.lmul, 1) := by decide +kernel
theorem d_7_19_75 : decode prog_7_method_19_code 75 = .ok (.aload_n 0, 1) := by decide +kernel
theorem d_7_19_76 : decode prog_7_method_19_code 76 = .ok (.invokevirtual 156, 3) := by decide +kernel
set_option maxRecDepth 100000 in
theorem w_1198 : (Cond.code ({ cls := "NumberHouse$Floats", name := "nextFigure", desc := "()I" } : MethodName) prog_7_method_21_code (2 : Nat) (some .int)) ∈ q_tbl := q_of5 238 rfl (by decide +kernel)
set_option maxRecDepth 100000 in
theorem w_1195 : (Cond.methodLink "NumberHouse$Floats" (156 : Nat) ({ cls := "NumberHouse$Floats", name := "nextFigure", desc := "()I" } : MethodName)) ∈ q_tbl := q_of5 235 rfl (by decide +kernel)
set_option maxRecDepth 100000 in
theorem w_1197 : (Cond.instanceMethod ({ cls := "NumberHouse$Floats", name := "nextFigure", desc := "()I" } : MethodName)) ∈ q_tbl := q_of5 237 rfl (by decide +kernel)
theorem ws_24 : Cond.selects "NumberHouse$Floats" (⟨"NumberHouse$Floats", "nextFigure", "()I"⟩ : MethodName) (⟨"NumberHouse$Floats", "nextFigure", "()I"⟩ : MethodName) ∈ q_tbl := q_ofs 24 (by decide +kernel) (by decide +kernel)
theorem LV_Flo_156 : q_LV "NumberHouse$Floats" 156 y_Flo_nextFigure prog_7_method_21_code 2 (some .int) 0 := ⟨w_1198, w_8, w_1195, w_1197, ws_24, ⟨by decide, by decide, by decide +kernel⟩⟩
theorem d_7_19_79 : decode prog_7_method_19_code 79 = .ok (.i2l, 1) := by decide +kernel
theorem d_7_19_80 : decode prog_7_method_19_code 80 = .ok (.ladd, 1) := by decide +kernel
theorem d_7_19_81 : decode prog_7_method_19_code 81 = .ok (.putfield 141, 3) := by decide +kernel
theorem d_7_19_84 : decode prog_7_method_19_code 84 = .ok (.iload 6, 2) := by decide +kernel
theorem d_7_19_86 : decode prog_7_method_19_code 86 = .ok (.iconst 1, 1) := by decide +kernel
theorem d_7_19_87 : decode prog_7_method_19_code 87 = .ok (.if_icmp .ne 6, 3) := by decide +kernel
theorem d_7_19_93 : decode prog_7_method_19_code 93 = .ok (.aload_n 3, 1) := by decide +kernel
theorem d_7_19_94 : decode prog_7_method_19_code 94 = .ok (.aload_n 0, 1) := by decide +kernel
theorem d_7_19_95 : decode prog_7_method_19_code 95 = .ok (.getfield 19, 3) := by decide +kernel
theorem d_7_19_98 : decode prog_7_method_19_code 98 = .ok (.getfield 159, 3) := by decide +kernel
theorem d_7_19_101 : decode prog_7_method_19_code 101 = .ok (.invokevirtual 162, 3) := by decide +kernel
theorem d_7_19_104 : decode prog_7_method_19_code 104 = .ok (.iload 5, 2) := by decide +kernel
theorem d_7_19_122 : decode prog_7_method_19_code 122 = .ok (.istore 7, 2) := by decide +kernel
theorem d_7_19_124 : decode prog_7_method_19_code 124 = .ok (.aload_n 0, 1) := by decide +kernel
theorem d_7_19_125 : decode prog_7_method_19_code 125 = .ok (.getfield 19, 3) := by decide +kernel
theorem d_7_19_128 : decode prog_7_method_19_code 128 = .ok (.getfield 55, 3) := by decide +kernel
theorem d_7_19_131 : decode prog_7_method_19_code 131 = .ok (.aload_n 3, 1) := by decide +kernel
theorem d_7_19_132 : decode prog_7_method_19_code 132 = .ok (.invokevirtual 127, 3) := by decide +kernel
theorem d_7_19_135 : decode prog_7_method_19_code 135 = .ok (.aload_n 0, 1) := by decide +kernel
theorem d_7_19_136 : decode prog_7_method_19_code 136 = .ok (.getfield 19, 3) := by decide +kernel
theorem d_7_19_139 : decode prog_7_method_19_code 139 = .ok (.getfield 55, 3) := by decide +kernel
theorem d_7_19_142 : decode prog_7_method_19_code 142 = .ok (.aload_n 0, 1) := by decide +kernel
theorem d_7_19_143 : decode prog_7_method_19_code 143 = .ok (.getfield 19, 3) := by decide +kernel
theorem d_7_19_146 : decode prog_7_method_19_code 146 = .ok (.getfield 165, 3) := by decide +kernel
theorem d_7_19_149 : decode prog_7_method_19_code 149 = .ok (.invokevirtual 168, 3) := by decide +kernel
set_option maxRecDepth 100000 in
theorem w_1203 : (Cond.methodLink "NumberHouse$Floats" (168 : Nat) ({ cls := "NumberHouse$Big", name := "addSize", desc := "(LNumberHouse$Big;)V" } : MethodName)) ∈ q_tbl := q_of6 3 rfl (by decide +kernel)
theorem LV_Flo_168 : q_LV "NumberHouse$Floats" 168 y_Big_addSize prog_2_method_23_code 6 none 1 := ⟨w_1206, w_4, w_1203, w_1204, w_1205, ⟨by decide, by decide, by decide +kernel⟩⟩
theorem d_7_19_152 : decode prog_7_method_19_code 152 = .ok (.aload_n 0, 1) := by decide +kernel
theorem d_7_19_153 : decode prog_7_method_19_code 153 = .ok (.getfield 19, 3) := by decide +kernel
theorem d_7_19_156 : decode prog_7_method_19_code 156 = .ok (.getfield 55, 3) := by decide +kernel
theorem d_7_19_159 : decode prog_7_method_19_code 159 = .ok (.aload 4, 2) := by decide +kernel
theorem d_7_19_161 : decode prog_7_method_19_code 161 = .ok (.invokevirtual 162, 3) := by decide +kernel
theorem d_7_19_164 : decode prog_7_method_19_code 164 = .ok (.iload 5, 2) := by decide +kernel
theorem d_7_19_182 : decode prog_7_method_19_code 182 = .ok (.istore 8, 2) := by decide +kernel
theorem d_7_19_184 : decode prog_7_method_19_code 184 = .ok (.iload 7, 2) := by decide +kernel
theorem d_7_19_186 : decode prog_7_method_19_code 186 = .ok (.ifCond .ne 8, 3) := by decide +kernel
theorem d_7_19_194 : decode prog_7_method_19_code 194 = .ok (.aload_n 0, 1) := by decide +kernel
theorem d_7_19_195 : decode prog_7_method_19_code 195 = .ok (.iload 7, 2) := by decide +kernel
theorem d_7_19_197 : decode prog_7_method_19_code 197 = .ok (.iload 8, 2) := by decide +kernel
theorem d_7_19_199 : decode prog_7_method_19_code 199 = .ok (.aload_n 0, 1) := by decide +kernel
theorem d_7_19_200 : decode prog_7_method_19_code 200 = .ok (.getfield 171, 3) := by decide +kernel
theorem d_7_19_203 : decode prog_7_method_19_code 203 = .ok (.iload 6, 2) := by decide +kernel
theorem d_7_19_205 : decode prog_7_method_19_code 205 = .ok (.isub, 1) := by decide +kernel
theorem d_7_19_206 : decode prog_7_method_19_code 206 = .ok (.invokevirtual 174, 3) := by decide +kernel
set_option maxRecDepth 100000 in
theorem w_1210 : (Cond.code ({ cls := "NumberHouse$Floats", name := "chooseEnd", desc := "(ZZI)V" } : MethodName) prog_7_method_22_code (6 : Nat) (none : Option ClassFile.FieldType)) ∈ q_tbl := q_of6 10 rfl (by decide +kernel)
set_option maxRecDepth 100000 in
theorem w_1207 : (Cond.methodLink "NumberHouse$Floats" (174 : Nat) ({ cls := "NumberHouse$Floats", name := "chooseEnd", desc := "(ZZI)V" } : MethodName)) ∈ q_tbl := q_of6 7 rfl (by decide +kernel)
set_option maxRecDepth 100000 in
theorem w_1209 : (Cond.instanceMethod ({ cls := "NumberHouse$Floats", name := "chooseEnd", desc := "(ZZI)V" } : MethodName)) ∈ q_tbl := q_of6 9 rfl (by decide +kernel)
theorem ws_25 : Cond.selects "NumberHouse$Floats" (⟨"NumberHouse$Floats", "chooseEnd", "(ZZI)V"⟩ : MethodName) (⟨"NumberHouse$Floats", "chooseEnd", "(ZZI)V"⟩ : MethodName) ∈ q_tbl := q_ofs 25 (by decide +kernel) (by decide +kernel)
theorem LV_Flo_174 : q_LV "NumberHouse$Floats" 174 y_Flo_chooseEnd prog_7_method_22_code 6 none 3 := ⟨w_1210, w_8, w_1207, w_1209, ws_25, ⟨by decide, by decide, by decide +kernel⟩⟩
theorem d_7_19_209 : decode prog_7_method_19_code 209 = .ok (.return_, 1) := by decide +kernel
theorem d_7_19_189 : decode prog_7_method_19_code 189 = .ok (.iload 8, 2) := by decide +kernel
theorem d_7_19_191 : decode prog_7_method_19_code 191 = .ok (.ifCond .eq 19, 3) := by decide +kernel
theorem d_7_19_210 : decode prog_7_method_19_code 210 = .ok (.iinc 6 1, 3) := by decide +kernel
theorem d_7_19_213 : decode prog_7_method_19_code 213 = .ok (.goto (-154), 3) := by decide +kernel
theorem d_7_19_174 : decode prog_7_method_19_code 174 = .ok (.if_icmp .le 7, 3) := by decide +kernel
theorem d_7_19_181 : decode prog_7_method_19_code 181 = .ok (.iconst 0, 1) := by decide +kernel
theorem d_7_19_177 : decode prog_7_method_19_code 177 = .ok (.iconst 1, 1) := by decide +kernel
theorem d_7_19_178 : decode prog_7_method_19_code 178 = .ok (.goto 4, 3) := by decide +kernel
theorem d_7_19_166 : decode prog_7_method_19_code 166 = .ok (.ifCond .eq 7, 3) := by decide +kernel
theorem d_7_19_173 : decode prog_7_method_19_code 173 = .ok (.iconst 0, 1) := by decide +kernel
theorem d_7_19_169 : decode prog_7_method_19_code 169 = .ok (.iconst (-1), 1) := by decide +kernel
theorem d_7_19_170 : decode prog_7_method_19_code 170 = .ok (.goto 4, 3) := by decide +kernel
theorem d_7_19_114 : decode prog_7_method_19_code 114 = .ok (.if_icmp .ge 7, 3) := by decide +kernel
theorem d_7_19_121 : decode prog_7_method_19_code 121 = .ok (.iconst 0, 1) := by decide +kernel
theorem d_7_19_117 : decode prog_7_method_19_code 117 = .ok (.iconst 1, 1) := by decide +kernel
theorem d_7_19_118 : decode prog_7_method_19_code 118 = .ok (.goto 4, 3) := by decide +kernel
theorem d_7_19_106 : decode prog_7_method_19_code 106 = .ok (.ifCond .eq 7, 3) := by decide +kernel
theorem d_7_19_113 : decode prog_7_method_19_code 113 = .ok (.iconst 0, 1) := by decide +kernel
theorem d_7_19_109 : decode prog_7_method_19_code 109 = .ok (.iconst 1, 1) := by decide +kernel
theorem d_7_19_110 : decode prog_7_method_19_code 110 = .ok (.goto 4, 3) := by decide +kernel
theorem d_7_19_90 : decode prog_7_method_19_code 90 = .ok (.goto 120, 3) := by decide +kernel
theorem d_7_19_46 : decode prog_7_method_19_code 46 = .ok (.ifCond .ne 7, 3) := by decide +kernel
theorem d_7_19_53 : decode prog_7_method_19_code 53 = .ok (.iconst 0, 1) := by decide +kernel
theorem d_7_19_49 : decode prog_7_method_19_code 49 = .ok (.iconst 1, 1) := by decide +kernel
theorem d_7_19_50 : decode prog_7_method_19_code 50 = .ok (.goto 4, 3) := by decide +kernel
theorem d_7_19_18 : decode prog_7_method_19_code 18 = .ok (.return_, 1) := by decide +kernel
def y_Flo_findShortest : MethodName := ⟨"NumberHouse$Floats", "findShortest", "(J)V"⟩
set_option maxRecDepth 100000 in
set_option maxHeartbeats 4000000 in
theorem T_Flo_findShortest (l : Launch) (D : va_G) (g : Nat → ClassId) (q : Nat → Nat) (ws : va_W) (k1 : Nat) (A B C : Int32) (hB1 : q_isFlo (nsh g q) q k1 A B C) (x2 : Int64) (hI : q_I (nsh g q) q ws) : q_mV l y_Flo_findShortest prog_7_method_19_code 9 5 0 0 D g [.ref (q k1), .long x2] ws (fun u => q_I (nsh g q) q u ∧ q_un ws u [10, 11, 22, 23, 24, 25, 26, 27, 28, 29, k1] ∧ True) := by
  intro sz
  refine q_into (by decide) (Nat.le_of_ble_eq_true rfl) ?_
  intro p e s m below meth c ls hsz C0 V hl
  have hx := C0.1
  have hb := C0.2.1
  have hfk10 : q_F (23 ≤ A.toInt ∧ A.toInt ≤ 52) := hB1.2.1
  have hfk11 : q_F (150 ≤ B.toInt ∧ B.toInt ≤ 1075) := hB1.2.2.1
  have hfk12 : q_F (255 ≤ C.toInt ∧ C.toInt ≤ 2047) := hB1.2.2.2.1
  have hF : q_un ws ws [10, 11, 22, 23, 24, 25, 26, 27, 28, 29, k1] := q_u0
  have hl : lv_has ls 9 [(0, .ref (q k1)), (1, .long x2)] := hl
  refine lv_aload_n hx hb d_7_19_0 rfl (lv_at hl 0 rfl) ?_
  refine lv_lconst (v := 0) hx hb d_7_19_1 (by decide) ?_
  obtain ⟨y2, y3, y4, hO1⟩ := n_flO hI hB1
  refine q_put (ci := 6) (j := 3) (v := .long 0) (ty := .long) C0 V i_Flo o_Flo n_Flo rfl rfl hO1 (by decide) w_237 rfl rfl rfl rfl (Nat.le_of_ble_eq_true rfl) d_7_19_2 (fun H locs w5 hu6 hO1 V => ?_)
  replace hO1 : w5[k1]? = (some (q k1, .inr (6, [.int A, .int B, .int C, .long 0, .int y3, .ref (q 9), .int y4])) : Option (Nat × va_E)) := hO1
  replace hI := n_flO' hI hB1 hu6 hO1 
  replace hF := q_us hF hu6 (by simp)
  refine lv_aload_n hx hb d_7_19_5 rfl (lv_at hl 0 rfl) ?_
  refine lv_iconst (v := 0) hx hb d_7_19_6 (by decide) ?_
  refine q_put (ci := 6) (j := 4) (v := .int 0) (ty := .int) C0 V i_Flo o_Flo n_Flo rfl rfl hO1 (by decide) w_240 rfl rfl rfl rfl (Nat.le_of_ble_eq_true rfl) d_7_19_7 (fun H locs w7 hu8 hO1 V => ?_)
  replace hO1 : w7[k1]? = (some (q k1, .inr (6, [.int A, .int B, .int C, .long 0, .int 0, .ref (q 9), .int y4])) : Option (Nat × va_E)) := hO1
  replace hI := n_flO' hI hB1 hu8 hO1 
  replace hF := q_us hF hu8 (by simp)
  refine lv_aload_n hx hb d_7_19_10 rfl (lv_at hl 0 rfl) ?_
  refine lv_lload_n hx hb d_7_19_11 rfl (lv_at hl 1 rfl) ?_
  refine q_goi V (q_runV (As := [.long x2]) (rest := []) (d := 2) (mc := 0) (ms := 0) (ci := 6) C0 V rfl LV_Flo_148 (T_Flo_isZero l D g q w7 k1 A B C hB1 x2 hI   _) rfl rfl hO1 rfl hl.1 rfl (Nat.le_of_ble_eq_true rfl) ⟨by decide, by decide⟩ ⟨Nat.le_of_ble_eq_true rfl, Nat.le_of_ble_eq_true rfl⟩ d_7_19_12) (fun a11 u9 H locs hp10 V => ?_)
  obtain ⟨rfl, b12, b13⟩ := hp10
  replace b12 : q_F (0 ≤ a11.toInt) := b12
  replace b13 : q_F (a11.toInt ≤ 1) := b13
  refine lv_if_eq (tgt := 19) hx hb d_7_19_15 (by decide) (fun c15 => ?_) (fun c15 => ?_)
  ·
    have b16 : q_F (a11.toInt = 0) := (q_eqI c15)
    refine lv_aload_n hx hb d_7_19_19 rfl (lv_at hl 0 rfl) ?_
    refine lv_lload_n hx hb d_7_19_20 rfl (lv_at hl 1 rfl) ?_
    refine q_gov V (q_runV (As := [.long x2]) (rest := []) (d := 4) (mc := 0) (ms := 0) (ci := 6) C0 V rfl LV_Flo_151 (T_Flo_prepare l D g q w7 k1 A B C hB1 x2 hI   _) rfl rfl hO1 rfl hl.1 rfl (Nat.le_of_ble_eq_true rfl) ⟨by decide, by decide⟩ ⟨Nat.le_of_ble_eq_true rfl, Nat.le_of_ble_eq_true rfl⟩ d_7_19_21) (fun u17 H locs hp18 V => ?_)
    obtain ⟨hI, hu20, -⟩ := hp18
    replace hF := q_uc hF hu20 (by simp)
    refine lv_aload_n hx hb d_7_19_24 rfl (lv_at hl 0 rfl) ?_
    obtain ⟨y22, y23, y24, hO21⟩ := n_flO hI hB1
    refine q_get (ci := 6) (j := 5) (v := .ref (q 9)) C0 V i_Flo rfl rfl hO21 (by decide) w_241 rfl d_7_19_25 ?_
    have hO25 := n_o9 hI
    refine q_get (ci := 4) (j := 6) (v := .ref (q 22)) C0 V i_Mil rfl rfl hO25 (by decide) w_127 rfl d_7_19_28 ?_
    refine lv_astore_n (lv' := [(3, .ref (q 22)), (0, .ref (q k1)), (1, .long x2)]) hx hb d_7_19_31 rfl hl (by decide) rfl (fun ls hl => ?_)
    refine lv_aload_n hx hb d_7_19_32 rfl (lv_at hl 1 rfl) ?_
    refine q_get (ci := 6) (j := 5) (v := .ref (q 9)) C0 V i_Flo rfl rfl hO21 (by decide) w_241 rfl d_7_19_33 ?_
    refine q_get (ci := 4) (j := 7) (v := .ref (q 24)) C0 V i_Mil rfl rfl hO25 (by decide) w_130 rfl d_7_19_36 ?_
    refine lv_astore (lv' := [(4, .ref (q 24)), (3, .ref (q 22)), (0, .ref (q k1)), (1, .long x2)]) hx hb d_7_19_39 hl (by decide) rfl (fun ls hl => ?_)
    refine lv_lload_n hx hb d_7_19_41 rfl (lv_at hl 3 rfl) ?_
    refine lv_lconst (v := 1) hx hb d_7_19_42 (by decide) ?_
    refine lv_land hx hb d_7_19_43 ?_
    obtain ⟨j26, e27⟩ := q_nm (x2 &&& 1 : Int64)
    refine q_tl (v := j26) e27 ?_
    have b28 : q_F (0 ≤ j26.toInt ∧ j26.toInt ≤ 1) := (by rw [← e27]; show 0 ≤ (x2 &&& 1 : Int64).toInt ∧ (x2 &&& 1 : Int64).toInt ≤ 1; exact s_andJ (by decide))
    refine lv_lconst (v := 0) hx hb d_7_19_44 (by decide) ?_
    refine W.lcmp hx hb d_7_19_45 ?_
    obtain ⟨a29, e30⟩ := q_nm (lg_cmp j26 0 : Int32)
    refine q_ti (v := a29) e30 ?_
    have b31 : q_F (-1 ≤ a29.toInt ∧ a29.toInt ≤ 1 ∧ ((a29.toInt = -1 ∧ j26.toInt < 0) ∨ (a29.toInt = 0 ∧ j26.toInt = 0) ∨ (a29.toInt = 1 ∧ 0 < j26.toInt))) := (by rw [← e30]; show -1 ≤ (lg_cmp j26 0 : Int32).toInt ∧ (lg_cmp j26 0 : Int32).toInt ≤ 1 ∧ (((lg_cmp j26 0 : Int32).toInt = -1 ∧ j26.toInt < 0) ∨ ((lg_cmp j26 0 : Int32).toInt = 0 ∧ j26.toInt = 0) ∨ ((lg_cmp j26 0 : Int32).toInt = 1 ∧ 0 < j26.toInt)); exact (by have y1 : (0 : Int64).toInt = 0 := rfl; have z := s_lcmp (a := j26) (b := 0); omega))
    refine q_join (X := Int32) (fun z H locs ls _ => q_F (0 ≤ z.toInt) ∧ q_F (z.toInt ≤ 1) ∧ q_Wd D g (va_A ws sz) s u17 H locs ∧ lv_has ls 9 [(4, .ref (q 24)), (3, .ref (q 22)), (0, .ref (q k1))]) (fun z => [.int z]) 54 0 0 ?_ ?_
    ·
      rintro lx32 H locs ls _ ⟨i34, i35, V, hl⟩
      replace i34 : q_F (0 ≤ lx32.toInt) := i34
      replace i35 : q_F (lx32.toInt ≤ 1) := i35
      replace hl : lv_has ls 9 [(4, .ref (q 24)), (3, .ref (q 22)), (0, .ref (q k1))] := hl
      refine lv_istore (lv' := [(5, .int lx32), (4, .ref (q 24)), (3, .ref (q 22)), (0, .ref (q k1))]) hx hb d_7_19_54 hl (by decide) rfl (fun ls hl => ?_)
      refine lv_iconst (v := 1) hx hb d_7_19_56 (by decide) ?_
      refine lv_istore (lv' := [(6, .int 1), (5, .int lx32), (4, .ref (q 24)), (3, .ref (q 22)), (0, .ref (q k1))]) hx hb d_7_19_57 hl (by decide) rfl (fun ls hl => ?_)
      refine q_loop (X := Int32) (fun z H locs ls w40 => q_F (1 ≤ z.toInt) ∧ q_F (z.toInt ≤ 21) ∧ q_Wd D g (va_A ws sz) s w40 H locs ∧ lv_has ls 9 [(6, .int z), (5, .int lx32), (4, .ref (q 24)), (3, .ref (q 22)), (0, .ref (q k1))] ∧ q_I (nsh g q) q w40 ∧ q_un ws w40 [10, 11, 22, 23, 24, 25, 26, 27, 28, 29, k1]) (fun z => (21 - z.toInt).toNat) ?_ ((1 : Int32)) _ _ _ u17 ⟨(show q_F (1 ≤ 1) from (show 1 ≤ 1 from by omega)), (show q_F (1 ≤ 21) from (show 1 ≤ 21 from by omega)), V, q_lw hl (q_lw1 0 rfl (q_lw1 1 rfl (q_lw1 2 rfl (q_lw1 3 rfl (q_lw1 4 rfl q_lw0))))), hI, hF⟩
      rintro lx36 H locs ls w40 ⟨i37, i38, V, hl, hI, hF⟩ ih39
      replace i37 : q_F (1 ≤ lx36.toInt) := i37
      replace i38 : q_F (lx36.toInt ≤ 21) := i38
      replace hl : lv_has ls 9 [(6, .int lx36), (5, .int lx32), (4, .ref (q 24)), (3, .ref (q 22)), (0, .ref (q k1))] := hl
      refine lv_iload hx hb d_7_19_59 (lv_at hl 0 rfl) ?_
      refine lv_bipush (v := 20) hx hb d_7_19_61 (by decide) ?_
      refine lv_icmp_gt (tgt := 216) hx hb d_7_19_63 (by decide) (fun c41 => ?_) (fun c41 => ?_)
      ·
        have b42 : q_F (20 < lx36.toInt) := (q_ltI c41)
        exact q_retv C0 V (⟨hI, hF, trivial⟩) d_7_19_216
      ·
        have b43 : q_F (lx36.toInt ≤ 20) := (q_nltI c41)
        refine lv_aload_n hx hb d_7_19_66 rfl (lv_at hl 4 rfl) ?_
        refine lv_aload_n hx hb d_7_19_67 rfl (lv_at hl 4 rfl) ?_
        obtain ⟨y45, y46, y47, hO44⟩ := n_flO hI hB1
        refine q_get (ci := 6) (j := 3) (v := .long y45) C0 V i_Flo rfl rfl hO44 (by decide) w_237 rfl d_7_19_68 ?_
        refine q_ldc2 C0 rfl w_1194 d_7_19_71 ?_
        refine lv_lmul hx hb d_7_19_74 ?_
        obtain ⟨j48, e49⟩ := q_nm (y45 * 10 : Int64)
        refine q_tl (v := j48) e49 ?_
        refine lv_aload_n hx hb d_7_19_75 rfl (lv_at hl 4 rfl) ?_
        refine q_goi V (q_runV (As := []) (rest := [.long j48, .ref (q k1)]) (d := 3) (mc := 0) (ms := 0) (ci := 6) C0 V rfl LV_Flo_156 (T_Flo_nextFigure l D g q w40 k1 A B C hB1  hI   _) rfl rfl hO44 rfl hl.1 rfl (Nat.le_of_ble_eq_true rfl) ⟨by decide, by decide⟩ ⟨Nat.le_of_ble_eq_true rfl, Nat.le_of_ble_eq_true rfl⟩ d_7_19_76) (fun a52 u50 H locs hp51 V => ?_)
        obtain ⟨hI, hu56, b53, b54⟩ := hp51
        replace b53 : q_F (0 ≤ a52.toInt) := b53
        replace b54 : q_F (a52.toInt ≤ 9) := b54
        replace hO44 := (hu56 _ (by have z0 := hB1.2.2.2.2; simp only [List.mem_cons, List.not_mem_nil, or_false, not_or]; omega)).trans hO44
        replace hF := q_uc hF hu56 (by simp)
        refine lv_i2l hx hb d_7_19_79 rfl ?_
        obtain ⟨j57, e58⟩ := q_nm (a52.toInt64 : Int64)
        refine q_tl (v := j57) e58 ?_
        have b59 : q_F (j57.toInt = a52.toInt) := (by rw [← e58]; show (a52.toInt64 : Int64).toInt = a52.toInt; exact q_i2l rfl)
        refine lv_ladd hx hb d_7_19_80 ?_
        obtain ⟨j60, e61⟩ := q_nm (j48 + j57 : Int64)
        refine q_tl (v := j60) e61 ?_
        refine q_put (ci := 6) (j := 3) (v := .long j60) (ty := .long) C0 V i_Flo o_Flo n_Flo rfl rfl hO44 (by decide) w_237 rfl rfl rfl rfl (Nat.le_of_ble_eq_true rfl) d_7_19_81 (fun H locs w62 hu63 hO44 V => ?_)
        replace hO44 : w62[k1]? = (some (q k1, .inr (6, [.int A, .int B, .int C, .long j60, .int y46, .ref (q 9), .int y47])) : Option (Nat × va_E)) := hO44
        replace hI := n_flO' hI hB1 hu63 hO44 
        replace hF := q_us hF hu63 (by simp)
        refine lv_iload hx hb d_7_19_84 (lv_at hl 0 rfl) ?_
        refine lv_iconst (v := 1) hx hb d_7_19_86 (by decide) ?_
        refine lv_icmp_ne (tgt := 93) hx hb d_7_19_87 (by decide) (fun c64 => ?_) (fun c64 => ?_)
        ·
          have b65 : q_F (lx36.toInt ≠ 1) := (q_neI c64)
          refine lv_aload_n hx hb d_7_19_93 rfl (lv_at hl 3 rfl) ?_
          refine lv_aload_n hx hb d_7_19_94 rfl (lv_at hl 4 rfl) ?_
          refine q_get (ci := 6) (j := 5) (v := .ref (q 9)) C0 V i_Flo rfl rfl hO44 (by decide) w_241 rfl d_7_19_95 ?_
          have hO66 := n_o9 hI
          refine q_get (ci := 4) (j := 9) (v := .ref (q 28)) C0 V i_Mil rfl rfl hO66 (by decide) w_134 rfl d_7_19_98 ?_
          obtain ⟨y68, y69, hO67, b70, b71⟩ := q_bigO hI (n_b22 g q)
          replace b70 : q_F (0 ≤ y68.toInt ∧ y68.toInt ≤ 220) := b70
          replace b71 : q_F (0 ≤ y69.toInt ∧ y69.toInt ≤ 1) := b71
          refine q_goi V (q_runV (As := [.ref (q 28)]) (rest := []) (d := 2) (mc := 0) (ms := 0) (ci := 2) C0 V rfl LV_Flo_162 (S_Big_compareSize l D g (nsh g q) q w62 22 220 (n_b22 g q) 28 220 (n_b28 g q)  hI   _) rfl rfl hO67 rfl hl.1 rfl (Nat.le_of_ble_eq_true rfl) ⟨by decide, by decide⟩ ⟨Nat.le_of_ble_eq_true rfl, Nat.le_of_ble_eq_true rfl⟩ d_7_19_101) (fun a74 u72 H locs hp73 V => ?_)
          obtain ⟨b75, rfl⟩ := hp73
          replace b75 : q_F (-1 ≤ a74.toInt ∧ a74.toInt ≤ 1) := b75
          refine lv_iload hx hb d_7_19_104 (lv_at hl 1 rfl) ?_
          refine q_join (X := Int32) (fun z H locs ls _ => q_F (lx32.toInt ≤ z.toInt) ∧ q_F (z.toInt ≤ lx32.toInt) ∧ q_Wd D g (va_A ws sz) s w62 H locs ∧ lv_has ls 9 [(6, .int lx36), (5, .int lx32), (4, .ref (q 24)), (3, .ref (q 22)), (0, .ref (q k1))]) (fun z => [.int z, .int a74]) 114 0 0 ?_ ?_
          ·
            rintro lx76 H locs ls _ ⟨i78, i79, V, hl⟩
            replace i78 : q_F (lx32.toInt ≤ lx76.toInt) := i78
            replace i79 : q_F (lx76.toInt ≤ lx32.toInt) := i79
            replace hl : lv_has ls 9 [(6, .int lx36), (5, .int lx32), (4, .ref (q 24)), (3, .ref (q 22)), (0, .ref (q k1))] := hl
            refine q_join (X := Int32) (fun z H locs ls _ => q_F (0 ≤ z.toInt) ∧ q_F (z.toInt ≤ 1) ∧ q_Wd D g (va_A ws sz) s w62 H locs ∧ lv_has ls 9 [(6, .int lx36), (5, .int lx32), (4, .ref (q 24)), (3, .ref (q 22)), (0, .ref (q k1))]) (fun z => [.int z]) 122 0 0 ?_ ?_
            ·
              rintro lx80 H locs ls _ ⟨i82, i83, V, hl⟩
              replace i82 : q_F (0 ≤ lx80.toInt) := i82
              replace i83 : q_F (lx80.toInt ≤ 1) := i83
              replace hl : lv_has ls 9 [(6, .int lx36), (5, .int lx32), (4, .ref (q 24)), (3, .ref (q 22)), (0, .ref (q k1))] := hl
              refine lv_istore (lv' := [(7, .int lx80), (6, .int lx36), (5, .int lx32), (4, .ref (q 24)), (3, .ref (q 22)), (0, .ref (q k1))]) hx hb d_7_19_122 hl (by decide) rfl (fun ls hl => ?_)
              refine lv_aload_n hx hb d_7_19_124 rfl (lv_at hl 5 rfl) ?_
              refine q_get (ci := 6) (j := 5) (v := .ref (q 9)) C0 V i_Flo rfl rfl hO44 (by decide) w_241 rfl d_7_19_125 ?_
              refine q_get (ci := 4) (j := 0) (v := .ref (q 10)) C0 V i_Mil rfl rfl hO66 (by decide) w_113 rfl d_7_19_128 ?_
              refine lv_aload_n hx hb d_7_19_131 rfl (lv_at hl 4 rfl) ?_
              obtain ⟨y85, y86, hO84, b87, b88⟩ := q_bigO hI (n_b10 g q)
              replace b87 : q_F (0 ≤ y85.toInt ∧ y85.toInt ≤ 220) := b87
              replace b88 : q_F (0 ≤ y86.toInt ∧ y86.toInt ≤ 1) := b88
              refine q_gov V (q_runV (As := [.ref (q 22)]) (rest := []) (d := 2) (mc := 0) (ms := 0) (ci := 2) C0 V rfl LV_Flo_127 (S_Big_copy l D g (nsh g q) q w62 10 220 (n_b10 g q) 22 220 (n_b22 g q)  hI   _) rfl rfl hO84 rfl hl.1 rfl (Nat.le_of_ble_eq_true rfl) ⟨by decide, by decide⟩ ⟨Nat.le_of_ble_eq_true rfl, Nat.le_of_ble_eq_true rfl⟩ d_7_19_132) (fun u89 H locs hp90 V => ?_)
              obtain ⟨_, hI, hu91⟩ := hp90
              replace hO44 := (hu91 _ (by have z0 := hB1.2.2.2.2; simp only [List.mem_cons, List.not_mem_nil, or_false, not_or]; omega)).trans hO44
              replace hO66 := (hu91 _ (by decide)).trans hO66
              replace hO67 := (hu91 _ (by decide)).trans hO67
              replace hF := q_uc hF hu91 (by simp)
              refine lv_aload_n hx hb d_7_19_135 rfl (lv_at hl 5 rfl) ?_
              refine q_get (ci := 6) (j := 5) (v := .ref (q 9)) C0 V i_Flo rfl rfl hO44 (by decide) w_241 rfl d_7_19_136 ?_
              refine q_get (ci := 4) (j := 0) (v := .ref (q 10)) C0 V i_Mil rfl rfl hO66 (by decide) w_113 rfl d_7_19_139 ?_
              refine lv_aload_n hx hb d_7_19_142 rfl (lv_at hl 5 rfl) ?_
              refine q_get (ci := 6) (j := 5) (v := .ref (q 9)) C0 V i_Flo rfl rfl hO44 (by decide) w_241 rfl d_7_19_143 ?_
              refine q_get (ci := 4) (j := 8) (v := .ref (q 26)) C0 V i_Mil rfl rfl hO66 (by decide) w_132 rfl d_7_19_146 ?_
              obtain ⟨y93, y94, hO92, b95, b96⟩ := q_bigO hI (n_b10 g q)
              replace b95 : q_F (0 ≤ y93.toInt ∧ y93.toInt ≤ 220) := b95
              replace b96 : q_F (0 ≤ y94.toInt ∧ y94.toInt ≤ 1) := b96
              refine q_gov V (q_runV (As := [.ref (q 26)]) (rest := []) (d := 2) (mc := 0) (ms := 0) (ci := 2) C0 V rfl LV_Flo_168 (S_Big_addSize l D g (nsh g q) q u89 10 220 (n_b10 g q) 26 220 (n_b26 g q)  hI   _) rfl rfl hO92 rfl hl.1 rfl (Nat.le_of_ble_eq_true rfl) ⟨by decide, by decide⟩ ⟨Nat.le_of_ble_eq_true rfl, Nat.le_of_ble_eq_true rfl⟩ d_7_19_149) (fun u97 H locs hp98 V => ?_)
              obtain ⟨_, hI, hu99⟩ := hp98
              replace hO44 := (hu99 _ (by have z0 := hB1.2.2.2.2; simp only [List.mem_cons, List.not_mem_nil, or_false, not_or]; omega)).trans hO44
              replace hO66 := (hu99 _ (by decide)).trans hO66
              replace hO67 := (hu99 _ (by decide)).trans hO67
              replace hF := q_uc hF hu99 (by simp)
              refine lv_aload_n hx hb d_7_19_152 rfl (lv_at hl 5 rfl) ?_
              refine q_get (ci := 6) (j := 5) (v := .ref (q 9)) C0 V i_Flo rfl rfl hO44 (by decide) w_241 rfl d_7_19_153 ?_
              refine q_get (ci := 4) (j := 0) (v := .ref (q 10)) C0 V i_Mil rfl rfl hO66 (by decide) w_113 rfl d_7_19_156 ?_
              refine lv_aload hx hb d_7_19_159 (lv_at hl 3 rfl) ?_
              obtain ⟨y101, y102, hO100, b103, b104⟩ := q_bigO hI (n_b10 g q)
              replace b103 : q_F (0 ≤ y101.toInt ∧ y101.toInt ≤ 220) := b103
              replace b104 : q_F (0 ≤ y102.toInt ∧ y102.toInt ≤ 1) := b104
              refine q_goi V (q_runV (As := [.ref (q 24)]) (rest := []) (d := 2) (mc := 0) (ms := 0) (ci := 2) C0 V rfl LV_Flo_162 (S_Big_compareSize l D g (nsh g q) q u97 10 220 (n_b10 g q) 24 220 (n_b24 g q)  hI   _) rfl rfl hO100 rfl hl.1 rfl (Nat.le_of_ble_eq_true rfl) ⟨by decide, by decide⟩ ⟨Nat.le_of_ble_eq_true rfl, Nat.le_of_ble_eq_true rfl⟩ d_7_19_161) (fun a107 u105 H locs hp106 V => ?_)
              obtain ⟨b108, rfl⟩ := hp106
              replace b108 : q_F (-1 ≤ a107.toInt ∧ a107.toInt ≤ 1) := b108
              refine lv_iload hx hb d_7_19_164 (lv_at hl 2 rfl) ?_
              refine q_join (X := Int32) (fun z H locs ls _ => q_F (0 ≤ z.toInt + 1) ∧ q_F (z.toInt ≤ 0) ∧ q_Wd D g (va_A ws sz) s u97 H locs ∧ lv_has ls 9 [(7, .int lx80), (6, .int lx36), (5, .int lx32), (4, .ref (q 24)), (3, .ref (q 22)), (0, .ref (q k1))]) (fun z => [.int z, .int a107]) 174 0 0 ?_ ?_
              ·
                rintro lx109 H locs ls _ ⟨i111, i112, V, hl⟩
                replace i111 : q_F (0 ≤ lx109.toInt + 1) := i111
                replace i112 : q_F (lx109.toInt ≤ 0) := i112
                replace hl : lv_has ls 9 [(7, .int lx80), (6, .int lx36), (5, .int lx32), (4, .ref (q 24)), (3, .ref (q 22)), (0, .ref (q k1))] := hl
                refine q_join (X := Int32) (fun z H locs ls _ => q_F (0 ≤ z.toInt) ∧ q_F (z.toInt ≤ 1) ∧ q_Wd D g (va_A ws sz) s u97 H locs ∧ lv_has ls 9 [(7, .int lx80), (6, .int lx36), (5, .int lx32), (4, .ref (q 24)), (3, .ref (q 22)), (0, .ref (q k1))]) (fun z => [.int z]) 182 0 0 ?_ ?_
                ·
                  rintro lx113 H locs ls _ ⟨i115, i116, V, hl⟩
                  replace i115 : q_F (0 ≤ lx113.toInt) := i115
                  replace i116 : q_F (lx113.toInt ≤ 1) := i116
                  replace hl : lv_has ls 9 [(7, .int lx80), (6, .int lx36), (5, .int lx32), (4, .ref (q 24)), (3, .ref (q 22)), (0, .ref (q k1))] := hl
                  refine lv_istore (lv' := [(8, .int lx113), (7, .int lx80), (6, .int lx36), (5, .int lx32), (4, .ref (q 24)), (3, .ref (q 22)), (0, .ref (q k1))]) hx hb d_7_19_182 hl (by decide) rfl (fun ls hl => ?_)
                  refine lv_iload hx hb d_7_19_184 (lv_at hl 1 rfl) ?_
                  refine lv_if_ne (tgt := 194) hx hb d_7_19_186 (by decide) (fun c117 => ?_) (fun c117 => ?_)
                  ·
                    have b118 : q_F (lx80.toInt ≠ 0) := (q_neI c117)
                    refine lv_aload_n hx hb d_7_19_194 rfl (lv_at hl 6 rfl) ?_
                    refine lv_iload hx hb d_7_19_195 (lv_at hl 1 rfl) ?_
                    refine lv_iload hx hb d_7_19_197 (lv_at hl 0 rfl) ?_
                    refine lv_aload_n hx hb d_7_19_199 rfl (lv_at hl 6 rfl) ?_
                    refine q_get (ci := 6) (j := 6) (v := .int y47) C0 V i_Flo rfl rfl hO44 (by decide) w_242 rfl d_7_19_200 ?_
                    refine lv_iload hx hb d_7_19_203 (lv_at hl 2 rfl) ?_
                    refine lv_isub hx hb d_7_19_205 ?_
                    obtain ⟨a119, e120⟩ := q_nm (y47 - lx36 : Int32)
                    refine q_ti (v := a119) e120 ?_
                    refine q_gov V (q_runV (As := [.int lx80, .int lx113, .int a119]) (rest := []) (d := 4) (mc := 0) (ms := 0) (ci := 6) C0 V rfl LV_Flo_174 (T_Flo_chooseEnd l D g q u97 k1 A B C hB1 lx80 lx113 a119 hI  ⟨(by have t1 : 0 ≤ lx80.toInt := i82; omega), (by have t1 : lx80.toInt ≤ 1 := i83; omega)⟩ ⟨(by have t1 : 0 ≤ lx113.toInt := i115; omega), (by have t1 : lx113.toInt ≤ 1 := i116; omega)⟩ _) rfl rfl hO44 rfl hl.1 rfl (Nat.le_of_ble_eq_true rfl) ⟨by decide, by decide⟩ ⟨Nat.le_of_ble_eq_true rfl, Nat.le_of_ble_eq_true rfl⟩ d_7_19_206) (fun u121 H locs hp122 V => ?_)
                    obtain ⟨hI, hu124, -⟩ := hp122
                    replace hO66 := (hu124 _ (by have z0 := hB1.2.2.2.2; simp only [List.mem_cons, List.not_mem_nil, or_false, not_or]; omega)).trans hO66
                    replace hO100 := (hu124 _ (by have z0 := hB1.2.2.2.2; simp only [List.mem_cons, List.not_mem_nil, or_false, not_or]; omega)).trans hO100
                    replace hF := q_uc hF hu124 (by simp)
                    exact q_retv C0 V (⟨hI, hF, trivial⟩) d_7_19_209
                  ·
                    have b125 : q_F (lx80.toInt = 0) := (q_eqI c117)
                    refine lv_iload hx hb d_7_19_189 (lv_at hl 0 rfl) ?_
                    refine lv_if_eq (tgt := 210) hx hb d_7_19_191 (by decide) (fun c126 => ?_) (fun c126 => ?_)
                    ·
                      have b127 : q_F (lx113.toInt = 0) := (q_eqI c126)
                      obtain ⟨a128, e129⟩ := q_nm (lx36 + 1 : Int32)
                      have b130 : q_F (a128.toInt = lx36.toInt + 1) := (by rw [← e129]; exact q_addI (y := 1) rfl (by decide) (by have t1 : 1 ≤ lx36.toInt := i37; have t2 : lx36.toInt ≤ 21 := i38; omega) (by have t1 : 1 ≤ lx36.toInt := i37; have t2 : lx36.toInt ≤ 21 := i38; omega))
                      refine lv_iinc (v := a128) (lv' := [(6, .int a128), (8, .int lx113), (7, .int lx80), (5, .int lx32), (4, .ref (q 24)), (3, .ref (q 22)), (0, .ref (q k1))]) hx hb d_7_19_210 hl (k := 2) rfl (e129) (by decide) rfl (fun ls hl => ?_)
                      refine lv_goto (tgt := 59) hx hb d_7_19_213 (by decide) ?_
                      exact ih39 ((a128 : Int32)) _ _ _ _ (show (21 - a128.toInt).toNat < (21 - lx36.toInt).toNat from by have t1 : a128.toInt = lx36.toInt + 1 := b130; have t2 : lx36.toInt ≤ 21 := i38; have t3 : lx36.toInt ≤ 20 := b43; omega) ⟨(show q_F (1 ≤ a128.toInt) from (show 1 ≤ a128.toInt from by have t1 : 1 ≤ lx36.toInt := i37; have t2 : a128.toInt = lx36.toInt + 1 := b130; omega)), (show q_F (a128.toInt ≤ 21) from (show a128.toInt ≤ 21 from by have t1 : lx36.toInt ≤ 20 := b43; have t2 : a128.toInt = lx36.toInt + 1 := b130; omega)), V, q_lw hl (q_lw1 0 rfl (q_lw1 3 rfl (q_lw1 4 rfl (q_lw1 5 rfl (q_lw1 6 rfl q_lw0))))), hI, hF⟩
                    ·
                      have b131 : q_F (lx113.toInt ≠ 0) := (q_neI c126)
                      refine lv_aload_n hx hb d_7_19_194 rfl (lv_at hl 6 rfl) ?_
                      refine lv_iload hx hb d_7_19_195 (lv_at hl 1 rfl) ?_
                      refine lv_iload hx hb d_7_19_197 (lv_at hl 0 rfl) ?_
                      refine lv_aload_n hx hb d_7_19_199 rfl (lv_at hl 6 rfl) ?_
                      refine q_get (ci := 6) (j := 6) (v := .int y47) C0 V i_Flo rfl rfl hO44 (by decide) w_242 rfl d_7_19_200 ?_
                      refine lv_iload hx hb d_7_19_203 (lv_at hl 2 rfl) ?_
                      refine lv_isub hx hb d_7_19_205 ?_
                      obtain ⟨a132, e133⟩ := q_nm (y47 - lx36 : Int32)
                      refine q_ti (v := a132) e133 ?_
                      refine q_gov V (q_runV (As := [.int lx80, .int lx113, .int a132]) (rest := []) (d := 4) (mc := 0) (ms := 0) (ci := 6) C0 V rfl LV_Flo_174 (T_Flo_chooseEnd l D g q u97 k1 A B C hB1 lx80 lx113 a132 hI  ⟨(by have t1 : 0 ≤ lx80.toInt := i82; omega), (by have t1 : lx80.toInt ≤ 1 := i83; omega)⟩ ⟨(by have t1 : 0 ≤ lx113.toInt := i115; omega), (by have t1 : lx113.toInt ≤ 1 := i116; omega)⟩ _) rfl rfl hO44 rfl hl.1 rfl (Nat.le_of_ble_eq_true rfl) ⟨by decide, by decide⟩ ⟨Nat.le_of_ble_eq_true rfl, Nat.le_of_ble_eq_true rfl⟩ d_7_19_206) (fun u134 H locs hp135 V => ?_)
                      obtain ⟨hI, hu137, -⟩ := hp135
                      replace hO66 := (hu137 _ (by have z0 := hB1.2.2.2.2; simp only [List.mem_cons, List.not_mem_nil, or_false, not_or]; omega)).trans hO66
                      replace hO100 := (hu137 _ (by have z0 := hB1.2.2.2.2; simp only [List.mem_cons, List.not_mem_nil, or_false, not_or]; omega)).trans hO100
                      replace hF := q_uc hF hu137 (by simp)
                      exact q_retv C0 V (⟨hI, hF, trivial⟩) d_7_19_209
                ·
                  intro J114
                  refine lv_icmp_le (tgt := 181) hx hb d_7_19_174 (by decide) (fun c138 => ?_) (fun c138 => ?_)
                  ·
                    have b139 : q_F (a107.toInt ≤ lx109.toInt) := (q_leI c138)
                    refine lv_iconst (v := 0) hx hb d_7_19_181 (by decide) ?_
                    exact J114 ((0 : Int32)) _ _ _ u97 ⟨(show q_F (0 ≤ 0) from (show 0 ≤ 0 from by omega)), (show q_F (0 ≤ 1) from (show 0 ≤ 1 from by omega)), V, q_lw hl (q_lw1 0 rfl (q_lw1 1 rfl (q_lw1 2 rfl (q_lw1 3 rfl (q_lw1 4 rfl (q_lw1 5 rfl q_lw0))))))⟩
                  ·
                    have b140 : q_F (lx109.toInt < a107.toInt) := (q_nleI c138)
                    refine lv_iconst (v := 1) hx hb d_7_19_177 (by decide) ?_
                    refine lv_goto (tgt := 182) hx hb d_7_19_178 (by decide) ?_
                    exact J114 ((1 : Int32)) _ _ _ u97 ⟨(show q_F (0 ≤ 1) from (show 0 ≤ 1 from by omega)), (show q_F (1 ≤ 1) from (show 1 ≤ 1 from by omega)), V, q_lw hl (q_lw1 0 rfl (q_lw1 1 rfl (q_lw1 2 rfl (q_lw1 3 rfl (q_lw1 4 rfl (q_lw1 5 rfl q_lw0))))))⟩
              ·
                intro J110
                refine lv_if_eq (tgt := 173) hx hb d_7_19_166 (by decide) (fun c141 => ?_) (fun c141 => ?_)
                ·
                  have b142 : q_F (lx32.toInt = 0) := (q_eqI c141)
                  refine lv_iconst (v := 0) hx hb d_7_19_173 (by decide) ?_
                  exact J110 ((0 : Int32)) _ _ _ u97 ⟨(show q_F (0 ≤ 0 + 1) from (show 0 ≤ 0 + 1 from by omega)), (show q_F (0 ≤ 0) from (show 0 ≤ 0 from by omega)), V, q_lw hl (q_lw1 0 rfl (q_lw1 1 rfl (q_lw1 2 rfl (q_lw1 3 rfl (q_lw1 4 rfl (q_lw1 5 rfl q_lw0))))))⟩
                ·
                  have b143 : q_F (lx32.toInt ≠ 0) := (q_neI c141)
                  refine lv_iconst (v := (-1)) hx hb d_7_19_169 (by decide) ?_
                  refine lv_goto (tgt := 174) hx hb d_7_19_170 (by decide) ?_
                  exact J110 (((-1) : Int32)) _ _ _ u97 ⟨(show q_F (0 ≤ (-1) + 1) from (show 0 ≤ (-1) + 1 from by omega)), (show q_F ((-1) ≤ 0) from (show (-1) ≤ 0 from by omega)), V, q_lw hl (q_lw1 0 rfl (q_lw1 1 rfl (q_lw1 2 rfl (q_lw1 3 rfl (q_lw1 4 rfl (q_lw1 5 rfl q_lw0))))))⟩
            ·
              intro J81
              refine lv_icmp_ge (tgt := 121) hx hb d_7_19_114 (by decide) (fun c144 => ?_) (fun c144 => ?_)
              ·
                have b145 : q_F (lx76.toInt ≤ a74.toInt) := (q_leI c144)
                refine lv_iconst (v := 0) hx hb d_7_19_121 (by decide) ?_
                exact J81 ((0 : Int32)) _ _ _ w62 ⟨(show q_F (0 ≤ 0) from (show 0 ≤ 0 from by omega)), (show q_F (0 ≤ 1) from (show 0 ≤ 1 from by omega)), V, q_lw hl (q_lw1 0 rfl (q_lw1 1 rfl (q_lw1 2 rfl (q_lw1 3 rfl (q_lw1 4 rfl q_lw0)))))⟩
              ·
                have b146 : q_F (a74.toInt < lx76.toInt) := (q_nleI c144)
                refine lv_iconst (v := 1) hx hb d_7_19_117 (by decide) ?_
                refine lv_goto (tgt := 122) hx hb d_7_19_118 (by decide) ?_
                exact J81 ((1 : Int32)) _ _ _ w62 ⟨(show q_F (0 ≤ 1) from (show 0 ≤ 1 from by omega)), (show q_F (1 ≤ 1) from (show 1 ≤ 1 from by omega)), V, q_lw hl (q_lw1 0 rfl (q_lw1 1 rfl (q_lw1 2 rfl (q_lw1 3 rfl (q_lw1 4 rfl q_lw0)))))⟩
          ·
            intro J77
            refine lv_if_eq (tgt := 113) hx hb d_7_19_106 (by decide) (fun c147 => ?_) (fun c147 => ?_)
            ·
              have b148 : q_F (lx32.toInt = 0) := (q_eqI c147)
              refine lv_iconst (v := 0) hx hb d_7_19_113 (by decide) ?_
              exact J77 ((0 : Int32)) _ _ _ w62 ⟨(show q_F (lx32.toInt ≤ 0) from (show lx32.toInt ≤ 0 from by have t1 : lx32.toInt = 0 := b148; omega)), (show q_F (0 ≤ lx32.toInt) from (show 0 ≤ lx32.toInt from by have t1 : 0 ≤ lx32.toInt := i34; omega)), V, q_lw hl (q_lw1 0 rfl (q_lw1 1 rfl (q_lw1 2 rfl (q_lw1 3 rfl (q_lw1 4 rfl q_lw0)))))⟩
            ·
              have b149 : q_F (lx32.toInt ≠ 0) := (q_neI c147)
              refine lv_iconst (v := 1) hx hb d_7_19_109 (by decide) ?_
              refine lv_goto (tgt := 114) hx hb d_7_19_110 (by decide) ?_
              exact J77 ((1 : Int32)) _ _ _ w62 ⟨(show q_F (lx32.toInt ≤ 1) from (show lx32.toInt ≤ 1 from by have t1 : lx32.toInt ≤ 1 := i35; omega)), (show q_F (1 ≤ lx32.toInt) from (show 1 ≤ lx32.toInt from by have t1 : 0 ≤ lx32.toInt := i34; have t2 : lx32.toInt ≠ 0 := b149; omega)), V, q_lw hl (q_lw1 0 rfl (q_lw1 1 rfl (q_lw1 2 rfl (q_lw1 3 rfl (q_lw1 4 rfl q_lw0)))))⟩
        ·
          have b150 : q_F (lx36.toInt = 1) := (q_eqI c64)
          refine lv_goto (tgt := 210) hx hb d_7_19_90 (by decide) ?_
          obtain ⟨a151, e152⟩ := q_nm (lx36 + 1 : Int32)
          have b153 : q_F (a151.toInt = lx36.toInt + 1) := (by rw [← e152]; exact q_addI (y := 1) rfl (by decide) (by have t1 : 1 ≤ lx36.toInt := i37; have t2 : lx36.toInt ≤ 21 := i38; omega) (by have t1 : 1 ≤ lx36.toInt := i37; have t2 : lx36.toInt ≤ 21 := i38; omega))
          refine lv_iinc (v := a151) (lv' := [(6, .int a151), (5, .int lx32), (4, .ref (q 24)), (3, .ref (q 22)), (0, .ref (q k1))]) hx hb d_7_19_210 hl (k := 0) rfl (e152) (by decide) rfl (fun ls hl => ?_)
          refine lv_goto (tgt := 59) hx hb d_7_19_213 (by decide) ?_
          exact ih39 ((a151 : Int32)) _ _ _ _ (show (21 - a151.toInt).toNat < (21 - lx36.toInt).toNat from by have t1 : a151.toInt = lx36.toInt + 1 := b153; have t2 : lx36.toInt ≤ 21 := i38; have t3 : lx36.toInt ≤ 20 := b43; omega) ⟨(show q_F (1 ≤ a151.toInt) from (show 1 ≤ a151.toInt from by have t1 : 1 ≤ lx36.toInt := i37; have t2 : a151.toInt = lx36.toInt + 1 := b153; omega)), (show q_F (a151.toInt ≤ 21) from (show a151.toInt ≤ 21 from by have t1 : lx36.toInt ≤ 20 := b43; have t2 : a151.toInt = lx36.toInt + 1 := b153; omega)), V, q_lw hl (q_lw1 0 rfl (q_lw1 1 rfl (q_lw1 2 rfl (q_lw1 3 rfl (q_lw1 4 rfl q_lw0))))), hI, hF⟩
    ·
      intro J33
      refine lv_if_ne (tgt := 53) hx hb d_7_19_46 (by decide) (fun c154 => ?_) (fun c154 => ?_)
      ·
        have b155 : q_F (a29.toInt ≠ 0) := (q_neI c154)
        refine lv_iconst (v := 0) hx hb d_7_19_53 (by decide) ?_
        exact J33 ((0 : Int32)) _ _ _ u17 ⟨(show q_F (0 ≤ 0) from (show 0 ≤ 0 from by omega)), (show q_F (0 ≤ 1) from (show 0 ≤ 1 from by omega)), V, q_lw hl (q_lw1 0 rfl (q_lw1 1 rfl (q_lw1 2 rfl q_lw0)))⟩
      ·
        have b156 : q_F (a29.toInt = 0) := (q_eqI c154)
        refine lv_iconst (v := 1) hx hb d_7_19_49 (by decide) ?_
        refine lv_goto (tgt := 54) hx hb d_7_19_50 (by decide) ?_
        exact J33 ((1 : Int32)) _ _ _ u17 ⟨(show q_F (0 ≤ 1) from (show 0 ≤ 1 from by omega)), (show q_F (1 ≤ 1) from (show 1 ≤ 1 from by omega)), V, q_lw hl (q_lw1 0 rfl (q_lw1 1 rfl (q_lw1 2 rfl q_lw0)))⟩
  ·
    have b157 : q_F (a11.toInt ≠ 0) := (q_neI c15)
    exact q_retv C0 V (⟨hI, hF, trivial⟩) d_7_19_18
