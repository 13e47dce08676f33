/-! Strings at any place -/
theorem n_i2c {x : Int32} : 0 ≤ ((x.toUInt32 % 65536).toInt32).toInt ∧ ((x.toUInt32 % 65536).toInt32).toInt ≤ 65535 ∧ (0 ≤ x.toInt → x.toInt ≤ 65535 → ((x.toUInt32 % 65536).toInt32).toInt = x.toInt) := by
  have h1 : ((x.toUInt32 % 65536).toInt32).toBitVec.toNat = x.toBitVec.toNat % 65536 := by
    show (x.toUInt32 % 65536).toBitVec.toNat = _
    rw [UInt32.toBitVec_mod, BitVec.toNat_umod]
    rfl
  have h2 := s_of h1 (by omega)
  refine ⟨by omega, by omega, fun a b => ?_⟩
  obtain ⟨h3, -, -⟩ := s_nn a
  omega
theorem n_chr {v : Int32} (h0 : 0 ≤ v.toInt) (h1 : v.toInt ≤ 65535) : narrow .char (.int v) = .int v := by
  show Value.int v.toUInt32.toUInt16.toUInt32.toInt32 = .int v
  refine congrArg Value.int (Int32.toInt_inj.mp ?_)
  have e : (v.toUInt32.toUInt16.toUInt32.toInt32).toBitVec.toNat = v.toBitVec.toNat % 65536 := by
    show (v.toUInt32.toUInt16.toUInt32).toNat = _
    rw [UInt16.toNat_toUInt32, UInt32.toNat_toUInt16]
    rfl
  have h2 := s_of e (by omega)
  obtain ⟨h3, -, -⟩ := s_nn h0
  omega
theorem d_39_11_0 : decode prog_39_method_11_code 0 = .ok (.iload_n 0, 1) := by decide +kernel
theorem d_39_11_1 : decode prog_39_method_11_code 1 = .ok (.ifCond .lt 8, 3) := by decide +kernel
theorem d_39_11_4 : decode prog_39_method_11_code 4 = .ok (.iload_n 0, 1) := by decide +kernel
theorem d_39_11_5 : decode prog_39_method_11_code 5 = .ok (.iload_n 1, 1) := by decide +kernel
theorem d_39_11_6 : decode prog_39_method_11_code 6 = .ok (.if_icmp .lt 10, 3) := by decide +kernel
theorem d_39_11_16 : decode prog_39_method_11_code 16 = .ok (.iload_n 0, 1) := by decide +kernel
theorem d_39_11_17 : decode prog_39_method_11_code 17 = .ok (.ireturn, 1) := by decide +kernel
def y_jPre_checkIndex : MethodName := ⟨"jdk/internal/util/Preconditions", "checkIndex", "(IILjava/util/function/BiFunction;)I"⟩
set_option maxRecDepth 100000 in
set_option maxHeartbeats 4000000 in
theorem T_jPre_checkIndex_n (l : Launch) (D : va_G) (g : Nat → ClassId) (q : Nat → Nat) (ws : va_W) (x1 : Int32) (x2 : Int32) (hI : q_I (nsh g q) q ws) (pre0 : 0 ≤ x1.toInt) (pre1 : x1.toInt + 1 ≤ x2.toInt) : q_mI l y_jPre_checkIndex prog_39_method_11_code 3 (.int) 1 0 0 D g [.int x1, .int x2, .null] ws (fun r u => ws = u ∧ (x1.toInt ≤ r.toInt) ∧ (r.toInt ≤ x1.toInt)) := by
  intro sz
  refine q_into (by decide) (Nat.le_of_ble_eq_true rfl) ?_
  intro p e s m below meth c ls hsz C0 V hl
  have hx := C0.1
  have hb := C0.2.1
  replace pre0 : q_F (0 ≤ x1.toInt) := pre0
  replace pre1 : q_F (x1.toInt + 1 ≤ x2.toInt) := pre1
  have hl : lv_has ls 3 [(0, .int x1), (1, .int x2), (2, .null)] := hl
  refine lv_iload_n hx hb d_39_11_0 rfl (lv_at hl 0 rfl) ?_
  refine lv_if_lt (tgt := 9) hx hb d_39_11_1 (by decide) (fun c1 => absurd (show x1.toInt < 0 from q_ltI c1) (by first | with_reducible exact q_fe pre0 | (have t1 : 0 ≤ x1.toInt := pre0; omega))) (fun c1 => ?_)
  refine lv_iload_n hx hb d_39_11_4 rfl (lv_at hl 0 rfl) ?_
  refine lv_iload_n hx hb d_39_11_5 rfl (lv_at hl 1 rfl) ?_
  refine lv_icmp_lt (tgt := 16) hx hb d_39_11_6 (by decide) (fun c2 => ?_) (fun c2 => absurd (show x2.toInt ≤ x1.toInt from q_nltI c2) (by first | with_reducible exact q_fe pre1 | (have t1 : x1.toInt + 1 ≤ x2.toInt := pre1; omega)))
  refine lv_iload_n hx hb d_39_11_16 rfl (lv_at hl 0 rfl) ?_
  exact q_reti C0 V (⟨rfl, (show x1.toInt ≤ x1.toInt from (by omega)), (show x1.toInt ≤ x1.toInt from (by omega))⟩) d_39_11_17
set_option maxRecDepth 100000 in
set_option maxHeartbeats 4000000 in
theorem T_jPre_checkIndex_r (l : Launch) (D : va_G) (g : Nat → ClassId) (q : Nat → Nat) (ws : va_W) (x1 : Int32) (x2 : Int32) (x3 : Nat) (hI : q_I (nsh g q) q ws) (pre0 : 0 ≤ x1.toInt) (pre1 : x1.toInt + 1 ≤ x2.toInt) : q_mI l y_jPre_checkIndex prog_39_method_11_code 3 (.int) 1 0 0 D g [.int x1, .int x2, .ref x3] ws (fun r u => ws = u ∧ (x1.toInt ≤ r.toInt) ∧ (r.toInt ≤ x1.toInt)) := by
  intro sz
  refine q_into (by decide) (Nat.le_of_ble_eq_true rfl) ?_
  intro p e s m below meth c ls hsz C0 V hl
  have hx := C0.1
  have hb := C0.2.1
  replace pre0 : q_F (0 ≤ x1.toInt) := pre0
  replace pre1 : q_F (x1.toInt + 1 ≤ x2.toInt) := pre1
  have hl : lv_has ls 3 [(0, .int x1), (1, .int x2), (2, .ref x3)] := hl
  refine lv_iload_n hx hb d_39_11_0 rfl (lv_at hl 0 rfl) ?_
  refine lv_if_lt (tgt := 9) hx hb d_39_11_1 (by decide) (fun c1 => absurd (show x1.toInt < 0 from q_ltI c1) (by first | with_reducible exact q_fe pre0 | (have t1 : 0 ≤ x1.toInt := pre0; omega))) (fun c1 => ?_)
  refine lv_iload_n hx hb d_39_11_4 rfl (lv_at hl 0 rfl) ?_
  refine lv_iload_n hx hb d_39_11_5 rfl (lv_at hl 1 rfl) ?_
  refine lv_icmp_lt (tgt := 16) hx hb d_39_11_6 (by decide) (fun c2 => ?_) (fun c2 => absurd (show x2.toInt ≤ x1.toInt from q_nltI c2) (by first | with_reducible exact q_fe pre1 | (have t1 : x1.toInt + 1 ≤ x2.toInt := pre1; omega)))
  refine lv_iload_n hx hb d_39_11_16 rfl (lv_at hl 0 rfl) ?_
  exact q_reti C0 V (⟨rfl, (show x1.toInt ≤ x1.toInt from (by omega)), (show x1.toInt ≤ x1.toInt from (by omega))⟩) d_39_11_17
theorem d_31_155_0 : decode prog_31_method_155_code 0 = .ok (.iload_n 0, 1) := by decide +kernel
theorem d_31_155_1 : decode prog_31_method_155_code 1 = .ok (.iload_n 1, 1) := by decide +kernel
theorem d_31_155_2 : decode prog_31_method_155_code 2 = .ok (.getstatic 1053, 3) := by decide +kernel
set_option maxRecDepth 100000 in
theorem w_679 : (Cond.fieldLink "java/lang/String" (1053 : Nat) "jdk/internal/util/Preconditions" "SIOOBE_FORMATTER" "Ljava/util/function/BiFunction;") ∈ q_tbl := q_of3 199 rfl (by decide +kernel)
theorem d_31_155_5 : decode prog_31_method_155_code 5 = .ok (.invokestatic 1059, 3) := by decide +kernel
set_option maxRecDepth 100000 in
theorem w_683 : (Cond.code ({ cls := "jdk/internal/util/Preconditions", name := "checkIndex", desc := "(IILjava/util/function/BiFunction;)I" } : MethodName) prog_39_method_11_code (3 : Nat) (some .int)) ∈ q_tbl := q_of3 203 rfl (by decide +kernel)
set_option maxRecDepth 100000 in
theorem w_27 : (Cond.initialized "jdk/internal/util/Preconditions") ∈ q_tbl := q_of1 27 rfl (by decide +kernel)
set_option maxRecDepth 100000 in
theorem w_681 : (Cond.methodLink "java/lang/String" (1059 : Nat) ({ cls := "jdk/internal/util/Preconditions", name := "checkIndex", desc := "(IILjava/util/function/BiFunction;)I" } : MethodName)) ∈ q_tbl := q_of3 201 rfl (by decide +kernel)
set_option maxRecDepth 100000 in
theorem w_682 : (Cond.static ({ cls := "jdk/internal/util/Preconditions", name := "checkIndex", desc := "(IILjava/util/function/BiFunction;)I" } : MethodName)) ∈ q_tbl := q_of3 202 rfl (by decide +kernel)
theorem LS_jStr_1059 : q_LS "java/lang/String" 1059 y_jPre_checkIndex prog_39_method_11_code 3 (some .int) 3 := ⟨w_683, w_27, w_681, w_682, ⟨by decide, by decide, by decide +kernel⟩⟩
theorem d_31_155_8 : decode prog_31_method_155_code 8 = .ok (.pop, 1) := by decide +kernel
theorem d_31_155_9 : decode prog_31_method_155_code 9 = .ok (.return_, 1) := by decide +kernel
def y_jStr_checkIndex : MethodName := ⟨"java/lang/String", "checkIndex", "(II)V"⟩
set_option maxRecDepth 100000 in
set_option maxHeartbeats 4000000 in
theorem T_jStr_checkIndex (l : Launch) (D : va_G) (g : Nat → ClassId) (q : Nat → Nat) (ws : va_W) (x1 : Int32) (x2 : Int32) (hI : q_I (nsh g q) q ws) (pre0 : 0 ≤ x1.toInt) (pre1 : x1.toInt + 1 ≤ x2.toInt) : q_mV l y_jStr_checkIndex prog_31_method_155_code 2 2 0 0 D g [.int x1, .int x2] ws (fun u => ws = u ∧ True) := by
  intro sz
  refine q_into (by decide) (Nat.le_of_ble_eq_true rfl) ?_
  intro p e s m below meth c ls hsz C0 V hl
  have hx := C0.1
  have hb := C0.2.1
  replace pre0 : q_F (0 ≤ x1.toInt) := pre0
  replace pre1 : q_F (x1.toInt + 1 ≤ x2.toInt) := pre1
  have hl : lv_has ls 2 [(0, .int x1), (1, .int x2)] := hl
  refine lv_iload_n hx hb d_31_155_0 rfl (lv_at hl 0 rfl) ?_
  refine lv_iload_n hx hb d_31_155_1 rfl (lv_at hl 1 rfl) ?_
  refine q_sfmt C0 V rfl w_679 d_31_155_2 ?_ (fun t1 => ?_)
  ·
    refine q_goi V (q_runS (As := [.int x1, .int x2, .null]) (rest := []) (d := 1) (mc := 0) (ms := 0) C0 V rfl LS_jStr_1059 (T_jPre_checkIndex_n l D g q ws  x1 x2 hI  (by first | with_reducible exact q_fe pre0 | (have t1 : 0 ≤ x1.toInt := pre0; omega)) (by first | with_reducible exact q_fe pre1 | (have t1 : x1.toInt + 1 ≤ x2.toInt := pre1; omega)) _) rfl hl.1 rfl (Nat.le_of_ble_eq_true rfl) ⟨by decide, by decide⟩ ⟨Nat.le_of_ble_eq_true rfl, Nat.le_of_ble_eq_true rfl⟩ d_31_155_5) (fun a4 u2 H locs hp3 V => ?_)
    obtain ⟨rfl, b5, b6⟩ := hp3
    replace b5 : q_F (x1.toInt ≤ a4.toInt) := b5
    replace b6 : q_F (a4.toInt ≤ x1.toInt) := b6
    refine lv_pop hx hb d_31_155_8 rfl ?_
    exact q_retv C0 V (⟨rfl, trivial⟩) d_31_155_9
  ·
    refine q_goi V (q_runS (As := [.int x1, .int x2, .ref t1]) (rest := []) (d := 1) (mc := 0) (ms := 0) C0 V rfl LS_jStr_1059 (T_jPre_checkIndex_r l D g q ws  x1 x2 t1 hI  (by first | with_reducible exact q_fe pre0 | (have t1 : 0 ≤ x1.toInt := pre0; omega)) (by first | with_reducible exact q_fe pre1 | (have t1 : x1.toInt + 1 ≤ x2.toInt := pre1; omega)) _) rfl hl.1 rfl (Nat.le_of_ble_eq_true rfl) ⟨by decide, by decide⟩ ⟨Nat.le_of_ble_eq_true rfl, Nat.le_of_ble_eq_true rfl⟩ d_31_155_5) (fun a9 u7 H locs hp8 V => ?_)
    obtain ⟨rfl, b10, b11⟩ := hp8
    replace b10 : q_F (x1.toInt ≤ a9.toInt) := b10
    replace b11 : q_F (a9.toInt ≤ x1.toInt) := b11
    refine lv_pop hx hb d_31_155_8 rfl ?_
    exact q_retv C0 V (⟨rfl, trivial⟩) d_31_155_9
theorem d_33_4_0 : decode prog_33_method_4_code 0 = .ok (.iload_n 0, 1) := by decide +kernel
theorem d_33_4_1 : decode prog_33_method_4_code 1 = .ok (.ifCond .lt 14, 3) := by decide +kernel
theorem d_33_4_15 : decode prog_33_method_4_code 15 = .ok (.iconst 0, 1) := by decide +kernel
theorem d_33_4_16 : decode prog_33_method_4_code 16 = .ok (.ireturn, 1) := by decide +kernel
theorem d_33_4_4 : decode prog_33_method_4_code 4 = .ok (.iload_n 0, 1) := by decide +kernel
theorem d_33_4_5 : decode prog_33_method_4_code 5 = .ok (.sipush 255, 3) := by decide +kernel
theorem d_33_4_8 : decode prog_33_method_4_code 8 = .ok (.if_icmp .gt 7, 3) := by decide +kernel
theorem d_33_4_11 : decode prog_33_method_4_code 11 = .ok (.iconst 1, 1) := by decide +kernel
theorem d_33_4_12 : decode prog_33_method_4_code 12 = .ok (.goto 4, 3) := by decide +kernel
def y_jLat_canEncode : MethodName := ⟨"java/lang/StringLatin1", "canEncode", "(I)Z"⟩
theorem d_31_152_0 : decode prog_31_method_152_code 0 = .ok (.getstatic 38, 3) := by decide +kernel
set_option maxRecDepth 100000 in
theorem w_663 : (Cond.fieldLink "java/lang/String" (38 : Nat) "java/lang/String" "COMPACT_STRINGS" "Z") ∈ q_tbl := q_of3 183 rfl (by decide +kernel)
theorem d_31_152_3 : decode prog_31_method_152_code 3 = .ok (.ifCond .eq 10, 3) := by decide +kernel
theorem d_31_152_6 : decode prog_31_method_152_code 6 = .ok (.aload_n 0, 1) := by decide +kernel
theorem d_31_152_7 : decode prog_31_method_152_code 7 = .ok (.getfield 15, 3) := by decide +kernel
set_option maxRecDepth 100000 in
theorem w_1019 : (Cond.fieldLink "java/lang/String" (15 : Nat) "java/lang/String" "coder" "B") ∈ q_tbl := q_of5 59 rfl (by decide +kernel)
theorem d_31_152_10 : decode prog_31_method_152_code 10 = .ok (.goto 4, 3) := by decide +kernel
theorem d_31_152_14 : decode prog_31_method_152_code 14 = .ok (.ireturn, 1) := by decide +kernel
def y_jStr_coder : MethodName := ⟨"java/lang/String", "coder", "()B"⟩
set_option maxRecDepth 100000 in
set_option maxHeartbeats 4000000 in
theorem T_jStr_coder_0 (l : Launch) (D : va_G) (g : Nat → ClassId) (q : Nat → Nat) (ws : va_W) (hI : q_I (nsh g q) q ws) : q_mI l y_jStr_coder prog_31_method_152_code 1 (.byte) 1 0 0 D g [.ref (g (8 + 2 * 0))] ws (fun r u => ws = u ∧ (0 ≤ r.toInt) ∧ (r.toInt ≤ 0)) := by
  intro sz
  refine q_into (by decide) (Nat.le_of_ble_eq_true rfl) ?_
  intro p e s m below meth c ls hsz C0 V hl
  have hx := C0.1
  have hb := C0.2.1
  have hl : lv_has ls 1 [(0, .ref (g (8 + 2 * 0)))] := hl
  refine q_scmp C0 V rfl w_663 d_31_152_0 ?_
  refine lv_if_eq (tgt := 13) hx hb d_31_152_3 (by decide) (fun c1 => absurd c1 (by decide)) (fun c1 => ?_)
  refine lv_aload_n hx hb d_31_152_6 rfl (lv_at hl 0 rfl) ?_
  refine q_scod (i := 0) C0 V rfl rfl w_1019 d_31_152_7 ?_
  refine lv_goto (tgt := 14) hx hb d_31_152_10 (by decide) ?_
  exact q_retn C0 V (rfl) (⟨rfl, (show 0 ≤ (0 : Int32).toInt from (by have z0 : (0 : Int32).toInt = 0 := rfl; omega)), (show (0 : Int32).toInt ≤ 0 from (by have z0 : (0 : Int32).toInt = 0 := rfl; omega))⟩) d_31_152_14
theorem d_31_54_0 : decode prog_31_method_54_code 0 = .ok (.aload_n 0, 1) := by decide +kernel
theorem d_31_54_1 : decode prog_31_method_54_code 1 = .ok (.getfield 9, 3) := by decide +kernel
set_option maxRecDepth 100000 in
theorem w_1018 : (Cond.fieldLink "java/lang/String" (9 : Nat) "java/lang/String" "value" "[B") ∈ q_tbl := q_of5 58 rfl (by decide +kernel)
theorem d_31_54_4 : decode prog_31_method_54_code 4 = .ok (.arraylength, 1) := by decide +kernel
theorem d_31_54_5 : decode prog_31_method_54_code 5 = .ok (.aload_n 0, 1) := by decide +kernel
theorem d_31_54_6 : decode prog_31_method_54_code 6 = .ok (.invokevirtual 335, 3) := by decide +kernel
set_option maxRecDepth 100000 in
theorem w_662 : (Cond.code ({ cls := "java/lang/String", name := "coder", desc := "()B" } : MethodName) prog_31_method_152_code (1 : Nat) (some .byte)) ∈ q_tbl := q_of3 182 rfl (by decide +kernel)
set_option maxRecDepth 100000 in
theorem w_25 : (Cond.initialized "java/lang/String") ∈ q_tbl := q_of1 25 rfl (by decide +kernel)
set_option maxRecDepth 100000 in
theorem w_659 : (Cond.methodLink "java/lang/String" (335 : Nat) ({ cls := "java/lang/String", name := "coder", desc := "()B" } : MethodName)) ∈ q_tbl := q_of3 179 rfl (by decide +kernel)
set_option maxRecDepth 100000 in
theorem w_660 : (Cond.instanceMethod ({ cls := "java/lang/String", name := "coder", desc := "()B" } : MethodName)) ∈ q_tbl := q_of3 180 rfl (by decide +kernel)
set_option maxRecDepth 100000 in
theorem w_661 : (Cond.selects "java/lang/String" ({ cls := "java/lang/String", name := "coder", desc := "()B" } : MethodName) ({ cls := "java/lang/String", name := "coder", desc := "()B" } : MethodName)) ∈ q_tbl := q_of3 181 rfl (by decide +kernel)
theorem LV_jStr_335 : q_LV "java/lang/String" 335 y_jStr_coder prog_31_method_152_code 1 (some .byte) 0 := ⟨w_662, w_25, w_659, w_660, w_661, ⟨by decide, by decide, by decide +kernel⟩⟩
theorem d_31_54_9 : decode prog_31_method_54_code 9 = .ok (.ishr, 1) := by decide +kernel
theorem d_31_54_10 : decode prog_31_method_54_code 10 = .ok (.ireturn, 1) := by decide +kernel
def y_jStr_length : MethodName := ⟨"java/lang/String", "length", "()I"⟩
set_option maxRecDepth 100000 in
set_option maxHeartbeats 4000000 in
theorem T_jStr_length_0 (l : Launch) (D : va_G) (g : Nat → ClassId) (q : Nat → Nat) (ws : va_W) (hI : q_I (nsh g q) q ws) : q_mI l y_jStr_length prog_31_method_54_code 1 (.int) 2 0 0 D g [.ref (g (8 + 2 * 0))] ws (fun r u => ws = u ∧ (8 ≤ r.toInt) ∧ (r.toInt ≤ 8)) := by
  intro sz
  refine q_into (by decide) (Nat.le_of_ble_eq_true rfl) ?_
  intro p e s m below meth c ls hsz C0 V hl
  have hx := C0.1
  have hb := C0.2.1
  have hl : lv_has ls 1 [(0, .ref (g (8 + 2 * 0)))] := hl
  refine lv_aload_n hx hb d_31_54_0 rfl (lv_at hl 0 rfl) ?_
  refine q_sval (i := 0) C0 V rfl rfl w_1018 d_31_54_1 ?_
  refine q_slen (i := 0) (v := 8) C0 V rfl (by decide) d_31_54_4 ?_
  refine lv_aload_n hx hb d_31_54_5 rfl (lv_at hl 0 rfl) ?_
  refine q_goi V (q_runVs (As := []) (rest := [.int 8]) (d := 1) (mc := 0) (ms := 0) (i := 0) C0 V rfl LV_jStr_335 (T_jStr_coder_0 l D g q ws   hI   _) rfl rfl rfl hl.1 rfl (Nat.le_of_ble_eq_true rfl) ⟨by decide, by decide⟩ ⟨Nat.le_of_ble_eq_true rfl, Nat.le_of_ble_eq_true rfl⟩ d_31_54_6) (fun a3 u1 H locs hp2 V => ?_)
  obtain ⟨rfl, b4, b5⟩ := hp2
  replace b4 : q_F (0 ≤ a3.toInt) := b4
  replace b5 : q_F (a3.toInt ≤ 0) := b5
  obtain rfl : a3 = (0 : Int32) := q_Ieq (x := a3.toInt) (y := 0) rfl (by decide) (by have t1 : 0 ≤ a3.toInt := b4; have t2 : a3.toInt ≤ 0 := b5; omega)
  refine lv_ishr hx hb d_31_54_9 ?_
  refine q_ti (v := 8) (by decide) ?_
  exact q_reti C0 V (⟨rfl, (show 8 ≤ (8 : Int32).toInt from (by have z0 : (8 : Int32).toInt = 8 := rfl; omega)), (show (8 : Int32).toInt ≤ 8 from (by have z0 : (8 : Int32).toInt = 8 := rfl; omega))⟩) d_31_54_10
theorem d_31_154_0 : decode prog_31_method_154_code 0 = .ok (.getstatic 38, 3) := by decide +kernel
theorem d_31_154_3 : decode prog_31_method_154_code 3 = .ok (.ifCond .eq 14, 3) := by decide +kernel
theorem d_31_154_6 : decode prog_31_method_154_code 6 = .ok (.aload_n 0, 1) := by decide +kernel
theorem d_31_154_7 : decode prog_31_method_154_code 7 = .ok (.getfield 15, 3) := by decide +kernel
theorem d_31_154_10 : decode prog_31_method_154_code 10 = .ok (.ifCond .ne 7, 3) := by decide +kernel
theorem d_31_154_13 : decode prog_31_method_154_code 13 = .ok (.iconst 1, 1) := by decide +kernel
theorem d_31_154_14 : decode prog_31_method_154_code 14 = .ok (.goto 4, 3) := by decide +kernel
theorem d_31_154_18 : decode prog_31_method_154_code 18 = .ok (.ireturn, 1) := by decide +kernel
def y_jStr_isLatin1 : MethodName := ⟨"java/lang/String", "isLatin1", "()Z"⟩
set_option maxRecDepth 100000 in
set_option maxHeartbeats 4000000 in
theorem T_jStr_isLatin1_0 (l : Launch) (D : va_G) (g : Nat → ClassId) (q : Nat → Nat) (ws : va_W) (hI : q_I (nsh g q) q ws) : q_mI l y_jStr_isLatin1 prog_31_method_154_code 1 (.boolean) 1 0 0 D g [.ref (g (8 + 2 * 0))] ws (fun r u => ws = u ∧ (1 ≤ r.toInt) ∧ (r.toInt ≤ 1)) := by
  intro sz
  refine q_into (by decide) (Nat.le_of_ble_eq_true rfl) ?_
  intro p e s m below meth c ls hsz C0 V hl
  have hx := C0.1
  have hb := C0.2.1
  have hl : lv_has ls 1 [(0, .ref (g (8 + 2 * 0)))] := hl
  refine q_scmp C0 V rfl w_663 d_31_154_0 ?_
  refine lv_if_eq (tgt := 17) hx hb d_31_154_3 (by decide) (fun c1 => absurd c1 (by decide)) (fun c1 => ?_)
  refine lv_aload_n hx hb d_31_154_6 rfl (lv_at hl 0 rfl) ?_
  refine q_scod (i := 0) C0 V rfl rfl w_1019 d_31_154_7 ?_
  refine lv_if_ne (tgt := 17) hx hb d_31_154_10 (by decide) (fun c2 => absurd (by decide) c2) (fun c2 => ?_)
  refine lv_iconst (v := 1) hx hb d_31_154_13 (by decide) ?_
  refine lv_goto (tgt := 18) hx hb d_31_154_14 (by decide) ?_
  exact q_retz C0 V (by decide) (⟨rfl, (show 1 ≤ (1 : Int32).toInt from (by have z0 : (1 : Int32).toInt = 1 := rfl; omega)), (show (1 : Int32).toInt ≤ 1 from (by have z0 : (1 : Int32).toInt = 1 := rfl; omega))⟩) d_31_154_18
theorem d_33_23_0 : decode prog_33_method_23_code 0 = .ok (.iload_n 1, 1) := by decide +kernel
theorem d_33_23_1 : decode prog_33_method_23_code 1 = .ok (.i2b, 1) := by decide +kernel
theorem d_33_23_2 : decode prog_33_method_23_code 2 = .ok (.istore 4, 2) := by decide +kernel
theorem d_33_23_4 : decode prog_33_method_23_code 4 = .ok (.iload_n 2, 1) := by decide +kernel
theorem d_33_23_5 : decode prog_33_method_23_code 5 = .ok (.istore 5, 2) := by decide +kernel
theorem d_33_23_7 : decode prog_33_method_23_code 7 = .ok (.iload 5, 2) := by decide +kernel
theorem d_33_23_9 : decode prog_33_method_23_code 9 = .ok (.iload_n 3, 1) := by decide +kernel
theorem d_33_23_10 : decode prog_33_method_23_code 10 = .ok (.if_icmp .ge 21, 3) := by decide +kernel
theorem d_33_23_31 : decode prog_33_method_23_code 31 = .ok (.iconst (-1), 1) := by decide +kernel
theorem d_33_23_32 : decode prog_33_method_23_code 32 = .ok (.ireturn, 1) := by decide +kernel
theorem d_33_23_13 : decode prog_33_method_23_code 13 = .ok (.aload_n 0, 1) := by decide +kernel
theorem d_33_23_14 : decode prog_33_method_23_code 14 = .ok (.iload 5, 2) := by decide +kernel
theorem d_33_23_16 : decode prog_33_method_23_code 16 = .ok (.baload, 1) := by decide +kernel
theorem d_33_23_17 : decode prog_33_method_23_code 17 = .ok (.iload 4, 2) := by decide +kernel
theorem d_33_23_19 : decode prog_33_method_23_code 19 = .ok (.if_icmp .ne 6, 3) := by decide +kernel
theorem d_33_23_25 : decode prog_33_method_23_code 25 = .ok (.iinc 5 1, 3) := by decide +kernel
theorem d_33_23_28 : decode prog_33_method_23_code 28 = .ok (.goto (-21), 3) := by decide +kernel
theorem d_33_23_22 : decode prog_33_method_23_code 22 = .ok (.iload 5, 2) := by decide +kernel
theorem d_33_23_24 : decode prog_33_method_23_code 24 = .ok (.ireturn, 1) := by decide +kernel
def y_jLat_indexOfChar : MethodName := ⟨"java/lang/StringLatin1", "indexOfChar", "([BIII)I"⟩
theorem d_33_22_0 : decode prog_33_method_22_code 0 = .ok (.iload_n 1, 1) := by decide +kernel
theorem d_33_22_1 : decode prog_33_method_22_code 1 = .ok (.invokestatic 88, 3) := by decide +kernel
set_option maxRecDepth 100000 in
theorem w_1772 : (Cond.code ({ cls := "java/lang/StringLatin1", name := "canEncode", desc := "(I)Z" } : MethodName) prog_33_method_4_code (1 : Nat) (some .boolean)) ∈ q_tbl := q_of8 92 rfl (by decide +kernel)
set_option maxRecDepth 100000 in
theorem w_26 : (Cond.initialized "java/lang/StringLatin1") ∈ q_tbl := q_of1 26 rfl (by decide +kernel)
set_option maxRecDepth 100000 in
theorem w_1770 : (Cond.methodLink "java/lang/StringLatin1" (88 : Nat) ({ cls := "java/lang/StringLatin1", name := "canEncode", desc := "(I)Z" } : MethodName)) ∈ q_tbl := q_of8 90 rfl (by decide +kernel)
set_option maxRecDepth 100000 in
theorem w_1771 : (Cond.static ({ cls := "java/lang/StringLatin1", name := "canEncode", desc := "(I)Z" } : MethodName)) ∈ q_tbl := q_of8 91 rfl (by decide +kernel)
theorem LS_jLat_88 : q_LS "java/lang/StringLatin1" 88 y_jLat_canEncode prog_33_method_4_code 1 (some .boolean) 1 := ⟨w_1772, w_26, w_1770, w_1771, ⟨by decide, by decide, by decide +kernel⟩⟩
theorem d_33_22_4 : decode prog_33_method_22_code 4 = .ok (.ifCond .ne 5, 3) := by decide +kernel
theorem d_33_22_9 : decode prog_33_method_22_code 9 = .ok (.iload_n 2, 1) := by decide +kernel
theorem d_33_22_10 : decode prog_33_method_22_code 10 = .ok (.iconst 0, 1) := by decide +kernel
theorem d_33_22_11 : decode prog_33_method_22_code 11 = .ok (.invokestatic 92, 3) := by decide +kernel
set_option maxRecDepth 100000 in
theorem w_1773 : (Cond.methodLink "java/lang/StringLatin1" (92 : Nat) ({ cls := "java/lang/Math", name := "max", desc := "(II)I" } : MethodName)) ∈ q_tbl := q_of8 93 rfl (by decide +kernel)
theorem d_33_22_14 : decode prog_33_method_22_code 14 = .ok (.istore_n 2, 1) := by decide +kernel
theorem d_33_22_15 : decode prog_33_method_22_code 15 = .ok (.iload_n 3, 1) := by decide +kernel
theorem d_33_22_16 : decode prog_33_method_22_code 16 = .ok (.aload_n 0, 1) := by decide +kernel
theorem d_33_22_17 : decode prog_33_method_22_code 17 = .ok (.arraylength, 1) := by decide +kernel
theorem d_33_22_18 : decode prog_33_method_22_code 18 = .ok (.invokestatic 38, 3) := by decide +kernel
set_option maxRecDepth 100000 in
theorem w_1774 : (Cond.methodLink "java/lang/StringLatin1" (38 : Nat) ({ cls := "java/lang/Math", name := "min", desc := "(II)I" } : MethodName)) ∈ q_tbl := q_of8 94 rfl (by decide +kernel)
theorem d_33_22_21 : decode prog_33_method_22_code 21 = .ok (.istore_n 3, 1) := by decide +kernel
theorem d_33_22_22 : decode prog_33_method_22_code 22 = .ok (.iload_n 2, 1) := by decide +kernel
theorem d_33_22_23 : decode prog_33_method_22_code 23 = .ok (.iload_n 3, 1) := by decide +kernel
theorem d_33_22_24 : decode prog_33_method_22_code 24 = .ok (.if_icmp .lt 5, 3) := by decide +kernel
theorem d_33_22_29 : decode prog_33_method_22_code 29 = .ok (.aload_n 0, 1) := by decide +kernel
theorem d_33_22_30 : decode prog_33_method_22_code 30 = .ok (.iload_n 1, 1) := by decide +kernel
theorem d_33_22_31 : decode prog_33_method_22_code 31 = .ok (.iload_n 2, 1) := by decide +kernel
theorem d_33_22_32 : decode prog_33_method_22_code 32 = .ok (.iload_n 3, 1) := by decide +kernel
theorem d_33_22_33 : decode prog_33_method_22_code 33 = .ok (.invokestatic 95, 3) := by decide +kernel
set_option maxRecDepth 100000 in
theorem w_1777 : (Cond.code ({ cls := "java/lang/StringLatin1", name := "indexOfChar", desc := "([BIII)I" } : MethodName) prog_33_method_23_code (6 : Nat) (some .int)) ∈ q_tbl := q_of8 97 rfl (by decide +kernel)
set_option maxRecDepth 100000 in
theorem w_1775 : (Cond.methodLink "java/lang/StringLatin1" (95 : Nat) ({ cls := "java/lang/StringLatin1", name := "indexOfChar", desc := "([BIII)I" } : MethodName)) ∈ q_tbl := q_of8 95 rfl (by decide +kernel)
set_option maxRecDepth 100000 in
theorem w_1776 : (Cond.static ({ cls := "java/lang/StringLatin1", name := "indexOfChar", desc := "([BIII)I" } : MethodName)) ∈ q_tbl := q_of8 96 rfl (by decide +kernel)
theorem LS_jLat_95 : q_LS "java/lang/StringLatin1" 95 y_jLat_indexOfChar prog_33_method_23_code 6 (some .int) 4 := ⟨w_1777, w_26, w_1775, w_1776, ⟨by decide, by decide, by decide +kernel⟩⟩
theorem d_33_22_36 : decode prog_33_method_22_code 36 = .ok (.ireturn, 1) := by decide +kernel
theorem d_33_22_27 : decode prog_33_method_22_code 27 = .ok (.iconst (-1), 1) := by decide +kernel
theorem d_33_22_28 : decode prog_33_method_22_code 28 = .ok (.ireturn, 1) := by decide +kernel
theorem d_33_22_7 : decode prog_33_method_22_code 7 = .ok (.iconst (-1), 1) := by decide +kernel
theorem d_33_22_8 : decode prog_33_method_22_code 8 = .ok (.ireturn, 1) := by decide +kernel
def y_jLat_indexOf : MethodName := ⟨"java/lang/StringLatin1", "indexOf", "([BIII)I"⟩
theorem d_31_80_0 : decode prog_31_method_80_code 0 = .ok (.aload_n 0, 1) := by decide +kernel
theorem d_31_80_1 : decode prog_31_method_80_code 1 = .ok (.invokevirtual 492, 3) := by decide +kernel
set_option maxRecDepth 100000 in
theorem w_672 : (Cond.code ({ cls := "java/lang/String", name := "isLatin1", desc := "()Z" } : MethodName) prog_31_method_154_code (1 : Nat) (some .boolean)) ∈ q_tbl := q_of3 192 rfl (by decide +kernel)
set_option maxRecDepth 100000 in
theorem w_669 : (Cond.methodLink "java/lang/String" (492 : Nat) ({ cls := "java/lang/String", name := "isLatin1", desc := "()Z" } : MethodName)) ∈ q_tbl := q_of3 189 rfl (by decide +kernel)
set_option maxRecDepth 100000 in
theorem w_670 : (Cond.instanceMethod ({ cls := "java/lang/String", name := "isLatin1", desc := "()Z" } : MethodName)) ∈ q_tbl := q_of3 190 rfl (by decide +kernel)
set_option maxRecDepth 100000 in
theorem w_671 : (Cond.selects "java/lang/String" ({ cls := "java/lang/String", name := "isLatin1", desc := "()Z" } : MethodName) ({ cls := "java/lang/String", name := "isLatin1", desc := "()Z" } : MethodName)) ∈ q_tbl := q_of3 191 rfl (by decide +kernel)
theorem LV_jStr_492 : q_LV "java/lang/String" 492 y_jStr_isLatin1 prog_31_method_154_code 1 (some .boolean) 0 := ⟨w_672, w_25, w_669, w_670, w_671, ⟨by decide, by decide, by decide +kernel⟩⟩
theorem d_31_80_4 : decode prog_31_method_80_code 4 = .ok (.ifCond .eq 19, 3) := by decide +kernel
theorem d_31_80_7 : decode prog_31_method_80_code 7 = .ok (.aload_n 0, 1) := by decide +kernel
theorem d_31_80_8 : decode prog_31_method_80_code 8 = .ok (.getfield 9, 3) := by decide +kernel
theorem d_31_80_11 : decode prog_31_method_80_code 11 = .ok (.iload_n 1, 1) := by decide +kernel
theorem d_31_80_12 : decode prog_31_method_80_code 12 = .ok (.iload_n 2, 1) := by decide +kernel
theorem d_31_80_13 : decode prog_31_method_80_code 13 = .ok (.aload_n 0, 1) := by decide +kernel
theorem d_31_80_14 : decode prog_31_method_80_code 14 = .ok (.invokevirtual 505, 3) := by decide +kernel
set_option maxRecDepth 100000 in
theorem w_658 : (Cond.code ({ cls := "java/lang/String", name := "length", desc := "()I" } : MethodName) prog_31_method_54_code (1 : Nat) (some .int)) ∈ q_tbl := q_of3 178 rfl (by decide +kernel)
set_option maxRecDepth 100000 in
theorem w_1766 : (Cond.methodLink "java/lang/String" (505 : Nat) ({ cls := "java/lang/String", name := "length", desc := "()I" } : MethodName)) ∈ q_tbl := q_of8 86 rfl (by decide +kernel)
set_option maxRecDepth 100000 in
theorem w_656 : (Cond.instanceMethod ({ cls := "java/lang/String", name := "length", desc := "()I" } : MethodName)) ∈ q_tbl := q_of3 176 rfl (by decide +kernel)
set_option maxRecDepth 100000 in
theorem w_657 : (Cond.selects "java/lang/String" ({ cls := "java/lang/String", name := "length", desc := "()I" } : MethodName) ({ cls := "java/lang/String", name := "length", desc := "()I" } : MethodName)) ∈ q_tbl := q_of3 177 rfl (by decide +kernel)
theorem LV_jStr_505 : q_LV "java/lang/String" 505 y_jStr_length prog_31_method_54_code 1 (some .int) 0 := ⟨w_658, w_25, w_1766, w_656, w_657, ⟨by decide, by decide, by decide +kernel⟩⟩
theorem d_31_80_17 : decode prog_31_method_80_code 17 = .ok (.invokestatic 637, 3) := by decide +kernel
set_option maxRecDepth 100000 in
theorem w_1769 : (Cond.code ({ cls := "java/lang/StringLatin1", name := "indexOf", desc := "([BIII)I" } : MethodName) prog_33_method_22_code (4 : Nat) (some .int)) ∈ q_tbl := q_of8 89 rfl (by decide +kernel)
set_option maxRecDepth 100000 in
theorem w_1767 : (Cond.methodLink "java/lang/String" (637 : Nat) ({ cls := "java/lang/StringLatin1", name := "indexOf", desc := "([BIII)I" } : MethodName)) ∈ q_tbl := q_of8 87 rfl (by decide +kernel)
set_option maxRecDepth 100000 in
theorem w_1768 : (Cond.static ({ cls := "java/lang/StringLatin1", name := "indexOf", desc := "([BIII)I" } : MethodName)) ∈ q_tbl := q_of8 88 rfl (by decide +kernel)
theorem LS_jStr_637 : q_LS "java/lang/String" 637 y_jLat_indexOf prog_33_method_22_code 4 (some .int) 4 := ⟨w_1769, w_26, w_1767, w_1768, ⟨by decide, by decide, by decide +kernel⟩⟩
theorem d_31_80_20 : decode prog_31_method_80_code 20 = .ok (.goto 16, 3) := by decide +kernel
theorem d_31_80_36 : decode prog_31_method_80_code 36 = .ok (.ireturn, 1) := by decide +kernel
def y_jStr_indexOf_III : MethodName := ⟨"java/lang/String", "indexOf", "(II)I"⟩
theorem d_31_79_0 : decode prog_31_method_79_code 0 = .ok (.aload_n 0, 1) := by decide +kernel
theorem d_31_79_1 : decode prog_31_method_79_code 1 = .ok (.iload_n 1, 1) := by decide +kernel
theorem d_31_79_2 : decode prog_31_method_79_code 2 = .ok (.iconst 0, 1) := by decide +kernel
theorem d_31_79_3 : decode prog_31_method_79_code 3 = .ok (.invokevirtual 633, 3) := by decide +kernel
set_option maxRecDepth 100000 in
theorem w_1765 : (Cond.code ({ cls := "java/lang/String", name := "indexOf", desc := "(II)I" } : MethodName) prog_31_method_80_code (3 : Nat) (some .int)) ∈ q_tbl := q_of8 85 rfl (by decide +kernel)
set_option maxRecDepth 100000 in
theorem w_1762 : (Cond.methodLink "java/lang/String" (633 : Nat) ({ cls := "java/lang/String", name := "indexOf", desc := "(II)I" } : MethodName)) ∈ q_tbl := q_of8 82 rfl (by decide +kernel)
set_option maxRecDepth 100000 in
theorem w_1763 : (Cond.instanceMethod ({ cls := "java/lang/String", name := "indexOf", desc := "(II)I" } : MethodName)) ∈ q_tbl := q_of8 83 rfl (by decide +kernel)
set_option maxRecDepth 100000 in
theorem w_1764 : (Cond.selects "java/lang/String" ({ cls := "java/lang/String", name := "indexOf", desc := "(II)I" } : MethodName) ({ cls := "java/lang/String", name := "indexOf", desc := "(II)I" } : MethodName)) ∈ q_tbl := q_of8 84 rfl (by decide +kernel)
theorem LV_jStr_633 : q_LV "java/lang/String" 633 y_jStr_indexOf_III prog_31_method_80_code 3 (some .int) 2 := ⟨w_1765, w_25, w_1762, w_1763, w_1764, ⟨by decide, by decide, by decide +kernel⟩⟩
theorem d_31_79_6 : decode prog_31_method_79_code 6 = .ok (.ireturn, 1) := by decide +kernel
def y_jStr_indexOf_II : MethodName := ⟨"java/lang/String", "indexOf", "(I)I"⟩
set_option maxRecDepth 100000 in
set_option maxHeartbeats 4000000 in
theorem T_jStr_coder_1 (l : Launch) (D : va_G) (g : Nat → ClassId) (q : Nat → Nat) (ws : va_W) (hI : q_I (nsh g q) q ws) : q_mI l y_jStr_coder prog_31_method_152_code 1 (.byte) 1 0 0 D g [.ref (g (8 + 2 * 1))] ws (fun r u => ws = u ∧ (0 ≤ r.toInt) ∧ (r.toInt ≤ 0)) := by
  intro sz
  refine q_into (by decide) (Nat.le_of_ble_eq_true rfl) ?_
  intro p e s m below meth c ls hsz C0 V hl
  have hx := C0.1
  have hb := C0.2.1
  have hl : lv_has ls 1 [(0, .ref (g (8 + 2 * 1)))] := hl
  refine q_scmp C0 V rfl w_663 d_31_152_0 ?_
  refine lv_if_eq (tgt := 13) hx hb d_31_152_3 (by decide) (fun c1 => absurd c1 (by decide)) (fun c1 => ?_)
  refine lv_aload_n hx hb d_31_152_6 rfl (lv_at hl 0 rfl) ?_
  refine q_scod (i := 1) C0 V rfl rfl w_1019 d_31_152_7 ?_
  refine lv_goto (tgt := 14) hx hb d_31_152_10 (by decide) ?_
  exact q_retn C0 V (rfl) (⟨rfl, (show 0 ≤ (0 : Int32).toInt from (by have z0 : (0 : Int32).toInt = 0 := rfl; omega)), (show (0 : Int32).toInt ≤ 0 from (by have z0 : (0 : Int32).toInt = 0 := rfl; omega))⟩) d_31_152_14
set_option maxRecDepth 100000 in
set_option maxHeartbeats 4000000 in
theorem T_jStr_length_1 (l : Launch) (D : va_G) (g : Nat → ClassId) (q : Nat → Nat) (ws : va_W) (hI : q_I (nsh g q) q ws) : q_mI l y_jStr_length prog_31_method_54_code 1 (.int) 2 0 0 D g [.ref (g (8 + 2 * 1))] ws (fun r u => ws = u ∧ (17 ≤ r.toInt) ∧ (r.toInt ≤ 17)) := by
  intro sz
  refine q_into (by decide) (Nat.le_of_ble_eq_true rfl) ?_
  intro p e s m below meth c ls hsz C0 V hl
  have hx := C0.1
  have hb := C0.2.1
  have hl : lv_has ls 1 [(0, .ref (g (8 + 2 * 1)))] := hl
  refine lv_aload_n hx hb d_31_54_0 rfl (lv_at hl 0 rfl) ?_
  refine q_sval (i := 1) C0 V rfl rfl w_1018 d_31_54_1 ?_
  refine q_slen (i := 1) (v := 17) C0 V rfl (by decide) d_31_54_4 ?_
  refine lv_aload_n hx hb d_31_54_5 rfl (lv_at hl 0 rfl) ?_
  refine q_goi V (q_runVs (As := []) (rest := [.int 17]) (d := 1) (mc := 0) (ms := 0) (i := 1) C0 V rfl LV_jStr_335 (T_jStr_coder_1 l D g q ws   hI   _) rfl rfl rfl hl.1 rfl (Nat.le_of_ble_eq_true rfl) ⟨by decide, by decide⟩ ⟨Nat.le_of_ble_eq_true rfl, Nat.le_of_ble_eq_true rfl⟩ d_31_54_6) (fun a3 u1 H locs hp2 V => ?_)
  obtain ⟨rfl, b4, b5⟩ := hp2
  replace b4 : q_F (0 ≤ a3.toInt) := b4
  replace b5 : q_F (a3.toInt ≤ 0) := b5
  obtain rfl : a3 = (0 : Int32) := q_Ieq (x := a3.toInt) (y := 0) rfl (by decide) (by have t1 : 0 ≤ a3.toInt := b4; have t2 : a3.toInt ≤ 0 := b5; omega)
  refine lv_ishr hx hb d_31_54_9 ?_
  refine q_ti (v := 17) (by decide) ?_
  exact q_reti C0 V (⟨rfl, (show 17 ≤ (17 : Int32).toInt from (by have z0 : (17 : Int32).toInt = 17 := rfl; omega)), (show (17 : Int32).toInt ≤ 17 from (by have z0 : (17 : Int32).toInt = 17 := rfl; omega))⟩) d_31_54_10
set_option maxRecDepth 100000 in
set_option maxHeartbeats 4000000 in
theorem T_jStr_isLatin1_1 (l : Launch) (D : va_G) (g : Nat → ClassId) (q : Nat → Nat) (ws : va_W) (hI : q_I (nsh g q) q ws) : q_mI l y_jStr_isLatin1 prog_31_method_154_code 1 (.boolean) 1 0 0 D g [.ref (g (8 + 2 * 1))] ws (fun r u => ws = u ∧ (1 ≤ r.toInt) ∧ (r.toInt ≤ 1)) := by
  intro sz
  refine q_into (by decide) (Nat.le_of_ble_eq_true rfl) ?_
  intro p e s m below meth c ls hsz C0 V hl
  have hx := C0.1
  have hb := C0.2.1
  have hl : lv_has ls 1 [(0, .ref (g (8 + 2 * 1)))] := hl
  refine q_scmp C0 V rfl w_663 d_31_154_0 ?_
  refine lv_if_eq (tgt := 17) hx hb d_31_154_3 (by decide) (fun c1 => absurd c1 (by decide)) (fun c1 => ?_)
  refine lv_aload_n hx hb d_31_154_6 rfl (lv_at hl 0 rfl) ?_
  refine q_scod (i := 1) C0 V rfl rfl w_1019 d_31_154_7 ?_
  refine lv_if_ne (tgt := 17) hx hb d_31_154_10 (by decide) (fun c2 => absurd (by decide) c2) (fun c2 => ?_)
  refine lv_iconst (v := 1) hx hb d_31_154_13 (by decide) ?_
  refine lv_goto (tgt := 18) hx hb d_31_154_14 (by decide) ?_
  exact q_retz C0 V (by decide) (⟨rfl, (show 1 ≤ (1 : Int32).toInt from (by have z0 : (1 : Int32).toInt = 1 := rfl; omega)), (show (1 : Int32).toInt ≤ 1 from (by have z0 : (1 : Int32).toInt = 1 := rfl; omega))⟩) d_31_154_18
set_option maxRecDepth 100000 in
set_option maxHeartbeats 4000000 in
theorem T_jStr_coder_2 (l : Launch) (D : va_G) (g : Nat → ClassId) (q : Nat → Nat) (ws : va_W) (hI : q_I (nsh g q) q ws) : q_mI l y_jStr_coder prog_31_method_152_code 1 (.byte) 1 0 0 D g [.ref (g (8 + 2 * 2))] ws (fun r u => ws = u ∧ (0 ≤ r.toInt) ∧ (r.toInt ≤ 0)) := by
  intro sz
  refine q_into (by decide) (Nat.le_of_ble_eq_true rfl) ?_
  intro p e s m below meth c ls hsz C0 V hl
  have hx := C0.1
  have hb := C0.2.1
  have hl : lv_has ls 1 [(0, .ref (g (8 + 2 * 2)))] := hl
  refine q_scmp C0 V rfl w_663 d_31_152_0 ?_
  refine lv_if_eq (tgt := 13) hx hb d_31_152_3 (by decide) (fun c1 => absurd c1 (by decide)) (fun c1 => ?_)
  refine lv_aload_n hx hb d_31_152_6 rfl (lv_at hl 0 rfl) ?_
  refine q_scod (i := 2) C0 V rfl rfl w_1019 d_31_152_7 ?_
  refine lv_goto (tgt := 14) hx hb d_31_152_10 (by decide) ?_
  exact q_retn C0 V (rfl) (⟨rfl, (show 0 ≤ (0 : Int32).toInt from (by have z0 : (0 : Int32).toInt = 0 := rfl; omega)), (show (0 : Int32).toInt ≤ 0 from (by have z0 : (0 : Int32).toInt = 0 := rfl; omega))⟩) d_31_152_14
set_option maxRecDepth 100000 in
set_option maxHeartbeats 4000000 in
theorem T_jStr_length_2 (l : Launch) (D : va_G) (g : Nat → ClassId) (q : Nat → Nat) (ws : va_W) (hI : q_I (nsh g q) q ws) : q_mI l y_jStr_length prog_31_method_54_code 1 (.int) 2 0 0 D g [.ref (g (8 + 2 * 2))] ws (fun r u => ws = u ∧ (7 ≤ r.toInt) ∧ (r.toInt ≤ 7)) := by
  intro sz
  refine q_into (by decide) (Nat.le_of_ble_eq_true rfl) ?_
  intro p e s m below meth c ls hsz C0 V hl
  have hx := C0.1
  have hb := C0.2.1
  have hl : lv_has ls 1 [(0, .ref (g (8 + 2 * 2)))] := hl
  refine lv_aload_n hx hb d_31_54_0 rfl (lv_at hl 0 rfl) ?_
  refine q_sval (i := 2) C0 V rfl rfl w_1018 d_31_54_1 ?_
  refine q_slen (i := 2) (v := 7) C0 V rfl (by decide) d_31_54_4 ?_
  refine lv_aload_n hx hb d_31_54_5 rfl (lv_at hl 0 rfl) ?_
  refine q_goi V (q_runVs (As := []) (rest := [.int 7]) (d := 1) (mc := 0) (ms := 0) (i := 2) C0 V rfl LV_jStr_335 (T_jStr_coder_2 l D g q ws   hI   _) rfl rfl rfl hl.1 rfl (Nat.le_of_ble_eq_true rfl) ⟨by decide, by decide⟩ ⟨Nat.le_of_ble_eq_true rfl, Nat.le_of_ble_eq_true rfl⟩ d_31_54_6) (fun a3 u1 H locs hp2 V => ?_)
  obtain ⟨rfl, b4, b5⟩ := hp2
  replace b4 : q_F (0 ≤ a3.toInt) := b4
  replace b5 : q_F (a3.toInt ≤ 0) := b5
  obtain rfl : a3 = (0 : Int32) := q_Ieq (x := a3.toInt) (y := 0) rfl (by decide) (by have t1 : 0 ≤ a3.toInt := b4; have t2 : a3.toInt ≤ 0 := b5; omega)
  refine lv_ishr hx hb d_31_54_9 ?_
  refine q_ti (v := 7) (by decide) ?_
  exact q_reti C0 V (⟨rfl, (show 7 ≤ (7 : Int32).toInt from (by have z0 : (7 : Int32).toInt = 7 := rfl; omega)), (show (7 : Int32).toInt ≤ 7 from (by have z0 : (7 : Int32).toInt = 7 := rfl; omega))⟩) d_31_54_10
set_option maxRecDepth 100000 in
set_option maxHeartbeats 4000000 in
theorem T_jStr_isLatin1_2 (l : Launch) (D : va_G) (g : Nat → ClassId) (q : Nat → Nat) (ws : va_W) (hI : q_I (nsh g q) q ws) : q_mI l y_jStr_isLatin1 prog_31_method_154_code 1 (.boolean) 1 0 0 D g [.ref (g (8 + 2 * 2))] ws (fun r u => ws = u ∧ (1 ≤ r.toInt) ∧ (r.toInt ≤ 1)) := by
  intro sz
  refine q_into (by decide) (Nat.le_of_ble_eq_true rfl) ?_
  intro p e s m below meth c ls hsz C0 V hl
  have hx := C0.1
  have hb := C0.2.1
  have hl : lv_has ls 1 [(0, .ref (g (8 + 2 * 2)))] := hl
  refine q_scmp C0 V rfl w_663 d_31_154_0 ?_
  refine lv_if_eq (tgt := 17) hx hb d_31_154_3 (by decide) (fun c1 => absurd c1 (by decide)) (fun c1 => ?_)
  refine lv_aload_n hx hb d_31_154_6 rfl (lv_at hl 0 rfl) ?_
  refine q_scod (i := 2) C0 V rfl rfl w_1019 d_31_154_7 ?_
  refine lv_if_ne (tgt := 17) hx hb d_31_154_10 (by decide) (fun c2 => absurd (by decide) c2) (fun c2 => ?_)
  refine lv_iconst (v := 1) hx hb d_31_154_13 (by decide) ?_
  refine lv_goto (tgt := 18) hx hb d_31_154_14 (by decide) ?_
  exact q_retz C0 V (by decide) (⟨rfl, (show 1 ≤ (1 : Int32).toInt from (by have z0 : (1 : Int32).toInt = 1 := rfl; omega)), (show (1 : Int32).toInt ≤ 1 from (by have z0 : (1 : Int32).toInt = 1 := rfl; omega))⟩) d_31_154_18
set_option maxRecDepth 100000 in
set_option maxHeartbeats 4000000 in
theorem T_jStr_coder_3 (l : Launch) (D : va_G) (g : Nat → ClassId) (q : Nat → Nat) (ws : va_W) (hI : q_I (nsh g q) q ws) : q_mI l y_jStr_coder prog_31_method_152_code 1 (.byte) 1 0 0 D g [.ref (g (8 + 2 * 3))] ws (fun r u => ws = u ∧ (0 ≤ r.toInt) ∧ (r.toInt ≤ 0)) := by
  intro sz
  refine q_into (by decide) (Nat.le_of_ble_eq_true rfl) ?_
  intro p e s m below meth c ls hsz C0 V hl
  have hx := C0.1
  have hb := C0.2.1
  have hl : lv_has ls 1 [(0, .ref (g (8 + 2 * 3)))] := hl
  refine q_scmp C0 V rfl w_663 d_31_152_0 ?_
  refine lv_if_eq (tgt := 13) hx hb d_31_152_3 (by decide) (fun c1 => absurd c1 (by decide)) (fun c1 => ?_)
  refine lv_aload_n hx hb d_31_152_6 rfl (lv_at hl 0 rfl) ?_
  refine q_scod (i := 3) C0 V rfl rfl w_1019 d_31_152_7 ?_
  refine lv_goto (tgt := 14) hx hb d_31_152_10 (by decide) ?_
  exact q_retn C0 V (rfl) (⟨rfl, (show 0 ≤ (0 : Int32).toInt from (by have z0 : (0 : Int32).toInt = 0 := rfl; omega)), (show (0 : Int32).toInt ≤ 0 from (by have z0 : (0 : Int32).toInt = 0 := rfl; omega))⟩) d_31_152_14
set_option maxRecDepth 100000 in
set_option maxHeartbeats 4000000 in
theorem T_jStr_length_3 (l : Launch) (D : va_G) (g : Nat → ClassId) (q : Nat → Nat) (ws : va_W) (hI : q_I (nsh g q) q ws) : q_mI l y_jStr_length prog_31_method_54_code 1 (.int) 2 0 0 D g [.ref (g (8 + 2 * 3))] ws (fun r u => ws = u ∧ (7 ≤ r.toInt) ∧ (r.toInt ≤ 7)) := by
  intro sz
  refine q_into (by decide) (Nat.le_of_ble_eq_true rfl) ?_
  intro p e s m below meth c ls hsz C0 V hl
  have hx := C0.1
  have hb := C0.2.1
  have hl : lv_has ls 1 [(0, .ref (g (8 + 2 * 3)))] := hl
  refine lv_aload_n hx hb d_31_54_0 rfl (lv_at hl 0 rfl) ?_
  refine q_sval (i := 3) C0 V rfl rfl w_1018 d_31_54_1 ?_
  refine q_slen (i := 3) (v := 7) C0 V rfl (by decide) d_31_54_4 ?_
  refine lv_aload_n hx hb d_31_54_5 rfl (lv_at hl 0 rfl) ?_
  refine q_goi V (q_runVs (As := []) (rest := [.int 7]) (d := 1) (mc := 0) (ms := 0) (i := 3) C0 V rfl LV_jStr_335 (T_jStr_coder_3 l D g q ws   hI   _) rfl rfl rfl hl.1 rfl (Nat.le_of_ble_eq_true rfl) ⟨by decide, by decide⟩ ⟨Nat.le_of_ble_eq_true rfl, Nat.le_of_ble_eq_true rfl⟩ d_31_54_6) (fun a3 u1 H locs hp2 V => ?_)
  obtain ⟨rfl, b4, b5⟩ := hp2
  replace b4 : q_F (0 ≤ a3.toInt) := b4
  replace b5 : q_F (a3.toInt ≤ 0) := b5
  obtain rfl : a3 = (0 : Int32) := q_Ieq (x := a3.toInt) (y := 0) rfl (by decide) (by have t1 : 0 ≤ a3.toInt := b4; have t2 : a3.toInt ≤ 0 := b5; omega)
  refine lv_ishr hx hb d_31_54_9 ?_
  refine q_ti (v := 7) (by decide) ?_
  exact q_reti C0 V (⟨rfl, (show 7 ≤ (7 : Int32).toInt from (by have z0 : (7 : Int32).toInt = 7 := rfl; omega)), (show (7 : Int32).toInt ≤ 7 from (by have z0 : (7 : Int32).toInt = 7 := rfl; omega))⟩) d_31_54_10
set_option maxRecDepth 100000 in
set_option maxHeartbeats 4000000 in
theorem T_jStr_isLatin1_3 (l : Launch) (D : va_G) (g : Nat → ClassId) (q : Nat → Nat) (ws : va_W) (hI : q_I (nsh g q) q ws) : q_mI l y_jStr_isLatin1 prog_31_method_154_code 1 (.boolean) 1 0 0 D g [.ref (g (8 + 2 * 3))] ws (fun r u => ws = u ∧ (1 ≤ r.toInt) ∧ (r.toInt ≤ 1)) := by
  intro sz
  refine q_into (by decide) (Nat.le_of_ble_eq_true rfl) ?_
  intro p e s m below meth c ls hsz C0 V hl
  have hx := C0.1
  have hb := C0.2.1
  have hl : lv_has ls 1 [(0, .ref (g (8 + 2 * 3)))] := hl
  refine q_scmp C0 V rfl w_663 d_31_154_0 ?_
  refine lv_if_eq (tgt := 17) hx hb d_31_154_3 (by decide) (fun c1 => absurd c1 (by decide)) (fun c1 => ?_)
  refine lv_aload_n hx hb d_31_154_6 rfl (lv_at hl 0 rfl) ?_
  refine q_scod (i := 3) C0 V rfl rfl w_1019 d_31_154_7 ?_
  refine lv_if_ne (tgt := 17) hx hb d_31_154_10 (by decide) (fun c2 => absurd (by decide) c2) (fun c2 => ?_)
  refine lv_iconst (v := 1) hx hb d_31_154_13 (by decide) ?_
  refine lv_goto (tgt := 18) hx hb d_31_154_14 (by decide) ?_
  exact q_retz C0 V (by decide) (⟨rfl, (show 1 ≤ (1 : Int32).toInt from (by have z0 : (1 : Int32).toInt = 1 := rfl; omega)), (show (1 : Int32).toInt ≤ 1 from (by have z0 : (1 : Int32).toInt = 1 := rfl; omega))⟩) d_31_154_18
set_option maxRecDepth 100000 in
set_option maxHeartbeats 4000000 in
theorem T_jStr_coder_4 (l : Launch) (D : va_G) (g : Nat → ClassId) (q : Nat → Nat) (ws : va_W) (hI : q_I (nsh g q) q ws) : q_mI l y_jStr_coder prog_31_method_152_code 1 (.byte) 1 0 0 D g [.ref (g (8 + 2 * 4))] ws (fun r u => ws = u ∧ (0 ≤ r.toInt) ∧ (r.toInt ≤ 0)) := by
  intro sz
  refine q_into (by decide) (Nat.le_of_ble_eq_true rfl) ?_
  intro p e s m below meth c ls hsz C0 V hl
  have hx := C0.1
  have hb := C0.2.1
  have hl : lv_has ls 1 [(0, .ref (g (8 + 2 * 4)))] := hl
  refine q_scmp C0 V rfl w_663 d_31_152_0 ?_
  refine lv_if_eq (tgt := 13) hx hb d_31_152_3 (by decide) (fun c1 => absurd c1 (by decide)) (fun c1 => ?_)
  refine lv_aload_n hx hb d_31_152_6 rfl (lv_at hl 0 rfl) ?_
  refine q_scod (i := 4) C0 V rfl rfl w_1019 d_31_152_7 ?_
  refine lv_goto (tgt := 14) hx hb d_31_152_10 (by decide) ?_
  exact q_retn C0 V (rfl) (⟨rfl, (show 0 ≤ (0 : Int32).toInt from (by have z0 : (0 : Int32).toInt = 0 := rfl; omega)), (show (0 : Int32).toInt ≤ 0 from (by have z0 : (0 : Int32).toInt = 0 := rfl; omega))⟩) d_31_152_14
set_option maxRecDepth 100000 in
set_option maxHeartbeats 4000000 in
theorem T_jStr_length_4 (l : Launch) (D : va_G) (g : Nat → ClassId) (q : Nat → Nat) (ws : va_W) (hI : q_I (nsh g q) q ws) : q_mI l y_jStr_length prog_31_method_54_code 1 (.int) 2 0 0 D g [.ref (g (8 + 2 * 4))] ws (fun r u => ws = u ∧ (3 ≤ r.toInt) ∧ (r.toInt ≤ 3)) := by
  intro sz
  refine q_into (by decide) (Nat.le_of_ble_eq_true rfl) ?_
  intro p e s m below meth c ls hsz C0 V hl
  have hx := C0.1
  have hb := C0.2.1
  have hl : lv_has ls 1 [(0, .ref (g (8 + 2 * 4)))] := hl
  refine lv_aload_n hx hb d_31_54_0 rfl (lv_at hl 0 rfl) ?_
  refine q_sval (i := 4) C0 V rfl rfl w_1018 d_31_54_1 ?_
  refine q_slen (i := 4) (v := 3) C0 V rfl (by decide) d_31_54_4 ?_
  refine lv_aload_n hx hb d_31_54_5 rfl (lv_at hl 0 rfl) ?_
  refine q_goi V (q_runVs (As := []) (rest := [.int 3]) (d := 1) (mc := 0) (ms := 0) (i := 4) C0 V rfl LV_jStr_335 (T_jStr_coder_4 l D g q ws   hI   _) rfl rfl rfl hl.1 rfl (Nat.le_of_ble_eq_true rfl) ⟨by decide, by decide⟩ ⟨Nat.le_of_ble_eq_true rfl, Nat.le_of_ble_eq_true rfl⟩ d_31_54_6) (fun a3 u1 H locs hp2 V => ?_)
  obtain ⟨rfl, b4, b5⟩ := hp2
  replace b4 : q_F (0 ≤ a3.toInt) := b4
  replace b5 : q_F (a3.toInt ≤ 0) := b5
  obtain rfl : a3 = (0 : Int32) := q_Ieq (x := a3.toInt) (y := 0) rfl (by decide) (by have t1 : 0 ≤ a3.toInt := b4; have t2 : a3.toInt ≤ 0 := b5; omega)
  refine lv_ishr hx hb d_31_54_9 ?_
  refine q_ti (v := 3) (by decide) ?_
  exact q_reti C0 V (⟨rfl, (show 3 ≤ (3 : Int32).toInt from (by have z0 : (3 : Int32).toInt = 3 := rfl; omega)), (show (3 : Int32).toInt ≤ 3 from (by have z0 : (3 : Int32).toInt = 3 := rfl; omega))⟩) d_31_54_10
set_option maxRecDepth 100000 in
set_option maxHeartbeats 4000000 in
theorem T_jStr_isLatin1_4 (l : Launch) (D : va_G) (g : Nat → ClassId) (q : Nat → Nat) (ws : va_W) (hI : q_I (nsh g q) q ws) : q_mI l y_jStr_isLatin1 prog_31_method_154_code 1 (.boolean) 1 0 0 D g [.ref (g (8 + 2 * 4))] ws (fun r u => ws = u ∧ (1 ≤ r.toInt) ∧ (r.toInt ≤ 1)) := by
  intro sz
  refine q_into (by decide) (Nat.le_of_ble_eq_true rfl) ?_
  intro p e s m below meth c ls hsz C0 V hl
  have hx := C0.1
  have hb := C0.2.1
  have hl : lv_has ls 1 [(0, .ref (g (8 + 2 * 4)))] := hl
  refine q_scmp C0 V rfl w_663 d_31_154_0 ?_
  refine lv_if_eq (tgt := 17) hx hb d_31_154_3 (by decide) (fun c1 => absurd c1 (by decide)) (fun c1 => ?_)
  refine lv_aload_n hx hb d_31_154_6 rfl (lv_at hl 0 rfl) ?_
  refine q_scod (i := 4) C0 V rfl rfl w_1019 d_31_154_7 ?_
  refine lv_if_ne (tgt := 17) hx hb d_31_154_10 (by decide) (fun c2 => absurd (by decide) c2) (fun c2 => ?_)
  refine lv_iconst (v := 1) hx hb d_31_154_13 (by decide) ?_
  refine lv_goto (tgt := 18) hx hb d_31_154_14 (by decide) ?_
  exact q_retz C0 V (by decide) (⟨rfl, (show 1 ≤ (1 : Int32).toInt from (by have z0 : (1 : Int32).toInt = 1 := rfl; omega)), (show (1 : Int32).toInt ≤ 1 from (by have z0 : (1 : Int32).toInt = 1 := rfl; omega))⟩) d_31_154_18
set_option maxRecDepth 100000 in
set_option maxHeartbeats 4000000 in
theorem T_jStr_coder_5 (l : Launch) (D : va_G) (g : Nat → ClassId) (q : Nat → Nat) (ws : va_W) (hI : q_I (nsh g q) q ws) : q_mI l y_jStr_coder prog_31_method_152_code 1 (.byte) 1 0 0 D g [.ref (g (8 + 2 * 5))] ws (fun r u => ws = u ∧ (0 ≤ r.toInt) ∧ (r.toInt ≤ 0)) := by
  intro sz
  refine q_into (by decide) (Nat.le_of_ble_eq_true rfl) ?_
  intro p e s m below meth c ls hsz C0 V hl
  have hx := C0.1
  have hb := C0.2.1
  have hl : lv_has ls 1 [(0, .ref (g (8 + 2 * 5)))] := hl
  refine q_scmp C0 V rfl w_663 d_31_152_0 ?_
  refine lv_if_eq (tgt := 13) hx hb d_31_152_3 (by decide) (fun c1 => absurd c1 (by decide)) (fun c1 => ?_)
  refine lv_aload_n hx hb d_31_152_6 rfl (lv_at hl 0 rfl) ?_
  refine q_scod (i := 5) C0 V rfl rfl w_1019 d_31_152_7 ?_
  refine lv_goto (tgt := 14) hx hb d_31_152_10 (by decide) ?_
  exact q_retn C0 V (rfl) (⟨rfl, (show 0 ≤ (0 : Int32).toInt from (by have z0 : (0 : Int32).toInt = 0 := rfl; omega)), (show (0 : Int32).toInt ≤ 0 from (by have z0 : (0 : Int32).toInt = 0 := rfl; omega))⟩) d_31_152_14
set_option maxRecDepth 100000 in
set_option maxHeartbeats 4000000 in
theorem T_jStr_length_5 (l : Launch) (D : va_G) (g : Nat → ClassId) (q : Nat → Nat) (ws : va_W) (hI : q_I (nsh g q) q ws) : q_mI l y_jStr_length prog_31_method_54_code 1 (.int) 2 0 0 D g [.ref (g (8 + 2 * 5))] ws (fun r u => ws = u ∧ (3 ≤ r.toInt) ∧ (r.toInt ≤ 3)) := by
  intro sz
  refine q_into (by decide) (Nat.le_of_ble_eq_true rfl) ?_
  intro p e s m below meth c ls hsz C0 V hl
  have hx := C0.1
  have hb := C0.2.1
  have hl : lv_has ls 1 [(0, .ref (g (8 + 2 * 5)))] := hl
  refine lv_aload_n hx hb d_31_54_0 rfl (lv_at hl 0 rfl) ?_
  refine q_sval (i := 5) C0 V rfl rfl w_1018 d_31_54_1 ?_
  refine q_slen (i := 5) (v := 3) C0 V rfl (by decide) d_31_54_4 ?_
  refine lv_aload_n hx hb d_31_54_5 rfl (lv_at hl 0 rfl) ?_
  refine q_goi V (q_runVs (As := []) (rest := [.int 3]) (d := 1) (mc := 0) (ms := 0) (i := 5) C0 V rfl LV_jStr_335 (T_jStr_coder_5 l D g q ws   hI   _) rfl rfl rfl hl.1 rfl (Nat.le_of_ble_eq_true rfl) ⟨by decide, by decide⟩ ⟨Nat.le_of_ble_eq_true rfl, Nat.le_of_ble_eq_true rfl⟩ d_31_54_6) (fun a3 u1 H locs hp2 V => ?_)
  obtain ⟨rfl, b4, b5⟩ := hp2
  replace b4 : q_F (0 ≤ a3.toInt) := b4
  replace b5 : q_F (a3.toInt ≤ 0) := b5
  obtain rfl : a3 = (0 : Int32) := q_Ieq (x := a3.toInt) (y := 0) rfl (by decide) (by have t1 : 0 ≤ a3.toInt := b4; have t2 : a3.toInt ≤ 0 := b5; omega)
  refine lv_ishr hx hb d_31_54_9 ?_
  refine q_ti (v := 3) (by decide) ?_
  exact q_reti C0 V (⟨rfl, (show 3 ≤ (3 : Int32).toInt from (by have z0 : (3 : Int32).toInt = 3 := rfl; omega)), (show (3 : Int32).toInt ≤ 3 from (by have z0 : (3 : Int32).toInt = 3 := rfl; omega))⟩) d_31_54_10
set_option maxRecDepth 100000 in
set_option maxHeartbeats 4000000 in
theorem T_jStr_isLatin1_5 (l : Launch) (D : va_G) (g : Nat → ClassId) (q : Nat → Nat) (ws : va_W) (hI : q_I (nsh g q) q ws) : q_mI l y_jStr_isLatin1 prog_31_method_154_code 1 (.boolean) 1 0 0 D g [.ref (g (8 + 2 * 5))] ws (fun r u => ws = u ∧ (1 ≤ r.toInt) ∧ (r.toInt ≤ 1)) := by
  intro sz
  refine q_into (by decide) (Nat.le_of_ble_eq_true rfl) ?_
  intro p e s m below meth c ls hsz C0 V hl
  have hx := C0.1
  have hb := C0.2.1
  have hl : lv_has ls 1 [(0, .ref (g (8 + 2 * 5)))] := hl
  refine q_scmp C0 V rfl w_663 d_31_154_0 ?_
  refine lv_if_eq (tgt := 17) hx hb d_31_154_3 (by decide) (fun c1 => absurd c1 (by decide)) (fun c1 => ?_)
  refine lv_aload_n hx hb d_31_154_6 rfl (lv_at hl 0 rfl) ?_
  refine q_scod (i := 5) C0 V rfl rfl w_1019 d_31_154_7 ?_
  refine lv_if_ne (tgt := 17) hx hb d_31_154_10 (by decide) (fun c2 => absurd (by decide) c2) (fun c2 => ?_)
  refine lv_iconst (v := 1) hx hb d_31_154_13 (by decide) ?_
  refine lv_goto (tgt := 18) hx hb d_31_154_14 (by decide) ?_
  exact q_retz C0 V (by decide) (⟨rfl, (show 1 ≤ (1 : Int32).toInt from (by have z0 : (1 : Int32).toInt = 1 := rfl; omega)), (show (1 : Int32).toInt ≤ 1 from (by have z0 : (1 : Int32).toInt = 1 := rfl; omega))⟩) d_31_154_18
set_option maxRecDepth 100000 in
set_option maxHeartbeats 4000000 in
theorem T_jStr_coder_6 (l : Launch) (D : va_G) (g : Nat → ClassId) (q : Nat → Nat) (ws : va_W) (hI : q_I (nsh g q) q ws) : q_mI l y_jStr_coder prog_31_method_152_code 1 (.byte) 1 0 0 D g [.ref (g (8 + 2 * 6))] ws (fun r u => ws = u ∧ (0 ≤ r.toInt) ∧ (r.toInt ≤ 0)) := by
  intro sz
  refine q_into (by decide) (Nat.le_of_ble_eq_true rfl) ?_
  intro p e s m below meth c ls hsz C0 V hl
  have hx := C0.1
  have hb := C0.2.1
  have hl : lv_has ls 1 [(0, .ref (g (8 + 2 * 6)))] := hl
  refine q_scmp C0 V rfl w_663 d_31_152_0 ?_
  refine lv_if_eq (tgt := 13) hx hb d_31_152_3 (by decide) (fun c1 => absurd c1 (by decide)) (fun c1 => ?_)
  refine lv_aload_n hx hb d_31_152_6 rfl (lv_at hl 0 rfl) ?_
  refine q_scod (i := 6) C0 V rfl rfl w_1019 d_31_152_7 ?_
  refine lv_goto (tgt := 14) hx hb d_31_152_10 (by decide) ?_
  exact q_retn C0 V (rfl) (⟨rfl, (show 0 ≤ (0 : Int32).toInt from (by have z0 : (0 : Int32).toInt = 0 := rfl; omega)), (show (0 : Int32).toInt ≤ 0 from (by have z0 : (0 : Int32).toInt = 0 := rfl; omega))⟩) d_31_152_14
set_option maxRecDepth 100000 in
set_option maxHeartbeats 4000000 in
theorem T_jStr_length_6 (l : Launch) (D : va_G) (g : Nat → ClassId) (q : Nat → Nat) (ws : va_W) (hI : q_I (nsh g q) q ws) : q_mI l y_jStr_length prog_31_method_54_code 1 (.int) 2 0 0 D g [.ref (g (8 + 2 * 6))] ws (fun r u => ws = u ∧ (2 ≤ r.toInt) ∧ (r.toInt ≤ 2)) := by
  intro sz
  refine q_into (by decide) (Nat.le_of_ble_eq_true rfl) ?_
  intro p e s m below meth c ls hsz C0 V hl
  have hx := C0.1
  have hb := C0.2.1
  have hl : lv_has ls 1 [(0, .ref (g (8 + 2 * 6)))] := hl
  refine lv_aload_n hx hb d_31_54_0 rfl (lv_at hl 0 rfl) ?_
  refine q_sval (i := 6) C0 V rfl rfl w_1018 d_31_54_1 ?_
  refine q_slen (i := 6) (v := 2) C0 V rfl (by decide) d_31_54_4 ?_
  refine lv_aload_n hx hb d_31_54_5 rfl (lv_at hl 0 rfl) ?_
  refine q_goi V (q_runVs (As := []) (rest := [.int 2]) (d := 1) (mc := 0) (ms := 0) (i := 6) C0 V rfl LV_jStr_335 (T_jStr_coder_6 l D g q ws   hI   _) rfl rfl rfl hl.1 rfl (Nat.le_of_ble_eq_true rfl) ⟨by decide, by decide⟩ ⟨Nat.le_of_ble_eq_true rfl, Nat.le_of_ble_eq_true rfl⟩ d_31_54_6) (fun a3 u1 H locs hp2 V => ?_)
  obtain ⟨rfl, b4, b5⟩ := hp2
  replace b4 : q_F (0 ≤ a3.toInt) := b4
  replace b5 : q_F (a3.toInt ≤ 0) := b5
  obtain rfl : a3 = (0 : Int32) := q_Ieq (x := a3.toInt) (y := 0) rfl (by decide) (by have t1 : 0 ≤ a3.toInt := b4; have t2 : a3.toInt ≤ 0 := b5; omega)
  refine lv_ishr hx hb d_31_54_9 ?_
  refine q_ti (v := 2) (by decide) ?_
  exact q_reti C0 V (⟨rfl, (show 2 ≤ (2 : Int32).toInt from (by have z0 : (2 : Int32).toInt = 2 := rfl; omega)), (show (2 : Int32).toInt ≤ 2 from (by have z0 : (2 : Int32).toInt = 2 := rfl; omega))⟩) d_31_54_10
set_option maxRecDepth 100000 in
set_option maxHeartbeats 4000000 in
theorem T_jStr_isLatin1_6 (l : Launch) (D : va_G) (g : Nat → ClassId) (q : Nat → Nat) (ws : va_W) (hI : q_I (nsh g q) q ws) : q_mI l y_jStr_isLatin1 prog_31_method_154_code 1 (.boolean) 1 0 0 D g [.ref (g (8 + 2 * 6))] ws (fun r u => ws = u ∧ (1 ≤ r.toInt) ∧ (r.toInt ≤ 1)) := by
  intro sz
  refine q_into (by decide) (Nat.le_of_ble_eq_true rfl) ?_
  intro p e s m below meth c ls hsz C0 V hl
  have hx := C0.1
  have hb := C0.2.1
  have hl : lv_has ls 1 [(0, .ref (g (8 + 2 * 6)))] := hl
  refine q_scmp C0 V rfl w_663 d_31_154_0 ?_
  refine lv_if_eq (tgt := 17) hx hb d_31_154_3 (by decide) (fun c1 => absurd c1 (by decide)) (fun c1 => ?_)
  refine lv_aload_n hx hb d_31_154_6 rfl (lv_at hl 0 rfl) ?_
  refine q_scod (i := 6) C0 V rfl rfl w_1019 d_31_154_7 ?_
  refine lv_if_ne (tgt := 17) hx hb d_31_154_10 (by decide) (fun c2 => absurd (by decide) c2) (fun c2 => ?_)
  refine lv_iconst (v := 1) hx hb d_31_154_13 (by decide) ?_
  refine lv_goto (tgt := 18) hx hb d_31_154_14 (by decide) ?_
  exact q_retz C0 V (by decide) (⟨rfl, (show 1 ≤ (1 : Int32).toInt from (by have z0 : (1 : Int32).toInt = 1 := rfl; omega)), (show (1 : Int32).toInt ≤ 1 from (by have z0 : (1 : Int32).toInt = 1 := rfl; omega))⟩) d_31_154_18
set_option maxRecDepth 100000 in
set_option maxHeartbeats 4000000 in
theorem T_jStr_coder_7 (l : Launch) (D : va_G) (g : Nat → ClassId) (q : Nat → Nat) (ws : va_W) (hI : q_I (nsh g q) q ws) : q_mI l y_jStr_coder prog_31_method_152_code 1 (.byte) 1 0 0 D g [.ref (g (8 + 2 * 7))] ws (fun r u => ws = u ∧ (0 ≤ r.toInt) ∧ (r.toInt ≤ 0)) := by
  intro sz
  refine q_into (by decide) (Nat.le_of_ble_eq_true rfl) ?_
  intro p e s m below meth c ls hsz C0 V hl
  have hx := C0.1
  have hb := C0.2.1
  have hl : lv_has ls 1 [(0, .ref (g (8 + 2 * 7)))] := hl
  refine q_scmp C0 V rfl w_663 d_31_152_0 ?_
  refine lv_if_eq (tgt := 13) hx hb d_31_152_3 (by decide) (fun c1 => absurd c1 (by decide)) (fun c1 => ?_)
  refine lv_aload_n hx hb d_31_152_6 rfl (lv_at hl 0 rfl) ?_
  refine q_scod (i := 7) C0 V rfl rfl w_1019 d_31_152_7 ?_
  refine lv_goto (tgt := 14) hx hb d_31_152_10 (by decide) ?_
  exact q_retn C0 V (rfl) (⟨rfl, (show 0 ≤ (0 : Int32).toInt from (by have z0 : (0 : Int32).toInt = 0 := rfl; omega)), (show (0 : Int32).toInt ≤ 0 from (by have z0 : (0 : Int32).toInt = 0 := rfl; omega))⟩) d_31_152_14
set_option maxRecDepth 100000 in
set_option maxHeartbeats 4000000 in
theorem T_jStr_length_7 (l : Launch) (D : va_G) (g : Nat → ClassId) (q : Nat → Nat) (ws : va_W) (hI : q_I (nsh g q) q ws) : q_mI l y_jStr_length prog_31_method_54_code 1 (.int) 2 0 0 D g [.ref (g (8 + 2 * 7))] ws (fun r u => ws = u ∧ (2 ≤ r.toInt) ∧ (r.toInt ≤ 2)) := by
  intro sz
  refine q_into (by decide) (Nat.le_of_ble_eq_true rfl) ?_
  intro p e s m below meth c ls hsz C0 V hl
  have hx := C0.1
  have hb := C0.2.1
  have hl : lv_has ls 1 [(0, .ref (g (8 + 2 * 7)))] := hl
  refine lv_aload_n hx hb d_31_54_0 rfl (lv_at hl 0 rfl) ?_
  refine q_sval (i := 7) C0 V rfl rfl w_1018 d_31_54_1 ?_
  refine q_slen (i := 7) (v := 2) C0 V rfl (by decide) d_31_54_4 ?_
  refine lv_aload_n hx hb d_31_54_5 rfl (lv_at hl 0 rfl) ?_
  refine q_goi V (q_runVs (As := []) (rest := [.int 2]) (d := 1) (mc := 0) (ms := 0) (i := 7) C0 V rfl LV_jStr_335 (T_jStr_coder_7 l D g q ws   hI   _) rfl rfl rfl hl.1 rfl (Nat.le_of_ble_eq_true rfl) ⟨by decide, by decide⟩ ⟨Nat.le_of_ble_eq_true rfl, Nat.le_of_ble_eq_true rfl⟩ d_31_54_6) (fun a3 u1 H locs hp2 V => ?_)
  obtain ⟨rfl, b4, b5⟩ := hp2
  replace b4 : q_F (0 ≤ a3.toInt) := b4
  replace b5 : q_F (a3.toInt ≤ 0) := b5
  obtain rfl : a3 = (0 : Int32) := q_Ieq (x := a3.toInt) (y := 0) rfl (by decide) (by have t1 : 0 ≤ a3.toInt := b4; have t2 : a3.toInt ≤ 0 := b5; omega)
  refine lv_ishr hx hb d_31_54_9 ?_
  refine q_ti (v := 2) (by decide) ?_
  exact q_reti C0 V (⟨rfl, (show 2 ≤ (2 : Int32).toInt from (by have z0 : (2 : Int32).toInt = 2 := rfl; omega)), (show (2 : Int32).toInt ≤ 2 from (by have z0 : (2 : Int32).toInt = 2 := rfl; omega))⟩) d_31_54_10
set_option maxRecDepth 100000 in
set_option maxHeartbeats 4000000 in
theorem T_jStr_isLatin1_7 (l : Launch) (D : va_G) (g : Nat → ClassId) (q : Nat → Nat) (ws : va_W) (hI : q_I (nsh g q) q ws) : q_mI l y_jStr_isLatin1 prog_31_method_154_code 1 (.boolean) 1 0 0 D g [.ref (g (8 + 2 * 7))] ws (fun r u => ws = u ∧ (1 ≤ r.toInt) ∧ (r.toInt ≤ 1)) := by
  intro sz
  refine q_into (by decide) (Nat.le_of_ble_eq_true rfl) ?_
  intro p e s m below meth c ls hsz C0 V hl
  have hx := C0.1
  have hb := C0.2.1
  have hl : lv_has ls 1 [(0, .ref (g (8 + 2 * 7)))] := hl
  refine q_scmp C0 V rfl w_663 d_31_154_0 ?_
  refine lv_if_eq (tgt := 17) hx hb d_31_154_3 (by decide) (fun c1 => absurd c1 (by decide)) (fun c1 => ?_)
  refine lv_aload_n hx hb d_31_154_6 rfl (lv_at hl 0 rfl) ?_
  refine q_scod (i := 7) C0 V rfl rfl w_1019 d_31_154_7 ?_
  refine lv_if_ne (tgt := 17) hx hb d_31_154_10 (by decide) (fun c2 => absurd (by decide) c2) (fun c2 => ?_)
  refine lv_iconst (v := 1) hx hb d_31_154_13 (by decide) ?_
  refine lv_goto (tgt := 18) hx hb d_31_154_14 (by decide) ?_
  exact q_retz C0 V (by decide) (⟨rfl, (show 1 ≤ (1 : Int32).toInt from (by have z0 : (1 : Int32).toInt = 1 := rfl; omega)), (show (1 : Int32).toInt ≤ 1 from (by have z0 : (1 : Int32).toInt = 1 := rfl; omega))⟩) d_31_154_18
set_option maxRecDepth 100000 in
set_option maxHeartbeats 4000000 in
theorem T_jStr_coder_8 (l : Launch) (D : va_G) (g : Nat → ClassId) (q : Nat → Nat) (ws : va_W) (hI : q_I (nsh g q) q ws) : q_mI l y_jStr_coder prog_31_method_152_code 1 (.byte) 1 0 0 D g [.ref (g (8 + 2 * 8))] ws (fun r u => ws = u ∧ (0 ≤ r.toInt) ∧ (r.toInt ≤ 0)) := by
  intro sz
  refine q_into (by decide) (Nat.le_of_ble_eq_true rfl) ?_
  intro p e s m below meth c ls hsz C0 V hl
  have hx := C0.1
  have hb := C0.2.1
  have hl : lv_has ls 1 [(0, .ref (g (8 + 2 * 8)))] := hl
  refine q_scmp C0 V rfl w_663 d_31_152_0 ?_
  refine lv_if_eq (tgt := 13) hx hb d_31_152_3 (by decide) (fun c1 => absurd c1 (by decide)) (fun c1 => ?_)
  refine lv_aload_n hx hb d_31_152_6 rfl (lv_at hl 0 rfl) ?_
  refine q_scod (i := 8) C0 V rfl rfl w_1019 d_31_152_7 ?_
  refine lv_goto (tgt := 14) hx hb d_31_152_10 (by decide) ?_
  exact q_retn C0 V (rfl) (⟨rfl, (show 0 ≤ (0 : Int32).toInt from (by have z0 : (0 : Int32).toInt = 0 := rfl; omega)), (show (0 : Int32).toInt ≤ 0 from (by have z0 : (0 : Int32).toInt = 0 := rfl; omega))⟩) d_31_152_14
set_option maxRecDepth 100000 in
set_option maxHeartbeats 4000000 in
theorem T_jStr_length_8 (l : Launch) (D : va_G) (g : Nat → ClassId) (q : Nat → Nat) (ws : va_W) (hI : q_I (nsh g q) q ws) : q_mI l y_jStr_length prog_31_method_54_code 1 (.int) 2 0 0 D g [.ref (g (8 + 2 * 8))] ws (fun r u => ws = u ∧ (4 ≤ r.toInt) ∧ (r.toInt ≤ 4)) := by
  intro sz
  refine q_into (by decide) (Nat.le_of_ble_eq_true rfl) ?_
  intro p e s m below meth c ls hsz C0 V hl
  have hx := C0.1
  have hb := C0.2.1
  have hl : lv_has ls 1 [(0, .ref (g (8 + 2 * 8)))] := hl
  refine lv_aload_n hx hb d_31_54_0 rfl (lv_at hl 0 rfl) ?_
  refine q_sval (i := 8) C0 V rfl rfl w_1018 d_31_54_1 ?_
  refine q_slen (i := 8) (v := 4) C0 V rfl (by decide) d_31_54_4 ?_
  refine lv_aload_n hx hb d_31_54_5 rfl (lv_at hl 0 rfl) ?_
  refine q_goi V (q_runVs (As := []) (rest := [.int 4]) (d := 1) (mc := 0) (ms := 0) (i := 8) C0 V rfl LV_jStr_335 (T_jStr_coder_8 l D g q ws   hI   _) rfl rfl rfl hl.1 rfl (Nat.le_of_ble_eq_true rfl) ⟨by decide, by decide⟩ ⟨Nat.le_of_ble_eq_true rfl, Nat.le_of_ble_eq_true rfl⟩ d_31_54_6) (fun a3 u1 H locs hp2 V => ?_)
  obtain ⟨rfl, b4, b5⟩ := hp2
  replace b4 : q_F (0 ≤ a3.toInt) := b4
  replace b5 : q_F (a3.toInt ≤ 0) := b5
  obtain rfl : a3 = (0 : Int32) := q_Ieq (x := a3.toInt) (y := 0) rfl (by decide) (by have t1 : 0 ≤ a3.toInt := b4; have t2 : a3.toInt ≤ 0 := b5; omega)
  refine lv_ishr hx hb d_31_54_9 ?_
  refine q_ti (v := 4) (by decide) ?_
  exact q_reti C0 V (⟨rfl, (show 4 ≤ (4 : Int32).toInt from (by have z0 : (4 : Int32).toInt = 4 := rfl; omega)), (show (4 : Int32).toInt ≤ 4 from (by have z0 : (4 : Int32).toInt = 4 := rfl; omega))⟩) d_31_54_10
set_option maxRecDepth 100000 in
set_option maxHeartbeats 4000000 in
theorem T_jStr_isLatin1_8 (l : Launch) (D : va_G) (g : Nat → ClassId) (q : Nat → Nat) (ws : va_W) (hI : q_I (nsh g q) q ws) : q_mI l y_jStr_isLatin1 prog_31_method_154_code 1 (.boolean) 1 0 0 D g [.ref (g (8 + 2 * 8))] ws (fun r u => ws = u ∧ (1 ≤ r.toInt) ∧ (r.toInt ≤ 1)) := by
  intro sz
  refine q_into (by decide) (Nat.le_of_ble_eq_true rfl) ?_
  intro p e s m below meth c ls hsz C0 V hl
  have hx := C0.1
  have hb := C0.2.1
  have hl : lv_has ls 1 [(0, .ref (g (8 + 2 * 8)))] := hl
  refine q_scmp C0 V rfl w_663 d_31_154_0 ?_
  refine lv_if_eq (tgt := 17) hx hb d_31_154_3 (by decide) (fun c1 => absurd c1 (by decide)) (fun c1 => ?_)
  refine lv_aload_n hx hb d_31_154_6 rfl (lv_at hl 0 rfl) ?_
  refine q_scod (i := 8) C0 V rfl rfl w_1019 d_31_154_7 ?_
  refine lv_if_ne (tgt := 17) hx hb d_31_154_10 (by decide) (fun c2 => absurd (by decide) c2) (fun c2 => ?_)
  refine lv_iconst (v := 1) hx hb d_31_154_13 (by decide) ?_
  refine lv_goto (tgt := 18) hx hb d_31_154_14 (by decide) ?_
  exact q_retz C0 V (by decide) (⟨rfl, (show 1 ≤ (1 : Int32).toInt from (by have z0 : (1 : Int32).toInt = 1 := rfl; omega)), (show (1 : Int32).toInt ≤ 1 from (by have z0 : (1 : Int32).toInt = 1 := rfl; omega))⟩) d_31_154_18
set_option maxRecDepth 100000 in
set_option maxHeartbeats 4000000 in
theorem T_jStr_coder_9 (l : Launch) (D : va_G) (g : Nat → ClassId) (q : Nat → Nat) (ws : va_W) (hI : q_I (nsh g q) q ws) : q_mI l y_jStr_coder prog_31_method_152_code 1 (.byte) 1 0 0 D g [.ref (g (8 + 2 * 9))] ws (fun r u => ws = u ∧ (0 ≤ r.toInt) ∧ (r.toInt ≤ 0)) := by
  intro sz
  refine q_into (by decide) (Nat.le_of_ble_eq_true rfl) ?_
  intro p e s m below meth c ls hsz C0 V hl
  have hx := C0.1
  have hb := C0.2.1
  have hl : lv_has ls 1 [(0, .ref (g (8 + 2 * 9)))] := hl
  refine q_scmp C0 V rfl w_663 d_31_152_0 ?_
  refine lv_if_eq (tgt := 13) hx hb d_31_152_3 (by decide) (fun c1 => absurd c1 (by decide)) (fun c1 => ?_)
  refine lv_aload_n hx hb d_31_152_6 rfl (lv_at hl 0 rfl) ?_
  refine q_scod (i := 9) C0 V rfl rfl w_1019 d_31_152_7 ?_
  refine lv_goto (tgt := 14) hx hb d_31_152_10 (by decide) ?_
  exact q_retn C0 V (rfl) (⟨rfl, (show 0 ≤ (0 : Int32).toInt from (by have z0 : (0 : Int32).toInt = 0 := rfl; omega)), (show (0 : Int32).toInt ≤ 0 from (by have z0 : (0 : Int32).toInt = 0 := rfl; omega))⟩) d_31_152_14
set_option maxRecDepth 100000 in
set_option maxHeartbeats 4000000 in
theorem T_jStr_length_9 (l : Launch) (D : va_G) (g : Nat → ClassId) (q : Nat → Nat) (ws : va_W) (hI : q_I (nsh g q) q ws) : q_mI l y_jStr_length prog_31_method_54_code 1 (.int) 2 0 0 D g [.ref (g (8 + 2 * 9))] ws (fun r u => ws = u ∧ (2 ≤ r.toInt) ∧ (r.toInt ≤ 2)) := by
  intro sz
  refine q_into (by decide) (Nat.le_of_ble_eq_true rfl) ?_
  intro p e s m below meth c ls hsz C0 V hl
  have hx := C0.1
  have hb := C0.2.1
  have hl : lv_has ls 1 [(0, .ref (g (8 + 2 * 9)))] := hl
  refine lv_aload_n hx hb d_31_54_0 rfl (lv_at hl 0 rfl) ?_
  refine q_sval (i := 9) C0 V rfl rfl w_1018 d_31_54_1 ?_
  refine q_slen (i := 9) (v := 2) C0 V rfl (by decide) d_31_54_4 ?_
  refine lv_aload_n hx hb d_31_54_5 rfl (lv_at hl 0 rfl) ?_
  refine q_goi V (q_runVs (As := []) (rest := [.int 2]) (d := 1) (mc := 0) (ms := 0) (i := 9) C0 V rfl LV_jStr_335 (T_jStr_coder_9 l D g q ws   hI   _) rfl rfl rfl hl.1 rfl (Nat.le_of_ble_eq_true rfl) ⟨by decide, by decide⟩ ⟨Nat.le_of_ble_eq_true rfl, Nat.le_of_ble_eq_true rfl⟩ d_31_54_6) (fun a3 u1 H locs hp2 V => ?_)
  obtain ⟨rfl, b4, b5⟩ := hp2
  replace b4 : q_F (0 ≤ a3.toInt) := b4
  replace b5 : q_F (a3.toInt ≤ 0) := b5
  obtain rfl : a3 = (0 : Int32) := q_Ieq (x := a3.toInt) (y := 0) rfl (by decide) (by have t1 : 0 ≤ a3.toInt := b4; have t2 : a3.toInt ≤ 0 := b5; omega)
  refine lv_ishr hx hb d_31_54_9 ?_
  refine q_ti (v := 2) (by decide) ?_
  exact q_reti C0 V (⟨rfl, (show 2 ≤ (2 : Int32).toInt from (by have z0 : (2 : Int32).toInt = 2 := rfl; omega)), (show (2 : Int32).toInt ≤ 2 from (by have z0 : (2 : Int32).toInt = 2 := rfl; omega))⟩) d_31_54_10
set_option maxRecDepth 100000 in
set_option maxHeartbeats 4000000 in
theorem T_jStr_isLatin1_9 (l : Launch) (D : va_G) (g : Nat → ClassId) (q : Nat → Nat) (ws : va_W) (hI : q_I (nsh g q) q ws) : q_mI l y_jStr_isLatin1 prog_31_method_154_code 1 (.boolean) 1 0 0 D g [.ref (g (8 + 2 * 9))] ws (fun r u => ws = u ∧ (1 ≤ r.toInt) ∧ (r.toInt ≤ 1)) := by
  intro sz
  refine q_into (by decide) (Nat.le_of_ble_eq_true rfl) ?_
  intro p e s m below meth c ls hsz C0 V hl
  have hx := C0.1
  have hb := C0.2.1
  have hl : lv_has ls 1 [(0, .ref (g (8 + 2 * 9)))] := hl
  refine q_scmp C0 V rfl w_663 d_31_154_0 ?_
  refine lv_if_eq (tgt := 17) hx hb d_31_154_3 (by decide) (fun c1 => absurd c1 (by decide)) (fun c1 => ?_)
  refine lv_aload_n hx hb d_31_154_6 rfl (lv_at hl 0 rfl) ?_
  refine q_scod (i := 9) C0 V rfl rfl w_1019 d_31_154_7 ?_
  refine lv_if_ne (tgt := 17) hx hb d_31_154_10 (by decide) (fun c2 => absurd (by decide) c2) (fun c2 => ?_)
  refine lv_iconst (v := 1) hx hb d_31_154_13 (by decide) ?_
  refine lv_goto (tgt := 18) hx hb d_31_154_14 (by decide) ?_
  exact q_retz C0 V (by decide) (⟨rfl, (show 1 ≤ (1 : Int32).toInt from (by have z0 : (1 : Int32).toInt = 1 := rfl; omega)), (show (1 : Int32).toInt ≤ 1 from (by have z0 : (1 : Int32).toInt = 1 := rfl; omega))⟩) d_31_154_18
set_option maxRecDepth 100000 in
set_option maxHeartbeats 4000000 in
theorem T_jStr_coder_10 (l : Launch) (D : va_G) (g : Nat → ClassId) (q : Nat → Nat) (ws : va_W) (hI : q_I (nsh g q) q ws) : q_mI l y_jStr_coder prog_31_method_152_code 1 (.byte) 1 0 0 D g [.ref (g (8 + 2 * 10))] ws (fun r u => ws = u ∧ (0 ≤ r.toInt) ∧ (r.toInt ≤ 0)) := by
  intro sz
  refine q_into (by decide) (Nat.le_of_ble_eq_true rfl) ?_
  intro p e s m below meth c ls hsz C0 V hl
  have hx := C0.1
  have hb := C0.2.1
  have hl : lv_has ls 1 [(0, .ref (g (8 + 2 * 10)))] := hl
  refine q_scmp C0 V rfl w_663 d_31_152_0 ?_
  refine lv_if_eq (tgt := 13) hx hb d_31_152_3 (by decide) (fun c1 => absurd c1 (by decide)) (fun c1 => ?_)
  refine lv_aload_n hx hb d_31_152_6 rfl (lv_at hl 0 rfl) ?_
  refine q_scod (i := 10) C0 V rfl rfl w_1019 d_31_152_7 ?_
  refine lv_goto (tgt := 14) hx hb d_31_152_10 (by decide) ?_
  exact q_retn C0 V (rfl) (⟨rfl, (show 0 ≤ (0 : Int32).toInt from (by have z0 : (0 : Int32).toInt = 0 := rfl; omega)), (show (0 : Int32).toInt ≤ 0 from (by have z0 : (0 : Int32).toInt = 0 := rfl; omega))⟩) d_31_152_14
set_option maxRecDepth 100000 in
set_option maxHeartbeats 4000000 in
theorem T_jStr_length_10 (l : Launch) (D : va_G) (g : Nat → ClassId) (q : Nat → Nat) (ws : va_W) (hI : q_I (nsh g q) q ws) : q_mI l y_jStr_length prog_31_method_54_code 1 (.int) 2 0 0 D g [.ref (g (8 + 2 * 10))] ws (fun r u => ws = u ∧ (4 ≤ r.toInt) ∧ (r.toInt ≤ 4)) := by
  intro sz
  refine q_into (by decide) (Nat.le_of_ble_eq_true rfl) ?_
  intro p e s m below meth c ls hsz C0 V hl
  have hx := C0.1
  have hb := C0.2.1
  have hl : lv_has ls 1 [(0, .ref (g (8 + 2 * 10)))] := hl
  refine lv_aload_n hx hb d_31_54_0 rfl (lv_at hl 0 rfl) ?_
  refine q_sval (i := 10) C0 V rfl rfl w_1018 d_31_54_1 ?_
  refine q_slen (i := 10) (v := 4) C0 V rfl (by decide) d_31_54_4 ?_
  refine lv_aload_n hx hb d_31_54_5 rfl (lv_at hl 0 rfl) ?_
  refine q_goi V (q_runVs (As := []) (rest := [.int 4]) (d := 1) (mc := 0) (ms := 0) (i := 10) C0 V rfl LV_jStr_335 (T_jStr_coder_10 l D g q ws   hI   _) rfl rfl rfl hl.1 rfl (Nat.le_of_ble_eq_true rfl) ⟨by decide, by decide⟩ ⟨Nat.le_of_ble_eq_true rfl, Nat.le_of_ble_eq_true rfl⟩ d_31_54_6) (fun a3 u1 H locs hp2 V => ?_)
  obtain ⟨rfl, b4, b5⟩ := hp2
  replace b4 : q_F (0 ≤ a3.toInt) := b4
  replace b5 : q_F (a3.toInt ≤ 0) := b5
  obtain rfl : a3 = (0 : Int32) := q_Ieq (x := a3.toInt) (y := 0) rfl (by decide) (by have t1 : 0 ≤ a3.toInt := b4; have t2 : a3.toInt ≤ 0 := b5; omega)
  refine lv_ishr hx hb d_31_54_9 ?_
  refine q_ti (v := 4) (by decide) ?_
  exact q_reti C0 V (⟨rfl, (show 4 ≤ (4 : Int32).toInt from (by have z0 : (4 : Int32).toInt = 4 := rfl; omega)), (show (4 : Int32).toInt ≤ 4 from (by have z0 : (4 : Int32).toInt = 4 := rfl; omega))⟩) d_31_54_10
set_option maxRecDepth 100000 in
set_option maxHeartbeats 4000000 in
theorem T_jStr_isLatin1_10 (l : Launch) (D : va_G) (g : Nat → ClassId) (q : Nat → Nat) (ws : va_W) (hI : q_I (nsh g q) q ws) : q_mI l y_jStr_isLatin1 prog_31_method_154_code 1 (.boolean) 1 0 0 D g [.ref (g (8 + 2 * 10))] ws (fun r u => ws = u ∧ (1 ≤ r.toInt) ∧ (r.toInt ≤ 1)) := by
  intro sz
  refine q_into (by decide) (Nat.le_of_ble_eq_true rfl) ?_
  intro p e s m below meth c ls hsz C0 V hl
  have hx := C0.1
  have hb := C0.2.1
  have hl : lv_has ls 1 [(0, .ref (g (8 + 2 * 10)))] := hl
  refine q_scmp C0 V rfl w_663 d_31_154_0 ?_
  refine lv_if_eq (tgt := 17) hx hb d_31_154_3 (by decide) (fun c1 => absurd c1 (by decide)) (fun c1 => ?_)
  refine lv_aload_n hx hb d_31_154_6 rfl (lv_at hl 0 rfl) ?_
  refine q_scod (i := 10) C0 V rfl rfl w_1019 d_31_154_7 ?_
  refine lv_if_ne (tgt := 17) hx hb d_31_154_10 (by decide) (fun c2 => absurd (by decide) c2) (fun c2 => ?_)
  refine lv_iconst (v := 1) hx hb d_31_154_13 (by decide) ?_
  refine lv_goto (tgt := 18) hx hb d_31_154_14 (by decide) ?_
  exact q_retz C0 V (by decide) (⟨rfl, (show 1 ≤ (1 : Int32).toInt from (by have z0 : (1 : Int32).toInt = 1 := rfl; omega)), (show (1 : Int32).toInt ≤ 1 from (by have z0 : (1 : Int32).toInt = 1 := rfl; omega))⟩) d_31_154_18
set_option maxRecDepth 100000 in
set_option maxHeartbeats 4000000 in
theorem T_jStr_coder_11 (l : Launch) (D : va_G) (g : Nat → ClassId) (q : Nat → Nat) (ws : va_W) (hI : q_I (nsh g q) q ws) : q_mI l y_jStr_coder prog_31_method_152_code 1 (.byte) 1 0 0 D g [.ref (g (8 + 2 * 11))] ws (fun r u => ws = u ∧ (0 ≤ r.toInt) ∧ (r.toInt ≤ 0)) := by
  intro sz
  refine q_into (by decide) (Nat.le_of_ble_eq_true rfl) ?_
  intro p e s m below meth c ls hsz C0 V hl
  have hx := C0.1
  have hb := C0.2.1
  have hl : lv_has ls 1 [(0, .ref (g (8 + 2 * 11)))] := hl
  refine q_scmp C0 V rfl w_663 d_31_152_0 ?_
  refine lv_if_eq (tgt := 13) hx hb d_31_152_3 (by decide) (fun c1 => absurd c1 (by decide)) (fun c1 => ?_)
  refine lv_aload_n hx hb d_31_152_6 rfl (lv_at hl 0 rfl) ?_
  refine q_scod (i := 11) C0 V rfl rfl w_1019 d_31_152_7 ?_
  refine lv_goto (tgt := 14) hx hb d_31_152_10 (by decide) ?_
  exact q_retn C0 V (rfl) (⟨rfl, (show 0 ≤ (0 : Int32).toInt from (by have z0 : (0 : Int32).toInt = 0 := rfl; omega)), (show (0 : Int32).toInt ≤ 0 from (by have z0 : (0 : Int32).toInt = 0 := rfl; omega))⟩) d_31_152_14
set_option maxRecDepth 100000 in
set_option maxHeartbeats 4000000 in
theorem T_jStr_length_11 (l : Launch) (D : va_G) (g : Nat → ClassId) (q : Nat → Nat) (ws : va_W) (hI : q_I (nsh g q) q ws) : q_mI l y_jStr_length prog_31_method_54_code 1 (.int) 2 0 0 D g [.ref (g (8 + 2 * 11))] ws (fun r u => ws = u ∧ (2 ≤ r.toInt) ∧ (r.toInt ≤ 2)) := by
  intro sz
  refine q_into (by decide) (Nat.le_of_ble_eq_true rfl) ?_
  intro p e s m below meth c ls hsz C0 V hl
  have hx := C0.1
  have hb := C0.2.1
  have hl : lv_has ls 1 [(0, .ref (g (8 + 2 * 11)))] := hl
  refine lv_aload_n hx hb d_31_54_0 rfl (lv_at hl 0 rfl) ?_
  refine q_sval (i := 11) C0 V rfl rfl w_1018 d_31_54_1 ?_
  refine q_slen (i := 11) (v := 2) C0 V rfl (by decide) d_31_54_4 ?_
  refine lv_aload_n hx hb d_31_54_5 rfl (lv_at hl 0 rfl) ?_
  refine q_goi V (q_runVs (As := []) (rest := [.int 2]) (d := 1) (mc := 0) (ms := 0) (i := 11) C0 V rfl LV_jStr_335 (T_jStr_coder_11 l D g q ws   hI   _) rfl rfl rfl hl.1 rfl (Nat.le_of_ble_eq_true rfl) ⟨by decide, by decide⟩ ⟨Nat.le_of_ble_eq_true rfl, Nat.le_of_ble_eq_true rfl⟩ d_31_54_6) (fun a3 u1 H locs hp2 V => ?_)
  obtain ⟨rfl, b4, b5⟩ := hp2
  replace b4 : q_F (0 ≤ a3.toInt) := b4
  replace b5 : q_F (a3.toInt ≤ 0) := b5
  obtain rfl : a3 = (0 : Int32) := q_Ieq (x := a3.toInt) (y := 0) rfl (by decide) (by have t1 : 0 ≤ a3.toInt := b4; have t2 : a3.toInt ≤ 0 := b5; omega)
  refine lv_ishr hx hb d_31_54_9 ?_
  refine q_ti (v := 2) (by decide) ?_
  exact q_reti C0 V (⟨rfl, (show 2 ≤ (2 : Int32).toInt from (by have z0 : (2 : Int32).toInt = 2 := rfl; omega)), (show (2 : Int32).toInt ≤ 2 from (by have z0 : (2 : Int32).toInt = 2 := rfl; omega))⟩) d_31_54_10
set_option maxRecDepth 100000 in
set_option maxHeartbeats 4000000 in
theorem T_jStr_isLatin1_11 (l : Launch) (D : va_G) (g : Nat → ClassId) (q : Nat → Nat) (ws : va_W) (hI : q_I (nsh g q) q ws) : q_mI l y_jStr_isLatin1 prog_31_method_154_code 1 (.boolean) 1 0 0 D g [.ref (g (8 + 2 * 11))] ws (fun r u => ws = u ∧ (1 ≤ r.toInt) ∧ (r.toInt ≤ 1)) := by
  intro sz
  refine q_into (by decide) (Nat.le_of_ble_eq_true rfl) ?_
  intro p e s m below meth c ls hsz C0 V hl
  have hx := C0.1
  have hb := C0.2.1
  have hl : lv_has ls 1 [(0, .ref (g (8 + 2 * 11)))] := hl
  refine q_scmp C0 V rfl w_663 d_31_154_0 ?_
  refine lv_if_eq (tgt := 17) hx hb d_31_154_3 (by decide) (fun c1 => absurd c1 (by decide)) (fun c1 => ?_)
  refine lv_aload_n hx hb d_31_154_6 rfl (lv_at hl 0 rfl) ?_
  refine q_scod (i := 11) C0 V rfl rfl w_1019 d_31_154_7 ?_
  refine lv_if_ne (tgt := 17) hx hb d_31_154_10 (by decide) (fun c2 => absurd (by decide) c2) (fun c2 => ?_)
  refine lv_iconst (v := 1) hx hb d_31_154_13 (by decide) ?_
  refine lv_goto (tgt := 18) hx hb d_31_154_14 (by decide) ?_
  exact q_retz C0 V (by decide) (⟨rfl, (show 1 ≤ (1 : Int32).toInt from (by have z0 : (1 : Int32).toInt = 1 := rfl; omega)), (show (1 : Int32).toInt ≤ 1 from (by have z0 : (1 : Int32).toInt = 1 := rfl; omega))⟩) d_31_154_18
set_option maxRecDepth 100000 in
set_option maxHeartbeats 4000000 in
theorem T_jStr_coder_12 (l : Launch) (D : va_G) (g : Nat → ClassId) (q : Nat → Nat) (ws : va_W) (hI : q_I (nsh g q) q ws) : q_mI l y_jStr_coder prog_31_method_152_code 1 (.byte) 1 0 0 D g [.ref (g (8 + 2 * 12))] ws (fun r u => ws = u ∧ (0 ≤ r.toInt) ∧ (r.toInt ≤ 0)) := by
  intro sz
  refine q_into (by decide) (Nat.le_of_ble_eq_true rfl) ?_
  intro p e s m below meth c ls hsz C0 V hl
  have hx := C0.1
  have hb := C0.2.1
  have hl : lv_has ls 1 [(0, .ref (g (8 + 2 * 12)))] := hl
  refine q_scmp C0 V rfl w_663 d_31_152_0 ?_
  refine lv_if_eq (tgt := 13) hx hb d_31_152_3 (by decide) (fun c1 => absurd c1 (by decide)) (fun c1 => ?_)
  refine lv_aload_n hx hb d_31_152_6 rfl (lv_at hl 0 rfl) ?_
  refine q_scod (i := 12) C0 V rfl rfl w_1019 d_31_152_7 ?_
  refine lv_goto (tgt := 14) hx hb d_31_152_10 (by decide) ?_
  exact q_retn C0 V (rfl) (⟨rfl, (show 0 ≤ (0 : Int32).toInt from (by have z0 : (0 : Int32).toInt = 0 := rfl; omega)), (show (0 : Int32).toInt ≤ 0 from (by have z0 : (0 : Int32).toInt = 0 := rfl; omega))⟩) d_31_152_14
set_option maxRecDepth 100000 in
set_option maxHeartbeats 4000000 in
theorem T_jStr_isLatin1_12 (l : Launch) (D : va_G) (g : Nat → ClassId) (q : Nat → Nat) (ws : va_W) (hI : q_I (nsh g q) q ws) : q_mI l y_jStr_isLatin1 prog_31_method_154_code 1 (.boolean) 1 0 0 D g [.ref (g (8 + 2 * 12))] ws (fun r u => ws = u ∧ (1 ≤ r.toInt) ∧ (r.toInt ≤ 1)) := by
  intro sz
  refine q_into (by decide) (Nat.le_of_ble_eq_true rfl) ?_
  intro p e s m below meth c ls hsz C0 V hl
  have hx := C0.1
  have hb := C0.2.1
  have hl : lv_has ls 1 [(0, .ref (g (8 + 2 * 12)))] := hl
  refine q_scmp C0 V rfl w_663 d_31_154_0 ?_
  refine lv_if_eq (tgt := 17) hx hb d_31_154_3 (by decide) (fun c1 => absurd c1 (by decide)) (fun c1 => ?_)
  refine lv_aload_n hx hb d_31_154_6 rfl (lv_at hl 0 rfl) ?_
  refine q_scod (i := 12) C0 V rfl rfl w_1019 d_31_154_7 ?_
  refine lv_if_ne (tgt := 17) hx hb d_31_154_10 (by decide) (fun c2 => absurd (by decide) c2) (fun c2 => ?_)
  refine lv_iconst (v := 1) hx hb d_31_154_13 (by decide) ?_
  refine lv_goto (tgt := 18) hx hb d_31_154_14 (by decide) ?_
  exact q_retz C0 V (by decide) (⟨rfl, (show 1 ≤ (1 : Int32).toInt from (by have z0 : (1 : Int32).toInt = 1 := rfl; omega)), (show (1 : Int32).toInt ≤ 1 from (by have z0 : (1 : Int32).toInt = 1 := rfl; omega))⟩) d_31_154_18
theorem d_33_2_0 : decode prog_33_method_2_code 0 = .ok (.iload_n 1, 1) := by decide +kernel
theorem d_33_2_1 : decode prog_33_method_2_code 1 = .ok (.aload_n 0, 1) := by decide +kernel
theorem d_33_2_2 : decode prog_33_method_2_code 2 = .ok (.arraylength, 1) := by decide +kernel
theorem d_33_2_3 : decode prog_33_method_2_code 3 = .ok (.invokestatic 9, 3) := by decide +kernel
set_option maxRecDepth 100000 in
theorem w_678 : (Cond.code ({ cls := "java/lang/String", name := "checkIndex", desc := "(II)V" } : MethodName) prog_31_method_155_code (2 : Nat) (none : Option ClassFile.FieldType)) ∈ q_tbl := q_of3 198 rfl (by decide +kernel)
set_option maxRecDepth 100000 in
theorem w_676 : (Cond.methodLink "java/lang/StringLatin1" (9 : Nat) ({ cls := "java/lang/String", name := "checkIndex", desc := "(II)V" } : MethodName)) ∈ q_tbl := q_of3 196 rfl (by decide +kernel)
set_option maxRecDepth 100000 in
theorem w_677 : (Cond.static ({ cls := "java/lang/String", name := "checkIndex", desc := "(II)V" } : MethodName)) ∈ q_tbl := q_of3 197 rfl (by decide +kernel)
theorem LS_jLat_9 : q_LS "java/lang/StringLatin1" 9 y_jStr_checkIndex prog_31_method_155_code 2 none 2 := ⟨w_678, w_25, w_676, w_677, ⟨by decide, by decide, by decide +kernel⟩⟩
theorem d_33_2_6 : decode prog_33_method_2_code 6 = .ok (.aload_n 0, 1) := by decide +kernel
theorem d_33_2_7 : decode prog_33_method_2_code 7 = .ok (.iload_n 1, 1) := by decide +kernel
theorem d_33_2_8 : decode prog_33_method_2_code 8 = .ok (.baload, 1) := by decide +kernel
theorem d_33_2_9 : decode prog_33_method_2_code 9 = .ok (.sipush 255, 3) := by decide +kernel
theorem d_33_2_12 : decode prog_33_method_2_code 12 = .ok (.iand, 1) := by decide +kernel
theorem d_33_2_13 : decode prog_33_method_2_code 13 = .ok (.i2c, 1) := by decide +kernel
theorem d_33_2_14 : decode prog_33_method_2_code 14 = .ok (.ireturn, 1) := by decide +kernel
def y_jLat_charAt : MethodName := ⟨"java/lang/StringLatin1", "charAt", "([BI)C"⟩
theorem d_31_56_0 : decode prog_31_method_56_code 0 = .ok (.aload_n 0, 1) := by decide +kernel
theorem d_31_56_1 : decode prog_31_method_56_code 1 = .ok (.invokevirtual 492, 3) := by decide +kernel
theorem d_31_56_4 : decode prog_31_method_56_code 4 = .ok (.ifCond .eq 12, 3) := by decide +kernel
theorem d_31_56_7 : decode prog_31_method_56_code 7 = .ok (.aload_n 0, 1) := by decide +kernel
theorem d_31_56_8 : decode prog_31_method_56_code 8 = .ok (.getfield 9, 3) := by decide +kernel
theorem d_31_56_11 : decode prog_31_method_56_code 11 = .ok (.iload_n 1, 1) := by decide +kernel
theorem d_31_56_12 : decode prog_31_method_56_code 12 = .ok (.invokestatic 495, 3) := by decide +kernel
set_option maxRecDepth 100000 in
theorem w_675 : (Cond.code ({ cls := "java/lang/StringLatin1", name := "charAt", desc := "([BI)C" } : MethodName) prog_33_method_2_code (2 : Nat) (some .char)) ∈ q_tbl := q_of3 195 rfl (by decide +kernel)
set_option maxRecDepth 100000 in
theorem w_673 : (Cond.methodLink "java/lang/String" (495 : Nat) ({ cls := "java/lang/StringLatin1", name := "charAt", desc := "([BI)C" } : MethodName)) ∈ q_tbl := q_of3 193 rfl (by decide +kernel)
set_option maxRecDepth 100000 in
theorem w_674 : (Cond.static ({ cls := "java/lang/StringLatin1", name := "charAt", desc := "([BI)C" } : MethodName)) ∈ q_tbl := q_of3 194 rfl (by decide +kernel)
theorem LS_jStr_495 : q_LS "java/lang/String" 495 y_jLat_charAt prog_33_method_2_code 2 (some .char) 2 := ⟨w_675, w_26, w_673, w_674, ⟨by decide, by decide, by decide +kernel⟩⟩
theorem d_31_56_15 : decode prog_31_method_56_code 15 = .ok (.ireturn, 1) := by decide +kernel
def y_jStr_charAt : MethodName := ⟨"java/lang/String", "charAt", "(I)C"⟩
set_option maxRecDepth 100000 in
set_option maxHeartbeats 4000000 in
theorem T_jStr_coder_13 (l : Launch) (D : va_G) (g : Nat → ClassId) (q : Nat → Nat) (ws : va_W) (hI : q_I (nsh g q) q ws) : q_mI l y_jStr_coder prog_31_method_152_code 1 (.byte) 1 0 0 D g [.ref (g (8 + 2 * 13))] ws (fun r u => ws = u ∧ (0 ≤ r.toInt) ∧ (r.toInt ≤ 0)) := by
  intro sz
  refine q_into (by decide) (Nat.le_of_ble_eq_true rfl) ?_
  intro p e s m below meth c ls hsz C0 V hl
  have hx := C0.1
  have hb := C0.2.1
  have hl : lv_has ls 1 [(0, .ref (g (8 + 2 * 13)))] := hl
  refine q_scmp C0 V rfl w_663 d_31_152_0 ?_
  refine lv_if_eq (tgt := 13) hx hb d_31_152_3 (by decide) (fun c1 => absurd c1 (by decide)) (fun c1 => ?_)
  refine lv_aload_n hx hb d_31_152_6 rfl (lv_at hl 0 rfl) ?_
  refine q_scod (i := 13) C0 V rfl rfl w_1019 d_31_152_7 ?_
  refine lv_goto (tgt := 14) hx hb d_31_152_10 (by decide) ?_
  exact q_retn C0 V (rfl) (⟨rfl, (show 0 ≤ (0 : Int32).toInt from (by have z0 : (0 : Int32).toInt = 0 := rfl; omega)), (show (0 : Int32).toInt ≤ 0 from (by have z0 : (0 : Int32).toInt = 0 := rfl; omega))⟩) d_31_152_14
set_option maxRecDepth 100000 in
set_option maxHeartbeats 4000000 in
theorem T_jStr_isLatin1_13 (l : Launch) (D : va_G) (g : Nat → ClassId) (q : Nat → Nat) (ws : va_W) (hI : q_I (nsh g q) q ws) : q_mI l y_jStr_isLatin1 prog_31_method_154_code 1 (.boolean) 1 0 0 D g [.ref (g (8 + 2 * 13))] ws (fun r u => ws = u ∧ (1 ≤ r.toInt) ∧ (r.toInt ≤ 1)) := by
  intro sz
  refine q_into (by decide) (Nat.le_of_ble_eq_true rfl) ?_
  intro p e s m below meth c ls hsz C0 V hl
  have hx := C0.1
  have hb := C0.2.1
  have hl : lv_has ls 1 [(0, .ref (g (8 + 2 * 13)))] := hl
  refine q_scmp C0 V rfl w_663 d_31_154_0 ?_
  refine lv_if_eq (tgt := 17) hx hb d_31_154_3 (by decide) (fun c1 => absurd c1 (by decide)) (fun c1 => ?_)
  refine lv_aload_n hx hb d_31_154_6 rfl (lv_at hl 0 rfl) ?_
  refine q_scod (i := 13) C0 V rfl rfl w_1019 d_31_154_7 ?_
  refine lv_if_ne (tgt := 17) hx hb d_31_154_10 (by decide) (fun c2 => absurd (by decide) c2) (fun c2 => ?_)
  refine lv_iconst (v := 1) hx hb d_31_154_13 (by decide) ?_
  refine lv_goto (tgt := 18) hx hb d_31_154_14 (by decide) ?_
  exact q_retz C0 V (by decide) (⟨rfl, (show 1 ≤ (1 : Int32).toInt from (by have z0 : (1 : Int32).toInt = 1 := rfl; omega)), (show (1 : Int32).toInt ≤ 1 from (by have z0 : (1 : Int32).toInt = 1 := rfl; omega))⟩) d_31_154_18
set_option maxRecDepth 100000 in
set_option maxHeartbeats 4000000 in
theorem T_jStr_coder_14 (l : Launch) (D : va_G) (g : Nat → ClassId) (q : Nat → Nat) (ws : va_W) (hI : q_I (nsh g q) q ws) : q_mI l y_jStr_coder prog_31_method_152_code 1 (.byte) 1 0 0 D g [.ref (g (8 + 2 * 14))] ws (fun r u => ws = u ∧ (0 ≤ r.toInt) ∧ (r.toInt ≤ 0)) := by
  intro sz
  refine q_into (by decide) (Nat.le_of_ble_eq_true rfl) ?_
  intro p e s m below meth c ls hsz C0 V hl
  have hx := C0.1
  have hb := C0.2.1
  have hl : lv_has ls 1 [(0, .ref (g (8 + 2 * 14)))] := hl
  refine q_scmp C0 V rfl w_663 d_31_152_0 ?_
  refine lv_if_eq (tgt := 13) hx hb d_31_152_3 (by decide) (fun c1 => absurd c1 (by decide)) (fun c1 => ?_)
  refine lv_aload_n hx hb d_31_152_6 rfl (lv_at hl 0 rfl) ?_
  refine q_scod (i := 14) C0 V rfl rfl w_1019 d_31_152_7 ?_
  refine lv_goto (tgt := 14) hx hb d_31_152_10 (by decide) ?_
  exact q_retn C0 V (rfl) (⟨rfl, (show 0 ≤ (0 : Int32).toInt from (by have z0 : (0 : Int32).toInt = 0 := rfl; omega)), (show (0 : Int32).toInt ≤ 0 from (by have z0 : (0 : Int32).toInt = 0 := rfl; omega))⟩) d_31_152_14
set_option maxRecDepth 100000 in
set_option maxHeartbeats 4000000 in
theorem T_jStr_length_14 (l : Launch) (D : va_G) (g : Nat → ClassId) (q : Nat → Nat) (ws : va_W) (hI : q_I (nsh g q) q ws) : q_mI l y_jStr_length prog_31_method_54_code 1 (.int) 2 0 0 D g [.ref (g (8 + 2 * 14))] ws (fun r u => ws = u ∧ (2 ≤ r.toInt) ∧ (r.toInt ≤ 2)) := by
  intro sz
  refine q_into (by decide) (Nat.le_of_ble_eq_true rfl) ?_
  intro p e s m below meth c ls hsz C0 V hl
  have hx := C0.1
  have hb := C0.2.1
  have hl : lv_has ls 1 [(0, .ref (g (8 + 2 * 14)))] := hl
  refine lv_aload_n hx hb d_31_54_0 rfl (lv_at hl 0 rfl) ?_
  refine q_sval (i := 14) C0 V rfl rfl w_1018 d_31_54_1 ?_
  refine q_slen (i := 14) (v := 2) C0 V rfl (by decide) d_31_54_4 ?_
  refine lv_aload_n hx hb d_31_54_5 rfl (lv_at hl 0 rfl) ?_
  refine q_goi V (q_runVs (As := []) (rest := [.int 2]) (d := 1) (mc := 0) (ms := 0) (i := 14) C0 V rfl LV_jStr_335 (T_jStr_coder_14 l D g q ws   hI   _) rfl rfl rfl hl.1 rfl (Nat.le_of_ble_eq_true rfl) ⟨by decide, by decide⟩ ⟨Nat.le_of_ble_eq_true rfl, Nat.le_of_ble_eq_true rfl⟩ d_31_54_6) (fun a3 u1 H locs hp2 V => ?_)
  obtain ⟨rfl, b4, b5⟩ := hp2
  replace b4 : q_F (0 ≤ a3.toInt) := b4
  replace b5 : q_F (a3.toInt ≤ 0) := b5
  obtain rfl : a3 = (0 : Int32) := q_Ieq (x := a3.toInt) (y := 0) rfl (by decide) (by have t1 : 0 ≤ a3.toInt := b4; have t2 : a3.toInt ≤ 0 := b5; omega)
  refine lv_ishr hx hb d_31_54_9 ?_
  refine q_ti (v := 2) (by decide) ?_
  exact q_reti C0 V (⟨rfl, (show 2 ≤ (2 : Int32).toInt from (by have z0 : (2 : Int32).toInt = 2 := rfl; omega)), (show (2 : Int32).toInt ≤ 2 from (by have z0 : (2 : Int32).toInt = 2 := rfl; omega))⟩) d_31_54_10
set_option maxRecDepth 100000 in
set_option maxHeartbeats 4000000 in
theorem T_jStr_isLatin1_14 (l : Launch) (D : va_G) (g : Nat → ClassId) (q : Nat → Nat) (ws : va_W) (hI : q_I (nsh g q) q ws) : q_mI l y_jStr_isLatin1 prog_31_method_154_code 1 (.boolean) 1 0 0 D g [.ref (g (8 + 2 * 14))] ws (fun r u => ws = u ∧ (1 ≤ r.toInt) ∧ (r.toInt ≤ 1)) := by
  intro sz
  refine q_into (by decide) (Nat.le_of_ble_eq_true rfl) ?_
  intro p e s m below meth c ls hsz C0 V hl
  have hx := C0.1
  have hb := C0.2.1
  have hl : lv_has ls 1 [(0, .ref (g (8 + 2 * 14)))] := hl
  refine q_scmp C0 V rfl w_663 d_31_154_0 ?_
  refine lv_if_eq (tgt := 17) hx hb d_31_154_3 (by decide) (fun c1 => absurd c1 (by decide)) (fun c1 => ?_)
  refine lv_aload_n hx hb d_31_154_6 rfl (lv_at hl 0 rfl) ?_
  refine q_scod (i := 14) C0 V rfl rfl w_1019 d_31_154_7 ?_
  refine lv_if_ne (tgt := 17) hx hb d_31_154_10 (by decide) (fun c2 => absurd (by decide) c2) (fun c2 => ?_)
  refine lv_iconst (v := 1) hx hb d_31_154_13 (by decide) ?_
  refine lv_goto (tgt := 18) hx hb d_31_154_14 (by decide) ?_
  exact q_retz C0 V (by decide) (⟨rfl, (show 1 ≤ (1 : Int32).toInt from (by have z0 : (1 : Int32).toInt = 1 := rfl; omega)), (show (1 : Int32).toInt ≤ 1 from (by have z0 : (1 : Int32).toInt = 1 := rfl; omega))⟩) d_31_154_18
set_option maxRecDepth 100000 in
set_option maxHeartbeats 4000000 in
theorem T_jStr_coder_15 (l : Launch) (D : va_G) (g : Nat → ClassId) (q : Nat → Nat) (ws : va_W) (hI : q_I (nsh g q) q ws) : q_mI l y_jStr_coder prog_31_method_152_code 1 (.byte) 1 0 0 D g [.ref (g (8 + 2 * 15))] ws (fun r u => ws = u ∧ (0 ≤ r.toInt) ∧ (r.toInt ≤ 0)) := by
  intro sz
  refine q_into (by decide) (Nat.le_of_ble_eq_true rfl) ?_
  intro p e s m below meth c ls hsz C0 V hl
  have hx := C0.1
  have hb := C0.2.1
  have hl : lv_has ls 1 [(0, .ref (g (8 + 2 * 15)))] := hl
  refine q_scmp C0 V rfl w_663 d_31_152_0 ?_
  refine lv_if_eq (tgt := 13) hx hb d_31_152_3 (by decide) (fun c1 => absurd c1 (by decide)) (fun c1 => ?_)
  refine lv_aload_n hx hb d_31_152_6 rfl (lv_at hl 0 rfl) ?_
  refine q_scod (i := 15) C0 V rfl rfl w_1019 d_31_152_7 ?_
  refine lv_goto (tgt := 14) hx hb d_31_152_10 (by decide) ?_
  exact q_retn C0 V (rfl) (⟨rfl, (show 0 ≤ (0 : Int32).toInt from (by have z0 : (0 : Int32).toInt = 0 := rfl; omega)), (show (0 : Int32).toInt ≤ 0 from (by have z0 : (0 : Int32).toInt = 0 := rfl; omega))⟩) d_31_152_14
set_option maxRecDepth 100000 in
set_option maxHeartbeats 4000000 in
theorem T_jStr_isLatin1_15 (l : Launch) (D : va_G) (g : Nat → ClassId) (q : Nat → Nat) (ws : va_W) (hI : q_I (nsh g q) q ws) : q_mI l y_jStr_isLatin1 prog_31_method_154_code 1 (.boolean) 1 0 0 D g [.ref (g (8 + 2 * 15))] ws (fun r u => ws = u ∧ (1 ≤ r.toInt) ∧ (r.toInt ≤ 1)) := by
  intro sz
  refine q_into (by decide) (Nat.le_of_ble_eq_true rfl) ?_
  intro p e s m below meth c ls hsz C0 V hl
  have hx := C0.1
  have hb := C0.2.1
  have hl : lv_has ls 1 [(0, .ref (g (8 + 2 * 15)))] := hl
  refine q_scmp C0 V rfl w_663 d_31_154_0 ?_
  refine lv_if_eq (tgt := 17) hx hb d_31_154_3 (by decide) (fun c1 => absurd c1 (by decide)) (fun c1 => ?_)
  refine lv_aload_n hx hb d_31_154_6 rfl (lv_at hl 0 rfl) ?_
  refine q_scod (i := 15) C0 V rfl rfl w_1019 d_31_154_7 ?_
  refine lv_if_ne (tgt := 17) hx hb d_31_154_10 (by decide) (fun c2 => absurd (by decide) c2) (fun c2 => ?_)
  refine lv_iconst (v := 1) hx hb d_31_154_13 (by decide) ?_
  refine lv_goto (tgt := 18) hx hb d_31_154_14 (by decide) ?_
  exact q_retz C0 V (by decide) (⟨rfl, (show 1 ≤ (1 : Int32).toInt from (by have z0 : (1 : Int32).toInt = 1 := rfl; omega)), (show (1 : Int32).toInt ≤ 1 from (by have z0 : (1 : Int32).toInt = 1 := rfl; omega))⟩) d_31_154_18
set_option maxRecDepth 100000 in
set_option maxHeartbeats 4000000 in
theorem T_jStr_coder_16 (l : Launch) (D : va_G) (g : Nat → ClassId) (q : Nat → Nat) (ws : va_W) (hI : q_I (nsh g q) q ws) : q_mI l y_jStr_coder prog_31_method_152_code 1 (.byte) 1 0 0 D g [.ref (g (8 + 2 * 16))] ws (fun r u => ws = u ∧ (0 ≤ r.toInt) ∧ (r.toInt ≤ 0)) := by
  intro sz
  refine q_into (by decide) (Nat.le_of_ble_eq_true rfl) ?_
  intro p e s m below meth c ls hsz C0 V hl
  have hx := C0.1
  have hb := C0.2.1
  have hl : lv_has ls 1 [(0, .ref (g (8 + 2 * 16)))] := hl
  refine q_scmp C0 V rfl w_663 d_31_152_0 ?_
  refine lv_if_eq (tgt := 13) hx hb d_31_152_3 (by decide) (fun c1 => absurd c1 (by decide)) (fun c1 => ?_)
  refine lv_aload_n hx hb d_31_152_6 rfl (lv_at hl 0 rfl) ?_
  refine q_scod (i := 16) C0 V rfl rfl w_1019 d_31_152_7 ?_
  refine lv_goto (tgt := 14) hx hb d_31_152_10 (by decide) ?_
  exact q_retn C0 V (rfl) (⟨rfl, (show 0 ≤ (0 : Int32).toInt from (by have z0 : (0 : Int32).toInt = 0 := rfl; omega)), (show (0 : Int32).toInt ≤ 0 from (by have z0 : (0 : Int32).toInt = 0 := rfl; omega))⟩) d_31_152_14
set_option maxRecDepth 100000 in
set_option maxHeartbeats 4000000 in
theorem T_jStr_length_16 (l : Launch) (D : va_G) (g : Nat → ClassId) (q : Nat → Nat) (ws : va_W) (hI : q_I (nsh g q) q ws) : q_mI l y_jStr_length prog_31_method_54_code 1 (.int) 2 0 0 D g [.ref (g (8 + 2 * 16))] ws (fun r u => ws = u ∧ (3 ≤ r.toInt) ∧ (r.toInt ≤ 3)) := by
  intro sz
  refine q_into (by decide) (Nat.le_of_ble_eq_true rfl) ?_
  intro p e s m below meth c ls hsz C0 V hl
  have hx := C0.1
  have hb := C0.2.1
  have hl : lv_has ls 1 [(0, .ref (g (8 + 2 * 16)))] := hl
  refine lv_aload_n hx hb d_31_54_0 rfl (lv_at hl 0 rfl) ?_
  refine q_sval (i := 16) C0 V rfl rfl w_1018 d_31_54_1 ?_
  refine q_slen (i := 16) (v := 3) C0 V rfl (by decide) d_31_54_4 ?_
  refine lv_aload_n hx hb d_31_54_5 rfl (lv_at hl 0 rfl) ?_
  refine q_goi V (q_runVs (As := []) (rest := [.int 3]) (d := 1) (mc := 0) (ms := 0) (i := 16) C0 V rfl LV_jStr_335 (T_jStr_coder_16 l D g q ws   hI   _) rfl rfl rfl hl.1 rfl (Nat.le_of_ble_eq_true rfl) ⟨by decide, by decide⟩ ⟨Nat.le_of_ble_eq_true rfl, Nat.le_of_ble_eq_true rfl⟩ d_31_54_6) (fun a3 u1 H locs hp2 V => ?_)
  obtain ⟨rfl, b4, b5⟩ := hp2
  replace b4 : q_F (0 ≤ a3.toInt) := b4
  replace b5 : q_F (a3.toInt ≤ 0) := b5
  obtain rfl : a3 = (0 : Int32) := q_Ieq (x := a3.toInt) (y := 0) rfl (by decide) (by have t1 : 0 ≤ a3.toInt := b4; have t2 : a3.toInt ≤ 0 := b5; omega)
  refine lv_ishr hx hb d_31_54_9 ?_
  refine q_ti (v := 3) (by decide) ?_
  exact q_reti C0 V (⟨rfl, (show 3 ≤ (3 : Int32).toInt from (by have z0 : (3 : Int32).toInt = 3 := rfl; omega)), (show (3 : Int32).toInt ≤ 3 from (by have z0 : (3 : Int32).toInt = 3 := rfl; omega))⟩) d_31_54_10
set_option maxRecDepth 100000 in
set_option maxHeartbeats 4000000 in
theorem T_jStr_isLatin1_16 (l : Launch) (D : va_G) (g : Nat → ClassId) (q : Nat → Nat) (ws : va_W) (hI : q_I (nsh g q) q ws) : q_mI l y_jStr_isLatin1 prog_31_method_154_code 1 (.boolean) 1 0 0 D g [.ref (g (8 + 2 * 16))] ws (fun r u => ws = u ∧ (1 ≤ r.toInt) ∧ (r.toInt ≤ 1)) := by
  intro sz
  refine q_into (by decide) (Nat.le_of_ble_eq_true rfl) ?_
  intro p e s m below meth c ls hsz C0 V hl
  have hx := C0.1
  have hb := C0.2.1
  have hl : lv_has ls 1 [(0, .ref (g (8 + 2 * 16)))] := hl
  refine q_scmp C0 V rfl w_663 d_31_154_0 ?_
  refine lv_if_eq (tgt := 17) hx hb d_31_154_3 (by decide) (fun c1 => absurd c1 (by decide)) (fun c1 => ?_)
  refine lv_aload_n hx hb d_31_154_6 rfl (lv_at hl 0 rfl) ?_
  refine q_scod (i := 16) C0 V rfl rfl w_1019 d_31_154_7 ?_
  refine lv_if_ne (tgt := 17) hx hb d_31_154_10 (by decide) (fun c2 => absurd (by decide) c2) (fun c2 => ?_)
  refine lv_iconst (v := 1) hx hb d_31_154_13 (by decide) ?_
  refine lv_goto (tgt := 18) hx hb d_31_154_14 (by decide) ?_
  exact q_retz C0 V (by decide) (⟨rfl, (show 1 ≤ (1 : Int32).toInt from (by have z0 : (1 : Int32).toInt = 1 := rfl; omega)), (show (1 : Int32).toInt ≤ 1 from (by have z0 : (1 : Int32).toInt = 1 := rfl; omega))⟩) d_31_154_18
set_option maxRecDepth 100000 in
set_option maxHeartbeats 4000000 in
theorem T_jStr_coder_17 (l : Launch) (D : va_G) (g : Nat → ClassId) (q : Nat → Nat) (ws : va_W) (hI : q_I (nsh g q) q ws) : q_mI l y_jStr_coder prog_31_method_152_code 1 (.byte) 1 0 0 D g [.ref (g (8 + 2 * 17))] ws (fun r u => ws = u ∧ (0 ≤ r.toInt) ∧ (r.toInt ≤ 0)) := by
  intro sz
  refine q_into (by decide) (Nat.le_of_ble_eq_true rfl) ?_
  intro p e s m below meth c ls hsz C0 V hl
  have hx := C0.1
  have hb := C0.2.1
  have hl : lv_has ls 1 [(0, .ref (g (8 + 2 * 17)))] := hl
  refine q_scmp C0 V rfl w_663 d_31_152_0 ?_
  refine lv_if_eq (tgt := 13) hx hb d_31_152_3 (by decide) (fun c1 => absurd c1 (by decide)) (fun c1 => ?_)
  refine lv_aload_n hx hb d_31_152_6 rfl (lv_at hl 0 rfl) ?_
  refine q_scod (i := 17) C0 V rfl rfl w_1019 d_31_152_7 ?_
  refine lv_goto (tgt := 14) hx hb d_31_152_10 (by decide) ?_
  exact q_retn C0 V (rfl) (⟨rfl, (show 0 ≤ (0 : Int32).toInt from (by have z0 : (0 : Int32).toInt = 0 := rfl; omega)), (show (0 : Int32).toInt ≤ 0 from (by have z0 : (0 : Int32).toInt = 0 := rfl; omega))⟩) d_31_152_14
set_option maxRecDepth 100000 in
set_option maxHeartbeats 4000000 in
theorem T_jStr_isLatin1_17 (l : Launch) (D : va_G) (g : Nat → ClassId) (q : Nat → Nat) (ws : va_W) (hI : q_I (nsh g q) q ws) : q_mI l y_jStr_isLatin1 prog_31_method_154_code 1 (.boolean) 1 0 0 D g [.ref (g (8 + 2 * 17))] ws (fun r u => ws = u ∧ (1 ≤ r.toInt) ∧ (r.toInt ≤ 1)) := by
  intro sz
  refine q_into (by decide) (Nat.le_of_ble_eq_true rfl) ?_
  intro p e s m below meth c ls hsz C0 V hl
  have hx := C0.1
  have hb := C0.2.1
  have hl : lv_has ls 1 [(0, .ref (g (8 + 2 * 17)))] := hl
  refine q_scmp C0 V rfl w_663 d_31_154_0 ?_
  refine lv_if_eq (tgt := 17) hx hb d_31_154_3 (by decide) (fun c1 => absurd c1 (by decide)) (fun c1 => ?_)
  refine lv_aload_n hx hb d_31_154_6 rfl (lv_at hl 0 rfl) ?_
  refine q_scod (i := 17) C0 V rfl rfl w_1019 d_31_154_7 ?_
  refine lv_if_ne (tgt := 17) hx hb d_31_154_10 (by decide) (fun c2 => absurd (by decide) c2) (fun c2 => ?_)
  refine lv_iconst (v := 1) hx hb d_31_154_13 (by decide) ?_
  refine lv_goto (tgt := 18) hx hb d_31_154_14 (by decide) ?_
  exact q_retz C0 V (by decide) (⟨rfl, (show 1 ≤ (1 : Int32).toInt from (by have z0 : (1 : Int32).toInt = 1 := rfl; omega)), (show (1 : Int32).toInt ≤ 1 from (by have z0 : (1 : Int32).toInt = 1 := rfl; omega))⟩) d_31_154_18
set_option maxRecDepth 100000 in
set_option maxHeartbeats 4000000 in
theorem T_jStr_coder_18 (l : Launch) (D : va_G) (g : Nat → ClassId) (q : Nat → Nat) (ws : va_W) (hI : q_I (nsh g q) q ws) : q_mI l y_jStr_coder prog_31_method_152_code 1 (.byte) 1 0 0 D g [.ref (g (8 + 2 * 18))] ws (fun r u => ws = u ∧ (0 ≤ r.toInt) ∧ (r.toInt ≤ 0)) := by
  intro sz
  refine q_into (by decide) (Nat.le_of_ble_eq_true rfl) ?_
  intro p e s m below meth c ls hsz C0 V hl
  have hx := C0.1
  have hb := C0.2.1
  have hl : lv_has ls 1 [(0, .ref (g (8 + 2 * 18)))] := hl
  refine q_scmp C0 V rfl w_663 d_31_152_0 ?_
  refine lv_if_eq (tgt := 13) hx hb d_31_152_3 (by decide) (fun c1 => absurd c1 (by decide)) (fun c1 => ?_)
  refine lv_aload_n hx hb d_31_152_6 rfl (lv_at hl 0 rfl) ?_
  refine q_scod (i := 18) C0 V rfl rfl w_1019 d_31_152_7 ?_
  refine lv_goto (tgt := 14) hx hb d_31_152_10 (by decide) ?_
  exact q_retn C0 V (rfl) (⟨rfl, (show 0 ≤ (0 : Int32).toInt from (by have z0 : (0 : Int32).toInt = 0 := rfl; omega)), (show (0 : Int32).toInt ≤ 0 from (by have z0 : (0 : Int32).toInt = 0 := rfl; omega))⟩) d_31_152_14
set_option maxRecDepth 100000 in
set_option maxHeartbeats 4000000 in
theorem T_jStr_isLatin1_18 (l : Launch) (D : va_G) (g : Nat → ClassId) (q : Nat → Nat) (ws : va_W) (hI : q_I (nsh g q) q ws) : q_mI l y_jStr_isLatin1 prog_31_method_154_code 1 (.boolean) 1 0 0 D g [.ref (g (8 + 2 * 18))] ws (fun r u => ws = u ∧ (1 ≤ r.toInt) ∧ (r.toInt ≤ 1)) := by
  intro sz
  refine q_into (by decide) (Nat.le_of_ble_eq_true rfl) ?_
  intro p e s m below meth c ls hsz C0 V hl
  have hx := C0.1
  have hb := C0.2.1
  have hl : lv_has ls 1 [(0, .ref (g (8 + 2 * 18)))] := hl
  refine q_scmp C0 V rfl w_663 d_31_154_0 ?_
  refine lv_if_eq (tgt := 17) hx hb d_31_154_3 (by decide) (fun c1 => absurd c1 (by decide)) (fun c1 => ?_)
  refine lv_aload_n hx hb d_31_154_6 rfl (lv_at hl 0 rfl) ?_
  refine q_scod (i := 18) C0 V rfl rfl w_1019 d_31_154_7 ?_
  refine lv_if_ne (tgt := 17) hx hb d_31_154_10 (by decide) (fun c2 => absurd (by decide) c2) (fun c2 => ?_)
  refine lv_iconst (v := 1) hx hb d_31_154_13 (by decide) ?_
  refine lv_goto (tgt := 18) hx hb d_31_154_14 (by decide) ?_
  exact q_retz C0 V (by decide) (⟨rfl, (show 1 ≤ (1 : Int32).toInt from (by have z0 : (1 : Int32).toInt = 1 := rfl; omega)), (show (1 : Int32).toInt ≤ 1 from (by have z0 : (1 : Int32).toInt = 1 := rfl; omega))⟩) d_31_154_18
set_option maxRecDepth 100000 in
set_option maxHeartbeats 4000000 in
theorem T_jStr_isLatin1_19 (l : Launch) (D : va_G) (g : Nat → ClassId) (q : Nat → Nat) (ws : va_W) (hI : q_I (nsh g q) q ws) : q_mI l y_jStr_isLatin1 prog_31_method_154_code 1 (.boolean) 1 0 0 D g [.ref (g (8 + 2 * 19))] ws (fun r u => ws = u ∧ (1 ≤ r.toInt) ∧ (r.toInt ≤ 1)) := by
  intro sz
  refine q_into (by decide) (Nat.le_of_ble_eq_true rfl) ?_
  intro p e s m below meth c ls hsz C0 V hl
  have hx := C0.1
  have hb := C0.2.1
  have hl : lv_has ls 1 [(0, .ref (g (8 + 2 * 19)))] := hl
  refine q_scmp C0 V rfl w_663 d_31_154_0 ?_
  refine lv_if_eq (tgt := 17) hx hb d_31_154_3 (by decide) (fun c1 => absurd c1 (by decide)) (fun c1 => ?_)
  refine lv_aload_n hx hb d_31_154_6 rfl (lv_at hl 0 rfl) ?_
  refine q_scod (i := 19) C0 V rfl rfl w_1019 d_31_154_7 ?_
  refine lv_if_ne (tgt := 17) hx hb d_31_154_10 (by decide) (fun c2 => absurd (by decide) c2) (fun c2 => ?_)
  refine lv_iconst (v := 1) hx hb d_31_154_13 (by decide) ?_
  refine lv_goto (tgt := 18) hx hb d_31_154_14 (by decide) ?_
  exact q_retz C0 V (by decide) (⟨rfl, (show 1 ≤ (1 : Int32).toInt from (by have z0 : (1 : Int32).toInt = 1 := rfl; omega)), (show (1 : Int32).toInt ≤ 1 from (by have z0 : (1 : Int32).toInt = 1 := rfl; omega))⟩) d_31_154_18
set_option maxRecDepth 100000 in
set_option maxHeartbeats 4000000 in
theorem T_jStr_coder_20 (l : Launch) (D : va_G) (g : Nat → ClassId) (q : Nat → Nat) (ws : va_W) (hI : q_I (nsh g q) q ws) : q_mI l y_jStr_coder prog_31_method_152_code 1 (.byte) 1 0 0 D g [.ref (g (8 + 2 * 20))] ws (fun r u => ws = u ∧ (0 ≤ r.toInt) ∧ (r.toInt ≤ 0)) := by
  intro sz
  refine q_into (by decide) (Nat.le_of_ble_eq_true rfl) ?_
  intro p e s m below meth c ls hsz C0 V hl
  have hx := C0.1
  have hb := C0.2.1
  have hl : lv_has ls 1 [(0, .ref (g (8 + 2 * 20)))] := hl
  refine q_scmp C0 V rfl w_663 d_31_152_0 ?_
  refine lv_if_eq (tgt := 13) hx hb d_31_152_3 (by decide) (fun c1 => absurd c1 (by decide)) (fun c1 => ?_)
  refine lv_aload_n hx hb d_31_152_6 rfl (lv_at hl 0 rfl) ?_
  refine q_scod (i := 20) C0 V rfl rfl w_1019 d_31_152_7 ?_
  refine lv_goto (tgt := 14) hx hb d_31_152_10 (by decide) ?_
  exact q_retn C0 V (rfl) (⟨rfl, (show 0 ≤ (0 : Int32).toInt from (by have z0 : (0 : Int32).toInt = 0 := rfl; omega)), (show (0 : Int32).toInt ≤ 0 from (by have z0 : (0 : Int32).toInt = 0 := rfl; omega))⟩) d_31_152_14
set_option maxRecDepth 100000 in
set_option maxHeartbeats 4000000 in
theorem T_jStr_isLatin1_20 (l : Launch) (D : va_G) (g : Nat → ClassId) (q : Nat → Nat) (ws : va_W) (hI : q_I (nsh g q) q ws) : q_mI l y_jStr_isLatin1 prog_31_method_154_code 1 (.boolean) 1 0 0 D g [.ref (g (8 + 2 * 20))] ws (fun r u => ws = u ∧ (1 ≤ r.toInt) ∧ (r.toInt ≤ 1)) := by
  intro sz
  refine q_into (by decide) (Nat.le_of_ble_eq_true rfl) ?_
  intro p e s m below meth c ls hsz C0 V hl
  have hx := C0.1
  have hb := C0.2.1
  have hl : lv_has ls 1 [(0, .ref (g (8 + 2 * 20)))] := hl
  refine q_scmp C0 V rfl w_663 d_31_154_0 ?_
  refine lv_if_eq (tgt := 17) hx hb d_31_154_3 (by decide) (fun c1 => absurd c1 (by decide)) (fun c1 => ?_)
  refine lv_aload_n hx hb d_31_154_6 rfl (lv_at hl 0 rfl) ?_
  refine q_scod (i := 20) C0 V rfl rfl w_1019 d_31_154_7 ?_
  refine lv_if_ne (tgt := 17) hx hb d_31_154_10 (by decide) (fun c2 => absurd (by decide) c2) (fun c2 => ?_)
  refine lv_iconst (v := 1) hx hb d_31_154_13 (by decide) ?_
  refine lv_goto (tgt := 18) hx hb d_31_154_14 (by decide) ?_
  exact q_retz C0 V (by decide) (⟨rfl, (show 1 ≤ (1 : Int32).toInt from (by have z0 : (1 : Int32).toInt = 1 := rfl; omega)), (show (1 : Int32).toInt ≤ 1 from (by have z0 : (1 : Int32).toInt = 1 := rfl; omega))⟩) d_31_154_18
set_option maxRecDepth 100000 in
set_option maxHeartbeats 4000000 in
theorem T_jStr_coder_21 (l : Launch) (D : va_G) (g : Nat → ClassId) (q : Nat → Nat) (ws : va_W) (hI : q_I (nsh g q) q ws) : q_mI l y_jStr_coder prog_31_method_152_code 1 (.byte) 1 0 0 D g [.ref (g (8 + 2 * 21))] ws (fun r u => ws = u ∧ (0 ≤ r.toInt) ∧ (r.toInt ≤ 0)) := by
  intro sz
  refine q_into (by decide) (Nat.le_of_ble_eq_true rfl) ?_
  intro p e s m below meth c ls hsz C0 V hl
  have hx := C0.1
  have hb := C0.2.1
  have hl : lv_has ls 1 [(0, .ref (g (8 + 2 * 21)))] := hl
  refine q_scmp C0 V rfl w_663 d_31_152_0 ?_
  refine lv_if_eq (tgt := 13) hx hb d_31_152_3 (by decide) (fun c1 => absurd c1 (by decide)) (fun c1 => ?_)
  refine lv_aload_n hx hb d_31_152_6 rfl (lv_at hl 0 rfl) ?_
  refine q_scod (i := 21) C0 V rfl rfl w_1019 d_31_152_7 ?_
  refine lv_goto (tgt := 14) hx hb d_31_152_10 (by decide) ?_
  exact q_retn C0 V (rfl) (⟨rfl, (show 0 ≤ (0 : Int32).toInt from (by have z0 : (0 : Int32).toInt = 0 := rfl; omega)), (show (0 : Int32).toInt ≤ 0 from (by have z0 : (0 : Int32).toInt = 0 := rfl; omega))⟩) d_31_152_14
set_option maxRecDepth 100000 in
set_option maxHeartbeats 4000000 in
theorem T_jStr_isLatin1_21 (l : Launch) (D : va_G) (g : Nat → ClassId) (q : Nat → Nat) (ws : va_W) (hI : q_I (nsh g q) q ws) : q_mI l y_jStr_isLatin1 prog_31_method_154_code 1 (.boolean) 1 0 0 D g [.ref (g (8 + 2 * 21))] ws (fun r u => ws = u ∧ (1 ≤ r.toInt) ∧ (r.toInt ≤ 1)) := by
  intro sz
  refine q_into (by decide) (Nat.le_of_ble_eq_true rfl) ?_
  intro p e s m below meth c ls hsz C0 V hl
  have hx := C0.1
  have hb := C0.2.1
  have hl : lv_has ls 1 [(0, .ref (g (8 + 2 * 21)))] := hl
  refine q_scmp C0 V rfl w_663 d_31_154_0 ?_
  refine lv_if_eq (tgt := 17) hx hb d_31_154_3 (by decide) (fun c1 => absurd c1 (by decide)) (fun c1 => ?_)
  refine lv_aload_n hx hb d_31_154_6 rfl (lv_at hl 0 rfl) ?_
  refine q_scod (i := 21) C0 V rfl rfl w_1019 d_31_154_7 ?_
  refine lv_if_ne (tgt := 17) hx hb d_31_154_10 (by decide) (fun c2 => absurd (by decide) c2) (fun c2 => ?_)
  refine lv_iconst (v := 1) hx hb d_31_154_13 (by decide) ?_
  refine lv_goto (tgt := 18) hx hb d_31_154_14 (by decide) ?_
  exact q_retz C0 V (by decide) (⟨rfl, (show 1 ≤ (1 : Int32).toInt from (by have z0 : (1 : Int32).toInt = 1 := rfl; omega)), (show (1 : Int32).toInt ≤ 1 from (by have z0 : (1 : Int32).toInt = 1 := rfl; omega))⟩) d_31_154_18
set_option maxRecDepth 100000 in
set_option maxHeartbeats 4000000 in
theorem T_jStr_isLatin1_22 (l : Launch) (D : va_G) (g : Nat → ClassId) (q : Nat → Nat) (ws : va_W) (hI : q_I (nsh g q) q ws) : q_mI l y_jStr_isLatin1 prog_31_method_154_code 1 (.boolean) 1 0 0 D g [.ref (g (8 + 2 * 22))] ws (fun r u => ws = u ∧ (1 ≤ r.toInt) ∧ (r.toInt ≤ 1)) := by
  intro sz
  refine q_into (by decide) (Nat.le_of_ble_eq_true rfl) ?_
  intro p e s m below meth c ls hsz C0 V hl
  have hx := C0.1
  have hb := C0.2.1
  have hl : lv_has ls 1 [(0, .ref (g (8 + 2 * 22)))] := hl
  refine q_scmp C0 V rfl w_663 d_31_154_0 ?_
  refine lv_if_eq (tgt := 17) hx hb d_31_154_3 (by decide) (fun c1 => absurd c1 (by decide)) (fun c1 => ?_)
  refine lv_aload_n hx hb d_31_154_6 rfl (lv_at hl 0 rfl) ?_
  refine q_scod (i := 22) C0 V rfl rfl w_1019 d_31_154_7 ?_
  refine lv_if_ne (tgt := 17) hx hb d_31_154_10 (by decide) (fun c2 => absurd (by decide) c2) (fun c2 => ?_)
  refine lv_iconst (v := 1) hx hb d_31_154_13 (by decide) ?_
  refine lv_goto (tgt := 18) hx hb d_31_154_14 (by decide) ?_
  exact q_retz C0 V (by decide) (⟨rfl, (show 1 ≤ (1 : Int32).toInt from (by have z0 : (1 : Int32).toInt = 1 := rfl; omega)), (show (1 : Int32).toInt ≤ 1 from (by have z0 : (1 : Int32).toInt = 1 := rfl; omega))⟩) d_31_154_18
set_option maxRecDepth 100000 in
set_option maxHeartbeats 4000000 in
theorem T_jStr_coder_23 (l : Launch) (D : va_G) (g : Nat → ClassId) (q : Nat → Nat) (ws : va_W) (hI : q_I (nsh g q) q ws) : q_mI l y_jStr_coder prog_31_method_152_code 1 (.byte) 1 0 0 D g [.ref (g (8 + 2 * 23))] ws (fun r u => ws = u ∧ (0 ≤ r.toInt) ∧ (r.toInt ≤ 0)) := by
  intro sz
  refine q_into (by decide) (Nat.le_of_ble_eq_true rfl) ?_
  intro p e s m below meth c ls hsz C0 V hl
  have hx := C0.1
  have hb := C0.2.1
  have hl : lv_has ls 1 [(0, .ref (g (8 + 2 * 23)))] := hl
  refine q_scmp C0 V rfl w_663 d_31_152_0 ?_
  refine lv_if_eq (tgt := 13) hx hb d_31_152_3 (by decide) (fun c1 => absurd c1 (by decide)) (fun c1 => ?_)
  refine lv_aload_n hx hb d_31_152_6 rfl (lv_at hl 0 rfl) ?_
  refine q_scod (i := 23) C0 V rfl rfl w_1019 d_31_152_7 ?_
  refine lv_goto (tgt := 14) hx hb d_31_152_10 (by decide) ?_
  exact q_retn C0 V (rfl) (⟨rfl, (show 0 ≤ (0 : Int32).toInt from (by have z0 : (0 : Int32).toInt = 0 := rfl; omega)), (show (0 : Int32).toInt ≤ 0 from (by have z0 : (0 : Int32).toInt = 0 := rfl; omega))⟩) d_31_152_14
set_option maxRecDepth 100000 in
set_option maxHeartbeats 4000000 in
theorem T_jStr_isLatin1_23 (l : Launch) (D : va_G) (g : Nat → ClassId) (q : Nat → Nat) (ws : va_W) (hI : q_I (nsh g q) q ws) : q_mI l y_jStr_isLatin1 prog_31_method_154_code 1 (.boolean) 1 0 0 D g [.ref (g (8 + 2 * 23))] ws (fun r u => ws = u ∧ (1 ≤ r.toInt) ∧ (r.toInt ≤ 1)) := by
  intro sz
  refine q_into (by decide) (Nat.le_of_ble_eq_true rfl) ?_
  intro p e s m below meth c ls hsz C0 V hl
  have hx := C0.1
  have hb := C0.2.1
  have hl : lv_has ls 1 [(0, .ref (g (8 + 2 * 23)))] := hl
  refine q_scmp C0 V rfl w_663 d_31_154_0 ?_
  refine lv_if_eq (tgt := 17) hx hb d_31_154_3 (by decide) (fun c1 => absurd c1 (by decide)) (fun c1 => ?_)
  refine lv_aload_n hx hb d_31_154_6 rfl (lv_at hl 0 rfl) ?_
  refine q_scod (i := 23) C0 V rfl rfl w_1019 d_31_154_7 ?_
  refine lv_if_ne (tgt := 17) hx hb d_31_154_10 (by decide) (fun c2 => absurd (by decide) c2) (fun c2 => ?_)
  refine lv_iconst (v := 1) hx hb d_31_154_13 (by decide) ?_
  refine lv_goto (tgt := 18) hx hb d_31_154_14 (by decide) ?_
  exact q_retz C0 V (by decide) (⟨rfl, (show 1 ≤ (1 : Int32).toInt from (by have z0 : (1 : Int32).toInt = 1 := rfl; omega)), (show (1 : Int32).toInt ≤ 1 from (by have z0 : (1 : Int32).toInt = 1 := rfl; omega))⟩) d_31_154_18
set_option maxRecDepth 100000 in
set_option maxHeartbeats 4000000 in
theorem T_jStr_coder_24 (l : Launch) (D : va_G) (g : Nat → ClassId) (q : Nat → Nat) (ws : va_W) (hI : q_I (nsh g q) q ws) : q_mI l y_jStr_coder prog_31_method_152_code 1 (.byte) 1 0 0 D g [.ref (g (8 + 2 * 24))] ws (fun r u => ws = u ∧ (0 ≤ r.toInt) ∧ (r.toInt ≤ 0)) := by
  intro sz
  refine q_into (by decide) (Nat.le_of_ble_eq_true rfl) ?_
  intro p e s m below meth c ls hsz C0 V hl
  have hx := C0.1
  have hb := C0.2.1
  have hl : lv_has ls 1 [(0, .ref (g (8 + 2 * 24)))] := hl
  refine q_scmp C0 V rfl w_663 d_31_152_0 ?_
  refine lv_if_eq (tgt := 13) hx hb d_31_152_3 (by decide) (fun c1 => absurd c1 (by decide)) (fun c1 => ?_)
  refine lv_aload_n hx hb d_31_152_6 rfl (lv_at hl 0 rfl) ?_
  refine q_scod (i := 24) C0 V rfl rfl w_1019 d_31_152_7 ?_
  refine lv_goto (tgt := 14) hx hb d_31_152_10 (by decide) ?_
  exact q_retn C0 V (rfl) (⟨rfl, (show 0 ≤ (0 : Int32).toInt from (by have z0 : (0 : Int32).toInt = 0 := rfl; omega)), (show (0 : Int32).toInt ≤ 0 from (by have z0 : (0 : Int32).toInt = 0 := rfl; omega))⟩) d_31_152_14
set_option maxRecDepth 100000 in
set_option maxHeartbeats 4000000 in
theorem T_jStr_isLatin1_24 (l : Launch) (D : va_G) (g : Nat → ClassId) (q : Nat → Nat) (ws : va_W) (hI : q_I (nsh g q) q ws) : q_mI l y_jStr_isLatin1 prog_31_method_154_code 1 (.boolean) 1 0 0 D g [.ref (g (8 + 2 * 24))] ws (fun r u => ws = u ∧ (1 ≤ r.toInt) ∧ (r.toInt ≤ 1)) := by
  intro sz
  refine q_into (by decide) (Nat.le_of_ble_eq_true rfl) ?_
  intro p e s m below meth c ls hsz C0 V hl
  have hx := C0.1
  have hb := C0.2.1
  have hl : lv_has ls 1 [(0, .ref (g (8 + 2 * 24)))] := hl
  refine q_scmp C0 V rfl w_663 d_31_154_0 ?_
  refine lv_if_eq (tgt := 17) hx hb d_31_154_3 (by decide) (fun c1 => absurd c1 (by decide)) (fun c1 => ?_)
  refine lv_aload_n hx hb d_31_154_6 rfl (lv_at hl 0 rfl) ?_
  refine q_scod (i := 24) C0 V rfl rfl w_1019 d_31_154_7 ?_
  refine lv_if_ne (tgt := 17) hx hb d_31_154_10 (by decide) (fun c2 => absurd (by decide) c2) (fun c2 => ?_)
  refine lv_iconst (v := 1) hx hb d_31_154_13 (by decide) ?_
  refine lv_goto (tgt := 18) hx hb d_31_154_14 (by decide) ?_
  exact q_retz C0 V (by decide) (⟨rfl, (show 1 ≤ (1 : Int32).toInt from (by have z0 : (1 : Int32).toInt = 1 := rfl; omega)), (show (1 : Int32).toInt ≤ 1 from (by have z0 : (1 : Int32).toInt = 1 := rfl; omega))⟩) d_31_154_18
set_option maxRecDepth 100000 in
set_option maxHeartbeats 4000000 in
theorem T_jStr_coder_25 (l : Launch) (D : va_G) (g : Nat → ClassId) (q : Nat → Nat) (ws : va_W) (hI : q_I (nsh g q) q ws) : q_mI l y_jStr_coder prog_31_method_152_code 1 (.byte) 1 0 0 D g [.ref (g (8 + 2 * 25))] ws (fun r u => ws = u ∧ (0 ≤ r.toInt) ∧ (r.toInt ≤ 0)) := by
  intro sz
  refine q_into (by decide) (Nat.le_of_ble_eq_true rfl) ?_
  intro p e s m below meth c ls hsz C0 V hl
  have hx := C0.1
  have hb := C0.2.1
  have hl : lv_has ls 1 [(0, .ref (g (8 + 2 * 25)))] := hl
  refine q_scmp C0 V rfl w_663 d_31_152_0 ?_
  refine lv_if_eq (tgt := 13) hx hb d_31_152_3 (by decide) (fun c1 => absurd c1 (by decide)) (fun c1 => ?_)
  refine lv_aload_n hx hb d_31_152_6 rfl (lv_at hl 0 rfl) ?_
  refine q_scod (i := 25) C0 V rfl rfl w_1019 d_31_152_7 ?_
  refine lv_goto (tgt := 14) hx hb d_31_152_10 (by decide) ?_
  exact q_retn C0 V (rfl) (⟨rfl, (show 0 ≤ (0 : Int32).toInt from (by have z0 : (0 : Int32).toInt = 0 := rfl; omega)), (show (0 : Int32).toInt ≤ 0 from (by have z0 : (0 : Int32).toInt = 0 := rfl; omega))⟩) d_31_152_14
set_option maxRecDepth 100000 in
set_option maxHeartbeats 4000000 in
theorem T_jStr_isLatin1_25 (l : Launch) (D : va_G) (g : Nat → ClassId) (q : Nat → Nat) (ws : va_W) (hI : q_I (nsh g q) q ws) : q_mI l y_jStr_isLatin1 prog_31_method_154_code 1 (.boolean) 1 0 0 D g [.ref (g (8 + 2 * 25))] ws (fun r u => ws = u ∧ (1 ≤ r.toInt) ∧ (r.toInt ≤ 1)) := by
  intro sz
  refine q_into (by decide) (Nat.le_of_ble_eq_true rfl) ?_
  intro p e s m below meth c ls hsz C0 V hl
  have hx := C0.1
  have hb := C0.2.1
  have hl : lv_has ls 1 [(0, .ref (g (8 + 2 * 25)))] := hl
  refine q_scmp C0 V rfl w_663 d_31_154_0 ?_
  refine lv_if_eq (tgt := 17) hx hb d_31_154_3 (by decide) (fun c1 => absurd c1 (by decide)) (fun c1 => ?_)
  refine lv_aload_n hx hb d_31_154_6 rfl (lv_at hl 0 rfl) ?_
  refine q_scod (i := 25) C0 V rfl rfl w_1019 d_31_154_7 ?_
  refine lv_if_ne (tgt := 17) hx hb d_31_154_10 (by decide) (fun c2 => absurd (by decide) c2) (fun c2 => ?_)
  refine lv_iconst (v := 1) hx hb d_31_154_13 (by decide) ?_
  refine lv_goto (tgt := 18) hx hb d_31_154_14 (by decide) ?_
  exact q_retz C0 V (by decide) (⟨rfl, (show 1 ≤ (1 : Int32).toInt from (by have z0 : (1 : Int32).toInt = 1 := rfl; omega)), (show (1 : Int32).toInt ≤ 1 from (by have z0 : (1 : Int32).toInt = 1 := rfl; omega))⟩) d_31_154_18
set_option maxRecDepth 100000 in
set_option maxHeartbeats 4000000 in
theorem T_jStr_coder_26 (l : Launch) (D : va_G) (g : Nat → ClassId) (q : Nat → Nat) (ws : va_W) (hI : q_I (nsh g q) q ws) : q_mI l y_jStr_coder prog_31_method_152_code 1 (.byte) 1 0 0 D g [.ref (g (8 + 2 * 26))] ws (fun r u => ws = u ∧ (0 ≤ r.toInt) ∧ (r.toInt ≤ 0)) := by
  intro sz
  refine q_into (by decide) (Nat.le_of_ble_eq_true rfl) ?_
  intro p e s m below meth c ls hsz C0 V hl
  have hx := C0.1
  have hb := C0.2.1
  have hl : lv_has ls 1 [(0, .ref (g (8 + 2 * 26)))] := hl
  refine q_scmp C0 V rfl w_663 d_31_152_0 ?_
  refine lv_if_eq (tgt := 13) hx hb d_31_152_3 (by decide) (fun c1 => absurd c1 (by decide)) (fun c1 => ?_)
  refine lv_aload_n hx hb d_31_152_6 rfl (lv_at hl 0 rfl) ?_
  refine q_scod (i := 26) C0 V rfl rfl w_1019 d_31_152_7 ?_
  refine lv_goto (tgt := 14) hx hb d_31_152_10 (by decide) ?_
  exact q_retn C0 V (rfl) (⟨rfl, (show 0 ≤ (0 : Int32).toInt from (by have z0 : (0 : Int32).toInt = 0 := rfl; omega)), (show (0 : Int32).toInt ≤ 0 from (by have z0 : (0 : Int32).toInt = 0 := rfl; omega))⟩) d_31_152_14
set_option maxRecDepth 100000 in
set_option maxHeartbeats 4000000 in
theorem T_jStr_isLatin1_26 (l : Launch) (D : va_G) (g : Nat → ClassId) (q : Nat → Nat) (ws : va_W) (hI : q_I (nsh g q) q ws) : q_mI l y_jStr_isLatin1 prog_31_method_154_code 1 (.boolean) 1 0 0 D g [.ref (g (8 + 2 * 26))] ws (fun r u => ws = u ∧ (1 ≤ r.toInt) ∧ (r.toInt ≤ 1)) := by
  intro sz
  refine q_into (by decide) (Nat.le_of_ble_eq_true rfl) ?_
  intro p e s m below meth c ls hsz C0 V hl
  have hx := C0.1
  have hb := C0.2.1
  have hl : lv_has ls 1 [(0, .ref (g (8 + 2 * 26)))] := hl
  refine q_scmp C0 V rfl w_663 d_31_154_0 ?_
  refine lv_if_eq (tgt := 17) hx hb d_31_154_3 (by decide) (fun c1 => absurd c1 (by decide)) (fun c1 => ?_)
  refine lv_aload_n hx hb d_31_154_6 rfl (lv_at hl 0 rfl) ?_
  refine q_scod (i := 26) C0 V rfl rfl w_1019 d_31_154_7 ?_
  refine lv_if_ne (tgt := 17) hx hb d_31_154_10 (by decide) (fun c2 => absurd (by decide) c2) (fun c2 => ?_)
  refine lv_iconst (v := 1) hx hb d_31_154_13 (by decide) ?_
  refine lv_goto (tgt := 18) hx hb d_31_154_14 (by decide) ?_
  exact q_retz C0 V (by decide) (⟨rfl, (show 1 ≤ (1 : Int32).toInt from (by have z0 : (1 : Int32).toInt = 1 := rfl; omega)), (show (1 : Int32).toInt ≤ 1 from (by have z0 : (1 : Int32).toInt = 1 := rfl; omega))⟩) d_31_154_18
set_option maxRecDepth 100000 in
set_option maxHeartbeats 4000000 in
theorem T_jStr_coder_27 (l : Launch) (D : va_G) (g : Nat → ClassId) (q : Nat → Nat) (ws : va_W) (hI : q_I (nsh g q) q ws) : q_mI l y_jStr_coder prog_31_method_152_code 1 (.byte) 1 0 0 D g [.ref (g (8 + 2 * 27))] ws (fun r u => ws = u ∧ (0 ≤ r.toInt) ∧ (r.toInt ≤ 0)) := by
  intro sz
  refine q_into (by decide) (Nat.le_of_ble_eq_true rfl) ?_
  intro p e s m below meth c ls hsz C0 V hl
  have hx := C0.1
  have hb := C0.2.1
  have hl : lv_has ls 1 [(0, .ref (g (8 + 2 * 27)))] := hl
  refine q_scmp C0 V rfl w_663 d_31_152_0 ?_
  refine lv_if_eq (tgt := 13) hx hb d_31_152_3 (by decide) (fun c1 => absurd c1 (by decide)) (fun c1 => ?_)
  refine lv_aload_n hx hb d_31_152_6 rfl (lv_at hl 0 rfl) ?_
  refine q_scod (i := 27) C0 V rfl rfl w_1019 d_31_152_7 ?_
  refine lv_goto (tgt := 14) hx hb d_31_152_10 (by decide) ?_
  exact q_retn C0 V (rfl) (⟨rfl, (show 0 ≤ (0 : Int32).toInt from (by have z0 : (0 : Int32).toInt = 0 := rfl; omega)), (show (0 : Int32).toInt ≤ 0 from (by have z0 : (0 : Int32).toInt = 0 := rfl; omega))⟩) d_31_152_14
set_option maxRecDepth 100000 in
set_option maxHeartbeats 4000000 in
theorem T_jStr_isLatin1_27 (l : Launch) (D : va_G) (g : Nat → ClassId) (q : Nat → Nat) (ws : va_W) (hI : q_I (nsh g q) q ws) : q_mI l y_jStr_isLatin1 prog_31_method_154_code 1 (.boolean) 1 0 0 D g [.ref (g (8 + 2 * 27))] ws (fun r u => ws = u ∧ (1 ≤ r.toInt) ∧ (r.toInt ≤ 1)) := by
  intro sz
  refine q_into (by decide) (Nat.le_of_ble_eq_true rfl) ?_
  intro p e s m below meth c ls hsz C0 V hl
  have hx := C0.1
  have hb := C0.2.1
  have hl : lv_has ls 1 [(0, .ref (g (8 + 2 * 27)))] := hl
  refine q_scmp C0 V rfl w_663 d_31_154_0 ?_
  refine lv_if_eq (tgt := 17) hx hb d_31_154_3 (by decide) (fun c1 => absurd c1 (by decide)) (fun c1 => ?_)
  refine lv_aload_n hx hb d_31_154_6 rfl (lv_at hl 0 rfl) ?_
  refine q_scod (i := 27) C0 V rfl rfl w_1019 d_31_154_7 ?_
  refine lv_if_ne (tgt := 17) hx hb d_31_154_10 (by decide) (fun c2 => absurd (by decide) c2) (fun c2 => ?_)
  refine lv_iconst (v := 1) hx hb d_31_154_13 (by decide) ?_
  refine lv_goto (tgt := 18) hx hb d_31_154_14 (by decide) ?_
  exact q_retz C0 V (by decide) (⟨rfl, (show 1 ≤ (1 : Int32).toInt from (by have z0 : (1 : Int32).toInt = 1 := rfl; omega)), (show (1 : Int32).toInt ≤ 1 from (by have z0 : (1 : Int32).toInt = 1 := rfl; omega))⟩) d_31_154_18
set_option maxRecDepth 100000 in
set_option maxHeartbeats 4000000 in
theorem T_jStr_coder_28 (l : Launch) (D : va_G) (g : Nat → ClassId) (q : Nat → Nat) (ws : va_W) (hI : q_I (nsh g q) q ws) : q_mI l y_jStr_coder prog_31_method_152_code 1 (.byte) 1 0 0 D g [.ref (g (8 + 2 * 28))] ws (fun r u => ws = u ∧ (0 ≤ r.toInt) ∧ (r.toInt ≤ 0)) := by
  intro sz
  refine q_into (by decide) (Nat.le_of_ble_eq_true rfl) ?_
  intro p e s m below meth c ls hsz C0 V hl
  have hx := C0.1
  have hb := C0.2.1
  have hl : lv_has ls 1 [(0, .ref (g (8 + 2 * 28)))] := hl
  refine q_scmp C0 V rfl w_663 d_31_152_0 ?_
  refine lv_if_eq (tgt := 13) hx hb d_31_152_3 (by decide) (fun c1 => absurd c1 (by decide)) (fun c1 => ?_)
  refine lv_aload_n hx hb d_31_152_6 rfl (lv_at hl 0 rfl) ?_
  refine q_scod (i := 28) C0 V rfl rfl w_1019 d_31_152_7 ?_
  refine lv_goto (tgt := 14) hx hb d_31_152_10 (by decide) ?_
  exact q_retn C0 V (rfl) (⟨rfl, (show 0 ≤ (0 : Int32).toInt from (by have z0 : (0 : Int32).toInt = 0 := rfl; omega)), (show (0 : Int32).toInt ≤ 0 from (by have z0 : (0 : Int32).toInt = 0 := rfl; omega))⟩) d_31_152_14
set_option maxRecDepth 100000 in
set_option maxHeartbeats 4000000 in
theorem T_jStr_isLatin1_28 (l : Launch) (D : va_G) (g : Nat → ClassId) (q : Nat → Nat) (ws : va_W) (hI : q_I (nsh g q) q ws) : q_mI l y_jStr_isLatin1 prog_31_method_154_code 1 (.boolean) 1 0 0 D g [.ref (g (8 + 2 * 28))] ws (fun r u => ws = u ∧ (1 ≤ r.toInt) ∧ (r.toInt ≤ 1)) := by
  intro sz
  refine q_into (by decide) (Nat.le_of_ble_eq_true rfl) ?_
  intro p e s m below meth c ls hsz C0 V hl
  have hx := C0.1
  have hb := C0.2.1
  have hl : lv_has ls 1 [(0, .ref (g (8 + 2 * 28)))] := hl
  refine q_scmp C0 V rfl w_663 d_31_154_0 ?_
  refine lv_if_eq (tgt := 17) hx hb d_31_154_3 (by decide) (fun c1 => absurd c1 (by decide)) (fun c1 => ?_)
  refine lv_aload_n hx hb d_31_154_6 rfl (lv_at hl 0 rfl) ?_
  refine q_scod (i := 28) C0 V rfl rfl w_1019 d_31_154_7 ?_
  refine lv_if_ne (tgt := 17) hx hb d_31_154_10 (by decide) (fun c2 => absurd (by decide) c2) (fun c2 => ?_)
  refine lv_iconst (v := 1) hx hb d_31_154_13 (by decide) ?_
  refine lv_goto (tgt := 18) hx hb d_31_154_14 (by decide) ?_
  exact q_retz C0 V (by decide) (⟨rfl, (show 1 ≤ (1 : Int32).toInt from (by have z0 : (1 : Int32).toInt = 1 := rfl; omega)), (show (1 : Int32).toInt ≤ 1 from (by have z0 : (1 : Int32).toInt = 1 := rfl; omega))⟩) d_31_154_18
/-! Reader -/
theorem d_10_9_0 : decode prog_10_method_9_code 0 = .ok (.aload_n 0, 1) := by decide +kernel
theorem d_10_9_1 : decode prog_10_method_9_code 1 = .ok (.iconst 0, 1) := by decide +kernel
theorem d_10_9_2 : decode prog_10_method_9_code 2 = .ok (.putfield 36, 3) := by decide +kernel
set_option maxRecDepth 100000 in
theorem w_290 : (Cond.fieldLink "NumberHouse$Reader" (36 : Nat) "NumberHouse$Reader" "place" "I") ∈ q_tbl := q_of2 50 rfl (by decide +kernel)
theorem d_10_9_5 : decode prog_10_method_9_code 5 = .ok (.aload_n 0, 1) := by decide +kernel
theorem d_10_9_6 : decode prog_10_method_9_code 6 = .ok (.aload_n 0, 1) := by decide +kernel
theorem d_10_9_7 : decode prog_10_method_9_code 7 = .ok (.getfield 9, 3) := by decide +kernel
theorem d_10_9_10 : decode prog_10_method_9_code 10 = .ok (.getfield 145, 3) := by decide +kernel
set_option maxRecDepth 100000 in
theorem w_59 : (Cond.fieldLink "NumberHouse$Reader" (145 : Nat) "NumberHouse$Sheet" "size" "I") ∈ q_tbl := q_of1 59 rfl (by decide +kernel)
theorem d_10_9_13 : decode prog_10_method_9_code 13 = .ok (.putfield 40, 3) := by decide +kernel
set_option maxRecDepth 100000 in
theorem w_291 : (Cond.fieldLink "NumberHouse$Reader" (40 : Nat) "NumberHouse$Reader" "end" "I") ∈ q_tbl := q_of2 51 rfl (by decide +kernel)
theorem d_10_9_16 : decode prog_10_method_9_code 16 = .ok (.return_, 1) := by decide +kernel
def y_Rea_begin : MethodName := ⟨"NumberHouse$Reader", "begin", "()V"⟩
theorem d_10_16_0 : decode prog_10_method_16_code 0 = .ok (.aload_n 0, 1) := by decide +kernel
theorem d_10_16_1 : decode prog_10_method_16_code 1 = .ok (.getfield 36, 3) := by decide +kernel
theorem d_10_16_4 : decode prog_10_method_16_code 4 = .ok (.aload_n 0, 1) := by decide +kernel
theorem d_10_16_5 : decode prog_10_method_16_code 5 = .ok (.getfield 40, 3) := by decide +kernel
theorem d_10_16_8 : decode prog_10_method_16_code 8 = .ok (.if_icmp .ge 18, 3) := by decide +kernel
theorem d_10_16_26 : decode prog_10_method_16_code 26 = .ok (.iconst (-1), 1) := by decide +kernel
theorem d_10_16_27 : decode prog_10_method_16_code 27 = .ok (.ireturn, 1) := by decide +kernel
theorem d_10_16_11 : decode prog_10_method_16_code 11 = .ok (.aload_n 0, 1) := by decide +kernel
theorem d_10_16_12 : decode prog_10_method_16_code 12 = .ok (.getfield 9, 3) := by decide +kernel
theorem d_10_16_15 : decode prog_10_method_16_code 15 = .ok (.aload_n 0, 1) := by decide +kernel
theorem d_10_16_16 : decode prog_10_method_16_code 16 = .ok (.getfield 36, 3) := by decide +kernel
theorem d_10_16_19 : decode prog_10_method_16_code 19 = .ok (.i2l, 1) := by decide +kernel
theorem d_10_16_20 : decode prog_10_method_16_code 20 = .ok (.invokevirtual 139, 3) := by decide +kernel
set_option maxRecDepth 100000 in
theorem w_597 : (Cond.methodLink "NumberHouse$Reader" (139 : Nat) ({ cls := "NumberHouse$Sheet", name := "at", desc := "(J)I" } : MethodName)) ∈ q_tbl := q_of3 117 rfl (by decide +kernel)
theorem LV_Rea_139 : q_LV "NumberHouse$Reader" 139 y_She_at prog_11_method_8_code 3 (some .int) 1 := ⟨w_482, w_2, w_597, w_480, w_481, ⟨by decide, by decide, by decide +kernel⟩⟩
theorem d_10_16_23 : decode prog_10_method_16_code 23 = .ok (.goto 4, 3) := by decide +kernel
def y_Rea_here : MethodName := ⟨"NumberHouse$Reader", "here", "()I"⟩
theorem d_10_17_0 : decode prog_10_method_17_code 0 = .ok (.aload_n 0, 1) := by decide +kernel
theorem d_10_17_1 : decode prog_10_method_17_code 1 = .ok (.invokevirtual 70, 3) := by decide +kernel
set_option maxRecDepth 100000 in
theorem w_596 : (Cond.code ({ cls := "NumberHouse$Reader", name := "here", desc := "()I" } : MethodName) prog_10_method_16_code (1 : Nat) (some .int)) ∈ q_tbl := q_of3 116 rfl (by decide +kernel)
set_option maxRecDepth 100000 in
theorem w_593 : (Cond.methodLink "NumberHouse$Reader" (70 : Nat) ({ cls := "NumberHouse$Reader", name := "here", desc := "()I" } : MethodName)) ∈ q_tbl := q_of3 113 rfl (by decide +kernel)
set_option maxRecDepth 100000 in
theorem w_595 : (Cond.instanceMethod ({ cls := "NumberHouse$Reader", name := "here", desc := "()I" } : MethodName)) ∈ q_tbl := q_of3 115 rfl (by decide +kernel)
theorem ws_3 : Cond.selects "NumberHouse$Reader" (⟨"NumberHouse$Reader", "here", "()I"⟩ : MethodName) (⟨"NumberHouse$Reader", "here", "()I"⟩ : MethodName) ∈ q_tbl := q_ofs 3 (by decide +kernel) (by decide +kernel)
theorem LV_Rea_70 : q_LV "NumberHouse$Reader" 70 y_Rea_here prog_10_method_16_code 1 (some .int) 0 := ⟨w_596, w_10, w_593, w_595, ws_3, ⟨by decide, by decide, by decide +kernel⟩⟩
theorem d_10_17_4 : decode prog_10_method_17_code 4 = .ok (.istore_n 1, 1) := by decide +kernel
theorem d_10_17_5 : decode prog_10_method_17_code 5 = .ok (.iload_n 1, 1) := by decide +kernel
theorem d_10_17_6 : decode prog_10_method_17_code 6 = .ok (.bipush 48, 2) := by decide +kernel
theorem d_10_17_22 : decode prog_10_method_17_code 22 = .ok (.iload_n 1, 1) := by decide +kernel
theorem d_10_17_23 : decode prog_10_method_17_code 23 = .ok (.bipush 32, 2) := by decide +kernel
theorem d_10_17_25 : decode prog_10_method_17_code 25 = .ok (.ior, 1) := by decide +kernel
theorem d_10_17_26 : decode prog_10_method_17_code 26 = .ok (.istore_n 2, 1) := by decide +kernel
theorem d_10_17_27 : decode prog_10_method_17_code 27 = .ok (.iload_n 2, 1) := by decide +kernel
theorem d_10_17_28 : decode prog_10_method_17_code 28 = .ok (.bipush 97, 2) := by decide +kernel
theorem d_10_17_30 : decode prog_10_method_17_code 30 = .ok (.if_icmp .lt 19, 3) := by decide +kernel
theorem d_10_17_49 : decode prog_10_method_17_code 49 = .ok (.bipush 99, 2) := by decide +kernel
theorem d_10_17_51 : decode prog_10_method_17_code 51 = .ok (.ireturn, 1) := by decide +kernel
theorem d_10_17_33 : decode prog_10_method_17_code 33 = .ok (.iload_n 2, 1) := by decide +kernel
theorem d_10_17_34 : decode prog_10_method_17_code 34 = .ok (.bipush 122, 2) := by decide +kernel
theorem d_10_17_36 : decode prog_10_method_17_code 36 = .ok (.if_icmp .gt 13, 3) := by decide +kernel
theorem d_10_17_39 : decode prog_10_method_17_code 39 = .ok (.iload_n 2, 1) := by decide +kernel
theorem d_10_17_40 : decode prog_10_method_17_code 40 = .ok (.bipush 97, 2) := by decide +kernel
theorem d_10_17_42 : decode prog_10_method_17_code 42 = .ok (.isub, 1) := by decide +kernel
theorem d_10_17_43 : decode prog_10_method_17_code 43 = .ok (.bipush 10, 2) := by decide +kernel
theorem d_10_17_45 : decode prog_10_method_17_code 45 = .ok (.iadd, 1) := by decide +kernel
theorem d_10_17_46 : decode prog_10_method_17_code 46 = .ok (.goto 5, 3) := by decide +kernel
theorem d_10_17_8 : decode prog_10_method_17_code 8 = .ok (.if_icmp .lt 14, 3) := by decide +kernel
theorem d_10_17_11 : decode prog_10_method_17_code 11 = .ok (.iload_n 1, 1) := by decide +kernel
theorem d_10_17_12 : decode prog_10_method_17_code 12 = .ok (.bipush 57, 2) := by decide +kernel
theorem d_10_17_14 : decode prog_10_method_17_code 14 = .ok (.if_icmp .gt 8, 3) := by decide +kernel
theorem d_10_17_17 : decode prog_10_method_17_code 17 = .ok (.iload_n 1, 1) := by decide +kernel
theorem d_10_17_18 : decode prog_10_method_17_code 18 = .ok (.bipush 48, 2) := by decide +kernel
theorem d_10_17_20 : decode prog_10_method_17_code 20 = .ok (.isub, 1) := by decide +kernel
theorem d_10_17_21 : decode prog_10_method_17_code 21 = .ok (.ireturn, 1) := by decide +kernel
def y_Rea_digitHere : MethodName := ⟨"NumberHouse$Reader", "digitHere", "()I"⟩
theorem d_10_11_0 : decode prog_10_method_11_code 0 = .ok (.aload_n 0, 1) := by decide +kernel
theorem d_10_11_1 : decode prog_10_method_11_code 1 = .ok (.invokevirtual 70, 3) := by decide +kernel
theorem d_10_11_4 : decode prog_10_method_11_code 4 = .ok (.istore_n 1, 1) := by decide +kernel
theorem d_10_11_5 : decode prog_10_method_11_code 5 = .ok (.aload_n 0, 1) := by decide +kernel
theorem d_10_11_6 : decode prog_10_method_11_code 6 = .ok (.iload_n 1, 1) := by decide +kernel
theorem d_10_11_7 : decode prog_10_method_11_code 7 = .ok (.bipush 45, 2) := by decide +kernel
theorem d_10_11_17 : decode prog_10_method_11_code 17 = .ok (.putfield 54, 3) := by decide +kernel
set_option maxRecDepth 100000 in
theorem w_292 : (Cond.fieldLink "NumberHouse$Reader" (54 : Nat) "NumberHouse$Reader" "negative" "Z") ∈ q_tbl := q_of2 52 rfl (by decide +kernel)
theorem d_10_11_20 : decode prog_10_method_11_code 20 = .ok (.iload_n 1, 1) := by decide +kernel
theorem d_10_11_21 : decode prog_10_method_11_code 21 = .ok (.bipush 45, 2) := by decide +kernel
theorem d_10_11_23 : decode prog_10_method_11_code 23 = .ok (.if_icmp .eq 9, 3) := by decide +kernel
theorem d_10_11_32 : decode prog_10_method_11_code 32 = .ok (.aload_n 0, 1) := by decide +kernel
theorem d_10_11_33 : decode prog_10_method_11_code 33 = .ok (.dup, 1) := by decide +kernel
theorem d_10_11_34 : decode prog_10_method_11_code 34 = .ok (.getfield 36, 3) := by decide +kernel
theorem d_10_11_37 : decode prog_10_method_11_code 37 = .ok (.iconst 1, 1) := by decide +kernel
theorem d_10_11_38 : decode prog_10_method_11_code 38 = .ok (.iadd, 1) := by decide +kernel
theorem d_10_11_39 : decode prog_10_method_11_code 39 = .ok (.putfield 36, 3) := by decide +kernel
theorem d_10_11_42 : decode prog_10_method_11_code 42 = .ok (.return_, 1) := by decide +kernel
theorem d_10_11_26 : decode prog_10_method_11_code 26 = .ok (.iload_n 1, 1) := by decide +kernel
theorem d_10_11_27 : decode prog_10_method_11_code 27 = .ok (.bipush 43, 2) := by decide +kernel
theorem d_10_11_29 : decode prog_10_method_11_code 29 = .ok (.if_icmp .ne 13, 3) := by decide +kernel
theorem d_10_11_9 : decode prog_10_method_11_code 9 = .ok (.if_icmp .ne 7, 3) := by decide +kernel
theorem d_10_11_16 : decode prog_10_method_11_code 16 = .ok (.iconst 0, 1) := by decide +kernel
theorem d_10_11_12 : decode prog_10_method_11_code 12 = .ok (.iconst 1, 1) := by decide +kernel
theorem d_10_11_13 : decode prog_10_method_11_code 13 = .ok (.goto 4, 3) := by decide +kernel
def y_Rea_takeSign : MethodName := ⟨"NumberHouse$Reader", "takeSign", "()V"⟩
theorem d_10_10_0 : decode prog_10_method_10_code 0 = .ok (.aload_n 0, 1) := by decide +kernel
theorem d_10_10_1 : decode prog_10_method_10_code 1 = .ok (.getfield 36, 3) := by decide +kernel
theorem d_10_10_4 : decode prog_10_method_10_code 4 = .ok (.aload_n 0, 1) := by decide +kernel
theorem d_10_10_5 : decode prog_10_method_10_code 5 = .ok (.getfield 40, 3) := by decide +kernel
theorem d_10_10_41 : decode prog_10_method_10_code 41 = .ok (.aload_n 0, 1) := by decide +kernel
theorem d_10_10_42 : decode prog_10_method_10_code 42 = .ok (.getfield 40, 3) := by decide +kernel
theorem d_10_10_45 : decode prog_10_method_10_code 45 = .ok (.aload_n 0, 1) := by decide +kernel
theorem d_10_10_46 : decode prog_10_method_10_code 46 = .ok (.getfield 36, 3) := by decide +kernel
theorem d_10_10_49 : decode prog_10_method_10_code 49 = .ok (.if_icmp .le 35, 3) := by decide +kernel
theorem d_10_10_84 : decode prog_10_method_10_code 84 = .ok (.return_, 1) := by decide +kernel
theorem d_10_10_52 : decode prog_10_method_10_code 52 = .ok (.aload_n 0, 1) := by decide +kernel
theorem d_10_10_53 : decode prog_10_method_10_code 53 = .ok (.getfield 9, 3) := by decide +kernel
theorem d_10_10_56 : decode prog_10_method_10_code 56 = .ok (.aload_n 0, 1) := by decide +kernel
theorem d_10_10_57 : decode prog_10_method_10_code 57 = .ok (.getfield 40, 3) := by decide +kernel
theorem d_10_10_60 : decode prog_10_method_10_code 60 = .ok (.iconst 1, 1) := by decide +kernel
theorem d_10_10_61 : decode prog_10_method_10_code 61 = .ok (.isub, 1) := by decide +kernel
theorem d_10_10_62 : decode prog_10_method_10_code 62 = .ok (.i2l, 1) := by decide +kernel
theorem d_10_10_63 : decode prog_10_method_10_code 63 = .ok (.invokevirtual 139, 3) := by decide +kernel
theorem d_10_10_66 : decode prog_10_method_10_code 66 = .ok (.bipush 32, 2) := by decide +kernel
theorem d_10_10_68 : decode prog_10_method_10_code 68 = .ok (.if_icmp .gt 16, 3) := by decide +kernel
theorem d_10_10_71 : decode prog_10_method_10_code 71 = .ok (.aload_n 0, 1) := by decide +kernel
theorem d_10_10_72 : decode prog_10_method_10_code 72 = .ok (.dup, 1) := by decide +kernel
theorem d_10_10_73 : decode prog_10_method_10_code 73 = .ok (.getfield 40, 3) := by decide +kernel
theorem d_10_10_76 : decode prog_10_method_10_code 76 = .ok (.iconst 1, 1) := by decide +kernel
theorem d_10_10_77 : decode prog_10_method_10_code 77 = .ok (.isub, 1) := by decide +kernel
theorem d_10_10_78 : decode prog_10_method_10_code 78 = .ok (.putfield 40, 3) := by decide +kernel
theorem d_10_10_81 : decode prog_10_method_10_code 81 = .ok (.goto (-40), 3) := by decide +kernel
theorem d_10_10_8 : decode prog_10_method_10_code 8 = .ok (.if_icmp .ge 33, 3) := by decide +kernel
theorem d_10_10_11 : decode prog_10_method_10_code 11 = .ok (.aload_n 0, 1) := by decide +kernel
theorem d_10_10_12 : decode prog_10_method_10_code 12 = .ok (.getfield 9, 3) := by decide +kernel
theorem d_10_10_15 : decode prog_10_method_10_code 15 = .ok (.aload_n 0, 1) := by decide +kernel
theorem d_10_10_16 : decode prog_10_method_10_code 16 = .ok (.getfield 36, 3) := by decide +kernel
theorem d_10_10_19 : decode prog_10_method_10_code 19 = .ok (.i2l, 1) := by decide +kernel
theorem d_10_10_20 : decode prog_10_method_10_code 20 = .ok (.invokevirtual 139, 3) := by decide +kernel
theorem d_10_10_23 : decode prog_10_method_10_code 23 = .ok (.bipush 32, 2) := by decide +kernel
theorem d_10_10_25 : decode prog_10_method_10_code 25 = .ok (.if_icmp .gt 16, 3) := by decide +kernel
theorem d_10_10_28 : decode prog_10_method_10_code 28 = .ok (.aload_n 0, 1) := by decide +kernel
theorem d_10_10_29 : decode prog_10_method_10_code 29 = .ok (.dup, 1) := by decide +kernel
theorem d_10_10_30 : decode prog_10_method_10_code 30 = .ok (.getfield 36, 3) := by decide +kernel
theorem d_10_10_33 : decode prog_10_method_10_code 33 = .ok (.iconst 1, 1) := by decide +kernel
theorem d_10_10_34 : decode prog_10_method_10_code 34 = .ok (.iadd, 1) := by decide +kernel
theorem d_10_10_35 : decode prog_10_method_10_code 35 = .ok (.putfield 36, 3) := by decide +kernel
theorem d_10_10_38 : decode prog_10_method_10_code 38 = .ok (.goto (-38), 3) := by decide +kernel
def y_Rea_trimBlanks : MethodName := ⟨"NumberHouse$Reader", "trimBlanks", "()V"⟩
theorem d_10_8_0 : decode prog_10_method_8_code 0 = .ok (.aload_n 0, 1) := by decide +kernel
theorem d_10_8_1 : decode prog_10_method_8_code 1 = .ok (.invokevirtual 70, 3) := by decide +kernel
theorem d_10_8_4 : decode prog_10_method_8_code 4 = .ok (.bipush 32, 2) := by decide +kernel
theorem d_10_8_6 : decode prog_10_method_8_code 6 = .ok (.ior, 1) := by decide +kernel
theorem d_10_8_7 : decode prog_10_method_8_code 7 = .ok (.istore_n 1, 1) := by decide +kernel
theorem d_10_8_8 : decode prog_10_method_8_code 8 = .ok (.iload_n 1, 1) := by decide +kernel
theorem d_10_8_9 : decode prog_10_method_8_code 9 = .ok (.bipush 100, 2) := by decide +kernel
theorem d_10_8_20 : decode prog_10_method_8_code 20 = .ok (.aload_n 0, 1) := by decide +kernel
theorem d_10_8_21 : decode prog_10_method_8_code 21 = .ok (.dup, 1) := by decide +kernel
theorem d_10_8_22 : decode prog_10_method_8_code 22 = .ok (.getfield 36, 3) := by decide +kernel
theorem d_10_8_25 : decode prog_10_method_8_code 25 = .ok (.iconst 1, 1) := by decide +kernel
theorem d_10_8_26 : decode prog_10_method_8_code 26 = .ok (.iadd, 1) := by decide +kernel
theorem d_10_8_27 : decode prog_10_method_8_code 27 = .ok (.putfield 36, 3) := by decide +kernel
theorem d_10_8_30 : decode prog_10_method_8_code 30 = .ok (.aload_n 0, 1) := by decide +kernel
theorem d_10_8_31 : decode prog_10_method_8_code 31 = .ok (.getfield 36, 3) := by decide +kernel
theorem d_10_8_34 : decode prog_10_method_8_code 34 = .ok (.aload_n 0, 1) := by decide +kernel
theorem d_10_8_35 : decode prog_10_method_8_code 35 = .ok (.getfield 40, 3) := by decide +kernel
theorem d_10_8_38 : decode prog_10_method_8_code 38 = .ok (.if_icmp .lt 7, 3) := by decide +kernel
theorem d_10_8_45 : decode prog_10_method_8_code 45 = .ok (.iconst 0, 1) := by decide +kernel
theorem d_10_8_46 : decode prog_10_method_8_code 46 = .ok (.ireturn, 1) := by decide +kernel
theorem d_10_8_41 : decode prog_10_method_8_code 41 = .ok (.iconst 1, 1) := by decide +kernel
theorem d_10_8_42 : decode prog_10_method_8_code 42 = .ok (.goto 4, 3) := by decide +kernel
theorem d_10_8_11 : decode prog_10_method_8_code 11 = .ok (.if_icmp .eq 9, 3) := by decide +kernel
theorem d_10_8_14 : decode prog_10_method_8_code 14 = .ok (.iload_n 1, 1) := by decide +kernel
theorem d_10_8_15 : decode prog_10_method_8_code 15 = .ok (.bipush 102, 2) := by decide +kernel
theorem d_10_8_17 : decode prog_10_method_8_code 17 = .ok (.if_icmp .ne 13, 3) := by decide +kernel
def y_Rea_takeEnding : MethodName := ⟨"NumberHouse$Reader", "takeEnding", "()Z"⟩
theorem d_10_13_0 : decode prog_10_method_13_code 0 = .ok (.aload_n 0, 1) := by decide +kernel
theorem d_10_13_1 : decode prog_10_method_13_code 1 = .ok (.getfield 146, 3) := by decide +kernel
set_option maxRecDepth 100000 in
theorem w_294 : (Cond.fieldLink "NumberHouse$Reader" (146 : Nat) "NumberHouse$Reader" "kept" "I") ∈ q_tbl := q_of2 54 rfl (by decide +kernel)
theorem d_10_13_4 : decode prog_10_method_13_code 4 = .ok (.iload_n 3, 1) := by decide +kernel
theorem d_10_13_5 : decode prog_10_method_13_code 5 = .ok (.if_icmp .ge 45, 3) := by decide +kernel
theorem d_10_13_50 : decode prog_10_method_13_code 50 = .ok (.aload_n 0, 1) := by decide +kernel
theorem d_10_13_51 : decode prog_10_method_13_code 51 = .ok (.dup, 1) := by decide +kernel
theorem d_10_13_52 : decode prog_10_method_13_code 52 = .ok (.getfield 83, 3) := by decide +kernel
set_option maxRecDepth 100000 in
theorem w_295 : (Cond.fieldLink "NumberHouse$Reader" (83 : Nat) "NumberHouse$Reader" "dropped" "I") ∈ q_tbl := q_of2 55 rfl (by decide +kernel)
theorem d_10_13_55 : decode prog_10_method_13_code 55 = .ok (.iconst 1, 1) := by decide +kernel
theorem d_10_13_56 : decode prog_10_method_13_code 56 = .ok (.iadd, 1) := by decide +kernel
theorem d_10_13_57 : decode prog_10_method_13_code 57 = .ok (.putfield 83, 3) := by decide +kernel
theorem d_10_13_60 : decode prog_10_method_13_code 60 = .ok (.aload_n 0, 1) := by decide +kernel
theorem d_10_13_61 : decode prog_10_method_13_code 61 = .ok (.dup, 1) := by decide +kernel
theorem d_10_13_62 : decode prog_10_method_13_code 62 = .ok (.getfield 128, 3) := by decide +kernel
set_option maxRecDepth 100000 in
theorem w_296 : (Cond.fieldLink "NumberHouse$Reader" (128 : Nat) "NumberHouse$Reader" "droppedSome" "Z") ∈ q_tbl := q_of2 56 rfl (by decide +kernel)
theorem d_10_13_65 : decode prog_10_method_13_code 65 = .ok (.iload_n 2, 1) := by decide +kernel
theorem d_10_13_66 : decode prog_10_method_13_code 66 = .ok (.ifCond .eq 7, 3) := by decide +kernel
theorem d_10_13_73 : decode prog_10_method_13_code 73 = .ok (.iconst 0, 1) := by decide +kernel
theorem d_10_13_74 : decode prog_10_method_13_code 74 = .ok (.ior, 1) := by decide +kernel
theorem d_10_13_75 : decode prog_10_method_13_code 75 = .ok (.putfield 128, 3) := by decide +kernel
theorem d_10_13_78 : decode prog_10_method_13_code 78 = .ok (.return_, 1) := by decide +kernel
theorem d_10_13_69 : decode prog_10_method_13_code 69 = .ok (.iconst 1, 1) := by decide +kernel
theorem d_10_13_70 : decode prog_10_method_13_code 70 = .ok (.goto 4, 3) := by decide +kernel
theorem d_10_13_8 : decode prog_10_method_13_code 8 = .ok (.aload_n 0, 1) := by decide +kernel
theorem d_10_13_9 : decode prog_10_method_13_code 9 = .ok (.getfield 15, 3) := by decide +kernel
theorem d_10_13_12 : decode prog_10_method_13_code 12 = .ok (.getfield 25, 3) := by decide +kernel
set_option maxRecDepth 100000 in
theorem w_109 : (Cond.fieldLink "NumberHouse$Reader" (25 : Nat) "NumberHouse$Mill" "number" "LNumberHouse$Big;") ∈ q_tbl := q_of1 109 rfl (by decide +kernel)
theorem d_10_13_15 : decode prog_10_method_13_code 15 = .ok (.iload_n 1, 1) := by decide +kernel
theorem d_10_13_16 : decode prog_10_method_13_code 16 = .ok (.iload_n 2, 1) := by decide +kernel
theorem d_10_13_17 : decode prog_10_method_13_code 17 = .ok (.invokevirtual 47, 3) := by decide +kernel
set_option maxRecDepth 100000 in
theorem w_603 : (Cond.methodLink "NumberHouse$Reader" (47 : Nat) ({ cls := "NumberHouse$Big", name := "multiplySmall", desc := "(II)V" } : MethodName)) ∈ q_tbl := q_of3 123 rfl (by decide +kernel)
theorem LV_Rea_47 : q_LV "NumberHouse$Reader" 47 y_Big_multiplySmall prog_2_method_26_code 8 none 2 := ⟨w_606, w_4, w_603, w_604, w_605, ⟨by decide, by decide, by decide +kernel⟩⟩
theorem d_10_13_20 : decode prog_10_method_13_code 20 = .ok (.aload_n 0, 1) := by decide +kernel
theorem d_10_13_21 : decode prog_10_method_13_code 21 = .ok (.dup, 1) := by decide +kernel
theorem d_10_13_22 : decode prog_10_method_13_code 22 = .ok (.getfield 146, 3) := by decide +kernel
theorem d_10_13_25 : decode prog_10_method_13_code 25 = .ok (.aload_n 0, 1) := by decide +kernel
theorem d_10_13_26 : decode prog_10_method_13_code 26 = .ok (.getfield 15, 3) := by decide +kernel
theorem d_10_13_29 : decode prog_10_method_13_code 29 = .ok (.getfield 25, 3) := by decide +kernel
theorem d_10_13_32 : decode prog_10_method_13_code 32 = .ok (.getfield 58, 3) := by decide +kernel
set_option maxRecDepth 100000 in
theorem w_88 : (Cond.fieldLink "NumberHouse$Reader" (58 : Nat) "NumberHouse$Big" "size" "I") ∈ q_tbl := q_of1 88 rfl (by decide +kernel)
theorem d_10_13_35 : decode prog_10_method_13_code 35 = .ok (.ifCond .le 7, 3) := by decide +kernel
theorem d_10_13_42 : decode prog_10_method_13_code 42 = .ok (.iconst 0, 1) := by decide +kernel
theorem d_10_13_43 : decode prog_10_method_13_code 43 = .ok (.iadd, 1) := by decide +kernel
theorem d_10_13_44 : decode prog_10_method_13_code 44 = .ok (.putfield 146, 3) := by decide +kernel
theorem d_10_13_47 : decode prog_10_method_13_code 47 = .ok (.goto 31, 3) := by decide +kernel
theorem d_10_13_38 : decode prog_10_method_13_code 38 = .ok (.iconst 1, 1) := by decide +kernel
theorem d_10_13_39 : decode prog_10_method_13_code 39 = .ok (.goto 4, 3) := by decide +kernel
def y_Rea_keepFigure : MethodName := ⟨"NumberHouse$Reader", "keepFigure", "(III)V"⟩
theorem d_10_12_0 : decode prog_10_method_12_code 0 = .ok (.iconst 0, 1) := by decide +kernel
theorem d_10_12_1 : decode prog_10_method_12_code 1 = .ok (.istore_n 3, 1) := by decide +kernel
theorem d_10_12_2 : decode prog_10_method_12_code 2 = .ok (.iconst 0, 1) := by decide +kernel
theorem d_10_12_3 : decode prog_10_method_12_code 3 = .ok (.istore 4, 2) := by decide +kernel
theorem d_10_12_5 : decode prog_10_method_12_code 5 = .ok (.aload_n 0, 1) := by decide +kernel
theorem d_10_12_6 : decode prog_10_method_12_code 6 = .ok (.iconst 0, 1) := by decide +kernel
theorem d_10_12_7 : decode prog_10_method_12_code 7 = .ok (.putfield 77, 3) := by decide +kernel
set_option maxRecDepth 100000 in
theorem w_293 : (Cond.fieldLink "NumberHouse$Reader" (77 : Nat) "NumberHouse$Reader" "behindPoint" "I") ∈ q_tbl := q_of2 53 rfl (by decide +kernel)
theorem d_10_12_10 : decode prog_10_method_12_code 10 = .ok (.aload_n 0, 1) := by decide +kernel
theorem d_10_12_11 : decode prog_10_method_12_code 11 = .ok (.iconst 0, 1) := by decide +kernel
theorem d_10_12_12 : decode prog_10_method_12_code 12 = .ok (.putfield 146, 3) := by decide +kernel
theorem d_10_12_15 : decode prog_10_method_12_code 15 = .ok (.aload_n 0, 1) := by decide +kernel
theorem d_10_12_16 : decode prog_10_method_12_code 16 = .ok (.iconst 0, 1) := by decide +kernel
theorem d_10_12_17 : decode prog_10_method_12_code 17 = .ok (.putfield 83, 3) := by decide +kernel
theorem d_10_12_20 : decode prog_10_method_12_code 20 = .ok (.aload_n 0, 1) := by decide +kernel
theorem d_10_12_21 : decode prog_10_method_12_code 21 = .ok (.iconst 0, 1) := by decide +kernel
theorem d_10_12_22 : decode prog_10_method_12_code 22 = .ok (.putfield 128, 3) := by decide +kernel
theorem d_10_12_25 : decode prog_10_method_12_code 25 = .ok (.aload_n 0, 1) := by decide +kernel
theorem d_10_12_26 : decode prog_10_method_12_code 26 = .ok (.getfield 15, 3) := by decide +kernel
theorem d_10_12_29 : decode prog_10_method_12_code 29 = .ok (.getfield 25, 3) := by decide +kernel
theorem d_10_12_32 : decode prog_10_method_12_code 32 = .ok (.invokevirtual 31, 3) := by decide +kernel
set_option maxRecDepth 100000 in
theorem w_598 : (Cond.methodLink "NumberHouse$Reader" (31 : Nat) ({ cls := "NumberHouse$Big", name := "clear", desc := "()V" } : MethodName)) ∈ q_tbl := q_of3 118 rfl (by decide +kernel)
theorem LV_Rea_31 : q_LV "NumberHouse$Reader" 31 y_Big_clear prog_2_method_2_code 1 none 0 := ⟨w_197, w_4, w_598, w_195, w_196, ⟨by decide, by decide, by decide +kernel⟩⟩
theorem d_10_12_35 : decode prog_10_method_12_code 35 = .ok (.aload_n 0, 1) := by decide +kernel
theorem d_10_12_36 : decode prog_10_method_12_code 36 = .ok (.getfield 36, 3) := by decide +kernel
theorem d_10_12_39 : decode prog_10_method_12_code 39 = .ok (.aload_n 0, 1) := by decide +kernel
theorem d_10_12_40 : decode prog_10_method_12_code 40 = .ok (.getfield 40, 3) := by decide +kernel
theorem d_10_12_43 : decode prog_10_method_12_code 43 = .ok (.if_icmp .ge 75, 3) := by decide +kernel
theorem d_10_12_118 : decode prog_10_method_12_code 118 = .ok (.iload 4, 2) := by decide +kernel
theorem d_10_12_120 : decode prog_10_method_12_code 120 = .ok (.ifCond .le 7, 3) := by decide +kernel
theorem d_10_12_127 : decode prog_10_method_12_code 127 = .ok (.iconst 0, 1) := by decide +kernel
theorem d_10_12_128 : decode prog_10_method_12_code 128 = .ok (.ireturn, 1) := by decide +kernel
theorem d_10_12_123 : decode prog_10_method_12_code 123 = .ok (.iconst 1, 1) := by decide +kernel
theorem d_10_12_124 : decode prog_10_method_12_code 124 = .ok (.goto 4, 3) := by decide +kernel
theorem d_10_12_46 : decode prog_10_method_12_code 46 = .ok (.aload_n 0, 1) := by decide +kernel
theorem d_10_12_47 : decode prog_10_method_12_code 47 = .ok (.invokevirtual 43, 3) := by decide +kernel
set_option maxRecDepth 100000 in
theorem w_602 : (Cond.code ({ cls := "NumberHouse$Reader", name := "digitHere", desc := "()I" } : MethodName) prog_10_method_17_code (3 : Nat) (some .int)) ∈ q_tbl := q_of3 122 rfl (by decide +kernel)
set_option maxRecDepth 100000 in
theorem w_599 : (Cond.methodLink "NumberHouse$Reader" (43 : Nat) ({ cls := "NumberHouse$Reader", name := "digitHere", desc := "()I" } : MethodName)) ∈ q_tbl := q_of3 119 rfl (by decide +kernel)
set_option maxRecDepth 100000 in
theorem w_601 : (Cond.instanceMethod ({ cls := "NumberHouse$Reader", name := "digitHere", desc := "()I" } : MethodName)) ∈ q_tbl := q_of3 121 rfl (by decide +kernel)
theorem ws_4 : Cond.selects "NumberHouse$Reader" (⟨"NumberHouse$Reader", "digitHere", "()I"⟩ : MethodName) (⟨"NumberHouse$Reader", "digitHere", "()I"⟩ : MethodName) ∈ q_tbl := q_ofs 4 (by decide +kernel) (by decide +kernel)
theorem LV_Rea_43 : q_LV "NumberHouse$Reader" 43 y_Rea_digitHere prog_10_method_17_code 3 (some .int) 0 := ⟨w_602, w_10, w_599, w_601, ws_4, ⟨by decide, by decide, by decide +kernel⟩⟩
theorem d_10_12_50 : decode prog_10_method_12_code 50 = .ok (.istore 5, 2) := by decide +kernel
theorem d_10_12_52 : decode prog_10_method_12_code 52 = .ok (.iload 5, 2) := by decide +kernel
theorem d_10_12_54 : decode prog_10_method_12_code 54 = .ok (.iload_n 1, 1) := by decide +kernel
theorem d_10_12_55 : decode prog_10_method_12_code 55 = .ok (.if_icmp .ge 35, 3) := by decide +kernel
theorem d_10_12_90 : decode prog_10_method_12_code 90 = .ok (.aload_n 0, 1) := by decide +kernel
theorem d_10_12_91 : decode prog_10_method_12_code 91 = .ok (.invokevirtual 70, 3) := by decide +kernel
theorem d_10_12_94 : decode prog_10_method_12_code 94 = .ok (.bipush 46, 2) := by decide +kernel
theorem d_10_12_96 : decode prog_10_method_12_code 96 = .ok (.if_icmp .ne 22, 3) := by decide +kernel
theorem d_10_12_99 : decode prog_10_method_12_code 99 = .ok (.iload_n 3, 1) := by decide +kernel
theorem d_10_12_100 : decode prog_10_method_12_code 100 = .ok (.ifCond .ne 18, 3) := by decide +kernel
theorem d_10_12_103 : decode prog_10_method_12_code 103 = .ok (.iconst 1, 1) := by decide +kernel
theorem d_10_12_104 : decode prog_10_method_12_code 104 = .ok (.istore_n 3, 1) := by decide +kernel
theorem d_10_12_105 : decode prog_10_method_12_code 105 = .ok (.aload_n 0, 1) := by decide +kernel
theorem d_10_12_106 : decode prog_10_method_12_code 106 = .ok (.dup, 1) := by decide +kernel
theorem d_10_12_107 : decode prog_10_method_12_code 107 = .ok (.getfield 36, 3) := by decide +kernel
theorem d_10_12_110 : decode prog_10_method_12_code 110 = .ok (.iconst 1, 1) := by decide +kernel
theorem d_10_12_111 : decode prog_10_method_12_code 111 = .ok (.iadd, 1) := by decide +kernel
theorem d_10_12_112 : decode prog_10_method_12_code 112 = .ok (.putfield 36, 3) := by decide +kernel
theorem d_10_12_115 : decode prog_10_method_12_code 115 = .ok (.goto (-80), 3) := by decide +kernel
theorem d_10_12_58 : decode prog_10_method_12_code 58 = .ok (.aload_n 0, 1) := by decide +kernel
theorem d_10_12_59 : decode prog_10_method_12_code 59 = .ok (.iload_n 1, 1) := by decide +kernel
theorem d_10_12_60 : decode prog_10_method_12_code 60 = .ok (.iload 5, 2) := by decide +kernel
theorem d_10_12_62 : decode prog_10_method_12_code 62 = .ok (.iload_n 2, 1) := by decide +kernel
theorem d_10_12_63 : decode prog_10_method_12_code 63 = .ok (.invokevirtual 149, 3) := by decide +kernel
set_option maxRecDepth 100000 in
theorem w_631 : (Cond.code ({ cls := "NumberHouse$Reader", name := "keepFigure", desc := "(III)V" } : MethodName) prog_10_method_13_code (4 : Nat) (none : Option ClassFile.FieldType)) ∈ q_tbl := q_of3 151 rfl (by decide +kernel)
set_option maxRecDepth 100000 in
theorem w_628 : (Cond.methodLink "NumberHouse$Reader" (149 : Nat) ({ cls := "NumberHouse$Reader", name := "keepFigure", desc := "(III)V" } : MethodName)) ∈ q_tbl := q_of3 148 rfl (by decide +kernel)
set_option maxRecDepth 100000 in
theorem w_630 : (Cond.instanceMethod ({ cls := "NumberHouse$Reader", name := "keepFigure", desc := "(III)V" } : MethodName)) ∈ q_tbl := q_of3 150 rfl (by decide +kernel)
theorem ws_6 : Cond.selects "NumberHouse$Reader" (⟨"NumberHouse$Reader", "keepFigure", "(III)V"⟩ : MethodName) (⟨"NumberHouse$Reader", "keepFigure", "(III)V"⟩ : MethodName) ∈ q_tbl := q_ofs 6 (by decide +kernel) (by decide +kernel)
theorem LV_Rea_149 : q_LV "NumberHouse$Reader" 149 y_Rea_keepFigure prog_10_method_13_code 4 none 3 := ⟨w_631, w_10, w_628, w_630, ws_6, ⟨by decide, by decide, by decide +kernel⟩⟩
theorem d_10_12_66 : decode prog_10_method_12_code 66 = .ok (.iinc 4 1, 3) := by decide +kernel
theorem d_10_12_69 : decode prog_10_method_12_code 69 = .ok (.aload_n 0, 1) := by decide +kernel
theorem d_10_12_70 : decode prog_10_method_12_code 70 = .ok (.dup, 1) := by decide +kernel
theorem d_10_12_71 : decode prog_10_method_12_code 71 = .ok (.getfield 77, 3) := by decide +kernel
theorem d_10_12_74 : decode prog_10_method_12_code 74 = .ok (.iload_n 3, 1) := by decide +kernel
theorem d_10_12_75 : decode prog_10_method_12_code 75 = .ok (.ifCond .eq 7, 3) := by decide +kernel
theorem d_10_12_82 : decode prog_10_method_12_code 82 = .ok (.iconst 0, 1) := by decide +kernel
theorem d_10_12_83 : decode prog_10_method_12_code 83 = .ok (.iadd, 1) := by decide +kernel
theorem d_10_12_84 : decode prog_10_method_12_code 84 = .ok (.putfield 77, 3) := by decide +kernel
theorem d_10_12_87 : decode prog_10_method_12_code 87 = .ok (.goto 18, 3) := by decide +kernel
theorem d_10_12_78 : decode prog_10_method_12_code 78 = .ok (.iconst 1, 1) := by decide +kernel
theorem d_10_12_79 : decode prog_10_method_12_code 79 = .ok (.goto 4, 3) := by decide +kernel
def y_Rea_takeFigures : MethodName := ⟨"NumberHouse$Reader", "takeFigures", "(II)Z"⟩
theorem d_10_14_0 : decode prog_10_method_14_code 0 = .ok (.aload_n 0, 1) := by decide +kernel
theorem d_10_14_1 : decode prog_10_method_14_code 1 = .ok (.dup, 1) := by decide +kernel
theorem d_10_14_2 : decode prog_10_method_14_code 2 = .ok (.getfield 36, 3) := by decide +kernel
theorem d_10_14_5 : decode prog_10_method_14_code 5 = .ok (.iconst 1, 1) := by decide +kernel
theorem d_10_14_6 : decode prog_10_method_14_code 6 = .ok (.iadd, 1) := by decide +kernel
theorem d_10_14_7 : decode prog_10_method_14_code 7 = .ok (.putfield 36, 3) := by decide +kernel
theorem d_10_14_10 : decode prog_10_method_14_code 10 = .ok (.aload_n 0, 1) := by decide +kernel
theorem d_10_14_11 : decode prog_10_method_14_code 11 = .ok (.invokevirtual 70, 3) := by decide +kernel
theorem d_10_14_14 : decode prog_10_method_14_code 14 = .ok (.bipush 45, 2) := by decide +kernel
theorem d_10_14_24 : decode prog_10_method_14_code 24 = .ok (.istore_n 2, 1) := by decide +kernel
theorem d_10_14_25 : decode prog_10_method_14_code 25 = .ok (.aload_n 0, 1) := by decide +kernel
theorem d_10_14_26 : decode prog_10_method_14_code 26 = .ok (.invokevirtual 70, 3) := by decide +kernel
theorem d_10_14_29 : decode prog_10_method_14_code 29 = .ok (.bipush 45, 2) := by decide +kernel
theorem d_10_14_53 : decode prog_10_method_14_code 53 = .ok (.aload_n 0, 1) := by decide +kernel
theorem d_10_14_54 : decode prog_10_method_14_code 54 = .ok (.getfield 36, 3) := by decide +kernel
theorem d_10_14_57 : decode prog_10_method_14_code 57 = .ok (.istore_n 3, 1) := by decide +kernel
theorem d_10_14_58 : decode prog_10_method_14_code 58 = .ok (.lconst 0, 1) := by decide +kernel
theorem d_10_14_59 : decode prog_10_method_14_code 59 = .ok (.lstore 4, 2) := by decide +kernel
theorem d_10_14_61 : decode prog_10_method_14_code 61 = .ok (.aload_n 0, 1) := by decide +kernel
theorem d_10_14_62 : decode prog_10_method_14_code 62 = .ok (.getfield 36, 3) := by decide +kernel
theorem d_10_14_65 : decode prog_10_method_14_code 65 = .ok (.aload_n 0, 1) := by decide +kernel
theorem d_10_14_66 : decode prog_10_method_14_code 66 = .ok (.getfield 40, 3) := by decide +kernel
theorem d_10_14_117 : decode prog_10_method_14_code 117 = .ok (.aload_n 0, 1) := by decide +kernel
theorem d_10_14_118 : decode prog_10_method_14_code 118 = .ok (.iload_n 2, 1) := by decide +kernel
theorem d_10_14_119 : decode prog_10_method_14_code 119 = .ok (.i2l, 1) := by decide +kernel
theorem d_10_14_120 : decode prog_10_method_14_code 120 = .ok (.lload 4, 2) := by decide +kernel
theorem d_10_14_122 : decode prog_10_method_14_code 122 = .ok (.lmul, 1) := by decide +kernel
theorem d_10_14_123 : decode prog_10_method_14_code 123 = .ok (.putfield 66, 3) := by decide +kernel
set_option maxRecDepth 100000 in
theorem w_297 : (Cond.fieldLink "NumberHouse$Reader" (66 : Nat) "NumberHouse$Reader" "exponent" "J") ∈ q_tbl := q_of2 57 rfl (by decide +kernel)
theorem d_10_14_126 : decode prog_10_method_14_code 126 = .ok (.aload_n 0, 1) := by decide +kernel
theorem d_10_14_127 : decode prog_10_method_14_code 127 = .ok (.getfield 36, 3) := by decide +kernel
theorem d_10_14_130 : decode prog_10_method_14_code 130 = .ok (.iload_n 3, 1) := by decide +kernel
theorem d_10_14_131 : decode prog_10_method_14_code 131 = .ok (.if_icmp .le 17, 3) := by decide +kernel
theorem d_10_14_148 : decode prog_10_method_14_code 148 = .ok (.iconst 0, 1) := by decide +kernel
theorem d_10_14_149 : decode prog_10_method_14_code 149 = .ok (.ireturn, 1) := by decide +kernel
theorem d_10_14_134 : decode prog_10_method_14_code 134 = .ok (.aload_n 0, 1) := by decide +kernel
theorem d_10_14_135 : decode prog_10_method_14_code 135 = .ok (.getfield 36, 3) := by decide +kernel
theorem d_10_14_138 : decode prog_10_method_14_code 138 = .ok (.iload_n 3, 1) := by decide +kernel
theorem d_10_14_139 : decode prog_10_method_14_code 139 = .ok (.isub, 1) := by decide +kernel
theorem d_10_14_140 : decode prog_10_method_14_code 140 = .ok (.iload_n 1, 1) := by decide +kernel
theorem d_10_14_141 : decode prog_10_method_14_code 141 = .ok (.if_icmp .gt 7, 3) := by decide +kernel
theorem d_10_14_144 : decode prog_10_method_14_code 144 = .ok (.iconst 1, 1) := by decide +kernel
theorem d_10_14_145 : decode prog_10_method_14_code 145 = .ok (.goto 4, 3) := by decide +kernel
theorem d_10_14_69 : decode prog_10_method_14_code 69 = .ok (.if_icmp .ge 48, 3) := by decide +kernel
theorem d_10_14_72 : decode prog_10_method_14_code 72 = .ok (.aload_n 0, 1) := by decide +kernel
theorem d_10_14_73 : decode prog_10_method_14_code 73 = .ok (.invokevirtual 43, 3) := by decide +kernel
theorem d_10_14_76 : decode prog_10_method_14_code 76 = .ok (.bipush 10, 2) := by decide +kernel
theorem d_10_14_78 : decode prog_10_method_14_code 78 = .ok (.if_icmp .ge 39, 3) := by decide +kernel
theorem d_10_14_81 : decode prog_10_method_14_code 81 = .ok (.lload 4, 2) := by decide +kernel
theorem d_10_14_83 : decode prog_10_method_14_code 83 = .ok (.ldc2_w 153, 3) := by decide +kernel
set_option maxRecDepth 100000 in
theorem w_636 : (Cond.constantLong "NumberHouse$Reader" (153 : Nat) (100000000000 : Int64)) ∈ q_tbl := q_of3 156 rfl (by decide +kernel)
theorem d_10_14_86 : decode prog_10_method_14_code 86 = .ok (.lcmp, 1) := by decide +kernel
theorem d_10_14_87 : decode prog_10_method_14_code 87 = .ok (.ifCond .ge 17, 3) := by decide +kernel
theorem d_10_14_104 : decode prog_10_method_14_code 104 = .ok (.aload_n 0, 1) := by decide +kernel
theorem d_10_14_105 : decode prog_10_method_14_code 105 = .ok (.dup, 1) := by decide +kernel
theorem d_10_14_106 : decode prog_10_method_14_code 106 = .ok (.getfield 36, 3) := by decide +kernel
theorem d_10_14_109 : decode prog_10_method_14_code 109 = .ok (.iconst 1, 1) := by decide +kernel
theorem d_10_14_110 : decode prog_10_method_14_code 110 = .ok (.iadd, 1) := by decide +kernel
theorem d_10_14_111 : decode prog_10_method_14_code 111 = .ok (.putfield 36, 3) := by decide +kernel
theorem d_10_14_114 : decode prog_10_method_14_code 114 = .ok (.goto (-53), 3) := by decide +kernel
theorem d_10_14_90 : decode prog_10_method_14_code 90 = .ok (.lload 4, 2) := by decide +kernel
theorem d_10_14_92 : decode prog_10_method_14_code 92 = .ok (.ldc2_w 155, 3) := by decide +kernel
set_option maxRecDepth 100000 in
theorem w_637 : (Cond.constantLong "NumberHouse$Reader" (155 : Nat) (10 : Int64)) ∈ q_tbl := q_of3 157 rfl (by decide +kernel)
theorem d_10_14_95 : decode prog_10_method_14_code 95 = .ok (.lmul, 1) := by decide +kernel
theorem d_10_14_96 : decode prog_10_method_14_code 96 = .ok (.aload_n 0, 1) := by decide +kernel
theorem d_10_14_97 : decode prog_10_method_14_code 97 = .ok (.invokevirtual 43, 3) := by decide +kernel
theorem d_10_14_100 : decode prog_10_method_14_code 100 = .ok (.i2l, 1) := by decide +kernel
theorem d_10_14_101 : decode prog_10_method_14_code 101 = .ok (.ladd, 1) := by decide +kernel
theorem d_10_14_102 : decode prog_10_method_14_code 102 = .ok (.lstore 4, 2) := by decide +kernel
theorem d_10_14_43 : decode prog_10_method_14_code 43 = .ok (.aload_n 0, 1) := by decide +kernel
theorem d_10_14_44 : decode prog_10_method_14_code 44 = .ok (.dup, 1) := by decide +kernel
theorem d_10_14_45 : decode prog_10_method_14_code 45 = .ok (.getfield 36, 3) := by decide +kernel
theorem d_10_14_48 : decode prog_10_method_14_code 48 = .ok (.iconst 1, 1) := by decide +kernel
theorem d_10_14_49 : decode prog_10_method_14_code 49 = .ok (.iadd, 1) := by decide +kernel
theorem d_10_14_50 : decode prog_10_method_14_code 50 = .ok (.putfield 36, 3) := by decide +kernel
theorem d_10_14_31 : decode prog_10_method_14_code 31 = .ok (.if_icmp .eq 12, 3) := by decide +kernel
theorem d_10_14_34 : decode prog_10_method_14_code 34 = .ok (.aload_n 0, 1) := by decide +kernel
theorem d_10_14_35 : decode prog_10_method_14_code 35 = .ok (.invokevirtual 70, 3) := by decide +kernel
theorem d_10_14_38 : decode prog_10_method_14_code 38 = .ok (.bipush 43, 2) := by decide +kernel
theorem d_10_14_40 : decode prog_10_method_14_code 40 = .ok (.if_icmp .ne 13, 3) := by decide +kernel
theorem d_10_14_16 : decode prog_10_method_14_code 16 = .ok (.if_icmp .ne 7, 3) := by decide +kernel
theorem d_10_14_23 : decode prog_10_method_14_code 23 = .ok (.iconst 1, 1) := by decide +kernel
theorem d_10_14_19 : decode prog_10_method_14_code 19 = .ok (.iconst (-1), 1) := by decide +kernel
theorem d_10_14_20 : decode prog_10_method_14_code 20 = .ok (.goto 4, 3) := by decide +kernel
def y_Rea_takeExponent : MethodName := ⟨"NumberHouse$Reader", "takeExponent", "(I)Z"⟩
theorem d_10_5_0 : decode prog_10_method_5_code 0 = .ok (.aload_n 0, 1) := by decide +kernel
theorem d_10_5_1 : decode prog_10_method_5_code 1 = .ok (.getfield 40, 3) := by decide +kernel
theorem d_10_5_4 : decode prog_10_method_5_code 4 = .ok (.aload_n 0, 1) := by decide +kernel
theorem d_10_5_5 : decode prog_10_method_5_code 5 = .ok (.getfield 36, 3) := by decide +kernel
theorem d_10_5_8 : decode prog_10_method_5_code 8 = .ok (.isub, 1) := by decide +kernel
theorem d_10_5_9 : decode prog_10_method_5_code 9 = .ok (.iconst 2, 1) := by decide +kernel
theorem d_10_5_57 : decode prog_10_method_5_code 57 = .ok (.istore_n 1, 1) := by decide +kernel
theorem d_10_5_58 : decode prog_10_method_5_code 58 = .ok (.aload_n 0, 1) := by decide +kernel
theorem d_10_5_59 : decode prog_10_method_5_code 59 = .ok (.dup, 1) := by decide +kernel
theorem d_10_5_60 : decode prog_10_method_5_code 60 = .ok (.getfield 36, 3) := by decide +kernel
theorem d_10_5_63 : decode prog_10_method_5_code 63 = .ok (.iload_n 1, 1) := by decide +kernel
theorem d_10_5_64 : decode prog_10_method_5_code 64 = .ok (.ifCond .eq 7, 3) := by decide +kernel
theorem d_10_5_71 : decode prog_10_method_5_code 71 = .ok (.iconst 0, 1) := by decide +kernel
theorem d_10_5_72 : decode prog_10_method_5_code 72 = .ok (.iadd, 1) := by decide +kernel
theorem d_10_5_73 : decode prog_10_method_5_code 73 = .ok (.putfield 36, 3) := by decide +kernel
theorem d_10_5_76 : decode prog_10_method_5_code 76 = .ok (.iload_n 1, 1) := by decide +kernel
theorem d_10_5_77 : decode prog_10_method_5_code 77 = .ok (.ireturn, 1) := by decide +kernel
theorem d_10_5_67 : decode prog_10_method_5_code 67 = .ok (.iconst 2, 1) := by decide +kernel
theorem d_10_5_68 : decode prog_10_method_5_code 68 = .ok (.goto 4, 3) := by decide +kernel
theorem d_10_5_56 : decode prog_10_method_5_code 56 = .ok (.iconst 0, 1) := by decide +kernel
theorem d_10_5_10 : decode prog_10_method_5_code 10 = .ok (.if_icmp .lt 46, 3) := by decide +kernel
theorem d_10_5_13 : decode prog_10_method_5_code 13 = .ok (.aload_n 0, 1) := by decide +kernel
theorem d_10_5_14 : decode prog_10_method_5_code 14 = .ok (.getfield 9, 3) := by decide +kernel
theorem d_10_5_17 : decode prog_10_method_5_code 17 = .ok (.aload_n 0, 1) := by decide +kernel
theorem d_10_5_18 : decode prog_10_method_5_code 18 = .ok (.getfield 36, 3) := by decide +kernel
theorem d_10_5_21 : decode prog_10_method_5_code 21 = .ok (.i2l, 1) := by decide +kernel
theorem d_10_5_22 : decode prog_10_method_5_code 22 = .ok (.invokevirtual 139, 3) := by decide +kernel
theorem d_10_5_25 : decode prog_10_method_5_code 25 = .ok (.bipush 48, 2) := by decide +kernel
theorem d_10_5_27 : decode prog_10_method_5_code 27 = .ok (.if_icmp .ne 29, 3) := by decide +kernel
theorem d_10_5_30 : decode prog_10_method_5_code 30 = .ok (.aload_n 0, 1) := by decide +kernel
theorem d_10_5_31 : decode prog_10_method_5_code 31 = .ok (.getfield 9, 3) := by decide +kernel
theorem d_10_5_34 : decode prog_10_method_5_code 34 = .ok (.aload_n 0, 1) := by decide +kernel
theorem d_10_5_35 : decode prog_10_method_5_code 35 = .ok (.getfield 36, 3) := by decide +kernel
theorem d_10_5_38 : decode prog_10_method_5_code 38 = .ok (.iconst 1, 1) := by decide +kernel
theorem d_10_5_39 : decode prog_10_method_5_code 39 = .ok (.iadd, 1) := by decide +kernel
theorem d_10_5_40 : decode prog_10_method_5_code 40 = .ok (.i2l, 1) := by decide +kernel
theorem d_10_5_41 : decode prog_10_method_5_code 41 = .ok (.invokevirtual 139, 3) := by decide +kernel
theorem d_10_5_44 : decode prog_10_method_5_code 44 = .ok (.bipush 32, 2) := by decide +kernel
theorem d_10_5_46 : decode prog_10_method_5_code 46 = .ok (.ior, 1) := by decide +kernel
theorem d_10_5_47 : decode prog_10_method_5_code 47 = .ok (.bipush 120, 2) := by decide +kernel
theorem d_10_5_49 : decode prog_10_method_5_code 49 = .ok (.if_icmp .ne 7, 3) := by decide +kernel
theorem d_10_5_52 : decode prog_10_method_5_code 52 = .ok (.iconst 1, 1) := by decide +kernel
theorem d_10_5_53 : decode prog_10_method_5_code 53 = .ok (.goto 4, 3) := by decide +kernel
def y_Rea_takeHexadecimalMark : MethodName := ⟨"NumberHouse$Reader", "takeHexadecimalMark", "()Z"⟩
theorem d_10_6_0 : decode prog_10_method_6_code 0 = .ok (.aload_n 0, 1) := by decide +kernel
theorem d_10_6_1 : decode prog_10_method_6_code 1 = .ok (.bipush 16, 2) := by decide +kernel
theorem d_10_6_3 : decode prog_10_method_6_code 3 = .ok (.bipush 40, 2) := by decide +kernel
theorem d_10_6_5 : decode prog_10_method_6_code 5 = .ok (.invokevirtual 62, 3) := by decide +kernel
set_option maxRecDepth 100000 in
theorem w_627 : (Cond.code ({ cls := "NumberHouse$Reader", name := "takeFigures", desc := "(II)Z" } : MethodName) prog_10_method_12_code (6 : Nat) (some .boolean)) ∈ q_tbl := q_of3 147 rfl (by decide +kernel)
set_option maxRecDepth 100000 in
theorem w_624 : (Cond.methodLink "NumberHouse$Reader" (62 : Nat) ({ cls := "NumberHouse$Reader", name := "takeFigures", desc := "(II)Z" } : MethodName)) ∈ q_tbl := q_of3 144 rfl (by decide +kernel)
set_option maxRecDepth 100000 in
theorem w_626 : (Cond.instanceMethod ({ cls := "NumberHouse$Reader", name := "takeFigures", desc := "(II)Z" } : MethodName)) ∈ q_tbl := q_of3 146 rfl (by decide +kernel)
theorem ws_5 : Cond.selects "NumberHouse$Reader" (⟨"NumberHouse$Reader", "takeFigures", "(II)Z"⟩ : MethodName) (⟨"NumberHouse$Reader", "takeFigures", "(II)Z"⟩ : MethodName) ∈ q_tbl := q_ofs 5 (by decide +kernel) (by decide +kernel)
theorem LV_Rea_62 : q_LV "NumberHouse$Reader" 62 y_Rea_takeFigures prog_10_method_12_code 6 (some .boolean) 2 := ⟨w_627, w_10, w_624, w_626, ws_5, ⟨by decide, by decide, by decide +kernel⟩⟩
theorem d_10_6_8 : decode prog_10_method_6_code 8 = .ok (.ifCond .eq 29, 3) := by decide +kernel
theorem d_10_6_37 : decode prog_10_method_6_code 37 = .ok (.iconst 0, 1) := by decide +kernel
theorem d_10_6_38 : decode prog_10_method_6_code 38 = .ok (.ireturn, 1) := by decide +kernel
theorem d_10_6_11 : decode prog_10_method_6_code 11 = .ok (.aload_n 0, 1) := by decide +kernel
theorem d_10_6_12 : decode prog_10_method_6_code 12 = .ok (.invokevirtual 70, 3) := by decide +kernel
theorem d_10_6_15 : decode prog_10_method_6_code 15 = .ok (.bipush 32, 2) := by decide +kernel
theorem d_10_6_17 : decode prog_10_method_6_code 17 = .ok (.ior, 1) := by decide +kernel
theorem d_10_6_18 : decode prog_10_method_6_code 18 = .ok (.bipush 112, 2) := by decide +kernel
theorem d_10_6_20 : decode prog_10_method_6_code 20 = .ok (.if_icmp .ne 17, 3) := by decide +kernel
theorem d_10_6_23 : decode prog_10_method_6_code 23 = .ok (.aload_n 0, 1) := by decide +kernel
theorem d_10_6_24 : decode prog_10_method_6_code 24 = .ok (.sipush 4100, 3) := by decide +kernel
theorem d_10_6_27 : decode prog_10_method_6_code 27 = .ok (.invokevirtual 73, 3) := by decide +kernel
set_option maxRecDepth 100000 in
theorem w_635 : (Cond.code ({ cls := "NumberHouse$Reader", name := "takeExponent", desc := "(I)Z" } : MethodName) prog_10_method_14_code (6 : Nat) (some .boolean)) ∈ q_tbl := q_of3 155 rfl (by decide +kernel)
set_option maxRecDepth 100000 in
theorem w_632 : (Cond.methodLink "NumberHouse$Reader" (73 : Nat) ({ cls := "NumberHouse$Reader", name := "takeExponent", desc := "(I)Z" } : MethodName)) ∈ q_tbl := q_of3 152 rfl (by decide +kernel)
set_option maxRecDepth 100000 in
theorem w_634 : (Cond.instanceMethod ({ cls := "NumberHouse$Reader", name := "takeExponent", desc := "(I)Z" } : MethodName)) ∈ q_tbl := q_of3 154 rfl (by decide +kernel)
theorem ws_7 : Cond.selects "NumberHouse$Reader" (⟨"NumberHouse$Reader", "takeExponent", "(I)Z"⟩ : MethodName) (⟨"NumberHouse$Reader", "takeExponent", "(I)Z"⟩ : MethodName) ∈ q_tbl := q_ofs 7 (by decide +kernel) (by decide +kernel)
theorem LV_Rea_73 : q_LV "NumberHouse$Reader" 73 y_Rea_takeExponent prog_10_method_14_code 6 (some .boolean) 1 := ⟨w_635, w_10, w_632, w_634, ws_7, ⟨by decide, by decide, by decide +kernel⟩⟩
theorem d_10_6_30 : decode prog_10_method_6_code 30 = .ok (.ifCond .eq 7, 3) := by decide +kernel
theorem d_10_6_33 : decode prog_10_method_6_code 33 = .ok (.iconst 1, 1) := by decide +kernel
theorem d_10_6_34 : decode prog_10_method_6_code 34 = .ok (.goto 4, 3) := by decide +kernel
def y_Rea_takeHexadecimal : MethodName := ⟨"NumberHouse$Reader", "takeHexadecimal", "()Z"⟩
theorem d_10_7_0 : decode prog_10_method_7_code 0 = .ok (.aload_n 0, 1) := by decide +kernel
theorem d_10_7_1 : decode prog_10_method_7_code 1 = .ok (.bipush 10, 2) := by decide +kernel
theorem d_10_7_3 : decode prog_10_method_7_code 3 = .ok (.sipush 800, 3) := by decide +kernel
theorem d_10_7_6 : decode prog_10_method_7_code 6 = .ok (.invokevirtual 62, 3) := by decide +kernel
theorem d_10_7_9 : decode prog_10_method_7_code 9 = .ok (.ifCond .ne 5, 3) := by decide +kernel
theorem d_10_7_14 : decode prog_10_method_7_code 14 = .ok (.aload_n 0, 1) := by decide +kernel
theorem d_10_7_15 : decode prog_10_method_7_code 15 = .ok (.getfield 128, 3) := by decide +kernel
theorem d_10_7_44 : decode prog_10_method_7_code 44 = .ok (.aload_n 0, 1) := by decide +kernel
theorem d_10_7_45 : decode prog_10_method_7_code 45 = .ok (.lconst 0, 1) := by decide +kernel
theorem d_10_7_46 : decode prog_10_method_7_code 46 = .ok (.putfield 66, 3) := by decide +kernel
theorem d_10_7_49 : decode prog_10_method_7_code 49 = .ok (.aload_n 0, 1) := by decide +kernel
theorem d_10_7_50 : decode prog_10_method_7_code 50 = .ok (.invokevirtual 70, 3) := by decide +kernel
theorem d_10_7_53 : decode prog_10_method_7_code 53 = .ok (.bipush 32, 2) := by decide +kernel
theorem d_10_7_55 : decode prog_10_method_7_code 55 = .ok (.ior, 1) := by decide +kernel
theorem d_10_7_56 : decode prog_10_method_7_code 56 = .ok (.bipush 101, 2) := by decide +kernel
theorem d_10_7_58 : decode prog_10_method_7_code 58 = .ok (.if_icmp .ne 13, 3) := by decide +kernel
theorem d_10_7_71 : decode prog_10_method_7_code 71 = .ok (.iconst 1, 1) := by decide +kernel
theorem d_10_7_72 : decode prog_10_method_7_code 72 = .ok (.goto 4, 3) := by decide +kernel
theorem d_10_7_76 : decode prog_10_method_7_code 76 = .ok (.ireturn, 1) := by decide +kernel
theorem d_10_7_61 : decode prog_10_method_7_code 61 = .ok (.aload_n 0, 1) := by decide +kernel
theorem d_10_7_62 : decode prog_10_method_7_code 62 = .ok (.sipush 4100, 3) := by decide +kernel
theorem d_10_7_65 : decode prog_10_method_7_code 65 = .ok (.invokevirtual 73, 3) := by decide +kernel
theorem d_10_7_68 : decode prog_10_method_7_code 68 = .ok (.ifCond .eq 7, 3) := by decide +kernel
theorem d_10_7_75 : decode prog_10_method_7_code 75 = .ok (.iconst 0, 1) := by decide +kernel
theorem d_10_7_18 : decode prog_10_method_7_code 18 = .ok (.ifCond .eq 26, 3) := by decide +kernel
theorem d_10_7_21 : decode prog_10_method_7_code 21 = .ok (.aload_n 0, 1) := by decide +kernel
theorem d_10_7_22 : decode prog_10_method_7_code 22 = .ok (.getfield 15, 3) := by decide +kernel
theorem d_10_7_25 : decode prog_10_method_7_code 25 = .ok (.getfield 25, 3) := by decide +kernel
theorem d_10_7_28 : decode prog_10_method_7_code 28 = .ok (.bipush 10, 2) := by decide +kernel
theorem d_10_7_30 : decode prog_10_method_7_code 30 = .ok (.iconst 1, 1) := by decide +kernel
theorem d_10_7_31 : decode prog_10_method_7_code 31 = .ok (.invokevirtual 47, 3) := by decide +kernel
theorem d_10_7_34 : decode prog_10_method_7_code 34 = .ok (.aload_n 0, 1) := by decide +kernel
theorem d_10_7_35 : decode prog_10_method_7_code 35 = .ok (.dup, 1) := by decide +kernel
theorem d_10_7_36 : decode prog_10_method_7_code 36 = .ok (.getfield 83, 3) := by decide +kernel
theorem d_10_7_39 : decode prog_10_method_7_code 39 = .ok (.iconst 1, 1) := by decide +kernel
theorem d_10_7_40 : decode prog_10_method_7_code 40 = .ok (.isub, 1) := by decide +kernel
theorem d_10_7_41 : decode prog_10_method_7_code 41 = .ok (.putfield 83, 3) := by decide +kernel
theorem d_10_7_12 : decode prog_10_method_7_code 12 = .ok (.iconst 0, 1) := by decide +kernel
theorem d_10_7_13 : decode prog_10_method_7_code 13 = .ok (.ireturn, 1) := by decide +kernel
def y_Rea_takeDecimal : MethodName := ⟨"NumberHouse$Reader", "takeDecimal", "()Z"⟩
theorem d_10_15_0 : decode prog_10_method_15_code 0 = .ok (.aload_n 0, 1) := by decide +kernel
theorem d_10_15_1 : decode prog_10_method_15_code 1 = .ok (.getfield 40, 3) := by decide +kernel
theorem d_10_15_4 : decode prog_10_method_15_code 4 = .ok (.aload_n 0, 1) := by decide +kernel
theorem d_10_15_5 : decode prog_10_method_15_code 5 = .ok (.getfield 36, 3) := by decide +kernel
theorem d_10_15_8 : decode prog_10_method_15_code 8 = .ok (.isub, 1) := by decide +kernel
theorem d_10_15_9 : decode prog_10_method_15_code 9 = .ok (.aload_n 1, 1) := by decide +kernel
theorem d_10_15_10 : decode prog_10_method_15_code 10 = .ok (.invokevirtual 157, 3) := by decide +kernel
set_option maxRecDepth 100000 in
theorem w_655 : (Cond.methodLink "NumberHouse$Reader" (157 : Nat) ({ cls := "java/lang/String", name := "length", desc := "()I" } : MethodName)) ∈ q_tbl := q_of3 175 rfl (by decide +kernel)
theorem LV_Rea_157 : q_LV "NumberHouse$Reader" 157 y_jStr_length prog_31_method_54_code 1 (some .int) 0 := ⟨w_658, w_25, w_655, w_656, w_657, ⟨by decide, by decide, by decide +kernel⟩⟩
theorem d_10_15_13 : decode prog_10_method_15_code 13 = .ok (.if_icmp .eq 5, 3) := by decide +kernel
theorem d_10_15_18 : decode prog_10_method_15_code 18 = .ok (.iconst 0, 1) := by decide +kernel
theorem d_10_15_19 : decode prog_10_method_15_code 19 = .ok (.istore_n 2, 1) := by decide +kernel
theorem d_10_15_20 : decode prog_10_method_15_code 20 = .ok (.iload_n 2, 1) := by decide +kernel
theorem d_10_15_21 : decode prog_10_method_15_code 21 = .ok (.aload_n 1, 1) := by decide +kernel
theorem d_10_15_22 : decode prog_10_method_15_code 22 = .ok (.invokevirtual 157, 3) := by decide +kernel
theorem d_10_15_25 : decode prog_10_method_15_code 25 = .ok (.if_icmp .ge 33, 3) := by decide +kernel
theorem d_10_15_58 : decode prog_10_method_15_code 58 = .ok (.iconst 1, 1) := by decide +kernel
theorem d_10_15_59 : decode prog_10_method_15_code 59 = .ok (.ireturn, 1) := by decide +kernel
theorem d_10_15_28 : decode prog_10_method_15_code 28 = .ok (.aload_n 0, 1) := by decide +kernel
theorem d_10_15_29 : decode prog_10_method_15_code 29 = .ok (.getfield 9, 3) := by decide +kernel
theorem d_10_15_32 : decode prog_10_method_15_code 32 = .ok (.aload_n 0, 1) := by decide +kernel
theorem d_10_15_33 : decode prog_10_method_15_code 33 = .ok (.getfield 36, 3) := by decide +kernel
theorem d_10_15_36 : decode prog_10_method_15_code 36 = .ok (.iload_n 2, 1) := by decide +kernel
theorem d_10_15_37 : decode prog_10_method_15_code 37 = .ok (.iadd, 1) := by decide +kernel
theorem d_10_15_38 : decode prog_10_method_15_code 38 = .ok (.i2l, 1) := by decide +kernel
theorem d_10_15_39 : decode prog_10_method_15_code 39 = .ok (.invokevirtual 139, 3) := by decide +kernel
theorem d_10_15_42 : decode prog_10_method_15_code 42 = .ok (.aload_n 1, 1) := by decide +kernel
theorem d_10_15_43 : decode prog_10_method_15_code 43 = .ok (.iload_n 2, 1) := by decide +kernel
theorem d_10_15_44 : decode prog_10_method_15_code 44 = .ok (.invokevirtual 162, 3) := by decide +kernel
set_option maxRecDepth 100000 in
theorem w_668 : (Cond.code ({ cls := "java/lang/String", name := "charAt", desc := "(I)C" } : MethodName) prog_31_method_56_code (2 : Nat) (some .char)) ∈ q_tbl := q_of3 188 rfl (by decide +kernel)
set_option maxRecDepth 100000 in
theorem w_665 : (Cond.methodLink "NumberHouse$Reader" (162 : Nat) ({ cls := "java/lang/String", name := "charAt", desc := "(I)C" } : MethodName)) ∈ q_tbl := q_of3 185 rfl (by decide +kernel)
set_option maxRecDepth 100000 in
theorem w_666 : (Cond.instanceMethod ({ cls := "java/lang/String", name := "charAt", desc := "(I)C" } : MethodName)) ∈ q_tbl := q_of3 186 rfl (by decide +kernel)
set_option maxRecDepth 100000 in
theorem w_667 : (Cond.selects "java/lang/String" ({ cls := "java/lang/String", name := "charAt", desc := "(I)C" } : MethodName) ({ cls := "java/lang/String", name := "charAt", desc := "(I)C" } : MethodName)) ∈ q_tbl := q_of3 187 rfl (by decide +kernel)
theorem LV_Rea_162 : q_LV "NumberHouse$Reader" 162 y_jStr_charAt prog_31_method_56_code 2 (some .char) 1 := ⟨w_668, w_25, w_665, w_666, w_667, ⟨by decide, by decide, by decide +kernel⟩⟩
theorem d_10_15_47 : decode prog_10_method_15_code 47 = .ok (.if_icmp .eq 5, 3) := by decide +kernel
theorem d_10_15_52 : decode prog_10_method_15_code 52 = .ok (.iinc 2 1, 3) := by decide +kernel
theorem d_10_15_55 : decode prog_10_method_15_code 55 = .ok (.goto (-35), 3) := by decide +kernel
theorem d_10_15_50 : decode prog_10_method_15_code 50 = .ok (.iconst 0, 1) := by decide +kernel
theorem d_10_15_51 : decode prog_10_method_15_code 51 = .ok (.ireturn, 1) := by decide +kernel
theorem d_10_15_16 : decode prog_10_method_15_code 16 = .ok (.iconst 0, 1) := by decide +kernel
theorem d_10_15_17 : decode prog_10_method_15_code 17 = .ok (.ireturn, 1) := by decide +kernel
def y_Rea_saysRest : MethodName := ⟨"NumberHouse$Reader", "saysRest", "(Ljava/lang/String;)Z"⟩
theorem d_10_2_0 : decode prog_10_method_2_code 0 = .ok (.aload_n 0, 1) := by decide +kernel
theorem d_10_2_1 : decode prog_10_method_2_code 1 = .ok (.invokevirtual 19, 3) := by decide +kernel
set_option maxRecDepth 100000 in
theorem w_588 : (Cond.code ({ cls := "NumberHouse$Reader", name := "begin", desc := "()V" } : MethodName) prog_10_method_9_code (1 : Nat) (none : Option ClassFile.FieldType)) ∈ q_tbl := q_of3 108 rfl (by decide +kernel)
set_option maxRecDepth 100000 in
theorem w_585 : (Cond.methodLink "NumberHouse$Reader" (19 : Nat) ({ cls := "NumberHouse$Reader", name := "begin", desc := "()V" } : MethodName)) ∈ q_tbl := q_of3 105 rfl (by decide +kernel)
set_option maxRecDepth 100000 in
theorem w_587 : (Cond.instanceMethod ({ cls := "NumberHouse$Reader", name := "begin", desc := "()V" } : MethodName)) ∈ q_tbl := q_of3 107 rfl (by decide +kernel)
theorem ws_1 : Cond.selects "NumberHouse$Reader" (⟨"NumberHouse$Reader", "begin", "()V"⟩ : MethodName) (⟨"NumberHouse$Reader", "begin", "()V"⟩ : MethodName) ∈ q_tbl := q_ofs 1 (by decide +kernel) (by decide +kernel)
theorem LV_Rea_19 : q_LV "NumberHouse$Reader" 19 y_Rea_begin prog_10_method_9_code 1 none 0 := ⟨w_588, w_10, w_585, w_587, ws_1, ⟨by decide, by decide, by decide +kernel⟩⟩
theorem d_10_2_4 : decode prog_10_method_2_code 4 = .ok (.aload_n 0, 1) := by decide +kernel
theorem d_10_2_5 : decode prog_10_method_2_code 5 = .ok (.invokevirtual 22, 3) := by decide +kernel
set_option maxRecDepth 100000 in
theorem w_592 : (Cond.code ({ cls := "NumberHouse$Reader", name := "takeSign", desc := "()V" } : MethodName) prog_10_method_11_code (2 : Nat) (none : Option ClassFile.FieldType)) ∈ q_tbl := q_of3 112 rfl (by decide +kernel)
set_option maxRecDepth 100000 in
theorem w_589 : (Cond.methodLink "NumberHouse$Reader" (22 : Nat) ({ cls := "NumberHouse$Reader", name := "takeSign", desc := "()V" } : MethodName)) ∈ q_tbl := q_of3 109 rfl (by decide +kernel)
set_option maxRecDepth 100000 in
theorem w_591 : (Cond.instanceMethod ({ cls := "NumberHouse$Reader", name := "takeSign", desc := "()V" } : MethodName)) ∈ q_tbl := q_of3 111 rfl (by decide +kernel)
theorem ws_2 : Cond.selects "NumberHouse$Reader" (⟨"NumberHouse$Reader", "takeSign", "()V"⟩ : MethodName) (⟨"NumberHouse$Reader", "takeSign", "()V"⟩ : MethodName) ∈ q_tbl := q_ofs 2 (by decide +kernel) (by decide +kernel)
theorem LV_Rea_22 : q_LV "NumberHouse$Reader" 22 y_Rea_takeSign prog_10_method_11_code 2 none 0 := ⟨w_592, w_10, w_589, w_591, ws_2, ⟨by decide, by decide, by decide +kernel⟩⟩
theorem d_10_2_8 : decode prog_10_method_2_code 8 = .ok (.aload_n 0, 1) := by decide +kernel
theorem d_10_2_9 : decode prog_10_method_2_code 9 = .ok (.getfield 15, 3) := by decide +kernel
theorem d_10_2_12 : decode prog_10_method_2_code 12 = .ok (.getfield 25, 3) := by decide +kernel
theorem d_10_2_15 : decode prog_10_method_2_code 15 = .ok (.astore_n 2, 1) := by decide +kernel
theorem d_10_2_16 : decode prog_10_method_2_code 16 = .ok (.aload_n 2, 1) := by decide +kernel
theorem d_10_2_17 : decode prog_10_method_2_code 17 = .ok (.invokevirtual 31, 3) := by decide +kernel
theorem d_10_2_20 : decode prog_10_method_2_code 20 = .ok (.iconst 1, 1) := by decide +kernel
theorem d_10_2_21 : decode prog_10_method_2_code 21 = .ok (.istore_n 3, 1) := by decide +kernel
theorem d_10_2_22 : decode prog_10_method_2_code 22 = .ok (.aload_n 0, 1) := by decide +kernel
theorem d_10_2_23 : decode prog_10_method_2_code 23 = .ok (.getfield 36, 3) := by decide +kernel
theorem d_10_2_26 : decode prog_10_method_2_code 26 = .ok (.aload_n 0, 1) := by decide +kernel
theorem d_10_2_27 : decode prog_10_method_2_code 27 = .ok (.getfield 40, 3) := by decide +kernel
theorem d_10_2_30 : decode prog_10_method_2_code 30 = .ok (.if_icmp .lt 5, 3) := by decide +kernel
theorem d_10_2_35 : decode prog_10_method_2_code 35 = .ok (.aload_n 0, 1) := by decide +kernel
theorem d_10_2_36 : decode prog_10_method_2_code 36 = .ok (.getfield 36, 3) := by decide +kernel
theorem d_10_2_39 : decode prog_10_method_2_code 39 = .ok (.aload_n 0, 1) := by decide +kernel
theorem d_10_2_40 : decode prog_10_method_2_code 40 = .ok (.getfield 40, 3) := by decide +kernel
theorem d_10_2_43 : decode prog_10_method_2_code 43 = .ok (.if_icmp .ge 57, 3) := by decide +kernel
theorem d_10_2_100 : decode prog_10_method_2_code 100 = .ok (.aload_n 2, 1) := by decide +kernel
theorem d_10_2_101 : decode prog_10_method_2_code 101 = .ok (.aload_n 0, 1) := by decide +kernel
theorem d_10_2_102 : decode prog_10_method_2_code 102 = .ok (.getfield 54, 3) := by decide +kernel
theorem d_10_2_105 : decode prog_10_method_2_code 105 = .ok (.ifCond .eq 14, 3) := by decide +kernel
theorem d_10_2_119 : decode prog_10_method_2_code 119 = .ok (.iconst 0, 1) := by decide +kernel
theorem d_10_2_120 : decode prog_10_method_2_code 120 = .ok (.putfield 61, 3) := by decide +kernel
set_option maxRecDepth 100000 in
theorem w_95 : (Cond.fieldLink "NumberHouse$Reader" (61 : Nat) "NumberHouse$Big" "negative" "Z") ∈ q_tbl := q_of1 95 rfl (by decide +kernel)
theorem d_10_2_123 : decode prog_10_method_2_code 123 = .ok (.iload_n 3, 1) := by decide +kernel
theorem d_10_2_124 : decode prog_10_method_2_code 124 = .ok (.ifCond .eq 7, 3) := by decide +kernel
theorem d_10_2_131 : decode prog_10_method_2_code 131 = .ok (.iconst 2, 1) := by decide +kernel
theorem d_10_2_132 : decode prog_10_method_2_code 132 = .ok (.ireturn, 1) := by decide +kernel
theorem d_10_2_127 : decode prog_10_method_2_code 127 = .ok (.iconst 1, 1) := by decide +kernel
theorem d_10_2_128 : decode prog_10_method_2_code 128 = .ok (.goto 4, 3) := by decide +kernel
theorem d_10_2_108 : decode prog_10_method_2_code 108 = .ok (.aload_n 2, 1) := by decide +kernel
theorem d_10_2_109 : decode prog_10_method_2_code 109 = .ok (.getfield 58, 3) := by decide +kernel
theorem d_10_2_112 : decode prog_10_method_2_code 112 = .ok (.ifCond .le 7, 3) := by decide +kernel
theorem d_10_2_115 : decode prog_10_method_2_code 115 = .ok (.iconst 1, 1) := by decide +kernel
theorem d_10_2_116 : decode prog_10_method_2_code 116 = .ok (.goto 4, 3) := by decide +kernel
theorem d_10_2_46 : decode prog_10_method_2_code 46 = .ok (.aload_n 0, 1) := by decide +kernel
theorem d_10_2_47 : decode prog_10_method_2_code 47 = .ok (.invokevirtual 43, 3) := by decide +kernel
theorem d_10_2_50 : decode prog_10_method_2_code 50 = .ok (.istore 4, 2) := by decide +kernel
theorem d_10_2_52 : decode prog_10_method_2_code 52 = .ok (.iload 4, 2) := by decide +kernel
theorem d_10_2_54 : decode prog_10_method_2_code 54 = .ok (.iload_n 1, 1) := by decide +kernel
theorem d_10_2_55 : decode prog_10_method_2_code 55 = .ok (.if_icmp .lt 5, 3) := by decide +kernel
theorem d_10_2_60 : decode prog_10_method_2_code 60 = .ok (.iload_n 3, 1) := by decide +kernel
theorem d_10_2_61 : decode prog_10_method_2_code 61 = .ok (.ifCond .eq 26, 3) := by decide +kernel
theorem d_10_2_87 : decode prog_10_method_2_code 87 = .ok (.aload_n 0, 1) := by decide +kernel
theorem d_10_2_88 : decode prog_10_method_2_code 88 = .ok (.dup, 1) := by decide +kernel
theorem d_10_2_89 : decode prog_10_method_2_code 89 = .ok (.getfield 36, 3) := by decide +kernel
theorem d_10_2_92 : decode prog_10_method_2_code 92 = .ok (.iconst 1, 1) := by decide +kernel
theorem d_10_2_93 : decode prog_10_method_2_code 93 = .ok (.iadd, 1) := by decide +kernel
theorem d_10_2_94 : decode prog_10_method_2_code 94 = .ok (.putfield 36, 3) := by decide +kernel
theorem d_10_2_97 : decode prog_10_method_2_code 97 = .ok (.goto (-62), 3) := by decide +kernel
theorem d_10_2_64 : decode prog_10_method_2_code 64 = .ok (.aload_n 2, 1) := by decide +kernel
theorem d_10_2_65 : decode prog_10_method_2_code 65 = .ok (.iload_n 1, 1) := by decide +kernel
theorem d_10_2_66 : decode prog_10_method_2_code 66 = .ok (.iload 4, 2) := by decide +kernel
theorem d_10_2_68 : decode prog_10_method_2_code 68 = .ok (.invokevirtual 47, 3) := by decide +kernel
theorem d_10_2_71 : decode prog_10_method_2_code 71 = .ok (.aload_n 2, 1) := by decide +kernel
theorem d_10_2_72 : decode prog_10_method_2_code 72 = .ok (.invokevirtual 51, 3) := by decide +kernel
set_option maxRecDepth 100000 in
theorem w_607 : (Cond.methodLink "NumberHouse$Reader" (51 : Nat) ({ cls := "NumberHouse$Big", name := "bitLength", desc := "()I" } : MethodName)) ∈ q_tbl := q_of3 127 rfl (by decide +kernel)
theorem LV_Rea_51 : q_LV "NumberHouse$Reader" 51 y_Big_bitLength prog_2_method_12_code 1 (some .int) 0 := ⟨w_610, w_4, w_607, w_608, w_609, ⟨by decide, by decide, by decide +kernel⟩⟩
theorem d_10_2_75 : decode prog_10_method_2_code 75 = .ok (.sipush 2048, 3) := by decide +kernel
theorem d_10_2_78 : decode prog_10_method_2_code 78 = .ok (.if_icmp .gt 7, 3) := by decide +kernel
theorem d_10_2_85 : decode prog_10_method_2_code 85 = .ok (.iconst 0, 1) := by decide +kernel
theorem d_10_2_86 : decode prog_10_method_2_code 86 = .ok (.istore_n 3, 1) := by decide +kernel
theorem d_10_2_81 : decode prog_10_method_2_code 81 = .ok (.iconst 1, 1) := by decide +kernel
theorem d_10_2_82 : decode prog_10_method_2_code 82 = .ok (.goto 4, 3) := by decide +kernel
theorem d_10_2_58 : decode prog_10_method_2_code 58 = .ok (.iconst 0, 1) := by decide +kernel
theorem d_10_2_59 : decode prog_10_method_2_code 59 = .ok (.ireturn, 1) := by decide +kernel
theorem d_10_2_33 : decode prog_10_method_2_code 33 = .ok (.iconst 0, 1) := by decide +kernel
theorem d_10_2_34 : decode prog_10_method_2_code 34 = .ok (.ireturn, 1) := by decide +kernel
def y_Rea_wholeText : MethodName := ⟨"NumberHouse$Reader", "wholeText", "(I)I"⟩
theorem d_10_3_0 : decode prog_10_method_3_code 0 = .ok (.aload_n 0, 1) := by decide +kernel
theorem d_10_3_1 : decode prog_10_method_3_code 1 = .ok (.invokevirtual 19, 3) := by decide +kernel
theorem d_10_3_4 : decode prog_10_method_3_code 4 = .ok (.aload_n 0, 1) := by decide +kernel
theorem d_10_3_5 : decode prog_10_method_3_code 5 = .ok (.invokevirtual 22, 3) := by decide +kernel
theorem d_10_3_8 : decode prog_10_method_3_code 8 = .ok (.aload_n 0, 1) := by decide +kernel
theorem d_10_3_9 : decode prog_10_method_3_code 9 = .ok (.bipush 10, 2) := by decide +kernel
theorem d_10_3_11 : decode prog_10_method_3_code 11 = .ok (.sipush 1000, 3) := by decide +kernel
theorem d_10_3_14 : decode prog_10_method_3_code 14 = .ok (.invokevirtual 62, 3) := by decide +kernel
theorem d_10_3_17 : decode prog_10_method_3_code 17 = .ok (.ifCond .ne 5, 3) := by decide +kernel
theorem d_10_3_22 : decode prog_10_method_3_code 22 = .ok (.aload_n 0, 1) := by decide +kernel
theorem d_10_3_23 : decode prog_10_method_3_code 23 = .ok (.lconst 0, 1) := by decide +kernel
theorem d_10_3_24 : decode prog_10_method_3_code 24 = .ok (.putfield 66, 3) := by decide +kernel
theorem d_10_3_27 : decode prog_10_method_3_code 27 = .ok (.aload_n 0, 1) := by decide +kernel
theorem d_10_3_28 : decode prog_10_method_3_code 28 = .ok (.invokevirtual 70, 3) := by decide +kernel
theorem d_10_3_31 : decode prog_10_method_3_code 31 = .ok (.bipush 32, 2) := by decide +kernel
theorem d_10_3_33 : decode prog_10_method_3_code 33 = .ok (.ior, 1) := by decide +kernel
theorem d_10_3_34 : decode prog_10_method_3_code 34 = .ok (.bipush 101, 2) := by decide +kernel
theorem d_10_3_50 : decode prog_10_method_3_code 50 = .ok (.aload_n 0, 1) := by decide +kernel
theorem d_10_3_51 : decode prog_10_method_3_code 51 = .ok (.getfield 36, 3) := by decide +kernel
theorem d_10_3_54 : decode prog_10_method_3_code 54 = .ok (.aload_n 0, 1) := by decide +kernel
theorem d_10_3_55 : decode prog_10_method_3_code 55 = .ok (.getfield 40, 3) := by decide +kernel
theorem d_10_3_58 : decode prog_10_method_3_code 58 = .ok (.if_icmp .ge 5, 3) := by decide +kernel
theorem d_10_3_63 : decode prog_10_method_3_code 63 = .ok (.aload_n 0, 1) := by decide +kernel
theorem d_10_3_64 : decode prog_10_method_3_code 64 = .ok (.getfield 15, 3) := by decide +kernel
theorem d_10_3_67 : decode prog_10_method_3_code 67 = .ok (.getfield 25, 3) := by decide +kernel
theorem d_10_3_70 : decode prog_10_method_3_code 70 = .ok (.aload_n 0, 1) := by decide +kernel
theorem d_10_3_71 : decode prog_10_method_3_code 71 = .ok (.getfield 54, 3) := by decide +kernel
theorem d_10_3_95 : decode prog_10_method_3_code 95 = .ok (.putfield 61, 3) := by decide +kernel
theorem d_10_3_98 : decode prog_10_method_3_code 98 = .ok (.aload_n 0, 1) := by decide +kernel
theorem d_10_3_99 : decode prog_10_method_3_code 99 = .ok (.aload_n 0, 1) := by decide +kernel
theorem d_10_3_100 : decode prog_10_method_3_code 100 = .ok (.getfield 77, 3) := by decide +kernel
theorem d_10_3_103 : decode prog_10_method_3_code 103 = .ok (.i2l, 1) := by decide +kernel
theorem d_10_3_104 : decode prog_10_method_3_code 104 = .ok (.aload_n 0, 1) := by decide +kernel
theorem d_10_3_105 : decode prog_10_method_3_code 105 = .ok (.getfield 66, 3) := by decide +kernel
theorem d_10_3_108 : decode prog_10_method_3_code 108 = .ok (.lsub, 1) := by decide +kernel
theorem d_10_3_109 : decode prog_10_method_3_code 109 = .ok (.putfield 80, 3) := by decide +kernel
set_option maxRecDepth 100000 in
theorem w_284 : (Cond.fieldLink "NumberHouse$Reader" (80 : Nat) "NumberHouse$Reader" "scale" "J") ∈ q_tbl := q_of2 44 rfl (by decide +kernel)
theorem d_10_3_112 : decode prog_10_method_3_code 112 = .ok (.aload_n 0, 1) := by decide +kernel
theorem d_10_3_113 : decode prog_10_method_3_code 113 = .ok (.getfield 83, 3) := by decide +kernel
theorem d_10_3_116 : decode prog_10_method_3_code 116 = .ok (.ifCond .le 7, 3) := by decide +kernel
theorem d_10_3_123 : decode prog_10_method_3_code 123 = .ok (.iconst 1, 1) := by decide +kernel
theorem d_10_3_124 : decode prog_10_method_3_code 124 = .ok (.ireturn, 1) := by decide +kernel
theorem d_10_3_119 : decode prog_10_method_3_code 119 = .ok (.iconst 2, 1) := by decide +kernel
theorem d_10_3_120 : decode prog_10_method_3_code 120 = .ok (.goto 4, 3) := by decide +kernel
theorem d_10_3_94 : decode prog_10_method_3_code 94 = .ok (.iconst 0, 1) := by decide +kernel
theorem d_10_3_74 : decode prog_10_method_3_code 74 = .ok (.ifCond .eq 20, 3) := by decide +kernel
theorem d_10_3_77 : decode prog_10_method_3_code 77 = .ok (.aload_n 0, 1) := by decide +kernel
theorem d_10_3_78 : decode prog_10_method_3_code 78 = .ok (.getfield 15, 3) := by decide +kernel
theorem d_10_3_81 : decode prog_10_method_3_code 81 = .ok (.getfield 25, 3) := by decide +kernel
theorem d_10_3_84 : decode prog_10_method_3_code 84 = .ok (.getfield 58, 3) := by decide +kernel
theorem d_10_3_87 : decode prog_10_method_3_code 87 = .ok (.ifCond .le 7, 3) := by decide +kernel
theorem d_10_3_90 : decode prog_10_method_3_code 90 = .ok (.iconst 1, 1) := by decide +kernel
theorem d_10_3_91 : decode prog_10_method_3_code 91 = .ok (.goto 4, 3) := by decide +kernel
theorem d_10_3_61 : decode prog_10_method_3_code 61 = .ok (.iconst 0, 1) := by decide +kernel
theorem d_10_3_62 : decode prog_10_method_3_code 62 = .ok (.ireturn, 1) := by decide +kernel
theorem d_10_3_36 : decode prog_10_method_3_code 36 = .ok (.if_icmp .ne 14, 3) := by decide +kernel
theorem d_10_3_39 : decode prog_10_method_3_code 39 = .ok (.aload_n 0, 1) := by decide +kernel
theorem d_10_3_40 : decode prog_10_method_3_code 40 = .ok (.bipush 10, 2) := by decide +kernel
theorem d_10_3_42 : decode prog_10_method_3_code 42 = .ok (.invokevirtual 73, 3) := by decide +kernel
theorem d_10_3_45 : decode prog_10_method_3_code 45 = .ok (.ifCond .ne 5, 3) := by decide +kernel
theorem d_10_3_48 : decode prog_10_method_3_code 48 = .ok (.iconst 0, 1) := by decide +kernel
theorem d_10_3_49 : decode prog_10_method_3_code 49 = .ok (.ireturn, 1) := by decide +kernel
theorem d_10_3_20 : decode prog_10_method_3_code 20 = .ok (.iconst 0, 1) := by decide +kernel
theorem d_10_3_21 : decode prog_10_method_3_code 21 = .ok (.ireturn, 1) := by decide +kernel
def y_Rea_decimalText : MethodName := ⟨"NumberHouse$Reader", "decimalText", "()I"⟩
/-! Directive -/
theorem d_6_7_0 : decode prog_6_method_7_code 0 = .ok (.aload_n 0, 1) := by decide +kernel
theorem d_6_7_1 : decode prog_6_method_7_code 1 = .ok (.getfield 9, 3) := by decide +kernel
theorem d_6_7_4 : decode prog_6_method_7_code 4 = .ok (.iload_n 1, 1) := by decide +kernel
theorem d_6_7_5 : decode prog_6_method_7_code 5 = .ok (.i2l, 1) := by decide +kernel
theorem d_6_7_6 : decode prog_6_method_7_code 6 = .ok (.invokevirtual 46, 3) := by decide +kernel
set_option maxRecDepth 100000 in
theorem w_1747 : (Cond.methodLink "NumberHouse$Directive" (46 : Nat) ({ cls := "NumberHouse$Sheet", name := "at", desc := "(J)I" } : MethodName)) ∈ q_tbl := q_of8 67 rfl (by decide +kernel)
theorem LV_Dir_46 : q_LV "NumberHouse$Directive" 46 y_She_at prog_11_method_8_code 3 (some .int) 1 := ⟨w_482, w_2, w_1747, w_480, w_481, ⟨by decide, by decide, by decide +kernel⟩⟩
theorem d_6_7_9 : decode prog_6_method_7_code 9 = .ok (.istore_n 2, 1) := by decide +kernel
theorem d_6_7_10 : decode prog_6_method_7_code 10 = .ok (.iload_n 2, 1) := by decide +kernel
theorem d_6_7_11 : decode prog_6_method_7_code 11 = .ok (.bipush 48, 2) := by decide +kernel
theorem d_6_7_13 : decode prog_6_method_7_code 13 = .ok (.if_icmp .lt 16, 3) := by decide +kernel
theorem d_6_7_29 : decode prog_6_method_7_code 29 = .ok (.iconst (-1), 1) := by decide +kernel
theorem d_6_7_30 : decode prog_6_method_7_code 30 = .ok (.ireturn, 1) := by decide +kernel
theorem d_6_7_16 : decode prog_6_method_7_code 16 = .ok (.iload_n 2, 1) := by decide +kernel
theorem d_6_7_17 : decode prog_6_method_7_code 17 = .ok (.bipush 57, 2) := by decide +kernel
theorem d_6_7_19 : decode prog_6_method_7_code 19 = .ok (.if_icmp .gt 10, 3) := by decide +kernel
theorem d_6_7_22 : decode prog_6_method_7_code 22 = .ok (.iload_n 2, 1) := by decide +kernel
theorem d_6_7_23 : decode prog_6_method_7_code 23 = .ok (.bipush 48, 2) := by decide +kernel
theorem d_6_7_25 : decode prog_6_method_7_code 25 = .ok (.isub, 1) := by decide +kernel
theorem d_6_7_26 : decode prog_6_method_7_code 26 = .ok (.goto 4, 3) := by decide +kernel
def y_Dir_figureAt : MethodName := ⟨"NumberHouse$Directive", "figureAt", "(I)I"⟩
theorem d_6_8_0 : decode prog_6_method_8_code 0 = .ok (.aload_n 0, 1) := by decide +kernel
theorem d_6_8_1 : decode prog_6_method_8_code 1 = .ok (.getfield 19, 3) := by decide +kernel
set_option maxRecDepth 100000 in
theorem w_356 : (Cond.fieldLink "NumberHouse$Directive" (19 : Nat) "NumberHouse$Directive" "flags" "I") ∈ q_tbl := q_of2 116 rfl (by decide +kernel)
theorem d_6_8_4 : decode prog_6_method_8_code 4 = .ok (.iload_n 1, 1) := by decide +kernel
theorem d_6_8_5 : decode prog_6_method_8_code 5 = .ok (.iand, 1) := by decide +kernel
theorem d_6_8_6 : decode prog_6_method_8_code 6 = .ok (.ifCond .eq 7, 3) := by decide +kernel
theorem d_6_8_13 : decode prog_6_method_8_code 13 = .ok (.iconst 0, 1) := by decide +kernel
theorem d_6_8_14 : decode prog_6_method_8_code 14 = .ok (.ireturn, 1) := by decide +kernel
theorem d_6_8_9 : decode prog_6_method_8_code 9 = .ok (.iconst 1, 1) := by decide +kernel
theorem d_6_8_10 : decode prog_6_method_8_code 10 = .ok (.goto 4, 3) := by decide +kernel
def y_Dir_has : MethodName := ⟨"NumberHouse$Directive", "has", "(I)Z"⟩
theorem d_6_10_0 : decode prog_6_method_10_code 0 = .ok (.aload_n 0, 1) := by decide +kernel
theorem d_6_10_1 : decode prog_6_method_10_code 1 = .ok (.getfield 55, 3) := by decide +kernel
set_option maxRecDepth 100000 in
theorem w_361 : (Cond.fieldLink "NumberHouse$Directive" (55 : Nat) "NumberHouse$Directive" "conversion" "I") ∈ q_tbl := q_of2 121 rfl (by decide +kernel)
theorem d_6_10_4 : decode prog_6_method_10_code 4 = .ok (.bipush 65, 2) := by decide +kernel
theorem d_6_10_6 : decode prog_6_method_10_code 6 = .ok (.if_icmp .lt 16, 3) := by decide +kernel
theorem d_6_10_22 : decode prog_6_method_10_code 22 = .ok (.iconst 0, 1) := by decide +kernel
theorem d_6_10_23 : decode prog_6_method_10_code 23 = .ok (.ireturn, 1) := by decide +kernel
theorem d_6_10_9 : decode prog_6_method_10_code 9 = .ok (.aload_n 0, 1) := by decide +kernel
theorem d_6_10_10 : decode prog_6_method_10_code 10 = .ok (.getfield 55, 3) := by decide +kernel
theorem d_6_10_13 : decode prog_6_method_10_code 13 = .ok (.bipush 90, 2) := by decide +kernel
theorem d_6_10_15 : decode prog_6_method_10_code 15 = .ok (.if_icmp .gt 7, 3) := by decide +kernel
theorem d_6_10_18 : decode prog_6_method_10_code 18 = .ok (.iconst 1, 1) := by decide +kernel
theorem d_6_10_19 : decode prog_6_method_10_code 19 = .ok (.goto 4, 3) := by decide +kernel
def y_Dir_isLarge : MethodName := ⟨"NumberHouse$Directive", "isLarge", "()Z"⟩
theorem d_6_9_0 : decode prog_6_method_9_code 0 = .ok (.aload_n 0, 1) := by decide +kernel
theorem d_6_9_1 : decode prog_6_method_9_code 1 = .ok (.getfield 55, 3) := by decide +kernel
theorem d_6_9_4 : decode prog_6_method_9_code 4 = .ok (.ifCond .lt 19, 3) := by decide +kernel
theorem d_6_9_23 : decode prog_6_method_9_code 23 = .ok (.iconst 0, 1) := by decide +kernel
theorem d_6_9_24 : decode prog_6_method_9_code 24 = .ok (.ireturn, 1) := by decide +kernel
theorem d_6_9_7 : decode prog_6_method_9_code 7 = .ok (.aload_n 1, 1) := by decide +kernel
theorem d_6_9_8 : decode prog_6_method_9_code 8 = .ok (.aload_n 0, 1) := by decide +kernel
theorem d_6_9_9 : decode prog_6_method_9_code 9 = .ok (.getfield 55, 3) := by decide +kernel
theorem d_6_9_12 : decode prog_6_method_9_code 12 = .ok (.i2c, 1) := by decide +kernel
theorem d_6_9_13 : decode prog_6_method_9_code 13 = .ok (.invokevirtual 63, 3) := by decide +kernel
set_option maxRecDepth 100000 in
theorem w_1761 : (Cond.code ({ cls := "java/lang/String", name := "indexOf", desc := "(I)I" } : MethodName) prog_31_method_79_code (2 : Nat) (some .int)) ∈ q_tbl := q_of8 81 rfl (by decide +kernel)
set_option maxRecDepth 100000 in
theorem w_1758 : (Cond.methodLink "NumberHouse$Directive" (63 : Nat) ({ cls := "java/lang/String", name := "indexOf", desc := "(I)I" } : MethodName)) ∈ q_tbl := q_of8 78 rfl (by decide +kernel)
set_option maxRecDepth 100000 in
theorem w_1759 : (Cond.instanceMethod ({ cls := "java/lang/String", name := "indexOf", desc := "(I)I" } : MethodName)) ∈ q_tbl := q_of8 79 rfl (by decide +kernel)
set_option maxRecDepth 100000 in
theorem w_1760 : (Cond.selects "java/lang/String" ({ cls := "java/lang/String", name := "indexOf", desc := "(I)I" } : MethodName) ({ cls := "java/lang/String", name := "indexOf", desc := "(I)I" } : MethodName)) ∈ q_tbl := q_of8 80 rfl (by decide +kernel)
theorem LV_Dir_63 : q_LV "NumberHouse$Directive" 63 y_jStr_indexOf_II prog_31_method_79_code 2 (some .int) 1 := ⟨w_1761, w_25, w_1758, w_1759, w_1760, ⟨by decide, by decide, by decide +kernel⟩⟩
theorem d_6_9_16 : decode prog_6_method_9_code 16 = .ok (.ifCond .lt 7, 3) := by decide +kernel
theorem d_6_9_19 : decode prog_6_method_9_code 19 = .ok (.iconst 1, 1) := by decide +kernel
theorem d_6_9_20 : decode prog_6_method_9_code 20 = .ok (.goto 4, 3) := by decide +kernel
def y_Dir_isOneOf : MethodName := ⟨"NumberHouse$Directive", "isOneOf", "(Ljava/lang/String;)Z"⟩
theorem d_6_3_0 : decode prog_6_method_3_code 0 = .ok (.aload_n 0, 1) := by decide +kernel
theorem d_6_3_1 : decode prog_6_method_3_code 1 = .ok (.iconst 0, 1) := by decide +kernel
theorem d_6_3_2 : decode prog_6_method_3_code 2 = .ok (.putfield 19, 3) := by decide +kernel
theorem d_6_3_5 : decode prog_6_method_3_code 5 = .ok (.aload_n 0, 1) := by decide +kernel
theorem d_6_3_6 : decode prog_6_method_3_code 6 = .ok (.iconst (-1), 1) := by decide +kernel
theorem d_6_3_7 : decode prog_6_method_3_code 7 = .ok (.putfield 40, 3) := by decide +kernel
set_option maxRecDepth 100000 in
theorem w_357 : (Cond.fieldLink "NumberHouse$Directive" (40 : Nat) "NumberHouse$Directive" "width" "I") ∈ q_tbl := q_of2 117 rfl (by decide +kernel)
theorem d_6_3_10 : decode prog_6_method_3_code 10 = .ok (.aload_n 0, 1) := by decide +kernel
theorem d_6_3_11 : decode prog_6_method_3_code 11 = .ok (.iconst (-1), 1) := by decide +kernel
theorem d_6_3_12 : decode prog_6_method_3_code 12 = .ok (.putfield 55, 3) := by decide +kernel
theorem d_6_3_15 : decode prog_6_method_3_code 15 = .ok (.return_, 1) := by decide +kernel
def y_Dir_setPlain : MethodName := ⟨"NumberHouse$Directive", "setPlain", "()V"⟩
theorem d_6_6_0 : decode prog_6_method_6_code 0 = .ok (.iconst 0, 1) := by decide +kernel
theorem d_6_6_1 : decode prog_6_method_6_code 1 = .ok (.istore_n 1, 1) := by decide +kernel
theorem d_6_6_2 : decode prog_6_method_6_code 2 = .ok (.aload_n 0, 1) := by decide +kernel
theorem d_6_6_3 : decode prog_6_method_6_code 3 = .ok (.aload_n 0, 1) := by decide +kernel
theorem d_6_6_4 : decode prog_6_method_6_code 4 = .ok (.getfield 15, 3) := by decide +kernel
set_option maxRecDepth 100000 in
theorem w_363 : (Cond.fieldLink "NumberHouse$Directive" (15 : Nat) "NumberHouse$Directive" "place" "I") ∈ q_tbl := q_of2 123 rfl (by decide +kernel)
theorem d_6_6_7 : decode prog_6_method_6_code 7 = .ok (.invokevirtual 32, 3) := by decide +kernel
set_option maxRecDepth 100000 in
theorem w_1746 : (Cond.code ({ cls := "NumberHouse$Directive", name := "figureAt", desc := "(I)I" } : MethodName) prog_6_method_7_code (3 : Nat) (some .int)) ∈ q_tbl := q_of8 66 rfl (by decide +kernel)
set_option maxRecDepth 100000 in
theorem w_1743 : (Cond.methodLink "NumberHouse$Directive" (32 : Nat) ({ cls := "NumberHouse$Directive", name := "figureAt", desc := "(I)I" } : MethodName)) ∈ q_tbl := q_of8 63 rfl (by decide +kernel)
set_option maxRecDepth 100000 in
theorem w_1745 : (Cond.instanceMethod ({ cls := "NumberHouse$Directive", name := "figureAt", desc := "(I)I" } : MethodName)) ∈ q_tbl := q_of8 65 rfl (by decide +kernel)
theorem ws_46 : Cond.selects "NumberHouse$Directive" (⟨"NumberHouse$Directive", "figureAt", "(I)I"⟩ : MethodName) (⟨"NumberHouse$Directive", "figureAt", "(I)I"⟩ : MethodName) ∈ q_tbl := q_ofs 46 (by decide +kernel) (by decide +kernel)
theorem LV_Dir_32 : q_LV "NumberHouse$Directive" 32 y_Dir_figureAt prog_6_method_7_code 3 (some .int) 1 := ⟨w_1746, w_13, w_1743, w_1745, ws_46, ⟨by decide, by decide, by decide +kernel⟩⟩
theorem d_6_6_10 : decode prog_6_method_6_code 10 = .ok (.ifCond .lt 50, 3) := by decide +kernel
theorem d_6_6_60 : decode prog_6_method_6_code 60 = .ok (.iload_n 1, 1) := by decide +kernel
theorem d_6_6_61 : decode prog_6_method_6_code 61 = .ok (.ireturn, 1) := by decide +kernel
theorem d_6_6_13 : decode prog_6_method_6_code 13 = .ok (.aload_n 0, 1) := by decide +kernel
theorem d_6_6_14 : decode prog_6_method_6_code 14 = .ok (.getfield 15, 3) := by decide +kernel
theorem d_6_6_17 : decode prog_6_method_6_code 17 = .ok (.aload_n 0, 1) := by decide +kernel
theorem d_6_6_18 : decode prog_6_method_6_code 18 = .ok (.getfield 9, 3) := by decide +kernel
theorem d_6_6_21 : decode prog_6_method_6_code 21 = .ok (.getfield 52, 3) := by decide +kernel
set_option maxRecDepth 100000 in
theorem w_57 : (Cond.fieldLink "NumberHouse$Directive" (52 : Nat) "NumberHouse$Sheet" "size" "I") ∈ q_tbl := q_of1 57 rfl (by decide +kernel)
theorem d_6_6_24 : decode prog_6_method_6_code 24 = .ok (.if_icmp .ge 36, 3) := by decide +kernel
theorem d_6_6_27 : decode prog_6_method_6_code 27 = .ok (.iload_n 1, 1) := by decide +kernel
theorem d_6_6_28 : decode prog_6_method_6_code 28 = .ok (.bipush 10, 2) := by decide +kernel
theorem d_6_6_30 : decode prog_6_method_6_code 30 = .ok (.imul, 1) := by decide +kernel
theorem d_6_6_31 : decode prog_6_method_6_code 31 = .ok (.aload_n 0, 1) := by decide +kernel
theorem d_6_6_32 : decode prog_6_method_6_code 32 = .ok (.aload_n 0, 1) := by decide +kernel
theorem d_6_6_33 : decode prog_6_method_6_code 33 = .ok (.getfield 15, 3) := by decide +kernel
theorem d_6_6_36 : decode prog_6_method_6_code 36 = .ok (.invokevirtual 32, 3) := by decide +kernel
theorem d_6_6_39 : decode prog_6_method_6_code 39 = .ok (.iadd, 1) := by decide +kernel
theorem d_6_6_40 : decode prog_6_method_6_code 40 = .ok (.sipush 9999, 3) := by decide +kernel
theorem d_6_6_43 : decode prog_6_method_6_code 43 = .ok (.invokestatic 72, 3) := by decide +kernel
set_option maxRecDepth 100000 in
theorem w_1752 : (Cond.methodLink "NumberHouse$Directive" (72 : Nat) ({ cls := "java/lang/Math", name := "min", desc := "(II)I" } : MethodName)) ∈ q_tbl := q_of8 72 rfl (by decide +kernel)
theorem d_6_6_46 : decode prog_6_method_6_code 46 = .ok (.istore_n 1, 1) := by decide +kernel
theorem d_6_6_47 : decode prog_6_method_6_code 47 = .ok (.aload_n 0, 1) := by decide +kernel
theorem d_6_6_48 : decode prog_6_method_6_code 48 = .ok (.dup, 1) := by decide +kernel
theorem d_6_6_49 : decode prog_6_method_6_code 49 = .ok (.getfield 15, 3) := by decide +kernel
theorem d_6_6_52 : decode prog_6_method_6_code 52 = .ok (.iconst 1, 1) := by decide +kernel
theorem d_6_6_53 : decode prog_6_method_6_code 53 = .ok (.iadd, 1) := by decide +kernel
theorem d_6_6_54 : decode prog_6_method_6_code 54 = .ok (.putfield 15, 3) := by decide +kernel
theorem d_6_6_57 : decode prog_6_method_6_code 57 = .ok (.goto (-55), 3) := by decide +kernel
def y_Dir_takeNumber : MethodName := ⟨"NumberHouse$Directive", "takeNumber", "()I"⟩
theorem d_6_4_0 : decode prog_6_method_4_code 0 = .ok (.aload_n 0, 1) := by decide +kernel
theorem d_6_4_1 : decode prog_6_method_4_code 1 = .ok (.getfield 15, 3) := by decide +kernel
theorem d_6_4_4 : decode prog_6_method_4_code 4 = .ok (.istore_n 1, 1) := by decide +kernel
theorem d_6_4_5 : decode prog_6_method_4_code 5 = .ok (.aload_n 0, 1) := by decide +kernel
theorem d_6_4_6 : decode prog_6_method_4_code 6 = .ok (.aload_n 0, 1) := by decide +kernel
theorem d_6_4_7 : decode prog_6_method_4_code 7 = .ok (.aload_n 0, 1) := by decide +kernel
theorem d_6_4_8 : decode prog_6_method_4_code 8 = .ok (.getfield 15, 3) := by decide +kernel
theorem d_6_4_11 : decode prog_6_method_4_code 11 = .ok (.invokevirtual 32, 3) := by decide +kernel
theorem d_6_4_25 : decode prog_6_method_4_code 25 = .ok (.putfield 58, 3) := by decide +kernel
set_option maxRecDepth 100000 in
theorem w_354 : (Cond.fieldLink "NumberHouse$Directive" (58 : Nat) "NumberHouse$Directive" "index" "I") ∈ q_tbl := q_of2 114 rfl (by decide +kernel)
theorem d_6_4_28 : decode prog_6_method_4_code 28 = .ok (.aload_n 0, 1) := by decide +kernel
theorem d_6_4_29 : decode prog_6_method_4_code 29 = .ok (.getfield 58, 3) := by decide +kernel
theorem d_6_4_32 : decode prog_6_method_4_code 32 = .ok (.iconst (-1), 1) := by decide +kernel
theorem d_6_4_33 : decode prog_6_method_4_code 33 = .ok (.if_icmp .eq 33, 3) := by decide +kernel
theorem d_6_4_66 : decode prog_6_method_4_code 66 = .ok (.aload_n 0, 1) := by decide +kernel
theorem d_6_4_67 : decode prog_6_method_4_code 67 = .ok (.iconst (-1), 1) := by decide +kernel
theorem d_6_4_68 : decode prog_6_method_4_code 68 = .ok (.putfield 58, 3) := by decide +kernel
theorem d_6_4_71 : decode prog_6_method_4_code 71 = .ok (.aload_n 0, 1) := by decide +kernel
theorem d_6_4_72 : decode prog_6_method_4_code 72 = .ok (.iload_n 1, 1) := by decide +kernel
theorem d_6_4_73 : decode prog_6_method_4_code 73 = .ok (.putfield 15, 3) := by decide +kernel
theorem d_6_4_76 : decode prog_6_method_4_code 76 = .ok (.return_, 1) := by decide +kernel
theorem d_6_4_36 : decode prog_6_method_4_code 36 = .ok (.aload_n 0, 1) := by decide +kernel
theorem d_6_4_37 : decode prog_6_method_4_code 37 = .ok (.getfield 9, 3) := by decide +kernel
theorem d_6_4_40 : decode prog_6_method_4_code 40 = .ok (.aload_n 0, 1) := by decide +kernel
theorem d_6_4_41 : decode prog_6_method_4_code 41 = .ok (.getfield 15, 3) := by decide +kernel
theorem d_6_4_44 : decode prog_6_method_4_code 44 = .ok (.i2l, 1) := by decide +kernel
theorem d_6_4_45 : decode prog_6_method_4_code 45 = .ok (.invokevirtual 46, 3) := by decide +kernel
theorem d_6_4_48 : decode prog_6_method_4_code 48 = .ok (.bipush 36, 2) := by decide +kernel
theorem d_6_4_50 : decode prog_6_method_4_code 50 = .ok (.if_icmp .ne 16, 3) := by decide +kernel
theorem d_6_4_53 : decode prog_6_method_4_code 53 = .ok (.aload_n 0, 1) := by decide +kernel
theorem d_6_4_54 : decode prog_6_method_4_code 54 = .ok (.dup, 1) := by decide +kernel
theorem d_6_4_55 : decode prog_6_method_4_code 55 = .ok (.getfield 15, 3) := by decide +kernel
theorem d_6_4_58 : decode prog_6_method_4_code 58 = .ok (.iconst 1, 1) := by decide +kernel
theorem d_6_4_59 : decode prog_6_method_4_code 59 = .ok (.iadd, 1) := by decide +kernel
theorem d_6_4_60 : decode prog_6_method_4_code 60 = .ok (.putfield 15, 3) := by decide +kernel
theorem d_6_4_63 : decode prog_6_method_4_code 63 = .ok (.goto 13, 3) := by decide +kernel
theorem d_6_4_14 : decode prog_6_method_4_code 14 = .ok (.ifCond .le 10, 3) := by decide +kernel
theorem d_6_4_24 : decode prog_6_method_4_code 24 = .ok (.iconst (-1), 1) := by decide +kernel
theorem d_6_4_17 : decode prog_6_method_4_code 17 = .ok (.aload_n 0, 1) := by decide +kernel
theorem d_6_4_18 : decode prog_6_method_4_code 18 = .ok (.invokevirtual 36, 3) := by decide +kernel
set_option maxRecDepth 100000 in
theorem w_1751 : (Cond.code ({ cls := "NumberHouse$Directive", name := "takeNumber", desc := "()I" } : MethodName) prog_6_method_6_code (2 : Nat) (some .int)) ∈ q_tbl := q_of8 71 rfl (by decide +kernel)
set_option maxRecDepth 100000 in
theorem w_1748 : (Cond.methodLink "NumberHouse$Directive" (36 : Nat) ({ cls := "NumberHouse$Directive", name := "takeNumber", desc := "()I" } : MethodName)) ∈ q_tbl := q_of8 68 rfl (by decide +kernel)
set_option maxRecDepth 100000 in
theorem w_1750 : (Cond.instanceMethod ({ cls := "NumberHouse$Directive", name := "takeNumber", desc := "()I" } : MethodName)) ∈ q_tbl := q_of8 70 rfl (by decide +kernel)
theorem ws_47 : Cond.selects "NumberHouse$Directive" (⟨"NumberHouse$Directive", "takeNumber", "()I"⟩ : MethodName) (⟨"NumberHouse$Directive", "takeNumber", "()I"⟩ : MethodName) ∈ q_tbl := q_ofs 47 (by decide +kernel) (by decide +kernel)
theorem LV_Dir_36 : q_LV "NumberHouse$Directive" 36 y_Dir_takeNumber prog_6_method_6_code 2 (some .int) 0 := ⟨w_1751, w_13, w_1748, w_1750, ws_47, ⟨by decide, by decide, by decide +kernel⟩⟩
theorem d_6_4_21 : decode prog_6_method_4_code 21 = .ok (.goto 4, 3) := by decide +kernel
def y_Dir_takeIndex : MethodName := ⟨"NumberHouse$Directive", "takeIndex", "()V"⟩
theorem d_6_5_0 : decode prog_6_method_5_code 0 = .ok (.aload_n 0, 1) := by decide +kernel
theorem d_6_5_1 : decode prog_6_method_5_code 1 = .ok (.getfield 15, 3) := by decide +kernel
theorem d_6_5_4 : decode prog_6_method_5_code 4 = .ok (.aload_n 0, 1) := by decide +kernel
theorem d_6_5_5 : decode prog_6_method_5_code 5 = .ok (.getfield 9, 3) := by decide +kernel
theorem d_6_5_8 : decode prog_6_method_5_code 8 = .ok (.getfield 52, 3) := by decide +kernel
theorem d_6_5_11 : decode prog_6_method_5_code 11 = .ok (.if_icmp .ge 68, 3) := by decide +kernel
theorem d_6_5_79 : decode prog_6_method_5_code 79 = .ok (.return_, 1) := by decide +kernel
theorem d_6_5_14 : decode prog_6_method_5_code 14 = .ok (.ldc 61, 2) := by decide +kernel
theorem d_6_5_16 : decode prog_6_method_5_code 16 = .ok (.aload_n 0, 1) := by decide +kernel
theorem d_6_5_17 : decode prog_6_method_5_code 17 = .ok (.getfield 9, 3) := by decide +kernel
theorem d_6_5_20 : decode prog_6_method_5_code 20 = .ok (.aload_n 0, 1) := by decide +kernel
theorem d_6_5_21 : decode prog_6_method_5_code 21 = .ok (.getfield 15, 3) := by decide +kernel
theorem d_6_5_24 : decode prog_6_method_5_code 24 = .ok (.i2l, 1) := by decide +kernel
theorem d_6_5_25 : decode prog_6_method_5_code 25 = .ok (.invokevirtual 46, 3) := by decide +kernel
theorem d_6_5_28 : decode prog_6_method_5_code 28 = .ok (.i2c, 1) := by decide +kernel
theorem d_6_5_29 : decode prog_6_method_5_code 29 = .ok (.invokevirtual 63, 3) := by decide +kernel
theorem d_6_5_32 : decode prog_6_method_5_code 32 = .ok (.istore_n 1, 1) := by decide +kernel
theorem d_6_5_33 : decode prog_6_method_5_code 33 = .ok (.iload_n 1, 1) := by decide +kernel
theorem d_6_5_34 : decode prog_6_method_5_code 34 = .ok (.ifCond .ge 4, 3) := by decide +kernel
theorem d_6_5_38 : decode prog_6_method_5_code 38 = .ok (.aload_n 0, 1) := by decide +kernel
theorem d_6_5_39 : decode prog_6_method_5_code 39 = .ok (.dup, 1) := by decide +kernel
theorem d_6_5_40 : decode prog_6_method_5_code 40 = .ok (.getfield 22, 3) := by decide +kernel
set_option maxRecDepth 100000 in
theorem w_366 : (Cond.fieldLink "NumberHouse$Directive" (22 : Nat) "NumberHouse$Directive" "twice" "Z") ∈ q_tbl := q_of2 126 rfl (by decide +kernel)
theorem d_6_5_43 : decode prog_6_method_5_code 43 = .ok (.aload_n 0, 1) := by decide +kernel
theorem d_6_5_44 : decode prog_6_method_5_code 44 = .ok (.iconst 1, 1) := by decide +kernel
theorem d_6_5_45 : decode prog_6_method_5_code 45 = .ok (.iload_n 1, 1) := by decide +kernel
theorem d_6_5_46 : decode prog_6_method_5_code 46 = .ok (.ishl, 1) := by decide +kernel
theorem d_6_5_47 : decode prog_6_method_5_code 47 = .ok (.invokevirtual 68, 3) := by decide +kernel
set_option maxRecDepth 100000 in
theorem w_1807 : (Cond.code ({ cls := "NumberHouse$Directive", name := "has", desc := "(I)Z" } : MethodName) prog_6_method_8_code (2 : Nat) (some .boolean)) ∈ q_tbl := q_of8 127 rfl (by decide +kernel)
set_option maxRecDepth 100000 in
theorem w_1804 : (Cond.methodLink "NumberHouse$Directive" (68 : Nat) ({ cls := "NumberHouse$Directive", name := "has", desc := "(I)Z" } : MethodName)) ∈ q_tbl := q_of8 124 rfl (by decide +kernel)
set_option maxRecDepth 100000 in
theorem w_1805 : (Cond.instanceMethod ({ cls := "NumberHouse$Directive", name := "has", desc := "(I)Z" } : MethodName)) ∈ q_tbl := q_of8 125 rfl (by decide +kernel)
set_option maxRecDepth 100000 in
theorem w_1806 : (Cond.selects "NumberHouse$Directive" ({ cls := "NumberHouse$Directive", name := "has", desc := "(I)Z" } : MethodName) ({ cls := "NumberHouse$Directive", name := "has", desc := "(I)Z" } : MethodName)) ∈ q_tbl := q_of8 126 rfl (by decide +kernel)
theorem LV_Dir_68 : q_LV "NumberHouse$Directive" 68 y_Dir_has prog_6_method_8_code 2 (some .boolean) 1 := ⟨w_1807, w_13, w_1804, w_1805, w_1806, ⟨by decide, by decide, by decide +kernel⟩⟩
theorem d_6_5_50 : decode prog_6_method_5_code 50 = .ok (.ior, 1) := by decide +kernel
theorem d_6_5_51 : decode prog_6_method_5_code 51 = .ok (.putfield 22, 3) := by decide +kernel
theorem d_6_5_54 : decode prog_6_method_5_code 54 = .ok (.aload_n 0, 1) := by decide +kernel
theorem d_6_5_55 : decode prog_6_method_5_code 55 = .ok (.dup, 1) := by decide +kernel
theorem d_6_5_56 : decode prog_6_method_5_code 56 = .ok (.getfield 19, 3) := by decide +kernel
theorem d_6_5_59 : decode prog_6_method_5_code 59 = .ok (.iconst 1, 1) := by decide +kernel
theorem d_6_5_60 : decode prog_6_method_5_code 60 = .ok (.iload_n 1, 1) := by decide +kernel
theorem d_6_5_61 : decode prog_6_method_5_code 61 = .ok (.ishl, 1) := by decide +kernel
theorem d_6_5_62 : decode prog_6_method_5_code 62 = .ok (.ior, 1) := by decide +kernel
theorem d_6_5_63 : decode prog_6_method_5_code 63 = .ok (.putfield 19, 3) := by decide +kernel
theorem d_6_5_66 : decode prog_6_method_5_code 66 = .ok (.aload_n 0, 1) := by decide +kernel
theorem d_6_5_67 : decode prog_6_method_5_code 67 = .ok (.dup, 1) := by decide +kernel
theorem d_6_5_68 : decode prog_6_method_5_code 68 = .ok (.getfield 15, 3) := by decide +kernel
theorem d_6_5_71 : decode prog_6_method_5_code 71 = .ok (.iconst 1, 1) := by decide +kernel
theorem d_6_5_72 : decode prog_6_method_5_code 72 = .ok (.iadd, 1) := by decide +kernel
theorem d_6_5_73 : decode prog_6_method_5_code 73 = .ok (.putfield 15, 3) := by decide +kernel
theorem d_6_5_76 : decode prog_6_method_5_code 76 = .ok (.goto (-76), 3) := by decide +kernel
theorem d_6_5_37 : decode prog_6_method_5_code 37 = .ok (.return_, 1) := by decide +kernel
def y_Dir_takeFlags : MethodName := ⟨"NumberHouse$Directive", "takeFlags", "()V"⟩
theorem d_6_2_0 : decode prog_6_method_2_code 0 = .ok (.aload_n 0, 1) := by decide +kernel
theorem d_6_2_1 : decode prog_6_method_2_code 1 = .ok (.iload_n 1, 1) := by decide +kernel
theorem d_6_2_2 : decode prog_6_method_2_code 2 = .ok (.iconst 1, 1) := by decide +kernel
theorem d_6_2_3 : decode prog_6_method_2_code 3 = .ok (.iadd, 1) := by decide +kernel
theorem d_6_2_4 : decode prog_6_method_2_code 4 = .ok (.putfield 15, 3) := by decide +kernel
theorem d_6_2_7 : decode prog_6_method_2_code 7 = .ok (.aload_n 0, 1) := by decide +kernel
theorem d_6_2_8 : decode prog_6_method_2_code 8 = .ok (.iconst 0, 1) := by decide +kernel
theorem d_6_2_9 : decode prog_6_method_2_code 9 = .ok (.putfield 19, 3) := by decide +kernel
theorem d_6_2_12 : decode prog_6_method_2_code 12 = .ok (.aload_n 0, 1) := by decide +kernel
theorem d_6_2_13 : decode prog_6_method_2_code 13 = .ok (.iconst 0, 1) := by decide +kernel
theorem d_6_2_14 : decode prog_6_method_2_code 14 = .ok (.putfield 22, 3) := by decide +kernel
theorem d_6_2_17 : decode prog_6_method_2_code 17 = .ok (.aload_n 0, 1) := by decide +kernel
theorem d_6_2_18 : decode prog_6_method_2_code 18 = .ok (.invokevirtual 26, 3) := by decide +kernel
set_option maxRecDepth 100000 in
theorem w_1742 : (Cond.code ({ cls := "NumberHouse$Directive", name := "takeIndex", desc := "()V" } : MethodName) prog_6_method_4_code (2 : Nat) (none : Option ClassFile.FieldType)) ∈ q_tbl := q_of8 62 rfl (by decide +kernel)
set_option maxRecDepth 100000 in
theorem w_1739 : (Cond.methodLink "NumberHouse$Directive" (26 : Nat) ({ cls := "NumberHouse$Directive", name := "takeIndex", desc := "()V" } : MethodName)) ∈ q_tbl := q_of8 59 rfl (by decide +kernel)
set_option maxRecDepth 100000 in
theorem w_1741 : (Cond.instanceMethod ({ cls := "NumberHouse$Directive", name := "takeIndex", desc := "()V" } : MethodName)) ∈ q_tbl := q_of8 61 rfl (by decide +kernel)
theorem ws_45 : Cond.selects "NumberHouse$Directive" (⟨"NumberHouse$Directive", "takeIndex", "()V"⟩ : MethodName) (⟨"NumberHouse$Directive", "takeIndex", "()V"⟩ : MethodName) ∈ q_tbl := q_ofs 45 (by decide +kernel) (by decide +kernel)
theorem LV_Dir_26 : q_LV "NumberHouse$Directive" 26 y_Dir_takeIndex prog_6_method_4_code 2 none 0 := ⟨w_1742, w_13, w_1739, w_1741, ws_45, ⟨by decide, by decide, by decide +kernel⟩⟩
theorem d_6_2_21 : decode prog_6_method_2_code 21 = .ok (.aload_n 0, 1) := by decide +kernel
theorem d_6_2_22 : decode prog_6_method_2_code 22 = .ok (.invokevirtual 29, 3) := by decide +kernel
set_option maxRecDepth 100000 in
theorem w_1756 : (Cond.code ({ cls := "NumberHouse$Directive", name := "takeFlags", desc := "()V" } : MethodName) prog_6_method_5_code (2 : Nat) (none : Option ClassFile.FieldType)) ∈ q_tbl := q_of8 76 rfl (by decide +kernel)
set_option maxRecDepth 100000 in
theorem w_1753 : (Cond.methodLink "NumberHouse$Directive" (29 : Nat) ({ cls := "NumberHouse$Directive", name := "takeFlags", desc := "()V" } : MethodName)) ∈ q_tbl := q_of8 73 rfl (by decide +kernel)
set_option maxRecDepth 100000 in
theorem w_1755 : (Cond.instanceMethod ({ cls := "NumberHouse$Directive", name := "takeFlags", desc := "()V" } : MethodName)) ∈ q_tbl := q_of8 75 rfl (by decide +kernel)
theorem ws_48 : Cond.selects "NumberHouse$Directive" (⟨"NumberHouse$Directive", "takeFlags", "()V"⟩ : MethodName) (⟨"NumberHouse$Directive", "takeFlags", "()V"⟩ : MethodName) ∈ q_tbl := q_ofs 48 (by decide +kernel) (by decide +kernel)
theorem LV_Dir_29 : q_LV "NumberHouse$Directive" 29 y_Dir_takeFlags prog_6_method_5_code 2 none 0 := ⟨w_1756, w_13, w_1753, w_1755, ws_48, ⟨by decide, by decide, by decide +kernel⟩⟩
theorem d_6_2_25 : decode prog_6_method_2_code 25 = .ok (.aload_n 0, 1) := by decide +kernel
theorem d_6_2_26 : decode prog_6_method_2_code 26 = .ok (.aload_n 0, 1) := by decide +kernel
theorem d_6_2_27 : decode prog_6_method_2_code 27 = .ok (.aload_n 0, 1) := by decide +kernel
theorem d_6_2_28 : decode prog_6_method_2_code 28 = .ok (.getfield 15, 3) := by decide +kernel
theorem d_6_2_31 : decode prog_6_method_2_code 31 = .ok (.invokevirtual 32, 3) := by decide +kernel
theorem d_6_2_45 : decode prog_6_method_2_code 45 = .ok (.putfield 40, 3) := by decide +kernel
theorem d_6_2_48 : decode prog_6_method_2_code 48 = .ok (.aload_n 0, 1) := by decide +kernel
theorem d_6_2_49 : decode prog_6_method_2_code 49 = .ok (.iconst (-1), 1) := by decide +kernel
theorem d_6_2_50 : decode prog_6_method_2_code 50 = .ok (.putfield 43, 3) := by decide +kernel
set_option maxRecDepth 100000 in
theorem w_359 : (Cond.fieldLink "NumberHouse$Directive" (43 : Nat) "NumberHouse$Directive" "precision" "I") ∈ q_tbl := q_of2 119 rfl (by decide +kernel)
theorem d_6_2_53 : decode prog_6_method_2_code 53 = .ok (.aload_n 0, 1) := by decide +kernel
theorem d_6_2_54 : decode prog_6_method_2_code 54 = .ok (.getfield 9, 3) := by decide +kernel
theorem d_6_2_57 : decode prog_6_method_2_code 57 = .ok (.aload_n 0, 1) := by decide +kernel
theorem d_6_2_58 : decode prog_6_method_2_code 58 = .ok (.getfield 15, 3) := by decide +kernel
theorem d_6_2_61 : decode prog_6_method_2_code 61 = .ok (.i2l, 1) := by decide +kernel
theorem d_6_2_62 : decode prog_6_method_2_code 62 = .ok (.invokevirtual 46, 3) := by decide +kernel
theorem d_6_2_65 : decode prog_6_method_2_code 65 = .ok (.bipush 46, 2) := by decide +kernel
theorem d_6_2_101 : decode prog_6_method_2_code 101 = .ok (.aload_n 0, 1) := by decide +kernel
theorem d_6_2_102 : decode prog_6_method_2_code 102 = .ok (.aload_n 0, 1) := by decide +kernel
theorem d_6_2_103 : decode prog_6_method_2_code 103 = .ok (.getfield 15, 3) := by decide +kernel
theorem d_6_2_106 : decode prog_6_method_2_code 106 = .ok (.aload_n 0, 1) := by decide +kernel
theorem d_6_2_107 : decode prog_6_method_2_code 107 = .ok (.getfield 9, 3) := by decide +kernel
theorem d_6_2_110 : decode prog_6_method_2_code 110 = .ok (.getfield 52, 3) := by decide +kernel
theorem d_6_2_113 : decode prog_6_method_2_code 113 = .ok (.if_icmp .ge 18, 3) := by decide +kernel
theorem d_6_2_131 : decode prog_6_method_2_code 131 = .ok (.iconst (-1), 1) := by decide +kernel
theorem d_6_2_132 : decode prog_6_method_2_code 132 = .ok (.putfield 55, 3) := by decide +kernel
theorem d_6_2_135 : decode prog_6_method_2_code 135 = .ok (.aload_n 0, 1) := by decide +kernel
theorem d_6_2_136 : decode prog_6_method_2_code 136 = .ok (.dup, 1) := by decide +kernel
theorem d_6_2_137 : decode prog_6_method_2_code 137 = .ok (.getfield 15, 3) := by decide +kernel
theorem d_6_2_140 : decode prog_6_method_2_code 140 = .ok (.iconst 1, 1) := by decide +kernel
theorem d_6_2_141 : decode prog_6_method_2_code 141 = .ok (.iadd, 1) := by decide +kernel
theorem d_6_2_142 : decode prog_6_method_2_code 142 = .ok (.putfield 15, 3) := by decide +kernel
theorem d_6_2_145 : decode prog_6_method_2_code 145 = .ok (.return_, 1) := by decide +kernel
theorem d_6_2_116 : decode prog_6_method_2_code 116 = .ok (.aload_n 0, 1) := by decide +kernel
theorem d_6_2_117 : decode prog_6_method_2_code 117 = .ok (.getfield 9, 3) := by decide +kernel
theorem d_6_2_120 : decode prog_6_method_2_code 120 = .ok (.aload_n 0, 1) := by decide +kernel
theorem d_6_2_121 : decode prog_6_method_2_code 121 = .ok (.getfield 15, 3) := by decide +kernel
theorem d_6_2_124 : decode prog_6_method_2_code 124 = .ok (.i2l, 1) := by decide +kernel
theorem d_6_2_125 : decode prog_6_method_2_code 125 = .ok (.invokevirtual 46, 3) := by decide +kernel
theorem d_6_2_128 : decode prog_6_method_2_code 128 = .ok (.goto 4, 3) := by decide +kernel
theorem d_6_2_67 : decode prog_6_method_2_code 67 = .ok (.if_icmp .ne 34, 3) := by decide +kernel
theorem d_6_2_70 : decode prog_6_method_2_code 70 = .ok (.aload_n 0, 1) := by decide +kernel
theorem d_6_2_71 : decode prog_6_method_2_code 71 = .ok (.aload_n 0, 1) := by decide +kernel
theorem d_6_2_72 : decode prog_6_method_2_code 72 = .ok (.getfield 15, 3) := by decide +kernel
theorem d_6_2_75 : decode prog_6_method_2_code 75 = .ok (.iconst 1, 1) := by decide +kernel
theorem d_6_2_76 : decode prog_6_method_2_code 76 = .ok (.iadd, 1) := by decide +kernel
theorem d_6_2_77 : decode prog_6_method_2_code 77 = .ok (.invokevirtual 32, 3) := by decide +kernel
theorem d_6_2_80 : decode prog_6_method_2_code 80 = .ok (.ifCond .lt 21, 3) := by decide +kernel
theorem d_6_2_83 : decode prog_6_method_2_code 83 = .ok (.aload_n 0, 1) := by decide +kernel
theorem d_6_2_84 : decode prog_6_method_2_code 84 = .ok (.dup, 1) := by decide +kernel
theorem d_6_2_85 : decode prog_6_method_2_code 85 = .ok (.getfield 15, 3) := by decide +kernel
theorem d_6_2_88 : decode prog_6_method_2_code 88 = .ok (.iconst 1, 1) := by decide +kernel
theorem d_6_2_89 : decode prog_6_method_2_code 89 = .ok (.iadd, 1) := by decide +kernel
theorem d_6_2_90 : decode prog_6_method_2_code 90 = .ok (.putfield 15, 3) := by decide +kernel
theorem d_6_2_93 : decode prog_6_method_2_code 93 = .ok (.aload_n 0, 1) := by decide +kernel
theorem d_6_2_94 : decode prog_6_method_2_code 94 = .ok (.aload_n 0, 1) := by decide +kernel
theorem d_6_2_95 : decode prog_6_method_2_code 95 = .ok (.invokevirtual 36, 3) := by decide +kernel
theorem d_6_2_98 : decode prog_6_method_2_code 98 = .ok (.putfield 43, 3) := by decide +kernel
theorem d_6_2_34 : decode prog_6_method_2_code 34 = .ok (.ifCond .le 10, 3) := by decide +kernel
theorem d_6_2_44 : decode prog_6_method_2_code 44 = .ok (.iconst (-1), 1) := by decide +kernel
theorem d_6_2_37 : decode prog_6_method_2_code 37 = .ok (.aload_n 0, 1) := by decide +kernel
theorem d_6_2_38 : decode prog_6_method_2_code 38 = .ok (.invokevirtual 36, 3) := by decide +kernel
theorem d_6_2_41 : decode prog_6_method_2_code 41 = .ok (.goto 4, 3) := by decide +kernel
def y_Dir_parse : MethodName := ⟨"NumberHouse$Directive", "parse", "(I)V"⟩
theorem d_6_12_0 : decode prog_6_method_12_code 0 = .ok (.aload_n 0, 1) := by decide +kernel
theorem d_6_12_1 : decode prog_6_method_12_code 1 = .ok (.ldc 89, 2) := by decide +kernel
theorem d_6_12_3 : decode prog_6_method_12_code 3 = .ok (.invokevirtual 80, 3) := by decide +kernel
set_option maxRecDepth 100000 in
theorem w_1820 : (Cond.code ({ cls := "NumberHouse$Directive", name := "isOneOf", desc := "(Ljava/lang/String;)Z" } : MethodName) prog_6_method_9_code (2 : Nat) (some .boolean)) ∈ q_tbl := q_of8 140 rfl (by decide +kernel)
set_option maxRecDepth 100000 in
theorem w_1817 : (Cond.methodLink "NumberHouse$Directive" (80 : Nat) ({ cls := "NumberHouse$Directive", name := "isOneOf", desc := "(Ljava/lang/String;)Z" } : MethodName)) ∈ q_tbl := q_of8 137 rfl (by decide +kernel)
set_option maxRecDepth 100000 in
theorem w_1818 : (Cond.instanceMethod ({ cls := "NumberHouse$Directive", name := "isOneOf", desc := "(Ljava/lang/String;)Z" } : MethodName)) ∈ q_tbl := q_of8 138 rfl (by decide +kernel)
set_option maxRecDepth 100000 in
theorem w_1819 : (Cond.selects "NumberHouse$Directive" ({ cls := "NumberHouse$Directive", name := "isOneOf", desc := "(Ljava/lang/String;)Z" } : MethodName) ({ cls := "NumberHouse$Directive", name := "isOneOf", desc := "(Ljava/lang/String;)Z" } : MethodName)) ∈ q_tbl := q_of8 139 rfl (by decide +kernel)
theorem LV_Dir_80 : q_LV "NumberHouse$Directive" 80 y_Dir_isOneOf prog_6_method_9_code 2 (some .boolean) 1 := ⟨w_1820, w_13, w_1817, w_1818, w_1819, ⟨by decide, by decide, by decide +kernel⟩⟩
theorem d_6_12_6 : decode prog_6_method_12_code 6 = .ok (.ifCond .eq 6, 3) := by decide +kernel
theorem d_6_12_12 : decode prog_6_method_12_code 12 = .ok (.aload_n 0, 1) := by decide +kernel
theorem d_6_12_13 : decode prog_6_method_12_code 13 = .ok (.ldc 91, 2) := by decide +kernel
theorem d_6_12_15 : decode prog_6_method_12_code 15 = .ok (.invokevirtual 80, 3) := by decide +kernel
theorem d_6_12_18 : decode prog_6_method_12_code 18 = .ok (.ifCond .eq 6, 3) := by decide +kernel
theorem d_6_12_24 : decode prog_6_method_12_code 24 = .ok (.sipush 255, 3) := by decide +kernel
theorem d_6_12_27 : decode prog_6_method_12_code 27 = .ok (.istore_n 1, 1) := by decide +kernel
theorem d_6_12_28 : decode prog_6_method_12_code 28 = .ok (.aload_n 0, 1) := by decide +kernel
theorem d_6_12_29 : decode prog_6_method_12_code 29 = .ok (.ldc 93, 2) := by decide +kernel
theorem d_6_12_31 : decode prog_6_method_12_code 31 = .ok (.invokevirtual 80, 3) := by decide +kernel
theorem d_6_12_34 : decode prog_6_method_12_code 34 = .ok (.ifCond .eq 8, 3) := by decide +kernel
theorem d_6_12_42 : decode prog_6_method_12_code 42 = .ok (.aload_n 0, 1) := by decide +kernel
theorem d_6_12_43 : decode prog_6_method_12_code 43 = .ok (.ldc 95, 2) := by decide +kernel
theorem d_6_12_45 : decode prog_6_method_12_code 45 = .ok (.invokevirtual 80, 3) := by decide +kernel
theorem d_6_12_48 : decode prog_6_method_12_code 48 = .ok (.ifCond .eq 10, 3) := by decide +kernel
theorem d_6_12_58 : decode prog_6_method_12_code 58 = .ok (.iload_n 1, 1) := by decide +kernel
theorem d_6_12_59 : decode prog_6_method_12_code 59 = .ok (.ireturn, 1) := by decide +kernel
theorem d_6_12_51 : decode prog_6_method_12_code 51 = .ok (.iload_n 1, 1) := by decide +kernel
theorem d_6_12_52 : decode prog_6_method_12_code 52 = .ok (.bipush (-17), 2) := by decide +kernel
theorem d_6_12_54 : decode prog_6_method_12_code 54 = .ok (.iand, 1) := by decide +kernel
theorem d_6_12_55 : decode prog_6_method_12_code 55 = .ok (.goto 4, 3) := by decide +kernel
theorem d_6_12_37 : decode prog_6_method_12_code 37 = .ok (.iload_n 1, 1) := by decide +kernel
theorem d_6_12_38 : decode prog_6_method_12_code 38 = .ok (.bipush (-3), 2) := by decide +kernel
theorem d_6_12_40 : decode prog_6_method_12_code 40 = .ok (.iand, 1) := by decide +kernel
theorem d_6_12_41 : decode prog_6_method_12_code 41 = .ok (.ireturn, 1) := by decide +kernel
theorem d_6_12_21 : decode prog_6_method_12_code 21 = .ok (.bipush 75, 2) := by decide +kernel
theorem d_6_12_23 : decode prog_6_method_12_code 23 = .ok (.ireturn, 1) := by decide +kernel
theorem d_6_12_9 : decode prog_6_method_12_code 9 = .ok (.bipush 65, 2) := by decide +kernel
theorem d_6_12_11 : decode prog_6_method_12_code 11 = .ok (.ireturn, 1) := by decide +kernel
def y_Dir_possibleFlags : MethodName := ⟨"NumberHouse$Directive", "possibleFlags", "()I"⟩
theorem d_6_11_0 : decode prog_6_method_11_code 0 = .ok (.aload_n 0, 1) := by decide +kernel
theorem d_6_11_1 : decode prog_6_method_11_code 1 = .ok (.getfield 55, 3) := by decide +kernel
theorem d_6_11_4 : decode prog_6_method_11_code 4 = .ok (.ifCond .ge 5, 3) := by decide +kernel
theorem d_6_11_9 : decode prog_6_method_11_code 9 = .ok (.aload_n 0, 1) := by decide +kernel
theorem d_6_11_10 : decode prog_6_method_11_code 10 = .ok (.ldc 78, 2) := by decide +kernel
theorem d_6_11_12 : decode prog_6_method_11_code 12 = .ok (.invokevirtual 80, 3) := by decide +kernel
theorem d_6_11_15 : decode prog_6_method_11_code 15 = .ok (.ifCond .ne 5, 3) := by decide +kernel
theorem d_6_11_20 : decode prog_6_method_11_code 20 = .ok (.aload_n 0, 1) := by decide +kernel
theorem d_6_11_21 : decode prog_6_method_11_code 21 = .ok (.getfield 22, 3) := by decide +kernel
theorem d_6_11_24 : decode prog_6_method_11_code 24 = .ok (.ifCond .eq 5, 3) := by decide +kernel
theorem d_6_11_29 : decode prog_6_method_11_code 29 = .ok (.aload_n 0, 1) := by decide +kernel
theorem d_6_11_30 : decode prog_6_method_11_code 30 = .ok (.getfield 55, 3) := by decide +kernel
theorem d_6_11_33 : decode prog_6_method_11_code 33 = .ok (.bipush 110, 2) := by decide +kernel
theorem d_6_11_63 : decode prog_6_method_11_code 63 = .ok (.aload_n 0, 1) := by decide +kernel
theorem d_6_11_64 : decode prog_6_method_11_code 64 = .ok (.getfield 43, 3) := by decide +kernel
theorem d_6_11_67 : decode prog_6_method_11_code 67 = .ok (.iconst (-1), 1) := by decide +kernel
theorem d_6_11_82 : decode prog_6_method_11_code 82 = .ok (.aload_n 0, 1) := by decide +kernel
theorem d_6_11_83 : decode prog_6_method_11_code 83 = .ok (.getfield 19, 3) := by decide +kernel
theorem d_6_11_86 : decode prog_6_method_11_code 86 = .ok (.aload_n 0, 1) := by decide +kernel
theorem d_6_11_87 : decode prog_6_method_11_code 87 = .ok (.invokevirtual 86, 3) := by decide +kernel
set_option maxRecDepth 100000 in
theorem w_1825 : (Cond.code ({ cls := "NumberHouse$Directive", name := "possibleFlags", desc := "()I" } : MethodName) prog_6_method_12_code (2 : Nat) (some .int)) ∈ q_tbl := q_of8 145 rfl (by decide +kernel)
set_option maxRecDepth 100000 in
theorem w_1822 : (Cond.methodLink "NumberHouse$Directive" (86 : Nat) ({ cls := "NumberHouse$Directive", name := "possibleFlags", desc := "()I" } : MethodName)) ∈ q_tbl := q_of8 142 rfl (by decide +kernel)
set_option maxRecDepth 100000 in
theorem w_1824 : (Cond.instanceMethod ({ cls := "NumberHouse$Directive", name := "possibleFlags", desc := "()I" } : MethodName)) ∈ q_tbl := q_of8 144 rfl (by decide +kernel)
theorem ws_50 : Cond.selects "NumberHouse$Directive" (⟨"NumberHouse$Directive", "possibleFlags", "()I"⟩ : MethodName) (⟨"NumberHouse$Directive", "possibleFlags", "()I"⟩ : MethodName) ∈ q_tbl := q_ofs 50 (by decide +kernel) (by decide +kernel)
theorem LV_Dir_86 : q_LV "NumberHouse$Directive" 86 y_Dir_possibleFlags prog_6_method_12_code 2 (some .int) 0 := ⟨w_1825, w_13, w_1822, w_1824, ws_50, ⟨by decide, by decide, by decide +kernel⟩⟩
theorem d_6_11_90 : decode prog_6_method_11_code 90 = .ok (.iconst (-1), 1) := by decide +kernel
theorem d_6_11_91 : decode prog_6_method_11_code 91 = .ok (.ixor, 1) := by decide +kernel
theorem d_6_11_92 : decode prog_6_method_11_code 92 = .ok (.iand, 1) := by decide +kernel
theorem d_6_11_93 : decode prog_6_method_11_code 93 = .ok (.ifCond .eq 6, 3) := by decide +kernel
theorem d_6_11_99 : decode prog_6_method_11_code 99 = .ok (.aload_n 0, 1) := by decide +kernel
theorem d_6_11_100 : decode prog_6_method_11_code 100 = .ok (.bipush 9, 2) := by decide +kernel
theorem d_6_11_102 : decode prog_6_method_11_code 102 = .ok (.invokevirtual 68, 3) := by decide +kernel
theorem d_6_11_119 : decode prog_6_method_11_code 119 = .ok (.aload_n 0, 1) := by decide +kernel
theorem d_6_11_120 : decode prog_6_method_11_code 120 = .ok (.iconst 1, 1) := by decide +kernel
theorem d_6_11_121 : decode prog_6_method_11_code 121 = .ok (.invokevirtual 68, 3) := by decide +kernel
theorem d_6_11_136 : decode prog_6_method_11_code 136 = .ok (.aload_n 0, 1) := by decide +kernel
theorem d_6_11_137 : decode prog_6_method_11_code 137 = .ok (.iconst 4, 1) := by decide +kernel
theorem d_6_11_138 : decode prog_6_method_11_code 138 = .ok (.invokevirtual 68, 3) := by decide +kernel
theorem d_6_11_141 : decode prog_6_method_11_code 141 = .ok (.ifCond .eq 17, 3) := by decide +kernel
theorem d_6_11_158 : decode prog_6_method_11_code 158 = .ok (.iconst 0, 1) := by decide +kernel
theorem d_6_11_159 : decode prog_6_method_11_code 159 = .ok (.istore_n 1, 1) := by decide +kernel
theorem d_6_11_160 : decode prog_6_method_11_code 160 = .ok (.iload_n 1, 1) := by decide +kernel
theorem d_6_11_161 : decode prog_6_method_11_code 161 = .ok (.ifCond .eq 8, 3) := by decide +kernel
theorem d_6_11_169 : decode prog_6_method_11_code 169 = .ok (.iconst 0, 1) := by decide +kernel
theorem d_6_11_170 : decode prog_6_method_11_code 170 = .ok (.ireturn, 1) := by decide +kernel
theorem d_6_11_144 : decode prog_6_method_11_code 144 = .ok (.aload_n 0, 1) := by decide +kernel
theorem d_6_11_145 : decode prog_6_method_11_code 145 = .ok (.sipush 128, 3) := by decide +kernel
theorem d_6_11_148 : decode prog_6_method_11_code 148 = .ok (.invokevirtual 68, 3) := by decide +kernel
theorem d_6_11_151 : decode prog_6_method_11_code 151 = .ok (.ifCond .eq 7, 3) := by decide +kernel
theorem d_6_11_154 : decode prog_6_method_11_code 154 = .ok (.iconst 1, 1) := by decide +kernel
theorem d_6_11_155 : decode prog_6_method_11_code 155 = .ok (.goto 4, 3) := by decide +kernel
theorem d_6_11_164 : decode prog_6_method_11_code 164 = .ok (.bipush 8, 2) := by decide +kernel
theorem d_6_11_166 : decode prog_6_method_11_code 166 = .ok (.goto 4, 3) := by decide +kernel
theorem d_6_11_124 : decode prog_6_method_11_code 124 = .ok (.ifCond .eq 12, 3) := by decide +kernel
theorem d_6_11_127 : decode prog_6_method_11_code 127 = .ok (.aload_n 0, 1) := by decide +kernel
theorem d_6_11_128 : decode prog_6_method_11_code 128 = .ok (.bipush 8, 2) := by decide +kernel
theorem d_6_11_130 : decode prog_6_method_11_code 130 = .ok (.invokevirtual 68, 3) := by decide +kernel
theorem d_6_11_133 : decode prog_6_method_11_code 133 = .ok (.ifCond .ne 21, 3) := by decide +kernel
theorem d_6_11_105 : decode prog_6_method_11_code 105 = .ok (.ifCond .eq 14, 3) := by decide +kernel
theorem d_6_11_108 : decode prog_6_method_11_code 108 = .ok (.aload_n 0, 1) := by decide +kernel
theorem d_6_11_109 : decode prog_6_method_11_code 109 = .ok (.getfield 40, 3) := by decide +kernel
theorem d_6_11_112 : decode prog_6_method_11_code 112 = .ok (.iconst (-1), 1) := by decide +kernel
theorem d_6_11_113 : decode prog_6_method_11_code 113 = .ok (.if_icmp .ne 6, 3) := by decide +kernel
theorem d_6_11_116 : decode prog_6_method_11_code 116 = .ok (.bipush 7, 2) := by decide +kernel
theorem d_6_11_118 : decode prog_6_method_11_code 118 = .ok (.ireturn, 1) := by decide +kernel
theorem d_6_11_96 : decode prog_6_method_11_code 96 = .ok (.bipush 6, 2) := by decide +kernel
theorem d_6_11_98 : decode prog_6_method_11_code 98 = .ok (.ireturn, 1) := by decide +kernel
theorem d_6_11_68 : decode prog_6_method_11_code 68 = .ok (.if_icmp .eq 14, 3) := by decide +kernel
theorem d_6_11_71 : decode prog_6_method_11_code 71 = .ok (.aload_n 0, 1) := by decide +kernel
theorem d_6_11_72 : decode prog_6_method_11_code 72 = .ok (.ldc 84, 2) := by decide +kernel
theorem d_6_11_74 : decode prog_6_method_11_code 74 = .ok (.invokevirtual 80, 3) := by decide +kernel
theorem d_6_11_77 : decode prog_6_method_11_code 77 = .ok (.ifCond .eq 5, 3) := by decide +kernel
theorem d_6_11_80 : decode prog_6_method_11_code 80 = .ok (.iconst 5, 1) := by decide +kernel
theorem d_6_11_81 : decode prog_6_method_11_code 81 = .ok (.ireturn, 1) := by decide +kernel
theorem d_6_11_35 : decode prog_6_method_11_code 35 = .ok (.if_icmp .ne 28, 3) := by decide +kernel
theorem d_6_11_38 : decode prog_6_method_11_code 38 = .ok (.aload_n 0, 1) := by decide +kernel
theorem d_6_11_39 : decode prog_6_method_11_code 39 = .ok (.getfield 40, 3) := by decide +kernel
theorem d_6_11_42 : decode prog_6_method_11_code 42 = .ok (.iconst (-1), 1) := by decide +kernel
theorem d_6_11_43 : decode prog_6_method_11_code 43 = .ok (.if_icmp .ne 18, 3) := by decide +kernel
theorem d_6_11_61 : decode prog_6_method_11_code 61 = .ok (.iconst 4, 1) := by decide +kernel
theorem d_6_11_62 : decode prog_6_method_11_code 62 = .ok (.ireturn, 1) := by decide +kernel
theorem d_6_11_46 : decode prog_6_method_11_code 46 = .ok (.aload_n 0, 1) := by decide +kernel
theorem d_6_11_47 : decode prog_6_method_11_code 47 = .ok (.getfield 43, 3) := by decide +kernel
theorem d_6_11_50 : decode prog_6_method_11_code 50 = .ok (.iconst (-1), 1) := by decide +kernel
theorem d_6_11_51 : decode prog_6_method_11_code 51 = .ok (.if_icmp .ne 10, 3) := by decide +kernel
theorem d_6_11_54 : decode prog_6_method_11_code 54 = .ok (.aload_n 0, 1) := by decide +kernel
theorem d_6_11_55 : decode prog_6_method_11_code 55 = .ok (.getfield 19, 3) := by decide +kernel
theorem d_6_11_58 : decode prog_6_method_11_code 58 = .ok (.ifCond .eq 5, 3) := by decide +kernel
theorem d_6_11_27 : decode prog_6_method_11_code 27 = .ok (.iconst 3, 1) := by decide +kernel
theorem d_6_11_28 : decode prog_6_method_11_code 28 = .ok (.ireturn, 1) := by decide +kernel
theorem d_6_11_18 : decode prog_6_method_11_code 18 = .ok (.iconst 2, 1) := by decide +kernel
theorem d_6_11_19 : decode prog_6_method_11_code 19 = .ok (.ireturn, 1) := by decide +kernel
theorem d_6_11_7 : decode prog_6_method_11_code 7 = .ok (.iconst 1, 1) := by decide +kernel
theorem d_6_11_8 : decode prog_6_method_11_code 8 = .ok (.ireturn, 1) := by decide +kernel
def y_Dir_fault : MethodName := ⟨"NumberHouse$Directive", "fault", "()I"⟩
