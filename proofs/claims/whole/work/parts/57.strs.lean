/-! Strings at any place -/
theorem n_i2c {x : Int32} : 0 ≤ ((x.toUInt32 % 65536).toInt32).toInt ∧ ((x.toUInt32 % 65536).toInt32).toInt ≤ 65535 ∧ (0 ≤ x.toInt → x.toInt ≤ 65535 → ((x.toUInt32 % 65536).toInt32).toInt = x.toInt) := by
  have h1 : ((x.toUInt32 % 65536).toInt32).toBitVec.toNat = x.toBitVec.toNat % 65536 := by
    show (x.toUInt32 % 65536).toBitVec.toNat = _
    rw [UInt32.toBitVec_mod, BitVec.toNat_umod]
    rfl
  have h2 := s_of h1 (by omega)
  refine ⟨by omega, by omega, fun a b => ?_⟩
  obtain ⟨h3, -, -⟩ := s_nn a
  omega
theorem n_chr {v : Int32} (h0 : 0 ≤ v.toInt) (h1 : v.toInt ≤ 65535) : narrow .char (.int v) = .int v := by
  show Value.int v.toUInt32.toUInt16.toUInt32.toInt32 = .int v
  refine congrArg Value.int (Int32.toInt_inj.mp ?_)
  have e : (v.toUInt32.toUInt16.toUInt32.toInt32).toBitVec.toNat = v.toBitVec.toNat % 65536 := by
    show (v.toUInt32.toUInt16.toUInt32).toNat = _
    rw [UInt16.toNat_toUInt32, UInt32.toNat_toUInt16]
    rfl
  have h2 := s_of e (by omega)
  obtain ⟨h3, -, -⟩ := s_nn h0
  omega
theorem d_39_11_0 : decode prog_39_method_11_code 0 = .ok (.iload_n 0, 1) := by decide +kernel
theorem d_39_11_1 : decode prog_39_method_11_code 1 = .ok (.ifCond .lt 8, 3) := by decide +kernel
theorem d_39_11_4 : decode prog_39_method_11_code 4 = .ok (.iload_n 0, 1) := by decide +kernel
theorem d_39_11_5 : decode prog_39_method_11_code 5 = .ok (.iload_n 1, 1) := by decide +kernel
theorem d_39_11_6 : decode prog_39_method_11_code 6 = .ok (.if_icmp .lt 10, 3) := by decide +kernel
theorem d_39_11_16 : decode prog_39_method_11_code 16 = .ok (.iload_n 0, 1) := by decide +kernel
theorem d_39_11_17 : decode prog_39_method_11_code 17 = .ok (.ireturn, 1) := by decide +kernel
def y_jPre_checkIndex : MethodName := ⟨"jdk/internal/util/Preconditions", "checkIndex", "(IILjava/util/function/BiFunction;)I"⟩
set_option maxRecDepth 100000 in
set_option maxHeartbeats 4000000 in
theorem T_jPre_checkIndex_n (l : Launch) (D : va_G) (g : Nat → ClassId) (q : Nat → Nat) (ws : va_W) (x1 : Int32) (x2 : Int32) (hI : q_I (nsh g q) q ws) (pre0 : 0 ≤ x1.toInt) (pre1 : x1.toInt + 1 ≤ x2.toInt) : q_mI l y_jPre_checkIndex prog_39_method_11_code 3 (.int) 1 0 0 D g [.int x1, .int x2, .null] ws (fun r u => ws = u ∧ (x1.toInt ≤ r.toInt) ∧ (r.toInt ≤ x1.toInt)) := by
  intro sz
  refine q_into (by decide) (Nat.le_of_ble_eq_true rfl) ?_
  intro p e s m below meth c ls hsz C0 V hl
  have hx := C0.1
  have hb := C0.2.1
  replace pre0 : q_F (0 ≤ x1.toInt) := pre0
  replace pre1 : q_F (x1.toInt + 1 ≤ x2.toInt) := pre1
  have hl : lv_has ls 3 [(0, .int x1), (1, .int x2), (2, .null)] := hl
  refine lv_iload_n hx hb d_39_11_0 rfl (lv_at hl 0 rfl) ?_
  refine lv_if_lt (tgt := 9) hx hb d_39_11_1 (by decide) (fun c1 => absurd (show x1.toInt < 0 from q_ltI c1) (by have t1 : 0 ≤ x1.toInt := pre0; omega)) (fun c1 => ?_)
  refine lv_iload_n hx hb d_39_11_4 rfl (lv_at hl 0 rfl) ?_
  refine lv_iload_n hx hb d_39_11_5 rfl (lv_at hl 1 rfl) ?_
  refine lv_icmp_lt (tgt := 16) hx hb d_39_11_6 (by decide) (fun c2 => ?_) (fun c2 => absurd (show x2.toInt ≤ x1.toInt from q_nltI c2) (by have t1 : x1.toInt + 1 ≤ x2.toInt := pre1; omega))
  refine lv_iload_n hx hb d_39_11_16 rfl (lv_at hl 0 rfl) ?_
  exact q_reti C0 V (⟨rfl, (show x1.toInt ≤ x1.toInt from (by omega)), (show x1.toInt ≤ x1.toInt from (by omega))⟩) d_39_11_17
set_option maxRecDepth 100000 in
set_option maxHeartbeats 4000000 in
theorem T_jPre_checkIndex_r (l : Launch) (D : va_G) (g : Nat → ClassId) (q : Nat → Nat) (ws : va_W) (x1 : Int32) (x2 : Int32) (x3 : Nat) (hI : q_I (nsh g q) q ws) (pre0 : 0 ≤ x1.toInt) (pre1 : x1.toInt + 1 ≤ x2.toInt) : q_mI l y_jPre_checkIndex prog_39_method_11_code 3 (.int) 1 0 0 D g [.int x1, .int x2, .ref x3] ws (fun r u => ws = u ∧ (x1.toInt ≤ r.toInt) ∧ (r.toInt ≤ x1.toInt)) := by
  intro sz
  refine q_into (by decide) (Nat.le_of_ble_eq_true rfl) ?_
  intro p e s m below meth c ls hsz C0 V hl
  have hx := C0.1
  have hb := C0.2.1
  replace pre0 : q_F (0 ≤ x1.toInt) := pre0
  replace pre1 : q_F (x1.toInt + 1 ≤ x2.toInt) := pre1
  have hl : lv_has ls 3 [(0, .int x1), (1, .int x2), (2, .ref x3)] := hl
  refine lv_iload_n hx hb d_39_11_0 rfl (lv_at hl 0 rfl) ?_
  refine lv_if_lt (tgt := 9) hx hb d_39_11_1 (by decide) (fun c1 => absurd (show x1.toInt < 0 from q_ltI c1) (by have t1 : 0 ≤ x1.toInt := pre0; omega)) (fun c1 => ?_)
  refine lv_iload_n hx hb d_39_11_4 rfl (lv_at hl 0 rfl) ?_
  refine lv_iload_n hx hb d_39_11_5 rfl (lv_at hl 1 rfl) ?_
  refine lv_icmp_lt (tgt := 16) hx hb d_39_11_6 (by decide) (fun c2 => ?_) (fun c2 => absurd (show x2.toInt ≤ x1.toInt from q_nltI c2) (by have t1 : x1.toInt + 1 ≤ x2.toInt := pre1; omega))
  refine lv_iload_n hx hb d_39_11_16 rfl (lv_at hl 0 rfl) ?_
  exact q_reti C0 V (⟨rfl, (show x1.toInt ≤ x1.toInt from (by omega)), (show x1.toInt ≤ x1.toInt from (by omega))⟩) d_39_11_17
theorem d_31_155_0 : decode prog_31_method_155_code 0 = .ok (.iload_n 0, 1) := by decide +kernel
theorem d_31_155_1 : decode prog_31_method_155_code 1 = .ok (.iload_n 1, 1) := by decide +kernel
theorem d_31_155_2 : decode prog_31_method_155_code 2 = .ok (.getstatic 1053, 3) := by decide +kernel
set_option maxRecDepth 100000 in
theorem w_679 : (Cond.fieldLink "java/lang/String" (1053 : Nat) "jdk/internal/util/Preconditions" "SIOOBE_FORMATTER" "Ljava/util/function/BiFunction;") ∈ q_tbl := q_of3 199 rfl (by decide +kernel)
theorem d_31_155_5 : decode prog_31_method_155_code 5 = .ok (.invokestatic 1059, 3) := by decide +kernel
set_option maxRecDepth 100000 in
theorem w_683 : (Cond.code ({ cls := "jdk/internal/util/Preconditions", name := "checkIndex", desc := "(IILjava/util/function/BiFunction;)I" } : MethodName) prog_39_method_11_code (3 : Nat) (some .int)) ∈ q_tbl := q_of3 203 rfl (by decide +kernel)
set_option maxRecDepth 100000 in
theorem w_27 : (Cond.initialized "jdk/internal/util/Preconditions") ∈ q_tbl := q_of1 27 rfl (by decide +kernel)
set_option maxRecDepth 100000 in
theorem w_681 : (Cond.methodLink "java/lang/String" (1059 : Nat) ({ cls := "jdk/internal/util/Preconditions", name := "checkIndex", desc := "(IILjava/util/function/BiFunction;)I" } : MethodName)) ∈ q_tbl := q_of3 201 rfl (by decide +kernel)
set_option maxRecDepth 100000 in
theorem w_682 : (Cond.static ({ cls := "jdk/internal/util/Preconditions", name := "checkIndex", desc := "(IILjava/util/function/BiFunction;)I" } : MethodName)) ∈ q_tbl := q_of3 202 rfl (by decide +kernel)
theorem LS_jStr_1059 : q_LS "java/lang/String" 1059 y_jPre_checkIndex prog_39_method_11_code 3 (some .int) 3 := ⟨w_683, w_27, w_681, w_682, ⟨by decide, by decide, by decide +kernel⟩⟩
theorem d_31_155_8 : decode prog_31_method_155_code 8 = .ok (.pop, 1) := by decide +kernel
theorem d_31_155_9 : decode prog_31_method_155_code 9 = .ok (.return_, 1) := by decide +kernel
def y_jStr_checkIndex : MethodName := ⟨"java/lang/String", "checkIndex", "(II)V"⟩
set_option maxRecDepth 100000 in
set_option maxHeartbeats 4000000 in
theorem T_jStr_checkIndex (l : Launch) (D : va_G) (g : Nat → ClassId) (q : Nat → Nat) (ws : va_W) (x1 : Int32) (x2 : Int32) (hI : q_I (nsh g q) q ws) (pre0 : 0 ≤ x1.toInt) (pre1 : x1.toInt + 1 ≤ x2.toInt) : q_mV l y_jStr_checkIndex prog_31_method_155_code 2 2 0 0 D g [.int x1, .int x2] ws (fun u => ws = u ∧ True) := by
  intro sz
  refine q_into (by decide) (Nat.le_of_ble_eq_true rfl) ?_
  intro p e s m below meth c ls hsz C0 V hl
  have hx := C0.1
  have hb := C0.2.1
  replace pre0 : q_F (0 ≤ x1.toInt) := pre0
  replace pre1 : q_F (x1.toInt + 1 ≤ x2.toInt) := pre1
  have hl : lv_has ls 2 [(0, .int x1), (1, .int x2)] := hl
  refine lv_iload_n hx hb d_31_155_0 rfl (lv_at hl 0 rfl) ?_
  refine lv_iload_n hx hb d_31_155_1 rfl (lv_at hl 1 rfl) ?_
  refine q_sfmt C0 V rfl w_679 d_31_155_2 ?_ (fun t1 => ?_)
  ·
    refine q_goi V (q_runS (As := [.int x1, .int x2, .null]) (rest := []) (d := 1) (mc := 0) (ms := 0) C0 V rfl LS_jStr_1059 (T_jPre_checkIndex_n l D g q ws  x1 x2 hI  (by have t1 : 0 ≤ x1.toInt := pre0; omega) (by have t1 : x1.toInt + 1 ≤ x2.toInt := pre1; omega) _) rfl hl.1 rfl (Nat.le_of_ble_eq_true rfl) ⟨by decide, by decide⟩ ⟨Nat.le_of_ble_eq_true rfl, Nat.le_of_ble_eq_true rfl⟩ d_31_155_5) (fun a4 u2 H locs hp3 V => ?_)
    obtain ⟨rfl, b5, b6⟩ := hp3
    replace b5 : q_F (x1.toInt ≤ a4.toInt) := b5
    replace b6 : q_F (a4.toInt ≤ x1.toInt) := b6
    refine lv_pop hx hb d_31_155_8 rfl ?_
    exact q_retv C0 V (⟨rfl, trivial⟩) d_31_155_9
  ·
    refine q_goi V (q_runS (As := [.int x1, .int x2, .ref t1]) (rest := []) (d := 1) (mc := 0) (ms := 0) C0 V rfl LS_jStr_1059 (T_jPre_checkIndex_r l D g q ws  x1 x2 t1 hI  (by have t1 : 0 ≤ x1.toInt := pre0; omega) (by have t1 : x1.toInt + 1 ≤ x2.toInt := pre1; omega) _) rfl hl.1 rfl (Nat.le_of_ble_eq_true rfl) ⟨by decide, by decide⟩ ⟨Nat.le_of_ble_eq_true rfl, Nat.le_of_ble_eq_true rfl⟩ d_31_155_5) (fun a9 u7 H locs hp8 V => ?_)
    obtain ⟨rfl, b10, b11⟩ := hp8
    replace b10 : q_F (x1.toInt ≤ a9.toInt) := b10
    replace b11 : q_F (a9.toInt ≤ x1.toInt) := b11
    refine lv_pop hx hb d_31_155_8 rfl ?_
    exact q_retv C0 V (⟨rfl, trivial⟩) d_31_155_9
theorem d_33_4_0 : decode prog_33_method_4_code 0 = .ok (.iload_n 0, 1) := by decide +kernel
theorem d_33_4_1 : decode prog_33_method_4_code 1 = .ok (.ifCond .lt 14, 3) := by decide +kernel
theorem d_33_4_15 : decode prog_33_method_4_code 15 = .ok (.iconst 0, 1) := by decide +kernel
theorem d_33_4_16 : decode prog_33_method_4_code 16 = .ok (.ireturn, 1) := by decide +kernel
theorem d_33_4_4 : decode prog_33_method_4_code 4 = .ok (.iload_n 0, 1) := by decide +kernel
theorem d_33_4_5 : decode prog_33_method_4_code 5 = .ok (.sipush 255, 3) := by decide +kernel
theorem d_33_4_8 : decode prog_33_method_4_code 8 = .ok (.if_icmp .gt 7, 3) := by decide +kernel
theorem d_33_4_11 : decode prog_33_method_4_code 11 = .ok (.iconst 1, 1) := by decide +kernel
theorem d_33_4_12 : decode prog_33_method_4_code 12 = .ok (.goto 4, 3) := by decide +kernel
def y_jLat_canEncode : MethodName := ⟨"java/lang/StringLatin1", "canEncode", "(I)Z"⟩
set_option maxRecDepth 100000 in
set_option maxHeartbeats 4000000 in
theorem T_jLat_canEncode (l : Launch) (D : va_G) (g : Nat → ClassId) (q : Nat → Nat) (ws : va_W) (x1 : Int32) (hI : q_I (nsh g q) q ws) : q_mI l y_jLat_canEncode prog_33_method_4_code 1 (.boolean) 1 0 0 D g [.int x1] ws (fun r u => ws = u ∧ (0 ≤ r.toInt) ∧ (r.toInt ≤ 1)) := by
  intro sz
  refine q_into (by decide) (Nat.le_of_ble_eq_true rfl) ?_
  intro p e s m below meth c ls hsz C0 V hl
  have hx := C0.1
  have hb := C0.2.1
  have hl : lv_has ls 1 [(0, .int x1)] := hl
  refine lv_iload_n hx hb d_33_4_0 rfl (lv_at hl 0 rfl) ?_
  refine lv_if_lt (tgt := 15) hx hb d_33_4_1 (by decide) (fun c1 => ?_) (fun c1 => ?_)
  ·
    have b2 : q_F (x1.toInt < 0) := (q_ltI c1)
    refine lv_iconst (v := 0) hx hb d_33_4_15 (by decide) ?_
    exact q_retz C0 V (by decide) (⟨rfl, (show 0 ≤ (0 : Int32).toInt from (by have z1 : (0 : Int32).toInt = 0 := rfl; omega)), (show (0 : Int32).toInt ≤ 1 from (by have z1 : (0 : Int32).toInt = 0 := rfl; omega))⟩) d_33_4_16
  ·
    have b3 : q_F (0 ≤ x1.toInt) := (q_nltI c1)
    refine lv_iload_n hx hb d_33_4_4 rfl (lv_at hl 0 rfl) ?_
    refine lv_sipush (v := 255) hx hb d_33_4_5 (by decide) ?_
    refine lv_icmp_gt (tgt := 15) hx hb d_33_4_8 (by decide) (fun c4 => ?_) (fun c4 => ?_)
    ·
      have b5 : q_F (255 < x1.toInt) := (q_ltI c4)
      refine lv_iconst (v := 0) hx hb d_33_4_15 (by decide) ?_
      exact q_retz C0 V (by decide) (⟨rfl, (show 0 ≤ (0 : Int32).toInt from (by have z1 : (0 : Int32).toInt = 0 := rfl; omega)), (show (0 : Int32).toInt ≤ 1 from (by have z1 : (0 : Int32).toInt = 0 := rfl; omega))⟩) d_33_4_16
    ·
      have b6 : q_F (x1.toInt ≤ 255) := (q_nltI c4)
      refine lv_iconst (v := 1) hx hb d_33_4_11 (by decide) ?_
      refine lv_goto (tgt := 16) hx hb d_33_4_12 (by decide) ?_
      exact q_retz C0 V (by decide) (⟨rfl, (show 0 ≤ (1 : Int32).toInt from (by have z1 : (1 : Int32).toInt = 1 := rfl; omega)), (show (1 : Int32).toInt ≤ 1 from (by have z1 : (1 : Int32).toInt = 1 := rfl; omega))⟩) d_33_4_16
theorem d_31_152_0 : decode prog_31_method_152_code 0 = .ok (.getstatic 38, 3) := by decide +kernel
set_option maxRecDepth 100000 in
theorem w_663 : (Cond.fieldLink "java/lang/String" (38 : Nat) "java/lang/String" "COMPACT_STRINGS" "Z") ∈ q_tbl := q_of3 183 rfl (by decide +kernel)
theorem d_31_152_3 : decode prog_31_method_152_code 3 = .ok (.ifCond .eq 10, 3) := by decide +kernel
theorem d_31_152_6 : decode prog_31_method_152_code 6 = .ok (.aload_n 0, 1) := by decide +kernel
theorem d_31_152_7 : decode prog_31_method_152_code 7 = .ok (.getfield 15, 3) := by decide +kernel
set_option maxRecDepth 100000 in
theorem w_1019 : (Cond.fieldLink "java/lang/String" (15 : Nat) "java/lang/String" "coder" "B") ∈ q_tbl := q_of5 59 rfl (by decide +kernel)
theorem d_31_152_10 : decode prog_31_method_152_code 10 = .ok (.goto 4, 3) := by decide +kernel
theorem d_31_152_14 : decode prog_31_method_152_code 14 = .ok (.ireturn, 1) := by decide +kernel
def y_jStr_coder : MethodName := ⟨"java/lang/String", "coder", "()B"⟩
set_option maxRecDepth 100000 in
set_option maxHeartbeats 4000000 in
theorem T_jStr_coder_0 (l : Launch) (D : va_G) (g : Nat → ClassId) (q : Nat → Nat) (ws : va_W) (hI : q_I (nsh g q) q ws) : q_mI l y_jStr_coder prog_31_method_152_code 1 (.byte) 1 0 0 D g [.ref (g (8 + 2 * 0))] ws (fun r u => ws = u ∧ (0 ≤ r.toInt) ∧ (r.toInt ≤ 0)) := by
  intro sz
  refine q_into (by decide) (Nat.le_of_ble_eq_true rfl) ?_
  intro p e s m below meth c ls hsz C0 V hl
  have hx := C0.1
  have hb := C0.2.1
  have hl : lv_has ls 1 [(0, .ref (g (8 + 2 * 0)))] := hl
  refine q_scmp C0 V rfl w_663 d_31_152_0 ?_
  refine lv_if_eq (tgt := 13) hx hb d_31_152_3 (by decide) (fun c1 => absurd c1 (by decide)) (fun c1 => ?_)
  refine lv_aload_n hx hb d_31_152_6 rfl (lv_at hl 0 rfl) ?_
  refine q_scod (i := 0) C0 V rfl rfl w_1019 d_31_152_7 ?_
  refine lv_goto (tgt := 14) hx hb d_31_152_10 (by decide) ?_
  exact q_retn C0 V (rfl) (⟨rfl, (show 0 ≤ (0 : Int32).toInt from (by have z0 : (0 : Int32).toInt = 0 := rfl; omega)), (show (0 : Int32).toInt ≤ 0 from (by have z0 : (0 : Int32).toInt = 0 := rfl; omega))⟩) d_31_152_14
theorem d_31_54_0 : decode prog_31_method_54_code 0 = .ok (.aload_n 0, 1) := by decide +kernel
theorem d_31_54_1 : decode prog_31_method_54_code 1 = .ok (.getfield 9, 3) := by decide +kernel
set_option maxRecDepth 100000 in
theorem w_1018 : (Cond.fieldLink "java/lang/String" (9 : Nat) "java/lang/String" "value" "[B") ∈ q_tbl := q_of5 58 rfl (by decide +kernel)
theorem d_31_54_4 : decode prog_31_method_54_code 4 = .ok (.arraylength, 1) := by decide +kernel
theorem d_31_54_5 : decode prog_31_method_54_code 5 = .ok (.aload_n 0, 1) := by decide +kernel
theorem d_31_54_6 : decode prog_31_method_54_code 6 = .ok (.invokevirtual 335, 3) := by decide +kernel
set_option maxRecDepth 100000 in
theorem w_662 : (Cond.code ({ cls := "java/lang/String", name := "coder", desc := "()B" } : MethodName) prog_31_method_152_code (1 : Nat) (some .byte)) ∈ q_tbl := q_of3 182 rfl (by decide +kernel)
set_option maxRecDepth 100000 in
theorem w_25 : (Cond.initialized "java/lang/String") ∈ q_tbl := q_of1 25 rfl (by decide +kernel)
set_option maxRecDepth 100000 in
theorem w_659 : (Cond.methodLink "java/lang/String" (335 : Nat) ({ cls := "java/lang/String", name := "coder", desc := "()B" } : MethodName)) ∈ q_tbl := q_of3 179 rfl (by decide +kernel)
set_option maxRecDepth 100000 in
theorem w_660 : (Cond.instanceMethod ({ cls := "java/lang/String", name := "coder", desc := "()B" } : MethodName)) ∈ q_tbl := q_of3 180 rfl (by decide +kernel)
set_option maxRecDepth 100000 in
theorem w_661 : (Cond.selects "java/lang/String" ({ cls := "java/lang/String", name := "coder", desc := "()B" } : MethodName) ({ cls := "java/lang/String", name := "coder", desc := "()B" } : MethodName)) ∈ q_tbl := q_of3 181 rfl (by decide +kernel)
theorem LV_jStr_335 : q_LV "java/lang/String" 335 y_jStr_coder prog_31_method_152_code 1 (some .byte) 0 := ⟨w_662, w_25, w_659, w_660, w_661, ⟨by decide, by decide, by decide +kernel⟩⟩
theorem d_31_54_9 : decode prog_31_method_54_code 9 = .ok (.ishr, 1) := by decide +kernel
theorem d_31_54_10 : decode prog_31_method_54_code 10 = .ok (.ireturn, 1) := by decide +kernel
def y_jStr_length : MethodName := ⟨"java/lang/String", "length", "()I"⟩
set_option maxRecDepth 100000 in
set_option maxHeartbeats 4000000 in
theorem T_jStr_length_0 (l : Launch) (D : va_G) (g : Nat → ClassId) (q : Nat → Nat) (ws : va_W) (hI : q_I (nsh g q) q ws) : q_mI l y_jStr_length prog_31_method_54_code 1 (.int) 2 0 0 D g [.ref (g (8 + 2 * 0))] ws (fun r u => ws = u ∧ (8 ≤ r.toInt) ∧ (r.toInt ≤ 8)) := by
  intro sz
  refine q_into (by decide) (Nat.le_of_ble_eq_true rfl) ?_
  intro p e s m below meth c ls hsz C0 V hl
  have hx := C0.1
  have hb := C0.2.1
  have hl : lv_has ls 1 [(0, .ref (g (8 + 2 * 0)))] := hl
  refine lv_aload_n hx hb d_31_54_0 rfl (lv_at hl 0 rfl) ?_
  refine q_sval (i := 0) C0 V rfl rfl w_1018 d_31_54_1 ?_
  refine q_slen (i := 0) (v := 8) C0 V rfl (by decide) d_31_54_4 ?_
  refine lv_aload_n hx hb d_31_54_5 rfl (lv_at hl 0 rfl) ?_
  refine q_goi V (q_runVs (As := []) (rest := [.int 8]) (d := 1) (mc := 0) (ms := 0) (i := 0) C0 V rfl LV_jStr_335 (T_jStr_coder_0 l D g q ws   hI   _) rfl rfl rfl hl.1 rfl (Nat.le_of_ble_eq_true rfl) ⟨by decide, by decide⟩ ⟨Nat.le_of_ble_eq_true rfl, Nat.le_of_ble_eq_true rfl⟩ d_31_54_6) (fun a3 u1 H locs hp2 V => ?_)
  obtain ⟨rfl, b4, b5⟩ := hp2
  replace b4 : q_F (0 ≤ a3.toInt) := b4
  replace b5 : q_F (a3.toInt ≤ 0) := b5
  obtain rfl : a3 = (0 : Int32) := q_Ieq (x := a3.toInt) (y := 0) rfl (by decide) (by have t1 : 0 ≤ a3.toInt := b4; have t2 : a3.toInt ≤ 0 := b5; omega)
  refine lv_ishr hx hb d_31_54_9 ?_
  refine q_ti (v := 8) (by decide) ?_
  exact q_reti C0 V (⟨rfl, (show 8 ≤ (8 : Int32).toInt from (by have z0 : (8 : Int32).toInt = 8 := rfl; omega)), (show (8 : Int32).toInt ≤ 8 from (by have z0 : (8 : Int32).toInt = 8 := rfl; omega))⟩) d_31_54_10
theorem d_31_154_0 : decode prog_31_method_154_code 0 = .ok (.getstatic 38, 3) := by decide +kernel
theorem d_31_154_3 : decode prog_31_method_154_code 3 = .ok (.ifCond .eq 14, 3) := by decide +kernel
theorem d_31_154_6 : decode prog_31_method_154_code 6 = .ok (.aload_n 0, 1) := by decide +kernel
theorem d_31_154_7 : decode prog_31_method_154_code 7 = .ok (.getfield 15, 3) := by decide +kernel
theorem d_31_154_10 : decode prog_31_method_154_code 10 = .ok (.ifCond .ne 7, 3) := by decide +kernel
theorem d_31_154_13 : decode prog_31_method_154_code 13 = .ok (.iconst 1, 1) := by decide +kernel
theorem d_31_154_14 : decode prog_31_method_154_code 14 = .ok (.goto 4, 3) := by decide +kernel
theorem d_31_154_18 : decode prog_31_method_154_code 18 = .ok (.ireturn, 1) := by decide +kernel
def y_jStr_isLatin1 : MethodName := ⟨"java/lang/String", "isLatin1", "()Z"⟩
set_option maxRecDepth 100000 in
set_option maxHeartbeats 4000000 in
theorem T_jStr_isLatin1_0 (l : Launch) (D : va_G) (g : Nat → ClassId) (q : Nat → Nat) (ws : va_W) (hI : q_I (nsh g q) q ws) : q_mI l y_jStr_isLatin1 prog_31_method_154_code 1 (.boolean) 1 0 0 D g [.ref (g (8 + 2 * 0))] ws (fun r u => ws = u ∧ (1 ≤ r.toInt) ∧ (r.toInt ≤ 1)) := by
  intro sz
  refine q_into (by decide) (Nat.le_of_ble_eq_true rfl) ?_
  intro p e s m below meth c ls hsz C0 V hl
  have hx := C0.1
  have hb := C0.2.1
  have hl : lv_has ls 1 [(0, .ref (g (8 + 2 * 0)))] := hl
  refine q_scmp C0 V rfl w_663 d_31_154_0 ?_
  refine lv_if_eq (tgt := 17) hx hb d_31_154_3 (by decide) (fun c1 => absurd c1 (by decide)) (fun c1 => ?_)
  refine lv_aload_n hx hb d_31_154_6 rfl (lv_at hl 0 rfl) ?_
  refine q_scod (i := 0) C0 V rfl rfl w_1019 d_31_154_7 ?_
  refine lv_if_ne (tgt := 17) hx hb d_31_154_10 (by decide) (fun c2 => absurd (by decide) c2) (fun c2 => ?_)
  refine lv_iconst (v := 1) hx hb d_31_154_13 (by decide) ?_
  refine lv_goto (tgt := 18) hx hb d_31_154_14 (by decide) ?_
  exact q_retz C0 V (by decide) (⟨rfl, (show 1 ≤ (1 : Int32).toInt from (by have z0 : (1 : Int32).toInt = 1 := rfl; omega)), (show (1 : Int32).toInt ≤ 1 from (by have z0 : (1 : Int32).toInt = 1 := rfl; omega))⟩) d_31_154_18
theorem d_33_23_0 : decode prog_33_method_23_code 0 = .ok (.iload_n 1, 1) := by decide +kernel
theorem d_33_23_1 : decode prog_33_method_23_code 1 = .ok (.i2b, 1) := by decide +kernel
theorem d_33_23_2 : decode prog_33_method_23_code 2 = .ok (.istore 4, 2) := by decide +kernel
theorem d_33_23_4 : decode prog_33_method_23_code 4 = .ok (.iload_n 2, 1) := by decide +kernel
theorem d_33_23_5 : decode prog_33_method_23_code 5 = .ok (.istore 5, 2) := by decide +kernel
theorem d_33_23_7 : decode prog_33_method_23_code 7 = .ok (.iload 5, 2) := by decide +kernel
theorem d_33_23_9 : decode prog_33_method_23_code 9 = .ok (.iload_n 3, 1) := by decide +kernel
theorem d_33_23_10 : decode prog_33_method_23_code 10 = .ok (.if_icmp .ge 21, 3) := by decide +kernel
theorem d_33_23_31 : decode prog_33_method_23_code 31 = .ok (.iconst (-1), 1) := by decide +kernel
theorem d_33_23_32 : decode prog_33_method_23_code 32 = .ok (.ireturn, 1) := by decide +kernel
theorem d_33_23_13 : decode prog_33_method_23_code 13 = .ok (.aload_n 0, 1) := by decide +kernel
theorem d_33_23_14 : decode prog_33_method_23_code 14 = .ok (.iload 5, 2) := by decide +kernel
theorem d_33_23_16 : decode prog_33_method_23_code 16 = .ok (.baload, 1) := by decide +kernel
theorem d_33_23_17 : decode prog_33_method_23_code 17 = .ok (.iload 4, 2) := by decide +kernel
theorem d_33_23_19 : decode prog_33_method_23_code 19 = .ok (.if_icmp .ne 6, 3) := by decide +kernel
theorem d_33_23_25 : decode prog_33_method_23_code 25 = .ok (.iinc 5 1, 3) := by decide +kernel
theorem d_33_23_28 : decode prog_33_method_23_code 28 = .ok (.goto (-21), 3) := by decide +kernel
theorem d_33_23_22 : decode prog_33_method_23_code 22 = .ok (.iload 5, 2) := by decide +kernel
theorem d_33_23_24 : decode prog_33_method_23_code 24 = .ok (.ireturn, 1) := by decide +kernel
def y_jLat_indexOfChar : MethodName := ⟨"java/lang/StringLatin1", "indexOfChar", "([BIII)I"⟩
set_option maxRecDepth 100000 in
set_option maxHeartbeats 4000000 in
theorem T_jLat_indexOfChar_0 (l : Launch) (D : va_G) (g : Nat → ClassId) (q : Nat → Nat) (ws : va_W) (x2 : Int32) (x3 : Int32) (x4 : Int32) (hI : q_I (nsh g q) q ws) (pre0 : 0 ≤ x3.toInt) (pre1 : x4.toInt ≤ 8) : q_mI l y_jLat_indexOfChar prog_33_method_23_code 6 (.int) 1 0 0 D g [.ref (g (9 + 2 * 0)), .int x2, .int x3, .int x4] ws (fun r u => ws = u ∧ (0 ≤ r.toInt + 1) ∧ (r.toInt ≤ 7)) := by
  intro sz
  refine q_into (by decide) (Nat.le_of_ble_eq_true rfl) ?_
  intro p e s m below meth c ls hsz C0 V hl
  have hx := C0.1
  have hb := C0.2.1
  replace pre0 : q_F (0 ≤ x3.toInt) := pre0
  replace pre1 : q_F (x4.toInt ≤ 8) := pre1
  have hl : lv_has ls 6 [(0, .ref (g (9 + 2 * 0))), (1, .int x2), (2, .int x3), (3, .int x4)] := hl
  refine lv_iload_n hx hb d_33_23_0 rfl (lv_at hl 1 rfl) ?_
  refine lv_i2b hx hb d_33_23_1 rfl ?_
  obtain ⟨a1, e2⟩ := q_nm (x2.toInt8.toInt32 : Int32)
  refine q_ti (v := a1) e2 ?_
  refine lv_istore (lv' := [(4, .int a1), (0, .ref (g (9 + 2 * 0))), (1, .int x2), (2, .int x3), (3, .int x4)]) hx hb d_33_23_2 hl (by decide) rfl (fun ls hl => ?_)
  refine lv_iload_n hx hb d_33_23_4 rfl (lv_at hl 3 rfl) ?_
  refine lv_istore (lv' := [(5, .int x3), (4, .int a1), (0, .ref (g (9 + 2 * 0))), (1, .int x2), (2, .int x3), (3, .int x4)]) hx hb d_33_23_5 hl (by decide) rfl (fun ls hl => ?_)
  refine q_loop (X := Int32) (fun z H locs ls _ => q_F (x3.toInt ≤ z.toInt) ∧ q_Wd D g (va_A ws sz) s ws H locs ∧ lv_has ls 6 [(5, .int z), (4, .int a1), (0, .ref (g (9 + 2 * 0))), (3, .int x4)]) (fun z => (8 - z.toInt).toNat) ?_ ((x3 : Int32)) _ _ _ ws ⟨(show q_F (x3.toInt ≤ x3.toInt) from (show x3.toInt ≤ x3.toInt from by omega)), V, q_lw hl (q_lw1 0 rfl (q_lw1 1 rfl (q_lw1 2 rfl (q_lw1 5 rfl q_lw0))))⟩
  rintro lx4 H locs ls _ ⟨i5, V, hl⟩ ih6
  replace i5 : q_F (x3.toInt ≤ lx4.toInt) := i5
  replace hl : lv_has ls 6 [(5, .int lx4), (4, .int a1), (0, .ref (g (9 + 2 * 0))), (3, .int x4)] := hl
  refine lv_iload hx hb d_33_23_7 (lv_at hl 0 rfl) ?_
  refine lv_iload_n hx hb d_33_23_9 rfl (lv_at hl 3 rfl) ?_
  refine lv_icmp_ge (tgt := 31) hx hb d_33_23_10 (by decide) (fun c7 => ?_) (fun c7 => ?_)
  ·
    have b8 : q_F (x4.toInt ≤ lx4.toInt) := (q_leI c7)
    refine lv_iconst (v := (-1)) hx hb d_33_23_31 (by decide) ?_
    exact q_reti C0 V (⟨rfl, (show 0 ≤ (-1 : Int32).toInt + 1 from (by have z3 : (-1 : Int32).toInt = -1 := rfl; omega)), (show (-1 : Int32).toInt ≤ 7 from (by have z3 : (-1 : Int32).toInt = -1 := rfl; omega))⟩) d_33_23_32
  ·
    have b9 : q_F (lx4.toInt < x4.toInt) := (q_nleI c7)
    refine lv_aload_n hx hb d_33_23_13 rfl (lv_at hl 2 rfl) ?_
    refine lv_iload hx hb d_33_23_14 (lv_at hl 0 rfl) ?_
    refine q_sbal (i := 0) (v := (([45, 35, 43, 48, 44, 40, 60, 32] : List Int32).getD lx4.toNatClampNeg 0)) C0 V rfl (show vp_in lx4 8 from q_ix (x := lx4.toInt) rfl (by have t1 : 0 ≤ x3.toInt := pre0; have t2 : x3.toInt ≤ lx4.toInt := i5; omega) (by have t1 : 0 ≤ x3.toInt := pre0; have t2 : x3.toInt ≤ lx4.toInt := i5; have t3 : x4.toInt ≤ 8 := pre1; have t4 : lx4.toInt < x4.toInt := b9; omega)) rfl d_33_23_16 ?_
    obtain ⟨a10, e11⟩ := q_nm ((([45, 35, 43, 48, 44, 40, 60, 32] : List Int32).getD lx4.toNatClampNeg 0) : Int32)
    refine q_ti (v := a10) e11 ?_
    refine lv_iload hx hb d_33_23_17 (lv_at hl 1 rfl) ?_
    refine lv_icmp_ne (tgt := 25) hx hb d_33_23_19 (by decide) (fun c12 => ?_) (fun c12 => ?_)
    ·
      have b13 : q_F (a10.toInt ≠ a1.toInt) := (q_neI c12)
      obtain ⟨a14, e15⟩ := q_nm (lx4 + 1 : Int32)
      have b16 : q_F (a14.toInt = lx4.toInt + 1) := (by rw [← e15]; exact q_addI (y := 1) rfl (by decide) (by have _ := q_lo32 (x := lx4); have _ := q_hi32 (x := lx4); have t1 : lx4.toInt < x4.toInt := b9; have _ := q_lo32 (x := x4); have _ := q_hi32 (x := x4); omega) (by have _ := q_lo32 (x := lx4); have _ := q_hi32 (x := lx4); have t1 : lx4.toInt < x4.toInt := b9; have _ := q_lo32 (x := x4); have _ := q_hi32 (x := x4); omega))
      refine lv_iinc (v := a14) (lv' := [(5, .int a14), (4, .int a1), (0, .ref (g (9 + 2 * 0))), (3, .int x4)]) hx hb d_33_23_25 hl (k := 0) rfl (e15) (by decide) rfl (fun ls hl => ?_)
      refine lv_goto (tgt := 7) hx hb d_33_23_28 (by decide) ?_
      exact ih6 ((a14 : Int32)) _ _ _ ws (show (8 - a14.toInt).toNat < (8 - lx4.toInt).toNat from by have t1 : a14.toInt = lx4.toInt + 1 := b16; have t2 : x4.toInt ≤ 8 := pre1; have t3 : lx4.toInt < x4.toInt := b9; omega) ⟨(show q_F (x3.toInt ≤ a14.toInt) from (show x3.toInt ≤ a14.toInt from by have t1 : x3.toInt ≤ lx4.toInt := i5; have t2 : a14.toInt = lx4.toInt + 1 := b16; omega)), V, q_lw hl (q_lw1 0 rfl (q_lw1 1 rfl (q_lw1 2 rfl (q_lw1 3 rfl q_lw0))))⟩
    ·
      have b17 : q_F (a10.toInt = a1.toInt) := (q_eqI c12)
      refine lv_iload hx hb d_33_23_22 (lv_at hl 0 rfl) ?_
      exact q_reti C0 V (⟨rfl, (show 0 ≤ lx4.toInt + 1 from (by have t1 : 0 ≤ x3.toInt := pre0; have t2 : x3.toInt ≤ lx4.toInt := i5; omega)), (show lx4.toInt ≤ 7 from (by have t1 : x4.toInt ≤ 8 := pre1; have t2 : lx4.toInt < x4.toInt := b9; omega))⟩) d_33_23_24
theorem d_33_22_0 : decode prog_33_method_22_code 0 = .ok (.iload_n 1, 1) := by decide +kernel
theorem d_33_22_1 : decode prog_33_method_22_code 1 = .ok (.invokestatic 88, 3) := by decide +kernel
set_option maxRecDepth 100000 in
theorem w_1772 : (Cond.code ({ cls := "java/lang/StringLatin1", name := "canEncode", desc := "(I)Z" } : MethodName) prog_33_method_4_code (1 : Nat) (some .boolean)) ∈ q_tbl := q_of8 92 rfl (by decide +kernel)
set_option maxRecDepth 100000 in
theorem w_26 : (Cond.initialized "java/lang/StringLatin1") ∈ q_tbl := q_of1 26 rfl (by decide +kernel)
set_option maxRecDepth 100000 in
theorem w_1770 : (Cond.methodLink "java/lang/StringLatin1" (88 : Nat) ({ cls := "java/lang/StringLatin1", name := "canEncode", desc := "(I)Z" } : MethodName)) ∈ q_tbl := q_of8 90 rfl (by decide +kernel)
set_option maxRecDepth 100000 in
theorem w_1771 : (Cond.static ({ cls := "java/lang/StringLatin1", name := "canEncode", desc := "(I)Z" } : MethodName)) ∈ q_tbl := q_of8 91 rfl (by decide +kernel)
theorem LS_jLat_88 : q_LS "java/lang/StringLatin1" 88 y_jLat_canEncode prog_33_method_4_code 1 (some .boolean) 1 := ⟨w_1772, w_26, w_1770, w_1771, ⟨by decide, by decide, by decide +kernel⟩⟩
theorem d_33_22_4 : decode prog_33_method_22_code 4 = .ok (.ifCond .ne 5, 3) := by decide +kernel
theorem d_33_22_9 : decode prog_33_method_22_code 9 = .ok (.iload_n 2, 1) := by decide +kernel
theorem d_33_22_10 : decode prog_33_method_22_code 10 = .ok (.iconst 0, 1) := by decide +kernel
theorem d_33_22_11 : decode prog_33_method_22_code 11 = .ok (.invokestatic 92, 3) := by decide +kernel
set_option maxRecDepth 100000 in
theorem w_1773 : (Cond.methodLink "java/lang/StringLatin1" (92 : Nat) ({ cls := "java/lang/Math", name := "max", desc := "(II)I" } : MethodName)) ∈ q_tbl := q_of8 93 rfl (by decide +kernel)
theorem d_33_22_14 : decode prog_33_method_22_code 14 = .ok (.istore_n 2, 1) := by decide +kernel
theorem d_33_22_15 : decode prog_33_method_22_code 15 = .ok (.iload_n 3, 1) := by decide +kernel
theorem d_33_22_16 : decode prog_33_method_22_code 16 = .ok (.aload_n 0, 1) := by decide +kernel
theorem d_33_22_17 : decode prog_33_method_22_code 17 = .ok (.arraylength, 1) := by decide +kernel
theorem d_33_22_18 : decode prog_33_method_22_code 18 = .ok (.invokestatic 38, 3) := by decide +kernel
set_option maxRecDepth 100000 in
theorem w_1774 : (Cond.methodLink "java/lang/StringLatin1" (38 : Nat) ({ cls := "java/lang/Math", name := "min", desc := "(II)I" } : MethodName)) ∈ q_tbl := q_of8 94 rfl (by decide +kernel)
theorem d_33_22_21 : decode prog_33_method_22_code 21 = .ok (.istore_n 3, 1) := by decide +kernel
theorem d_33_22_22 : decode prog_33_method_22_code 22 = .ok (.iload_n 2, 1) := by decide +kernel
theorem d_33_22_23 : decode prog_33_method_22_code 23 = .ok (.iload_n 3, 1) := by decide +kernel
theorem d_33_22_24 : decode prog_33_method_22_code 24 = .ok (.if_icmp .lt 5, 3) := by decide +kernel
theorem d_33_22_29 : decode prog_33_method_22_code 29 = .ok (.aload_n 0, 1) := by decide +kernel
theorem d_33_22_30 : decode prog_33_method_22_code 30 = .ok (.iload_n 1, 1) := by decide +kernel
theorem d_33_22_31 : decode prog_33_method_22_code 31 = .ok (.iload_n 2, 1) := by decide +kernel
theorem d_33_22_32 : decode prog_33_method_22_code 32 = .ok (.iload_n 3, 1) := by decide +kernel
theorem d_33_22_33 : decode prog_33_method_22_code 33 = .ok (.invokestatic 95, 3) := by decide +kernel
set_option maxRecDepth 100000 in
theorem w_1777 : (Cond.code ({ cls := "java/lang/StringLatin1", name := "indexOfChar", desc := "([BIII)I" } : MethodName) prog_33_method_23_code (6 : Nat) (some .int)) ∈ q_tbl := q_of8 97 rfl (by decide +kernel)
set_option maxRecDepth 100000 in
theorem w_1775 : (Cond.methodLink "java/lang/StringLatin1" (95 : Nat) ({ cls := "java/lang/StringLatin1", name := "indexOfChar", desc := "([BIII)I" } : MethodName)) ∈ q_tbl := q_of8 95 rfl (by decide +kernel)
set_option maxRecDepth 100000 in
theorem w_1776 : (Cond.static ({ cls := "java/lang/StringLatin1", name := "indexOfChar", desc := "([BIII)I" } : MethodName)) ∈ q_tbl := q_of8 96 rfl (by decide +kernel)
theorem LS_jLat_95 : q_LS "java/lang/StringLatin1" 95 y_jLat_indexOfChar prog_33_method_23_code 6 (some .int) 4 := ⟨w_1777, w_26, w_1775, w_1776, ⟨by decide, by decide, by decide +kernel⟩⟩
theorem d_33_22_36 : decode prog_33_method_22_code 36 = .ok (.ireturn, 1) := by decide +kernel
theorem d_33_22_27 : decode prog_33_method_22_code 27 = .ok (.iconst (-1), 1) := by decide +kernel
theorem d_33_22_28 : decode prog_33_method_22_code 28 = .ok (.ireturn, 1) := by decide +kernel
theorem d_33_22_7 : decode prog_33_method_22_code 7 = .ok (.iconst (-1), 1) := by decide +kernel
theorem d_33_22_8 : decode prog_33_method_22_code 8 = .ok (.ireturn, 1) := by decide +kernel
def y_jLat_indexOf : MethodName := ⟨"java/lang/StringLatin1", "indexOf", "([BIII)I"⟩
set_option maxRecDepth 100000 in
set_option maxHeartbeats 4000000 in
theorem T_jLat_indexOf_0 (l : Launch) (D : va_G) (g : Nat → ClassId) (q : Nat → Nat) (ws : va_W) (x2 : Int32) (x3 : Int32) (x4 : Int32) (hI : q_I (nsh g q) q ws) (pre0 : 0 ≤ x3.toInt) (pre1 : x4.toInt ≤ 8) : q_mI l y_jLat_indexOf prog_33_method_22_code 4 (.int) 2 0 0 D g [.ref (g (9 + 2 * 0)), .int x2, .int x3, .int x4] ws (fun r u => ws = u ∧ (0 ≤ r.toInt + 1) ∧ (r.toInt ≤ 7)) := by
  intro sz
  refine q_into (by decide) (Nat.le_of_ble_eq_true rfl) ?_
  intro p e s m below meth c ls hsz C0 V hl
  have hx := C0.1
  have hb := C0.2.1
  replace pre0 : q_F (0 ≤ x3.toInt) := pre0
  replace pre1 : q_F (x4.toInt ≤ 8) := pre1
  have hl : lv_has ls 4 [(0, .ref (g (9 + 2 * 0))), (1, .int x2), (2, .int x3), (3, .int x4)] := hl
  refine lv_iload_n hx hb d_33_22_0 rfl (lv_at hl 1 rfl) ?_
  refine q_goi V (q_runS (As := [.int x2]) (rest := []) (d := 1) (mc := 0) (ms := 0) C0 V rfl LS_jLat_88 (T_jLat_canEncode l D g q ws  x2 hI   _) rfl hl.1 rfl (Nat.le_of_ble_eq_true rfl) ⟨by decide, by decide⟩ ⟨Nat.le_of_ble_eq_true rfl, Nat.le_of_ble_eq_true rfl⟩ d_33_22_1) (fun a3 u1 H locs hp2 V => ?_)
  obtain ⟨rfl, b4, b5⟩ := hp2
  replace b4 : q_F (0 ≤ a3.toInt) := b4
  replace b5 : q_F (a3.toInt ≤ 1) := b5
  refine lv_if_ne (tgt := 9) hx hb d_33_22_4 (by decide) (fun c6 => ?_) (fun c6 => ?_)
  ·
    have b7 : q_F (a3.toInt ≠ 0) := (q_neI c6)
    refine lv_iload_n hx hb d_33_22_9 rfl (lv_at hl 2 rfl) ?_
    refine lv_iconst (v := 0) hx hb d_33_22_10 (by decide) ?_
    refine q_max C0 hl.1 rfl w_1773 w_803 w_7 w_804 ⟨Nat.le_of_ble_eq_true rfl, Nat.le_of_ble_eq_true rfl⟩ ⟨Nat.le_of_ble_eq_true rfl, Nat.le_of_ble_eq_true rfl⟩ d_33_22_11 ?_
    obtain ⟨a8, e9⟩ := q_nm (if x3 < 0 then 0 else x3 : Int32)
    refine q_ti (v := a8) e9 ?_
    have b10 : q_F (x3.toInt ≤ a8.toInt ∧ 0 ≤ a8.toInt ∧ (a8.toInt = x3.toInt ∨ a8.toInt = 0)) := (by rw [← e9]; show x3.toInt ≤ (if x3 < 0 then 0 else x3 : Int32).toInt ∧ 0 ≤ (if x3 < 0 then 0 else x3 : Int32).toInt ∧ ((if x3 < 0 then 0 else x3 : Int32).toInt = x3.toInt ∨ (if x3 < 0 then 0 else x3 : Int32).toInt = 0); exact (by have y1 : (0 : Int32).toInt = 0 := rfl; have z := s_max (a := x3) (b := 0); omega))
    refine lv_istore_n (lv' := [(2, .int a8), (0, .ref (g (9 + 2 * 0))), (1, .int x2), (3, .int x4)]) hx hb d_33_22_14 rfl hl (by decide) rfl (fun ls hl => ?_)
    refine lv_iload_n hx hb d_33_22_15 rfl (lv_at hl 3 rfl) ?_
    refine lv_aload_n hx hb d_33_22_16 rfl (lv_at hl 1 rfl) ?_
    refine q_slen (i := 0) (v := 8) C0 V rfl (by decide) d_33_22_17 ?_
    refine q_min C0 hl.1 rfl w_1774 w_774 w_7 w_775 ⟨Nat.le_of_ble_eq_true rfl, Nat.le_of_ble_eq_true rfl⟩ ⟨Nat.le_of_ble_eq_true rfl, Nat.le_of_ble_eq_true rfl⟩ d_33_22_18 ?_
    obtain ⟨a11, e12⟩ := q_nm (if 8 < x4 then 8 else x4 : Int32)
    refine q_ti (v := a11) e12 ?_
    have b13 : q_F (a11.toInt ≤ x4.toInt ∧ a11.toInt ≤ 8 ∧ (a11.toInt = x4.toInt ∨ a11.toInt = 8)) := (by rw [← e12]; show (if 8 < x4 then 8 else x4 : Int32).toInt ≤ x4.toInt ∧ (if 8 < x4 then 8 else x4 : Int32).toInt ≤ 8 ∧ ((if 8 < x4 then 8 else x4 : Int32).toInt = x4.toInt ∨ (if 8 < x4 then 8 else x4 : Int32).toInt = 8); exact (by have y1 : (8 : Int32).toInt = 8 := rfl; have z := s_min (a := x4) (b := 8); omega))
    refine lv_istore_n (lv' := [(3, .int a11), (2, .int a8), (0, .ref (g (9 + 2 * 0))), (1, .int x2)]) hx hb d_33_22_21 rfl hl (by decide) rfl (fun ls hl => ?_)
    refine lv_iload_n hx hb d_33_22_22 rfl (lv_at hl 1 rfl) ?_
    refine lv_iload_n hx hb d_33_22_23 rfl (lv_at hl 0 rfl) ?_
    refine lv_icmp_lt (tgt := 29) hx hb d_33_22_24 (by decide) (fun c14 => ?_) (fun c14 => ?_)
    ·
      have b15 : q_F (a8.toInt < a11.toInt) := (q_ltI c14)
      refine lv_aload_n hx hb d_33_22_29 rfl (lv_at hl 2 rfl) ?_
      refine lv_iload_n hx hb d_33_22_30 rfl (lv_at hl 3 rfl) ?_
      refine lv_iload_n hx hb d_33_22_31 rfl (lv_at hl 1 rfl) ?_
      refine lv_iload_n hx hb d_33_22_32 rfl (lv_at hl 0 rfl) ?_
      refine q_goi V (q_runS (As := [.ref (g (9 + 2 * 0)), .int x2, .int a8, .int a11]) (rest := []) (d := 1) (mc := 0) (ms := 0) C0 V rfl LS_jLat_95 (T_jLat_indexOfChar_0 l D g q ws  x2 a8 a11 hI  (by have t1 : x3.toInt ≤ a8.toInt ∧ 0 ≤ a8.toInt ∧ (a8.toInt = x3.toInt ∨ a8.toInt = 0) := b10; omega) (by have t1 : a11.toInt ≤ x4.toInt ∧ a11.toInt ≤ 8 ∧ (a11.toInt = x4.toInt ∨ a11.toInt = 8) := b13; omega) _) rfl hl.1 rfl (Nat.le_of_ble_eq_true rfl) ⟨by decide, by decide⟩ ⟨Nat.le_of_ble_eq_true rfl, Nat.le_of_ble_eq_true rfl⟩ d_33_22_33) (fun a18 u16 H locs hp17 V => ?_)
      obtain ⟨rfl, b19, b20⟩ := hp17
      replace b19 : q_F (0 ≤ a18.toInt + 1) := b19
      replace b20 : q_F (a18.toInt ≤ 7) := b20
      exact q_reti C0 V (⟨rfl, (show 0 ≤ a18.toInt + 1 from (by have t1 : 0 ≤ a18.toInt + 1 := b19; omega)), (show a18.toInt ≤ 7 from (by have t1 : a18.toInt ≤ 7 := b20; omega))⟩) d_33_22_36
    ·
      have b21 : q_F (a11.toInt ≤ a8.toInt) := (q_nltI c14)
      refine lv_iconst (v := (-1)) hx hb d_33_22_27 (by decide) ?_
      exact q_reti C0 V (⟨rfl, (show 0 ≤ (-1 : Int32).toInt + 1 from (by have z3 : (-1 : Int32).toInt = -1 := rfl; omega)), (show (-1 : Int32).toInt ≤ 7 from (by have z3 : (-1 : Int32).toInt = -1 := rfl; omega))⟩) d_33_22_28
  ·
    have b22 : q_F (a3.toInt = 0) := (q_eqI c6)
    refine lv_iconst (v := (-1)) hx hb d_33_22_7 (by decide) ?_
    exact q_reti C0 V (⟨rfl, (show 0 ≤ (-1 : Int32).toInt + 1 from (by have z3 : (-1 : Int32).toInt = -1 := rfl; omega)), (show (-1 : Int32).toInt ≤ 7 from (by have z3 : (-1 : Int32).toInt = -1 := rfl; omega))⟩) d_33_22_8
theorem d_31_80_0 : decode prog_31_method_80_code 0 = .ok (.aload_n 0, 1) := by decide +kernel
theorem d_31_80_1 : decode prog_31_method_80_code 1 = .ok (.invokevirtual 492, 3) := by decide +kernel
set_option maxRecDepth 100000 in
theorem w_672 : (Cond.code ({ cls := "java/lang/String", name := "isLatin1", desc := "()Z" } : MethodName) prog_31_method_154_code (1 : Nat) (some .boolean)) ∈ q_tbl := q_of3 192 rfl (by decide +kernel)
set_option maxRecDepth 100000 in
theorem w_669 : (Cond.methodLink "java/lang/String" (492 : Nat) ({ cls := "java/lang/String", name := "isLatin1", desc := "()Z" } : MethodName)) ∈ q_tbl := q_of3 189 rfl (by decide +kernel)
set_option maxRecDepth 100000 in
theorem w_670 : (Cond.instanceMethod ({ cls := "java/lang/String", name := "isLatin1", desc := "()Z" } : MethodName)) ∈ q_tbl := q_of3 190 rfl (by decide +kernel)
set_option maxRecDepth 100000 in
theorem w_671 : (Cond.selects "java/lang/String" ({ cls := "java/lang/String", name := "isLatin1", desc := "()Z" } : MethodName) ({ cls := "java/lang/String", name := "isLatin1", desc := "()Z" } : MethodName)) ∈ q_tbl := q_of3 191 rfl (by decide +kernel)
theorem LV_jStr_492 : q_LV "java/lang/String" 492 y_jStr_isLatin1 prog_31_method_154_code 1 (some .boolean) 0 := ⟨w_672, w_25, w_669, w_670, w_671, ⟨by decide, by decide, by decide +kernel⟩⟩
theorem d_31_80_4 : decode prog_31_method_80_code 4 = .ok (.ifCond .eq 19, 3) := by decide +kernel
theorem d_31_80_7 : decode prog_31_method_80_code 7 = .ok (.aload_n 0, 1) := by decide +kernel
theorem d_31_80_8 : decode prog_31_method_80_code 8 = .ok (.getfield 9, 3) := by decide +kernel
theorem d_31_80_11 : decode prog_31_method_80_code 11 = .ok (.iload_n 1, 1) := by decide +kernel
theorem d_31_80_12 : decode prog_31_method_80_code 12 = .ok (.iload_n 2, 1) := by decide +kernel
theorem d_31_80_13 : decode prog_31_method_80_code 13 = .ok (.aload_n 0, 1) := by decide +kernel
theorem d_31_80_14 : decode prog_31_method_80_code 14 = .ok (.invokevirtual 505, 3) := by decide +kernel
set_option maxRecDepth 100000 in
theorem w_658 : (Cond.code ({ cls := "java/lang/String", name := "length", desc := "()I" } : MethodName) prog_31_method_54_code (1 : Nat) (some .int)) ∈ q_tbl := q_of3 178 rfl (by decide +kernel)
set_option maxRecDepth 100000 in
theorem w_1766 : (Cond.methodLink "java/lang/String" (505 : Nat) ({ cls := "java/lang/String", name := "length", desc := "()I" } : MethodName)) ∈ q_tbl := q_of8 86 rfl (by decide +kernel)
set_option maxRecDepth 100000 in
theorem w_656 : (Cond.instanceMethod ({ cls := "java/lang/String", name := "length", desc := "()I" } : MethodName)) ∈ q_tbl := q_of3 176 rfl (by decide +kernel)
set_option maxRecDepth 100000 in
theorem w_657 : (Cond.selects "java/lang/String" ({ cls := "java/lang/String", name := "length", desc := "()I" } : MethodName) ({ cls := "java/lang/String", name := "length", desc := "()I" } : MethodName)) ∈ q_tbl := q_of3 177 rfl (by decide +kernel)
theorem LV_jStr_505 : q_LV "java/lang/String" 505 y_jStr_length prog_31_method_54_code 1 (some .int) 0 := ⟨w_658, w_25, w_1766, w_656, w_657, ⟨by decide, by decide, by decide +kernel⟩⟩
theorem d_31_80_17 : decode prog_31_method_80_code 17 = .ok (.invokestatic 637, 3) := by decide +kernel
set_option maxRecDepth 100000 in
theorem w_1769 : (Cond.code ({ cls := "java/lang/StringLatin1", name := "indexOf", desc := "([BIII)I" } : MethodName) prog_33_method_22_code (4 : Nat) (some .int)) ∈ q_tbl := q_of8 89 rfl (by decide +kernel)
set_option maxRecDepth 100000 in
theorem w_1767 : (Cond.methodLink "java/lang/String" (637 : Nat) ({ cls := "java/lang/StringLatin1", name := "indexOf", desc := "([BIII)I" } : MethodName)) ∈ q_tbl := q_of8 87 rfl (by decide +kernel)
set_option maxRecDepth 100000 in
theorem w_1768 : (Cond.static ({ cls := "java/lang/StringLatin1", name := "indexOf", desc := "([BIII)I" } : MethodName)) ∈ q_tbl := q_of8 88 rfl (by decide +kernel)
theorem LS_jStr_637 : q_LS "java/lang/String" 637 y_jLat_indexOf prog_33_method_22_code 4 (some .int) 4 := ⟨w_1769, w_26, w_1767, w_1768, ⟨by decide, by decide, by decide +kernel⟩⟩
theorem d_31_80_20 : decode prog_31_method_80_code 20 = .ok (.goto 16, 3) := by decide +kernel
theorem d_31_80_36 : decode prog_31_method_80_code 36 = .ok (.ireturn, 1) := by decide +kernel
def y_jStr_indexOf_III : MethodName := ⟨"java/lang/String", "indexOf", "(II)I"⟩
set_option maxRecDepth 100000 in
set_option maxHeartbeats 4000000 in
theorem T_jStr_indexOf_III_0 (l : Launch) (D : va_G) (g : Nat → ClassId) (q : Nat → Nat) (ws : va_W) (x2 : Int32) (x3 : Int32) (hI : q_I (nsh g q) q ws) (pre0 : 0 ≤ x3.toInt) : q_mI l y_jStr_indexOf_III prog_31_method_80_code 3 (.int) 3 0 0 D g [.ref (g (8 + 2 * 0)), .int x2, .int x3] ws (fun r u => ws = u ∧ (0 ≤ r.toInt + 1) ∧ (r.toInt ≤ 7)) := by
  intro sz
  refine q_into (by decide) (Nat.le_of_ble_eq_true rfl) ?_
  intro p e s m below meth c ls hsz C0 V hl
  have hx := C0.1
  have hb := C0.2.1
  replace pre0 : q_F (0 ≤ x3.toInt) := pre0
  have hl : lv_has ls 3 [(0, .ref (g (8 + 2 * 0))), (1, .int x2), (2, .int x3)] := hl
  refine lv_aload_n hx hb d_31_80_0 rfl (lv_at hl 0 rfl) ?_
  refine q_goi V (q_runVs (As := []) (rest := []) (d := 1) (mc := 0) (ms := 0) (i := 0) C0 V rfl LV_jStr_492 (T_jStr_isLatin1_0 l D g q ws   hI   _) rfl rfl rfl hl.1 rfl (Nat.le_of_ble_eq_true rfl) ⟨by decide, by decide⟩ ⟨Nat.le_of_ble_eq_true rfl, Nat.le_of_ble_eq_true rfl⟩ d_31_80_1) (fun a3 u1 H locs hp2 V => ?_)
  obtain ⟨rfl, b4, b5⟩ := hp2
  replace b4 : q_F (1 ≤ a3.toInt) := b4
  replace b5 : q_F (a3.toInt ≤ 1) := b5
  obtain rfl : a3 = (1 : Int32) := q_Ieq (x := a3.toInt) (y := 1) rfl (by decide) (by have t1 : 1 ≤ a3.toInt := b4; have t2 : a3.toInt ≤ 1 := b5; omega)
  refine lv_if_eq (tgt := 23) hx hb d_31_80_4 (by decide) (fun c6 => absurd c6 (by decide)) (fun c6 => ?_)
  refine lv_aload_n hx hb d_31_80_7 rfl (lv_at hl 0 rfl) ?_
  refine q_sval (i := 0) C0 V rfl rfl w_1018 d_31_80_8 ?_
  refine lv_iload_n hx hb d_31_80_11 rfl (lv_at hl 1 rfl) ?_
  refine lv_iload_n hx hb d_31_80_12 rfl (lv_at hl 2 rfl) ?_
  refine lv_aload_n hx hb d_31_80_13 rfl (lv_at hl 0 rfl) ?_
  refine q_goi V (q_runVs (As := []) (rest := [.int x3, .int x2, .ref (g (9 + 2 * 0))]) (d := 2) (mc := 0) (ms := 0) (i := 0) C0 V rfl LV_jStr_505 (T_jStr_length_0 l D g q ws   hI   _) rfl rfl rfl hl.1 rfl (Nat.le_of_ble_eq_true rfl) ⟨by decide, by decide⟩ ⟨Nat.le_of_ble_eq_true rfl, Nat.le_of_ble_eq_true rfl⟩ d_31_80_14) (fun a9 u7 H locs hp8 V => ?_)
  obtain ⟨rfl, b10, b11⟩ := hp8
  replace b10 : q_F (8 ≤ a9.toInt) := b10
  replace b11 : q_F (a9.toInt ≤ 8) := b11
  obtain rfl : a9 = (8 : Int32) := q_Ieq (x := a9.toInt) (y := 8) rfl (by decide) (by have t1 : 8 ≤ a9.toInt := b10; have t2 : a9.toInt ≤ 8 := b11; omega)
  refine q_goi V (q_runS (As := [.ref (g (9 + 2 * 0)), .int x2, .int x3, .int 8]) (rest := []) (d := 2) (mc := 0) (ms := 0) C0 V rfl LS_jStr_637 (T_jLat_indexOf_0 l D g q ws  x2 x3 8 hI  (by have y0 : (8 : Int32).toInt = 8 := rfl; have t1 : 0 ≤ x3.toInt := pre0; omega) (by have y0 : (8 : Int32).toInt = 8 := rfl; omega) _) rfl hl.1 rfl (Nat.le_of_ble_eq_true rfl) ⟨by decide, by decide⟩ ⟨Nat.le_of_ble_eq_true rfl, Nat.le_of_ble_eq_true rfl⟩ d_31_80_17) (fun a14 u12 H locs hp13 V => ?_)
  obtain ⟨rfl, b15, b16⟩ := hp13
  replace b15 : q_F (0 ≤ a14.toInt + 1) := b15
  replace b16 : q_F (a14.toInt ≤ 7) := b16
  refine lv_goto (tgt := 36) hx hb d_31_80_20 (by decide) ?_
  exact q_reti C0 V (⟨rfl, (show 0 ≤ a14.toInt + 1 from (by have t1 : 0 ≤ a14.toInt + 1 := b15; omega)), (show a14.toInt ≤ 7 from (by have t1 : a14.toInt ≤ 7 := b16; omega))⟩) d_31_80_36
theorem d_31_79_0 : decode prog_31_method_79_code 0 = .ok (.aload_n 0, 1) := by decide +kernel
theorem d_31_79_1 : decode prog_31_method_79_code 1 = .ok (.iload_n 1, 1) := by decide +kernel
theorem d_31_79_2 : decode prog_31_method_79_code 2 = .ok (.iconst 0, 1) := by decide +kernel
theorem d_31_79_3 : decode prog_31_method_79_code 3 = .ok (.invokevirtual 633, 3) := by decide +kernel
set_option maxRecDepth 100000 in
theorem w_1765 : (Cond.code ({ cls := "java/lang/String", name := "indexOf", desc := "(II)I" } : MethodName) prog_31_method_80_code (3 : Nat) (some .int)) ∈ q_tbl := q_of8 85 rfl (by decide +kernel)
set_option maxRecDepth 100000 in
theorem w_1762 : (Cond.methodLink "java/lang/String" (633 : Nat) ({ cls := "java/lang/String", name := "indexOf", desc := "(II)I" } : MethodName)) ∈ q_tbl := q_of8 82 rfl (by decide +kernel)
set_option maxRecDepth 100000 in
theorem w_1763 : (Cond.instanceMethod ({ cls := "java/lang/String", name := "indexOf", desc := "(II)I" } : MethodName)) ∈ q_tbl := q_of8 83 rfl (by decide +kernel)
set_option maxRecDepth 100000 in
theorem w_1764 : (Cond.selects "java/lang/String" ({ cls := "java/lang/String", name := "indexOf", desc := "(II)I" } : MethodName) ({ cls := "java/lang/String", name := "indexOf", desc := "(II)I" } : MethodName)) ∈ q_tbl := q_of8 84 rfl (by decide +kernel)
theorem LV_jStr_633 : q_LV "java/lang/String" 633 y_jStr_indexOf_III prog_31_method_80_code 3 (some .int) 2 := ⟨w_1765, w_25, w_1762, w_1763, w_1764, ⟨by decide, by decide, by decide +kernel⟩⟩
theorem d_31_79_6 : decode prog_31_method_79_code 6 = .ok (.ireturn, 1) := by decide +kernel
def y_jStr_indexOf_II : MethodName := ⟨"java/lang/String", "indexOf", "(I)I"⟩
set_option maxRecDepth 100000 in
set_option maxHeartbeats 4000000 in
theorem T_jStr_indexOf_II_0 (l : Launch) (D : va_G) (g : Nat → ClassId) (q : Nat → Nat) (ws : va_W) (x2 : Int32) (hI : q_I (nsh g q) q ws) : q_mI l y_jStr_indexOf_II prog_31_method_79_code 2 (.int) 4 0 0 D g [.ref (g (8 + 2 * 0)), .int x2] ws (fun r u => ws = u ∧ (0 ≤ r.toInt + 1) ∧ (r.toInt ≤ 7)) := by
  intro sz
  refine q_into (by decide) (Nat.le_of_ble_eq_true rfl) ?_
  intro p e s m below meth c ls hsz C0 V hl
  have hx := C0.1
  have hb := C0.2.1
  have hl : lv_has ls 2 [(0, .ref (g (8 + 2 * 0))), (1, .int x2)] := hl
  refine lv_aload_n hx hb d_31_79_0 rfl (lv_at hl 0 rfl) ?_
  refine lv_iload_n hx hb d_31_79_1 rfl (lv_at hl 1 rfl) ?_
  refine lv_iconst (v := 0) hx hb d_31_79_2 (by decide) ?_
  refine q_goi V (q_runVs (As := [.int x2, .int 0]) (rest := []) (d := 3) (mc := 0) (ms := 0) (i := 0) C0 V rfl LV_jStr_633 (T_jStr_indexOf_III_0 l D g q ws  x2 0 hI  (by have y0 : (0 : Int32).toInt = 0 := rfl; omega) _) rfl rfl rfl hl.1 rfl (Nat.le_of_ble_eq_true rfl) ⟨by decide, by decide⟩ ⟨Nat.le_of_ble_eq_true rfl, Nat.le_of_ble_eq_true rfl⟩ d_31_79_3) (fun a3 u1 H locs hp2 V => ?_)
  obtain ⟨rfl, b4, b5⟩ := hp2
  replace b4 : q_F (0 ≤ a3.toInt + 1) := b4
  replace b5 : q_F (a3.toInt ≤ 7) := b5
  exact q_reti C0 V (⟨rfl, (show 0 ≤ a3.toInt + 1 from (by have t1 : 0 ≤ a3.toInt + 1 := b4; omega)), (show a3.toInt ≤ 7 from (by have t1 : a3.toInt ≤ 7 := b5; omega))⟩) d_31_79_6
set_option maxRecDepth 100000 in
set_option maxHeartbeats 4000000 in
theorem T_jStr_coder_1 (l : Launch) (D : va_G) (g : Nat → ClassId) (q : Nat → Nat) (ws : va_W) (hI : q_I (nsh g q) q ws) : q_mI l y_jStr_coder prog_31_method_152_code 1 (.byte) 1 0 0 D g [.ref (g (8 + 2 * 1))] ws (fun r u => ws = u ∧ (0 ≤ r.toInt) ∧ (r.toInt ≤ 0)) := by
  intro sz
  refine q_into (by decide) (Nat.le_of_ble_eq_true rfl) ?_
  intro p e s m below meth c ls hsz C0 V hl
  have hx := C0.1
  have hb := C0.2.1
  have hl : lv_has ls 1 [(0, .ref (g (8 + 2 * 1)))] := hl
  refine q_scmp C0 V rfl w_663 d_31_152_0 ?_
  refine lv_if_eq (tgt := 13) hx hb d_31_152_3 (by decide) (fun c1 => absurd c1 (by decide)) (fun c1 => ?_)
  refine lv_aload_n hx hb d_31_152_6 rfl (lv_at hl 0 rfl) ?_
  refine q_scod (i := 1) C0 V rfl rfl w_1019 d_31_152_7 ?_
  refine lv_goto (tgt := 14) hx hb d_31_152_10 (by decide) ?_
  exact q_retn C0 V (rfl) (⟨rfl, (show 0 ≤ (0 : Int32).toInt from (by have z0 : (0 : Int32).toInt = 0 := rfl; omega)), (show (0 : Int32).toInt ≤ 0 from (by have z0 : (0 : Int32).toInt = 0 := rfl; omega))⟩) d_31_152_14
set_option maxRecDepth 100000 in
set_option maxHeartbeats 4000000 in
theorem T_jStr_length_1 (l : Launch) (D : va_G) (g : Nat → ClassId) (q : Nat → Nat) (ws : va_W) (hI : q_I (nsh g q) q ws) : q_mI l y_jStr_length prog_31_method_54_code 1 (.int) 2 0 0 D g [.ref (g (8 + 2 * 1))] ws (fun r u => ws = u ∧ (17 ≤ r.toInt) ∧ (r.toInt ≤ 17)) := by
  intro sz
  refine q_into (by decide) (Nat.le_of_ble_eq_true rfl) ?_
  intro p e s m below meth c ls hsz C0 V hl
  have hx := C0.1
  have hb := C0.2.1
  have hl : lv_has ls 1 [(0, .ref (g (8 + 2 * 1)))] := hl
  refine lv_aload_n hx hb d_31_54_0 rfl (lv_at hl 0 rfl) ?_
  refine q_sval (i := 1) C0 V rfl rfl w_1018 d_31_54_1 ?_
  refine q_slen (i := 1) (v := 17) C0 V rfl (by decide) d_31_54_4 ?_
  refine lv_aload_n hx hb d_31_54_5 rfl (lv_at hl 0 rfl) ?_
  refine q_goi V (q_runVs (As := []) (rest := [.int 17]) (d := 1) (mc := 0) (ms := 0) (i := 1) C0 V rfl LV_jStr_335 (T_jStr_coder_1 l D g q ws   hI   _) rfl rfl rfl hl.1 rfl (Nat.le_of_ble_eq_true rfl) ⟨by decide, by decide⟩ ⟨Nat.le_of_ble_eq_true rfl, Nat.le_of_ble_eq_true rfl⟩ d_31_54_6) (fun a3 u1 H locs hp2 V => ?_)
  obtain ⟨rfl, b4, b5⟩ := hp2
  replace b4 : q_F (0 ≤ a3.toInt) := b4
  replace b5 : q_F (a3.toInt ≤ 0) := b5
  obtain rfl : a3 = (0 : Int32) := q_Ieq (x := a3.toInt) (y := 0) rfl (by decide) (by have t1 : 0 ≤ a3.toInt := b4; have t2 : a3.toInt ≤ 0 := b5; omega)
  refine lv_ishr hx hb d_31_54_9 ?_
  refine q_ti (v := 17) (by decide) ?_
  exact q_reti C0 V (⟨rfl, (show 17 ≤ (17 : Int32).toInt from (by have z0 : (17 : Int32).toInt = 17 := rfl; omega)), (show (17 : Int32).toInt ≤ 17 from (by have z0 : (17 : Int32).toInt = 17 := rfl; omega))⟩) d_31_54_10
set_option maxRecDepth 100000 in
set_option maxHeartbeats 4000000 in
theorem T_jStr_isLatin1_1 (l : Launch) (D : va_G) (g : Nat → ClassId) (q : Nat → Nat) (ws : va_W) (hI : q_I (nsh g q) q ws) : q_mI l y_jStr_isLatin1 prog_31_method_154_code 1 (.boolean) 1 0 0 D g [.ref (g (8 + 2 * 1))] ws (fun r u => ws = u ∧ (1 ≤ r.toInt) ∧ (r.toInt ≤ 1)) := by
  intro sz
  refine q_into (by decide) (Nat.le_of_ble_eq_true rfl) ?_
  intro p e s m below meth c ls hsz C0 V hl
  have hx := C0.1
  have hb := C0.2.1
  have hl : lv_has ls 1 [(0, .ref (g (8 + 2 * 1)))] := hl
  refine q_scmp C0 V rfl w_663 d_31_154_0 ?_
  refine lv_if_eq (tgt := 17) hx hb d_31_154_3 (by decide) (fun c1 => absurd c1 (by decide)) (fun c1 => ?_)
  refine lv_aload_n hx hb d_31_154_6 rfl (lv_at hl 0 rfl) ?_
  refine q_scod (i := 1) C0 V rfl rfl w_1019 d_31_154_7 ?_
  refine lv_if_ne (tgt := 17) hx hb d_31_154_10 (by decide) (fun c2 => absurd (by decide) c2) (fun c2 => ?_)
  refine lv_iconst (v := 1) hx hb d_31_154_13 (by decide) ?_
  refine lv_goto (tgt := 18) hx hb d_31_154_14 (by decide) ?_
  exact q_retz C0 V (by decide) (⟨rfl, (show 1 ≤ (1 : Int32).toInt from (by have z0 : (1 : Int32).toInt = 1 := rfl; omega)), (show (1 : Int32).toInt ≤ 1 from (by have z0 : (1 : Int32).toInt = 1 := rfl; omega))⟩) d_31_154_18
set_option maxRecDepth 100000 in
set_option maxHeartbeats 4000000 in
theorem T_jLat_indexOfChar_1 (l : Launch) (D : va_G) (g : Nat → ClassId) (q : Nat → Nat) (ws : va_W) (x2 : Int32) (x3 : Int32) (x4 : Int32) (hI : q_I (nsh g q) q ws) (pre0 : 0 ≤ x3.toInt) (pre1 : x4.toInt ≤ 17) : q_mI l y_jLat_indexOfChar prog_33_method_23_code 6 (.int) 1 0 0 D g [.ref (g (9 + 2 * 1)), .int x2, .int x3, .int x4] ws (fun r u => ws = u ∧ (0 ≤ r.toInt + 1) ∧ (r.toInt ≤ 16)) := by
  intro sz
  refine q_into (by decide) (Nat.le_of_ble_eq_true rfl) ?_
  intro p e s m below meth c ls hsz C0 V hl
  have hx := C0.1
  have hb := C0.2.1
  replace pre0 : q_F (0 ≤ x3.toInt) := pre0
  replace pre1 : q_F (x4.toInt ≤ 17) := pre1
  have hl : lv_has ls 6 [(0, .ref (g (9 + 2 * 1))), (1, .int x2), (2, .int x3), (3, .int x4)] := hl
  refine lv_iload_n hx hb d_33_23_0 rfl (lv_at hl 1 rfl) ?_
  refine lv_i2b hx hb d_33_23_1 rfl ?_
  obtain ⟨a1, e2⟩ := q_nm (x2.toInt8.toInt32 : Int32)
  refine q_ti (v := a1) e2 ?_
  refine lv_istore (lv' := [(4, .int a1), (0, .ref (g (9 + 2 * 1))), (1, .int x2), (2, .int x3), (3, .int x4)]) hx hb d_33_23_2 hl (by decide) rfl (fun ls hl => ?_)
  refine lv_iload_n hx hb d_33_23_4 rfl (lv_at hl 3 rfl) ?_
  refine lv_istore (lv' := [(5, .int x3), (4, .int a1), (0, .ref (g (9 + 2 * 1))), (1, .int x2), (2, .int x3), (3, .int x4)]) hx hb d_33_23_5 hl (by decide) rfl (fun ls hl => ?_)
  refine q_loop (X := Int32) (fun z H locs ls _ => q_F (x3.toInt ≤ z.toInt) ∧ q_Wd D g (va_A ws sz) s ws H locs ∧ lv_has ls 6 [(5, .int z), (4, .int a1), (0, .ref (g (9 + 2 * 1))), (3, .int x4)]) (fun z => (17 - z.toInt).toNat) ?_ ((x3 : Int32)) _ _ _ ws ⟨(show q_F (x3.toInt ≤ x3.toInt) from (show x3.toInt ≤ x3.toInt from by omega)), V, q_lw hl (q_lw1 0 rfl (q_lw1 1 rfl (q_lw1 2 rfl (q_lw1 5 rfl q_lw0))))⟩
  rintro lx4 H locs ls _ ⟨i5, V, hl⟩ ih6
  replace i5 : q_F (x3.toInt ≤ lx4.toInt) := i5
  replace hl : lv_has ls 6 [(5, .int lx4), (4, .int a1), (0, .ref (g (9 + 2 * 1))), (3, .int x4)] := hl
  refine lv_iload hx hb d_33_23_7 (lv_at hl 0 rfl) ?_
  refine lv_iload_n hx hb d_33_23_9 rfl (lv_at hl 3 rfl) ?_
  refine lv_icmp_ge (tgt := 31) hx hb d_33_23_10 (by decide) (fun c7 => ?_) (fun c7 => ?_)
  ·
    have b8 : q_F (x4.toInt ≤ lx4.toInt) := (q_leI c7)
    refine lv_iconst (v := (-1)) hx hb d_33_23_31 (by decide) ?_
    exact q_reti C0 V (⟨rfl, (show 0 ≤ (-1 : Int32).toInt + 1 from (by have z3 : (-1 : Int32).toInt = -1 := rfl; omega)), (show (-1 : Int32).toInt ≤ 16 from (by have z3 : (-1 : Int32).toInt = -1 := rfl; omega))⟩) d_33_23_32
  ·
    have b9 : q_F (lx4.toInt < x4.toInt) := (q_nleI c7)
    refine lv_aload_n hx hb d_33_23_13 rfl (lv_at hl 2 rfl) ?_
    refine lv_iload hx hb d_33_23_14 (lv_at hl 0 rfl) ?_
    refine q_sbal (i := 1) (v := (([98, 66, 115, 83, 99, 67, 100, 111, 120, 88, 102, 101, 69, 103, 71, 37, 110] : List Int32).getD lx4.toNatClampNeg 0)) C0 V rfl (show vp_in lx4 17 from q_ix (x := lx4.toInt) rfl (by have t1 : 0 ≤ x3.toInt := pre0; have t2 : x3.toInt ≤ lx4.toInt := i5; omega) (by have t1 : 0 ≤ x3.toInt := pre0; have t2 : x3.toInt ≤ lx4.toInt := i5; have t3 : x4.toInt ≤ 17 := pre1; have t4 : lx4.toInt < x4.toInt := b9; omega)) rfl d_33_23_16 ?_
    obtain ⟨a10, e11⟩ := q_nm ((([98, 66, 115, 83, 99, 67, 100, 111, 120, 88, 102, 101, 69, 103, 71, 37, 110] : List Int32).getD lx4.toNatClampNeg 0) : Int32)
    refine q_ti (v := a10) e11 ?_
    refine lv_iload hx hb d_33_23_17 (lv_at hl 1 rfl) ?_
    refine lv_icmp_ne (tgt := 25) hx hb d_33_23_19 (by decide) (fun c12 => ?_) (fun c12 => ?_)
    ·
      have b13 : q_F (a10.toInt ≠ a1.toInt) := (q_neI c12)
      obtain ⟨a14, e15⟩ := q_nm (lx4 + 1 : Int32)
      have b16 : q_F (a14.toInt = lx4.toInt + 1) := (by rw [← e15]; exact q_addI (y := 1) rfl (by decide) (by have _ := q_lo32 (x := lx4); have _ := q_hi32 (x := lx4); have t1 : lx4.toInt < x4.toInt := b9; have _ := q_lo32 (x := x4); have _ := q_hi32 (x := x4); omega) (by have _ := q_lo32 (x := lx4); have _ := q_hi32 (x := lx4); have t1 : lx4.toInt < x4.toInt := b9; have _ := q_lo32 (x := x4); have _ := q_hi32 (x := x4); omega))
      refine lv_iinc (v := a14) (lv' := [(5, .int a14), (4, .int a1), (0, .ref (g (9 + 2 * 1))), (3, .int x4)]) hx hb d_33_23_25 hl (k := 0) rfl (e15) (by decide) rfl (fun ls hl => ?_)
      refine lv_goto (tgt := 7) hx hb d_33_23_28 (by decide) ?_
      exact ih6 ((a14 : Int32)) _ _ _ ws (show (17 - a14.toInt).toNat < (17 - lx4.toInt).toNat from by have t1 : a14.toInt = lx4.toInt + 1 := b16; have t2 : x4.toInt ≤ 17 := pre1; have t3 : lx4.toInt < x4.toInt := b9; omega) ⟨(show q_F (x3.toInt ≤ a14.toInt) from (show x3.toInt ≤ a14.toInt from by have t1 : x3.toInt ≤ lx4.toInt := i5; have t2 : a14.toInt = lx4.toInt + 1 := b16; omega)), V, q_lw hl (q_lw1 0 rfl (q_lw1 1 rfl (q_lw1 2 rfl (q_lw1 3 rfl q_lw0))))⟩
    ·
      have b17 : q_F (a10.toInt = a1.toInt) := (q_eqI c12)
      refine lv_iload hx hb d_33_23_22 (lv_at hl 0 rfl) ?_
      exact q_reti C0 V (⟨rfl, (show 0 ≤ lx4.toInt + 1 from (by have t1 : 0 ≤ x3.toInt := pre0; have t2 : x3.toInt ≤ lx4.toInt := i5; omega)), (show lx4.toInt ≤ 16 from (by have t1 : x4.toInt ≤ 17 := pre1; have t2 : lx4.toInt < x4.toInt := b9; omega))⟩) d_33_23_24
set_option maxRecDepth 100000 in
set_option maxHeartbeats 4000000 in
theorem T_jLat_indexOf_1 (l : Launch) (D : va_G) (g : Nat → ClassId) (q : Nat → Nat) (ws : va_W) (x2 : Int32) (x3 : Int32) (x4 : Int32) (hI : q_I (nsh g q) q ws) (pre0 : 0 ≤ x3.toInt) (pre1 : x4.toInt ≤ 17) : q_mI l y_jLat_indexOf prog_33_method_22_code 4 (.int) 2 0 0 D g [.ref (g (9 + 2 * 1)), .int x2, .int x3, .int x4] ws (fun r u => ws = u ∧ (0 ≤ r.toInt + 1) ∧ (r.toInt ≤ 16)) := by
  intro sz
  refine q_into (by decide) (Nat.le_of_ble_eq_true rfl) ?_
  intro p e s m below meth c ls hsz C0 V hl
  have hx := C0.1
  have hb := C0.2.1
  replace pre0 : q_F (0 ≤ x3.toInt) := pre0
  replace pre1 : q_F (x4.toInt ≤ 17) := pre1
  have hl : lv_has ls 4 [(0, .ref (g (9 + 2 * 1))), (1, .int x2), (2, .int x3), (3, .int x4)] := hl
  refine lv_iload_n hx hb d_33_22_0 rfl (lv_at hl 1 rfl) ?_
  refine q_goi V (q_runS (As := [.int x2]) (rest := []) (d := 1) (mc := 0) (ms := 0) C0 V rfl LS_jLat_88 (T_jLat_canEncode l D g q ws  x2 hI   _) rfl hl.1 rfl (Nat.le_of_ble_eq_true rfl) ⟨by decide, by decide⟩ ⟨Nat.le_of_ble_eq_true rfl, Nat.le_of_ble_eq_true rfl⟩ d_33_22_1) (fun a3 u1 H locs hp2 V => ?_)
  obtain ⟨rfl, b4, b5⟩ := hp2
  replace b4 : q_F (0 ≤ a3.toInt) := b4
  replace b5 : q_F (a3.toInt ≤ 1) := b5
  refine lv_if_ne (tgt := 9) hx hb d_33_22_4 (by decide) (fun c6 => ?_) (fun c6 => ?_)
  ·
    have b7 : q_F (a3.toInt ≠ 0) := (q_neI c6)
    refine lv_iload_n hx hb d_33_22_9 rfl (lv_at hl 2 rfl) ?_
    refine lv_iconst (v := 0) hx hb d_33_22_10 (by decide) ?_
    refine q_max C0 hl.1 rfl w_1773 w_803 w_7 w_804 ⟨Nat.le_of_ble_eq_true rfl, Nat.le_of_ble_eq_true rfl⟩ ⟨Nat.le_of_ble_eq_true rfl, Nat.le_of_ble_eq_true rfl⟩ d_33_22_11 ?_
    obtain ⟨a8, e9⟩ := q_nm (if x3 < 0 then 0 else x3 : Int32)
    refine q_ti (v := a8) e9 ?_
    have b10 : q_F (x3.toInt ≤ a8.toInt ∧ 0 ≤ a8.toInt ∧ (a8.toInt = x3.toInt ∨ a8.toInt = 0)) := (by rw [← e9]; show x3.toInt ≤ (if x3 < 0 then 0 else x3 : Int32).toInt ∧ 0 ≤ (if x3 < 0 then 0 else x3 : Int32).toInt ∧ ((if x3 < 0 then 0 else x3 : Int32).toInt = x3.toInt ∨ (if x3 < 0 then 0 else x3 : Int32).toInt = 0); exact (by have y1 : (0 : Int32).toInt = 0 := rfl; have z := s_max (a := x3) (b := 0); omega))
    refine lv_istore_n (lv' := [(2, .int a8), (0, .ref (g (9 + 2 * 1))), (1, .int x2), (3, .int x4)]) hx hb d_33_22_14 rfl hl (by decide) rfl (fun ls hl => ?_)
    refine lv_iload_n hx hb d_33_22_15 rfl (lv_at hl 3 rfl) ?_
    refine lv_aload_n hx hb d_33_22_16 rfl (lv_at hl 1 rfl) ?_
    refine q_slen (i := 1) (v := 17) C0 V rfl (by decide) d_33_22_17 ?_
    refine q_min C0 hl.1 rfl w_1774 w_774 w_7 w_775 ⟨Nat.le_of_ble_eq_true rfl, Nat.le_of_ble_eq_true rfl⟩ ⟨Nat.le_of_ble_eq_true rfl, Nat.le_of_ble_eq_true rfl⟩ d_33_22_18 ?_
    obtain ⟨a11, e12⟩ := q_nm (if 17 < x4 then 17 else x4 : Int32)
    refine q_ti (v := a11) e12 ?_
    have b13 : q_F (a11.toInt ≤ x4.toInt ∧ a11.toInt ≤ 17 ∧ (a11.toInt = x4.toInt ∨ a11.toInt = 17)) := (by rw [← e12]; show (if 17 < x4 then 17 else x4 : Int32).toInt ≤ x4.toInt ∧ (if 17 < x4 then 17 else x4 : Int32).toInt ≤ 17 ∧ ((if 17 < x4 then 17 else x4 : Int32).toInt = x4.toInt ∨ (if 17 < x4 then 17 else x4 : Int32).toInt = 17); exact (by have y1 : (17 : Int32).toInt = 17 := rfl; have z := s_min (a := x4) (b := 17); omega))
    refine lv_istore_n (lv' := [(3, .int a11), (2, .int a8), (0, .ref (g (9 + 2 * 1))), (1, .int x2)]) hx hb d_33_22_21 rfl hl (by decide) rfl (fun ls hl => ?_)
    refine lv_iload_n hx hb d_33_22_22 rfl (lv_at hl 1 rfl) ?_
    refine lv_iload_n hx hb d_33_22_23 rfl (lv_at hl 0 rfl) ?_
    refine lv_icmp_lt (tgt := 29) hx hb d_33_22_24 (by decide) (fun c14 => ?_) (fun c14 => ?_)
    ·
      have b15 : q_F (a8.toInt < a11.toInt) := (q_ltI c14)
      refine lv_aload_n hx hb d_33_22_29 rfl (lv_at hl 2 rfl) ?_
      refine lv_iload_n hx hb d_33_22_30 rfl (lv_at hl 3 rfl) ?_
      refine lv_iload_n hx hb d_33_22_31 rfl (lv_at hl 1 rfl) ?_
      refine lv_iload_n hx hb d_33_22_32 rfl (lv_at hl 0 rfl) ?_
      refine q_goi V (q_runS (As := [.ref (g (9 + 2 * 1)), .int x2, .int a8, .int a11]) (rest := []) (d := 1) (mc := 0) (ms := 0) C0 V rfl LS_jLat_95 (T_jLat_indexOfChar_1 l D g q ws  x2 a8 a11 hI  (by have t1 : x3.toInt ≤ a8.toInt ∧ 0 ≤ a8.toInt ∧ (a8.toInt = x3.toInt ∨ a8.toInt = 0) := b10; omega) (by have t1 : a11.toInt ≤ x4.toInt ∧ a11.toInt ≤ 17 ∧ (a11.toInt = x4.toInt ∨ a11.toInt = 17) := b13; omega) _) rfl hl.1 rfl (Nat.le_of_ble_eq_true rfl) ⟨by decide, by decide⟩ ⟨Nat.le_of_ble_eq_true rfl, Nat.le_of_ble_eq_true rfl⟩ d_33_22_33) (fun a18 u16 H locs hp17 V => ?_)
      obtain ⟨rfl, b19, b20⟩ := hp17
      replace b19 : q_F (0 ≤ a18.toInt + 1) := b19
      replace b20 : q_F (a18.toInt ≤ 16) := b20
      exact q_reti C0 V (⟨rfl, (show 0 ≤ a18.toInt + 1 from (by have t1 : 0 ≤ a18.toInt + 1 := b19; omega)), (show a18.toInt ≤ 16 from (by have t1 : a18.toInt ≤ 16 := b20; omega))⟩) d_33_22_36
    ·
      have b21 : q_F (a11.toInt ≤ a8.toInt) := (q_nltI c14)
      refine lv_iconst (v := (-1)) hx hb d_33_22_27 (by decide) ?_
      exact q_reti C0 V (⟨rfl, (show 0 ≤ (-1 : Int32).toInt + 1 from (by have z3 : (-1 : Int32).toInt = -1 := rfl; omega)), (show (-1 : Int32).toInt ≤ 16 from (by have z3 : (-1 : Int32).toInt = -1 := rfl; omega))⟩) d_33_22_28
  ·
    have b22 : q_F (a3.toInt = 0) := (q_eqI c6)
    refine lv_iconst (v := (-1)) hx hb d_33_22_7 (by decide) ?_
    exact q_reti C0 V (⟨rfl, (show 0 ≤ (-1 : Int32).toInt + 1 from (by have z3 : (-1 : Int32).toInt = -1 := rfl; omega)), (show (-1 : Int32).toInt ≤ 16 from (by have z3 : (-1 : Int32).toInt = -1 := rfl; omega))⟩) d_33_22_8
set_option maxRecDepth 100000 in
set_option maxHeartbeats 4000000 in
theorem T_jStr_indexOf_III_1 (l : Launch) (D : va_G) (g : Nat → ClassId) (q : Nat → Nat) (ws : va_W) (x2 : Int32) (x3 : Int32) (hI : q_I (nsh g q) q ws) (pre0 : 0 ≤ x3.toInt) : q_mI l y_jStr_indexOf_III prog_31_method_80_code 3 (.int) 3 0 0 D g [.ref (g (8 + 2 * 1)), .int x2, .int x3] ws (fun r u => ws = u ∧ (0 ≤ r.toInt + 1) ∧ (r.toInt ≤ 16)) := by
  intro sz
  refine q_into (by decide) (Nat.le_of_ble_eq_true rfl) ?_
  intro p e s m below meth c ls hsz C0 V hl
  have hx := C0.1
  have hb := C0.2.1
  replace pre0 : q_F (0 ≤ x3.toInt) := pre0
  have hl : lv_has ls 3 [(0, .ref (g (8 + 2 * 1))), (1, .int x2), (2, .int x3)] := hl
  refine lv_aload_n hx hb d_31_80_0 rfl (lv_at hl 0 rfl) ?_
  refine q_goi V (q_runVs (As := []) (rest := []) (d := 1) (mc := 0) (ms := 0) (i := 1) C0 V rfl LV_jStr_492 (T_jStr_isLatin1_1 l D g q ws   hI   _) rfl rfl rfl hl.1 rfl (Nat.le_of_ble_eq_true rfl) ⟨by decide, by decide⟩ ⟨Nat.le_of_ble_eq_true rfl, Nat.le_of_ble_eq_true rfl⟩ d_31_80_1) (fun a3 u1 H locs hp2 V => ?_)
  obtain ⟨rfl, b4, b5⟩ := hp2
  replace b4 : q_F (1 ≤ a3.toInt) := b4
  replace b5 : q_F (a3.toInt ≤ 1) := b5
  obtain rfl : a3 = (1 : Int32) := q_Ieq (x := a3.toInt) (y := 1) rfl (by decide) (by have t1 : 1 ≤ a3.toInt := b4; have t2 : a3.toInt ≤ 1 := b5; omega)
  refine lv_if_eq (tgt := 23) hx hb d_31_80_4 (by decide) (fun c6 => absurd c6 (by decide)) (fun c6 => ?_)
  refine lv_aload_n hx hb d_31_80_7 rfl (lv_at hl 0 rfl) ?_
  refine q_sval (i := 1) C0 V rfl rfl w_1018 d_31_80_8 ?_
  refine lv_iload_n hx hb d_31_80_11 rfl (lv_at hl 1 rfl) ?_
  refine lv_iload_n hx hb d_31_80_12 rfl (lv_at hl 2 rfl) ?_
  refine lv_aload_n hx hb d_31_80_13 rfl (lv_at hl 0 rfl) ?_
  refine q_goi V (q_runVs (As := []) (rest := [.int x3, .int x2, .ref (g (9 + 2 * 1))]) (d := 2) (mc := 0) (ms := 0) (i := 1) C0 V rfl LV_jStr_505 (T_jStr_length_1 l D g q ws   hI   _) rfl rfl rfl hl.1 rfl (Nat.le_of_ble_eq_true rfl) ⟨by decide, by decide⟩ ⟨Nat.le_of_ble_eq_true rfl, Nat.le_of_ble_eq_true rfl⟩ d_31_80_14) (fun a9 u7 H locs hp8 V => ?_)
  obtain ⟨rfl, b10, b11⟩ := hp8
  replace b10 : q_F (17 ≤ a9.toInt) := b10
  replace b11 : q_F (a9.toInt ≤ 17) := b11
  obtain rfl : a9 = (17 : Int32) := q_Ieq (x := a9.toInt) (y := 17) rfl (by decide) (by have t1 : 17 ≤ a9.toInt := b10; have t2 : a9.toInt ≤ 17 := b11; omega)
  refine q_goi V (q_runS (As := [.ref (g (9 + 2 * 1)), .int x2, .int x3, .int 17]) (rest := []) (d := 2) (mc := 0) (ms := 0) C0 V rfl LS_jStr_637 (T_jLat_indexOf_1 l D g q ws  x2 x3 17 hI  (by have y0 : (17 : Int32).toInt = 17 := rfl; have t1 : 0 ≤ x3.toInt := pre0; omega) (by have y0 : (17 : Int32).toInt = 17 := rfl; omega) _) rfl hl.1 rfl (Nat.le_of_ble_eq_true rfl) ⟨by decide, by decide⟩ ⟨Nat.le_of_ble_eq_true rfl, Nat.le_of_ble_eq_true rfl⟩ d_31_80_17) (fun a14 u12 H locs hp13 V => ?_)
  obtain ⟨rfl, b15, b16⟩ := hp13
  replace b15 : q_F (0 ≤ a14.toInt + 1) := b15
  replace b16 : q_F (a14.toInt ≤ 16) := b16
  refine lv_goto (tgt := 36) hx hb d_31_80_20 (by decide) ?_
  exact q_reti C0 V (⟨rfl, (show 0 ≤ a14.toInt + 1 from (by have t1 : 0 ≤ a14.toInt + 1 := b15; omega)), (show a14.toInt ≤ 16 from (by have t1 : a14.toInt ≤ 16 := b16; omega))⟩) d_31_80_36
set_option maxRecDepth 100000 in
set_option maxHeartbeats 4000000 in
theorem T_jStr_indexOf_II_1 (l : Launch) (D : va_G) (g : Nat → ClassId) (q : Nat → Nat) (ws : va_W) (x2 : Int32) (hI : q_I (nsh g q) q ws) : q_mI l y_jStr_indexOf_II prog_31_method_79_code 2 (.int) 4 0 0 D g [.ref (g (8 + 2 * 1)), .int x2] ws (fun r u => ws = u ∧ (0 ≤ r.toInt + 1) ∧ (r.toInt ≤ 16)) := by
  intro sz
  refine q_into (by decide) (Nat.le_of_ble_eq_true rfl) ?_
  intro p e s m below meth c ls hsz C0 V hl
  have hx := C0.1
  have hb := C0.2.1
  have hl : lv_has ls 2 [(0, .ref (g (8 + 2 * 1))), (1, .int x2)] := hl
  refine lv_aload_n hx hb d_31_79_0 rfl (lv_at hl 0 rfl) ?_
  refine lv_iload_n hx hb d_31_79_1 rfl (lv_at hl 1 rfl) ?_
  refine lv_iconst (v := 0) hx hb d_31_79_2 (by decide) ?_
  refine q_goi V (q_runVs (As := [.int x2, .int 0]) (rest := []) (d := 3) (mc := 0) (ms := 0) (i := 1) C0 V rfl LV_jStr_633 (T_jStr_indexOf_III_1 l D g q ws  x2 0 hI  (by have y0 : (0 : Int32).toInt = 0 := rfl; omega) _) rfl rfl rfl hl.1 rfl (Nat.le_of_ble_eq_true rfl) ⟨by decide, by decide⟩ ⟨Nat.le_of_ble_eq_true rfl, Nat.le_of_ble_eq_true rfl⟩ d_31_79_3) (fun a3 u1 H locs hp2 V => ?_)
  obtain ⟨rfl, b4, b5⟩ := hp2
  replace b4 : q_F (0 ≤ a3.toInt + 1) := b4
  replace b5 : q_F (a3.toInt ≤ 16) := b5
  exact q_reti C0 V (⟨rfl, (show 0 ≤ a3.toInt + 1 from (by have t1 : 0 ≤ a3.toInt + 1 := b4; omega)), (show a3.toInt ≤ 16 from (by have t1 : a3.toInt ≤ 16 := b5; omega))⟩) d_31_79_6
set_option maxRecDepth 100000 in
set_option maxHeartbeats 4000000 in
theorem T_jStr_coder_2 (l : Launch) (D : va_G) (g : Nat → ClassId) (q : Nat → Nat) (ws : va_W) (hI : q_I (nsh g q) q ws) : q_mI l y_jStr_coder prog_31_method_152_code 1 (.byte) 1 0 0 D g [.ref (g (8 + 2 * 2))] ws (fun r u => ws = u ∧ (0 ≤ r.toInt) ∧ (r.toInt ≤ 0)) := by
  intro sz
  refine q_into (by decide) (Nat.le_of_ble_eq_true rfl) ?_
  intro p e s m below meth c ls hsz C0 V hl
  have hx := C0.1
  have hb := C0.2.1
  have hl : lv_has ls 1 [(0, .ref (g (8 + 2 * 2)))] := hl
  refine q_scmp C0 V rfl w_663 d_31_152_0 ?_
  refine lv_if_eq (tgt := 13) hx hb d_31_152_3 (by decide) (fun c1 => absurd c1 (by decide)) (fun c1 => ?_)
  refine lv_aload_n hx hb d_31_152_6 rfl (lv_at hl 0 rfl) ?_
  refine q_scod (i := 2) C0 V rfl rfl w_1019 d_31_152_7 ?_
  refine lv_goto (tgt := 14) hx hb d_31_152_10 (by decide) ?_
  exact q_retn C0 V (rfl) (⟨rfl, (show 0 ≤ (0 : Int32).toInt from (by have z0 : (0 : Int32).toInt = 0 := rfl; omega)), (show (0 : Int32).toInt ≤ 0 from (by have z0 : (0 : Int32).toInt = 0 := rfl; omega))⟩) d_31_152_14
set_option maxRecDepth 100000 in
set_option maxHeartbeats 4000000 in
theorem T_jStr_length_2 (l : Launch) (D : va_G) (g : Nat → ClassId) (q : Nat → Nat) (ws : va_W) (hI : q_I (nsh g q) q ws) : q_mI l y_jStr_length prog_31_method_54_code 1 (.int) 2 0 0 D g [.ref (g (8 + 2 * 2))] ws (fun r u => ws = u ∧ (7 ≤ r.toInt) ∧ (r.toInt ≤ 7)) := by
  intro sz
  refine q_into (by decide) (Nat.le_of_ble_eq_true rfl) ?_
  intro p e s m below meth c ls hsz C0 V hl
  have hx := C0.1
  have hb := C0.2.1
  have hl : lv_has ls 1 [(0, .ref (g (8 + 2 * 2)))] := hl
  refine lv_aload_n hx hb d_31_54_0 rfl (lv_at hl 0 rfl) ?_
  refine q_sval (i := 2) C0 V rfl rfl w_1018 d_31_54_1 ?_
  refine q_slen (i := 2) (v := 7) C0 V rfl (by decide) d_31_54_4 ?_
  refine lv_aload_n hx hb d_31_54_5 rfl (lv_at hl 0 rfl) ?_
  refine q_goi V (q_runVs (As := []) (rest := [.int 7]) (d := 1) (mc := 0) (ms := 0) (i := 2) C0 V rfl LV_jStr_335 (T_jStr_coder_2 l D g q ws   hI   _) rfl rfl rfl hl.1 rfl (Nat.le_of_ble_eq_true rfl) ⟨by decide, by decide⟩ ⟨Nat.le_of_ble_eq_true rfl, Nat.le_of_ble_eq_true rfl⟩ d_31_54_6) (fun a3 u1 H locs hp2 V => ?_)
  obtain ⟨rfl, b4, b5⟩ := hp2
  replace b4 : q_F (0 ≤ a3.toInt) := b4
  replace b5 : q_F (a3.toInt ≤ 0) := b5
  obtain rfl : a3 = (0 : Int32) := q_Ieq (x := a3.toInt) (y := 0) rfl (by decide) (by have t1 : 0 ≤ a3.toInt := b4; have t2 : a3.toInt ≤ 0 := b5; omega)
  refine lv_ishr hx hb d_31_54_9 ?_
  refine q_ti (v := 7) (by decide) ?_
  exact q_reti C0 V (⟨rfl, (show 7 ≤ (7 : Int32).toInt from (by have z0 : (7 : Int32).toInt = 7 := rfl; omega)), (show (7 : Int32).toInt ≤ 7 from (by have z0 : (7 : Int32).toInt = 7 := rfl; omega))⟩) d_31_54_10
set_option maxRecDepth 100000 in
set_option maxHeartbeats 4000000 in
theorem T_jStr_isLatin1_2 (l : Launch) (D : va_G) (g : Nat → ClassId) (q : Nat → Nat) (ws : va_W) (hI : q_I (nsh g q) q ws) : q_mI l y_jStr_isLatin1 prog_31_method_154_code 1 (.boolean) 1 0 0 D g [.ref (g (8 + 2 * 2))] ws (fun r u => ws = u ∧ (1 ≤ r.toInt) ∧ (r.toInt ≤ 1)) := by
  intro sz
  refine q_into (by decide) (Nat.le_of_ble_eq_true rfl) ?_
  intro p e s m below meth c ls hsz C0 V hl
  have hx := C0.1
  have hb := C0.2.1
  have hl : lv_has ls 1 [(0, .ref (g (8 + 2 * 2)))] := hl
  refine q_scmp C0 V rfl w_663 d_31_154_0 ?_
  refine lv_if_eq (tgt := 17) hx hb d_31_154_3 (by decide) (fun c1 => absurd c1 (by decide)) (fun c1 => ?_)
  refine lv_aload_n hx hb d_31_154_6 rfl (lv_at hl 0 rfl) ?_
  refine q_scod (i := 2) C0 V rfl rfl w_1019 d_31_154_7 ?_
  refine lv_if_ne (tgt := 17) hx hb d_31_154_10 (by decide) (fun c2 => absurd (by decide) c2) (fun c2 => ?_)
  refine lv_iconst (v := 1) hx hb d_31_154_13 (by decide) ?_
  refine lv_goto (tgt := 18) hx hb d_31_154_14 (by decide) ?_
  exact q_retz C0 V (by decide) (⟨rfl, (show 1 ≤ (1 : Int32).toInt from (by have z0 : (1 : Int32).toInt = 1 := rfl; omega)), (show (1 : Int32).toInt ≤ 1 from (by have z0 : (1 : Int32).toInt = 1 := rfl; omega))⟩) d_31_154_18
set_option maxRecDepth 100000 in
set_option maxHeartbeats 4000000 in
theorem T_jLat_indexOfChar_2 (l : Launch) (D : va_G) (g : Nat → ClassId) (q : Nat → Nat) (ws : va_W) (x2 : Int32) (x3 : Int32) (x4 : Int32) (hI : q_I (nsh g q) q ws) (pre0 : 0 ≤ x3.toInt) (pre1 : x4.toInt ≤ 7) : q_mI l y_jLat_indexOfChar prog_33_method_23_code 6 (.int) 1 0 0 D g [.ref (g (9 + 2 * 2)), .int x2, .int x3, .int x4] ws (fun r u => ws = u ∧ (0 ≤ r.toInt + 1) ∧ (r.toInt ≤ 6)) := by
  intro sz
  refine q_into (by decide) (Nat.le_of_ble_eq_true rfl) ?_
  intro p e s m below meth c ls hsz C0 V hl
  have hx := C0.1
  have hb := C0.2.1
  replace pre0 : q_F (0 ≤ x3.toInt) := pre0
  replace pre1 : q_F (x4.toInt ≤ 7) := pre1
  have hl : lv_has ls 6 [(0, .ref (g (9 + 2 * 2))), (1, .int x2), (2, .int x3), (3, .int x4)] := hl
  refine lv_iload_n hx hb d_33_23_0 rfl (lv_at hl 1 rfl) ?_
  refine lv_i2b hx hb d_33_23_1 rfl ?_
  obtain ⟨a1, e2⟩ := q_nm (x2.toInt8.toInt32 : Int32)
  refine q_ti (v := a1) e2 ?_
  refine lv_istore (lv' := [(4, .int a1), (0, .ref (g (9 + 2 * 2))), (1, .int x2), (2, .int x3), (3, .int x4)]) hx hb d_33_23_2 hl (by decide) rfl (fun ls hl => ?_)
  refine lv_iload_n hx hb d_33_23_4 rfl (lv_at hl 3 rfl) ?_
  refine lv_istore (lv' := [(5, .int x3), (4, .int a1), (0, .ref (g (9 + 2 * 2))), (1, .int x2), (2, .int x3), (3, .int x4)]) hx hb d_33_23_5 hl (by decide) rfl (fun ls hl => ?_)
  refine q_loop (X := Int32) (fun z H locs ls _ => q_F (x3.toInt ≤ z.toInt) ∧ q_Wd D g (va_A ws sz) s ws H locs ∧ lv_has ls 6 [(5, .int z), (4, .int a1), (0, .ref (g (9 + 2 * 2))), (3, .int x4)]) (fun z => (7 - z.toInt).toNat) ?_ ((x3 : Int32)) _ _ _ ws ⟨(show q_F (x3.toInt ≤ x3.toInt) from (show x3.toInt ≤ x3.toInt from by omega)), V, q_lw hl (q_lw1 0 rfl (q_lw1 1 rfl (q_lw1 2 rfl (q_lw1 5 rfl q_lw0))))⟩
  rintro lx4 H locs ls _ ⟨i5, V, hl⟩ ih6
  replace i5 : q_F (x3.toInt ≤ lx4.toInt) := i5
  replace hl : lv_has ls 6 [(5, .int lx4), (4, .int a1), (0, .ref (g (9 + 2 * 2))), (3, .int x4)] := hl
  refine lv_iload hx hb d_33_23_7 (lv_at hl 0 rfl) ?_
  refine lv_iload_n hx hb d_33_23_9 rfl (lv_at hl 3 rfl) ?_
  refine lv_icmp_ge (tgt := 31) hx hb d_33_23_10 (by decide) (fun c7 => ?_) (fun c7 => ?_)
  ·
    have b8 : q_F (x4.toInt ≤ lx4.toInt) := (q_leI c7)
    refine lv_iconst (v := (-1)) hx hb d_33_23_31 (by decide) ?_
    exact q_reti C0 V (⟨rfl, (show 0 ≤ (-1 : Int32).toInt + 1 from (by have z3 : (-1 : Int32).toInt = -1 := rfl; omega)), (show (-1 : Int32).toInt ≤ 6 from (by have z3 : (-1 : Int32).toInt = -1 := rfl; omega))⟩) d_33_23_32
  ·
    have b9 : q_F (lx4.toInt < x4.toInt) := (q_nleI c7)
    refine lv_aload_n hx hb d_33_23_13 rfl (lv_at hl 2 rfl) ?_
    refine lv_iload hx hb d_33_23_14 (lv_at hl 0 rfl) ?_
    refine q_sbal (i := 2) (v := (([99, 67, 100, 111, 120, 88, 37] : List Int32).getD lx4.toNatClampNeg 0)) C0 V rfl (show vp_in lx4 7 from q_ix (x := lx4.toInt) rfl (by have t1 : 0 ≤ x3.toInt := pre0; have t2 : x3.toInt ≤ lx4.toInt := i5; omega) (by have t1 : 0 ≤ x3.toInt := pre0; have t2 : x3.toInt ≤ lx4.toInt := i5; have t3 : x4.toInt ≤ 7 := pre1; have t4 : lx4.toInt < x4.toInt := b9; omega)) rfl d_33_23_16 ?_
    obtain ⟨a10, e11⟩ := q_nm ((([99, 67, 100, 111, 120, 88, 37] : List Int32).getD lx4.toNatClampNeg 0) : Int32)
    refine q_ti (v := a10) e11 ?_
    refine lv_iload hx hb d_33_23_17 (lv_at hl 1 rfl) ?_
    refine lv_icmp_ne (tgt := 25) hx hb d_33_23_19 (by decide) (fun c12 => ?_) (fun c12 => ?_)
    ·
      have b13 : q_F (a10.toInt ≠ a1.toInt) := (q_neI c12)
      obtain ⟨a14, e15⟩ := q_nm (lx4 + 1 : Int32)
      have b16 : q_F (a14.toInt = lx4.toInt + 1) := (by rw [← e15]; exact q_addI (y := 1) rfl (by decide) (by have _ := q_lo32 (x := lx4); have _ := q_hi32 (x := lx4); have t1 : lx4.toInt < x4.toInt := b9; have _ := q_lo32 (x := x4); have _ := q_hi32 (x := x4); omega) (by have _ := q_lo32 (x := lx4); have _ := q_hi32 (x := lx4); have t1 : lx4.toInt < x4.toInt := b9; have _ := q_lo32 (x := x4); have _ := q_hi32 (x := x4); omega))
      refine lv_iinc (v := a14) (lv' := [(5, .int a14), (4, .int a1), (0, .ref (g (9 + 2 * 2))), (3, .int x4)]) hx hb d_33_23_25 hl (k := 0) rfl (e15) (by decide) rfl (fun ls hl => ?_)
      refine lv_goto (tgt := 7) hx hb d_33_23_28 (by decide) ?_
      exact ih6 ((a14 : Int32)) _ _ _ ws (show (7 - a14.toInt).toNat < (7 - lx4.toInt).toNat from by have t1 : a14.toInt = lx4.toInt + 1 := b16; have t2 : x4.toInt ≤ 7 := pre1; have t3 : lx4.toInt < x4.toInt := b9; omega) ⟨(show q_F (x3.toInt ≤ a14.toInt) from (show x3.toInt ≤ a14.toInt from by have t1 : x3.toInt ≤ lx4.toInt := i5; have t2 : a14.toInt = lx4.toInt + 1 := b16; omega)), V, q_lw hl (q_lw1 0 rfl (q_lw1 1 rfl (q_lw1 2 rfl (q_lw1 3 rfl q_lw0))))⟩
    ·
      have b17 : q_F (a10.toInt = a1.toInt) := (q_eqI c12)
      refine lv_iload hx hb d_33_23_22 (lv_at hl 0 rfl) ?_
      exact q_reti C0 V (⟨rfl, (show 0 ≤ lx4.toInt + 1 from (by have t1 : 0 ≤ x3.toInt := pre0; have t2 : x3.toInt ≤ lx4.toInt := i5; omega)), (show lx4.toInt ≤ 6 from (by have t1 : x4.toInt ≤ 7 := pre1; have t2 : lx4.toInt < x4.toInt := b9; omega))⟩) d_33_23_24
set_option maxRecDepth 100000 in
set_option maxHeartbeats 4000000 in
theorem T_jLat_indexOf_2 (l : Launch) (D : va_G) (g : Nat → ClassId) (q : Nat → Nat) (ws : va_W) (x2 : Int32) (x3 : Int32) (x4 : Int32) (hI : q_I (nsh g q) q ws) (pre0 : 0 ≤ x3.toInt) (pre1 : x4.toInt ≤ 7) : q_mI l y_jLat_indexOf prog_33_method_22_code 4 (.int) 2 0 0 D g [.ref (g (9 + 2 * 2)), .int x2, .int x3, .int x4] ws (fun r u => ws = u ∧ (0 ≤ r.toInt + 1) ∧ (r.toInt ≤ 6)) := by
  intro sz
  refine q_into (by decide) (Nat.le_of_ble_eq_true rfl) ?_
  intro p e s m below meth c ls hsz C0 V hl
  have hx := C0.1
  have hb := C0.2.1
  replace pre0 : q_F (0 ≤ x3.toInt) := pre0
  replace pre1 : q_F (x4.toInt ≤ 7) := pre1
  have hl : lv_has ls 4 [(0, .ref (g (9 + 2 * 2))), (1, .int x2), (2, .int x3), (3, .int x4)] := hl
  refine lv_iload_n hx hb d_33_22_0 rfl (lv_at hl 1 rfl) ?_
  refine q_goi V (q_runS (As := [.int x2]) (rest := []) (d := 1) (mc := 0) (ms := 0) C0 V rfl LS_jLat_88 (T_jLat_canEncode l D g q ws  x2 hI   _) rfl hl.1 rfl (Nat.le_of_ble_eq_true rfl) ⟨by decide, by decide⟩ ⟨Nat.le_of_ble_eq_true rfl, Nat.le_of_ble_eq_true rfl⟩ d_33_22_1) (fun a3 u1 H locs hp2 V => ?_)
  obtain ⟨rfl, b4, b5⟩ := hp2
  replace b4 : q_F (0 ≤ a3.toInt) := b4
  replace b5 : q_F (a3.toInt ≤ 1) := b5
  refine lv_if_ne (tgt := 9) hx hb d_33_22_4 (by decide) (fun c6 => ?_) (fun c6 => ?_)
  ·
    have b7 : q_F (a3.toInt ≠ 0) := (q_neI c6)
    refine lv_iload_n hx hb d_33_22_9 rfl (lv_at hl 2 rfl) ?_
    refine lv_iconst (v := 0) hx hb d_33_22_10 (by decide) ?_
    refine q_max C0 hl.1 rfl w_1773 w_803 w_7 w_804 ⟨Nat.le_of_ble_eq_true rfl, Nat.le_of_ble_eq_true rfl⟩ ⟨Nat.le_of_ble_eq_true rfl, Nat.le_of_ble_eq_true rfl⟩ d_33_22_11 ?_
    obtain ⟨a8, e9⟩ := q_nm (if x3 < 0 then 0 else x3 : Int32)
    refine q_ti (v := a8) e9 ?_
    have b10 : q_F (x3.toInt ≤ a8.toInt ∧ 0 ≤ a8.toInt ∧ (a8.toInt = x3.toInt ∨ a8.toInt = 0)) := (by rw [← e9]; show x3.toInt ≤ (if x3 < 0 then 0 else x3 : Int32).toInt ∧ 0 ≤ (if x3 < 0 then 0 else x3 : Int32).toInt ∧ ((if x3 < 0 then 0 else x3 : Int32).toInt = x3.toInt ∨ (if x3 < 0 then 0 else x3 : Int32).toInt = 0); exact (by have y1 : (0 : Int32).toInt = 0 := rfl; have z := s_max (a := x3) (b := 0); omega))
    refine lv_istore_n (lv' := [(2, .int a8), (0, .ref (g (9 + 2 * 2))), (1, .int x2), (3, .int x4)]) hx hb d_33_22_14 rfl hl (by decide) rfl (fun ls hl => ?_)
    refine lv_iload_n hx hb d_33_22_15 rfl (lv_at hl 3 rfl) ?_
    refine lv_aload_n hx hb d_33_22_16 rfl (lv_at hl 1 rfl) ?_
    refine q_slen (i := 2) (v := 7) C0 V rfl (by decide) d_33_22_17 ?_
    refine q_min C0 hl.1 rfl w_1774 w_774 w_7 w_775 ⟨Nat.le_of_ble_eq_true rfl, Nat.le_of_ble_eq_true rfl⟩ ⟨Nat.le_of_ble_eq_true rfl, Nat.le_of_ble_eq_true rfl⟩ d_33_22_18 ?_
    obtain ⟨a11, e12⟩ := q_nm (if 7 < x4 then 7 else x4 : Int32)
    refine q_ti (v := a11) e12 ?_
    have b13 : q_F (a11.toInt ≤ x4.toInt ∧ a11.toInt ≤ 7 ∧ (a11.toInt = x4.toInt ∨ a11.toInt = 7)) := (by rw [← e12]; show (if 7 < x4 then 7 else x4 : Int32).toInt ≤ x4.toInt ∧ (if 7 < x4 then 7 else x4 : Int32).toInt ≤ 7 ∧ ((if 7 < x4 then 7 else x4 : Int32).toInt = x4.toInt ∨ (if 7 < x4 then 7 else x4 : Int32).toInt = 7); exact (by have y1 : (7 : Int32).toInt = 7 := rfl; have z := s_min (a := x4) (b := 7); omega))
    refine lv_istore_n (lv' := [(3, .int a11), (2, .int a8), (0, .ref (g (9 + 2 * 2))), (1, .int x2)]) hx hb d_33_22_21 rfl hl (by decide) rfl (fun ls hl => ?_)
    refine lv_iload_n hx hb d_33_22_22 rfl (lv_at hl 1 rfl) ?_
    refine lv_iload_n hx hb d_33_22_23 rfl (lv_at hl 0 rfl) ?_
    refine lv_icmp_lt (tgt := 29) hx hb d_33_22_24 (by decide) (fun c14 => ?_) (fun c14 => ?_)
    ·
      have b15 : q_F (a8.toInt < a11.toInt) := (q_ltI c14)
      refine lv_aload_n hx hb d_33_22_29 rfl (lv_at hl 2 rfl) ?_
      refine lv_iload_n hx hb d_33_22_30 rfl (lv_at hl 3 rfl) ?_
      refine lv_iload_n hx hb d_33_22_31 rfl (lv_at hl 1 rfl) ?_
      refine lv_iload_n hx hb d_33_22_32 rfl (lv_at hl 0 rfl) ?_
      refine q_goi V (q_runS (As := [.ref (g (9 + 2 * 2)), .int x2, .int a8, .int a11]) (rest := []) (d := 1) (mc := 0) (ms := 0) C0 V rfl LS_jLat_95 (T_jLat_indexOfChar_2 l D g q ws  x2 a8 a11 hI  (by have t1 : x3.toInt ≤ a8.toInt ∧ 0 ≤ a8.toInt ∧ (a8.toInt = x3.toInt ∨ a8.toInt = 0) := b10; omega) (by have t1 : a11.toInt ≤ x4.toInt ∧ a11.toInt ≤ 7 ∧ (a11.toInt = x4.toInt ∨ a11.toInt = 7) := b13; omega) _) rfl hl.1 rfl (Nat.le_of_ble_eq_true rfl) ⟨by decide, by decide⟩ ⟨Nat.le_of_ble_eq_true rfl, Nat.le_of_ble_eq_true rfl⟩ d_33_22_33) (fun a18 u16 H locs hp17 V => ?_)
      obtain ⟨rfl, b19, b20⟩ := hp17
      replace b19 : q_F (0 ≤ a18.toInt + 1) := b19
      replace b20 : q_F (a18.toInt ≤ 6) := b20
      exact q_reti C0 V (⟨rfl, (show 0 ≤ a18.toInt + 1 from (by have t1 : 0 ≤ a18.toInt + 1 := b19; omega)), (show a18.toInt ≤ 6 from (by have t1 : a18.toInt ≤ 6 := b20; omega))⟩) d_33_22_36
    ·
      have b21 : q_F (a11.toInt ≤ a8.toInt) := (q_nltI c14)
      refine lv_iconst (v := (-1)) hx hb d_33_22_27 (by decide) ?_
      exact q_reti C0 V (⟨rfl, (show 0 ≤ (-1 : Int32).toInt + 1 from (by have z3 : (-1 : Int32).toInt = -1 := rfl; omega)), (show (-1 : Int32).toInt ≤ 6 from (by have z3 : (-1 : Int32).toInt = -1 := rfl; omega))⟩) d_33_22_28
  ·
    have b22 : q_F (a3.toInt = 0) := (q_eqI c6)
    refine lv_iconst (v := (-1)) hx hb d_33_22_7 (by decide) ?_
    exact q_reti C0 V (⟨rfl, (show 0 ≤ (-1 : Int32).toInt + 1 from (by have z3 : (-1 : Int32).toInt = -1 := rfl; omega)), (show (-1 : Int32).toInt ≤ 6 from (by have z3 : (-1 : Int32).toInt = -1 := rfl; omega))⟩) d_33_22_8
set_option maxRecDepth 100000 in
set_option maxHeartbeats 4000000 in
theorem T_jStr_indexOf_III_2 (l : Launch) (D : va_G) (g : Nat → ClassId) (q : Nat → Nat) (ws : va_W) (x2 : Int32) (x3 : Int32) (hI : q_I (nsh g q) q ws) (pre0 : 0 ≤ x3.toInt) : q_mI l y_jStr_indexOf_III prog_31_method_80_code 3 (.int) 3 0 0 D g [.ref (g (8 + 2 * 2)), .int x2, .int x3] ws (fun r u => ws = u ∧ (0 ≤ r.toInt + 1) ∧ (r.toInt ≤ 6)) := by
  intro sz
  refine q_into (by decide) (Nat.le_of_ble_eq_true rfl) ?_
  intro p e s m below meth c ls hsz C0 V hl
  have hx := C0.1
  have hb := C0.2.1
  replace pre0 : q_F (0 ≤ x3.toInt) := pre0
  have hl : lv_has ls 3 [(0, .ref (g (8 + 2 * 2))), (1, .int x2), (2, .int x3)] := hl
  refine lv_aload_n hx hb d_31_80_0 rfl (lv_at hl 0 rfl) ?_
  refine q_goi V (q_runVs (As := []) (rest := []) (d := 1) (mc := 0) (ms := 0) (i := 2) C0 V rfl LV_jStr_492 (T_jStr_isLatin1_2 l D g q ws   hI   _) rfl rfl rfl hl.1 rfl (Nat.le_of_ble_eq_true rfl) ⟨by decide, by decide⟩ ⟨Nat.le_of_ble_eq_true rfl, Nat.le_of_ble_eq_true rfl⟩ d_31_80_1) (fun a3 u1 H locs hp2 V => ?_)
  obtain ⟨rfl, b4, b5⟩ := hp2
  replace b4 : q_F (1 ≤ a3.toInt) := b4
  replace b5 : q_F (a3.toInt ≤ 1) := b5
  obtain rfl : a3 = (1 : Int32) := q_Ieq (x := a3.toInt) (y := 1) rfl (by decide) (by have t1 : 1 ≤ a3.toInt := b4; have t2 : a3.toInt ≤ 1 := b5; omega)
  refine lv_if_eq (tgt := 23) hx hb d_31_80_4 (by decide) (fun c6 => absurd c6 (by decide)) (fun c6 => ?_)
  refine lv_aload_n hx hb d_31_80_7 rfl (lv_at hl 0 rfl) ?_
  refine q_sval (i := 2) C0 V rfl rfl w_1018 d_31_80_8 ?_
  refine lv_iload_n hx hb d_31_80_11 rfl (lv_at hl 1 rfl) ?_
  refine lv_iload_n hx hb d_31_80_12 rfl (lv_at hl 2 rfl) ?_
  refine lv_aload_n hx hb d_31_80_13 rfl (lv_at hl 0 rfl) ?_
  refine q_goi V (q_runVs (As := []) (rest := [.int x3, .int x2, .ref (g (9 + 2 * 2))]) (d := 2) (mc := 0) (ms := 0) (i := 2) C0 V rfl LV_jStr_505 (T_jStr_length_2 l D g q ws   hI   _) rfl rfl rfl hl.1 rfl (Nat.le_of_ble_eq_true rfl) ⟨by decide, by decide⟩ ⟨Nat.le_of_ble_eq_true rfl, Nat.le_of_ble_eq_true rfl⟩ d_31_80_14) (fun a9 u7 H locs hp8 V => ?_)
  obtain ⟨rfl, b10, b11⟩ := hp8
  replace b10 : q_F (7 ≤ a9.toInt) := b10
  replace b11 : q_F (a9.toInt ≤ 7) := b11
  obtain rfl : a9 = (7 : Int32) := q_Ieq (x := a9.toInt) (y := 7) rfl (by decide) (by have t1 : 7 ≤ a9.toInt := b10; have t2 : a9.toInt ≤ 7 := b11; omega)
  refine q_goi V (q_runS (As := [.ref (g (9 + 2 * 2)), .int x2, .int x3, .int 7]) (rest := []) (d := 2) (mc := 0) (ms := 0) C0 V rfl LS_jStr_637 (T_jLat_indexOf_2 l D g q ws  x2 x3 7 hI  (by have y0 : (7 : Int32).toInt = 7 := rfl; have t1 : 0 ≤ x3.toInt := pre0; omega) (by have y0 : (7 : Int32).toInt = 7 := rfl; omega) _) rfl hl.1 rfl (Nat.le_of_ble_eq_true rfl) ⟨by decide, by decide⟩ ⟨Nat.le_of_ble_eq_true rfl, Nat.le_of_ble_eq_true rfl⟩ d_31_80_17) (fun a14 u12 H locs hp13 V => ?_)
  obtain ⟨rfl, b15, b16⟩ := hp13
  replace b15 : q_F (0 ≤ a14.toInt + 1) := b15
  replace b16 : q_F (a14.toInt ≤ 6) := b16
  refine lv_goto (tgt := 36) hx hb d_31_80_20 (by decide) ?_
  exact q_reti C0 V (⟨rfl, (show 0 ≤ a14.toInt + 1 from (by have t1 : 0 ≤ a14.toInt + 1 := b15; omega)), (show a14.toInt ≤ 6 from (by have t1 : a14.toInt ≤ 6 := b16; omega))⟩) d_31_80_36
set_option maxRecDepth 100000 in
set_option maxHeartbeats 4000000 in
theorem T_jStr_indexOf_II_2 (l : Launch) (D : va_G) (g : Nat → ClassId) (q : Nat → Nat) (ws : va_W) (x2 : Int32) (hI : q_I (nsh g q) q ws) : q_mI l y_jStr_indexOf_II prog_31_method_79_code 2 (.int) 4 0 0 D g [.ref (g (8 + 2 * 2)), .int x2] ws (fun r u => ws = u ∧ (0 ≤ r.toInt + 1) ∧ (r.toInt ≤ 6)) := by
  intro sz
  refine q_into (by decide) (Nat.le_of_ble_eq_true rfl) ?_
  intro p e s m below meth c ls hsz C0 V hl
  have hx := C0.1
  have hb := C0.2.1
  have hl : lv_has ls 2 [(0, .ref (g (8 + 2 * 2))), (1, .int x2)] := hl
  refine lv_aload_n hx hb d_31_79_0 rfl (lv_at hl 0 rfl) ?_
  refine lv_iload_n hx hb d_31_79_1 rfl (lv_at hl 1 rfl) ?_
  refine lv_iconst (v := 0) hx hb d_31_79_2 (by decide) ?_
  refine q_goi V (q_runVs (As := [.int x2, .int 0]) (rest := []) (d := 3) (mc := 0) (ms := 0) (i := 2) C0 V rfl LV_jStr_633 (T_jStr_indexOf_III_2 l D g q ws  x2 0 hI  (by have y0 : (0 : Int32).toInt = 0 := rfl; omega) _) rfl rfl rfl hl.1 rfl (Nat.le_of_ble_eq_true rfl) ⟨by decide, by decide⟩ ⟨Nat.le_of_ble_eq_true rfl, Nat.le_of_ble_eq_true rfl⟩ d_31_79_3) (fun a3 u1 H locs hp2 V => ?_)
  obtain ⟨rfl, b4, b5⟩ := hp2
  replace b4 : q_F (0 ≤ a3.toInt + 1) := b4
  replace b5 : q_F (a3.toInt ≤ 6) := b5
  exact q_reti C0 V (⟨rfl, (show 0 ≤ a3.toInt + 1 from (by have t1 : 0 ≤ a3.toInt + 1 := b4; omega)), (show a3.toInt ≤ 6 from (by have t1 : a3.toInt ≤ 6 := b5; omega))⟩) d_31_79_6
set_option maxRecDepth 100000 in
set_option maxHeartbeats 4000000 in
theorem T_jStr_coder_3 (l : Launch) (D : va_G) (g : Nat → ClassId) (q : Nat → Nat) (ws : va_W) (hI : q_I (nsh g q) q ws) : q_mI l y_jStr_coder prog_31_method_152_code 1 (.byte) 1 0 0 D g [.ref (g (8 + 2 * 3))] ws (fun r u => ws = u ∧ (0 ≤ r.toInt) ∧ (r.toInt ≤ 0)) := by
  intro sz
  refine q_into (by decide) (Nat.le_of_ble_eq_true rfl) ?_
  intro p e s m below meth c ls hsz C0 V hl
  have hx := C0.1
  have hb := C0.2.1
  have hl : lv_has ls 1 [(0, .ref (g (8 + 2 * 3)))] := hl
  refine q_scmp C0 V rfl w_663 d_31_152_0 ?_
  refine lv_if_eq (tgt := 13) hx hb d_31_152_3 (by decide) (fun c1 => absurd c1 (by decide)) (fun c1 => ?_)
  refine lv_aload_n hx hb d_31_152_6 rfl (lv_at hl 0 rfl) ?_
  refine q_scod (i := 3) C0 V rfl rfl w_1019 d_31_152_7 ?_
  refine lv_goto (tgt := 14) hx hb d_31_152_10 (by decide) ?_
  exact q_retn C0 V (rfl) (⟨rfl, (show 0 ≤ (0 : Int32).toInt from (by have z0 : (0 : Int32).toInt = 0 := rfl; omega)), (show (0 : Int32).toInt ≤ 0 from (by have z0 : (0 : Int32).toInt = 0 := rfl; omega))⟩) d_31_152_14
set_option maxRecDepth 100000 in
set_option maxHeartbeats 4000000 in
theorem T_jStr_length_3 (l : Launch) (D : va_G) (g : Nat → ClassId) (q : Nat → Nat) (ws : va_W) (hI : q_I (nsh g q) q ws) : q_mI l y_jStr_length prog_31_method_54_code 1 (.int) 2 0 0 D g [.ref (g (8 + 2 * 3))] ws (fun r u => ws = u ∧ (7 ≤ r.toInt) ∧ (r.toInt ≤ 7)) := by
  intro sz
  refine q_into (by decide) (Nat.le_of_ble_eq_true rfl) ?_
  intro p e s m below meth c ls hsz C0 V hl
  have hx := C0.1
  have hb := C0.2.1
  have hl : lv_has ls 1 [(0, .ref (g (8 + 2 * 3)))] := hl
  refine lv_aload_n hx hb d_31_54_0 rfl (lv_at hl 0 rfl) ?_
  refine q_sval (i := 3) C0 V rfl rfl w_1018 d_31_54_1 ?_
  refine q_slen (i := 3) (v := 7) C0 V rfl (by decide) d_31_54_4 ?_
  refine lv_aload_n hx hb d_31_54_5 rfl (lv_at hl 0 rfl) ?_
  refine q_goi V (q_runVs (As := []) (rest := [.int 7]) (d := 1) (mc := 0) (ms := 0) (i := 3) C0 V rfl LV_jStr_335 (T_jStr_coder_3 l D g q ws   hI   _) rfl rfl rfl hl.1 rfl (Nat.le_of_ble_eq_true rfl) ⟨by decide, by decide⟩ ⟨Nat.le_of_ble_eq_true rfl, Nat.le_of_ble_eq_true rfl⟩ d_31_54_6) (fun a3 u1 H locs hp2 V => ?_)
  obtain ⟨rfl, b4, b5⟩ := hp2
  replace b4 : q_F (0 ≤ a3.toInt) := b4
  replace b5 : q_F (a3.toInt ≤ 0) := b5
  obtain rfl : a3 = (0 : Int32) := q_Ieq (x := a3.toInt) (y := 0) rfl (by decide) (by have t1 : 0 ≤ a3.toInt := b4; have t2 : a3.toInt ≤ 0 := b5; omega)
  refine lv_ishr hx hb d_31_54_9 ?_
  refine q_ti (v := 7) (by decide) ?_
  exact q_reti C0 V (⟨rfl, (show 7 ≤ (7 : Int32).toInt from (by have z0 : (7 : Int32).toInt = 7 := rfl; omega)), (show (7 : Int32).toInt ≤ 7 from (by have z0 : (7 : Int32).toInt = 7 := rfl; omega))⟩) d_31_54_10
set_option maxRecDepth 100000 in
set_option maxHeartbeats 4000000 in
theorem T_jStr_isLatin1_3 (l : Launch) (D : va_G) (g : Nat → ClassId) (q : Nat → Nat) (ws : va_W) (hI : q_I (nsh g q) q ws) : q_mI l y_jStr_isLatin1 prog_31_method_154_code 1 (.boolean) 1 0 0 D g [.ref (g (8 + 2 * 3))] ws (fun r u => ws = u ∧ (1 ≤ r.toInt) ∧ (r.toInt ≤ 1)) := by
  intro sz
  refine q_into (by decide) (Nat.le_of_ble_eq_true rfl) ?_
  intro p e s m below meth c ls hsz C0 V hl
  have hx := C0.1
  have hb := C0.2.1
  have hl : lv_has ls 1 [(0, .ref (g (8 + 2 * 3)))] := hl
  refine q_scmp C0 V rfl w_663 d_31_154_0 ?_
  refine lv_if_eq (tgt := 17) hx hb d_31_154_3 (by decide) (fun c1 => absurd c1 (by decide)) (fun c1 => ?_)
  refine lv_aload_n hx hb d_31_154_6 rfl (lv_at hl 0 rfl) ?_
  refine q_scod (i := 3) C0 V rfl rfl w_1019 d_31_154_7 ?_
  refine lv_if_ne (tgt := 17) hx hb d_31_154_10 (by decide) (fun c2 => absurd (by decide) c2) (fun c2 => ?_)
  refine lv_iconst (v := 1) hx hb d_31_154_13 (by decide) ?_
  refine lv_goto (tgt := 18) hx hb d_31_154_14 (by decide) ?_
  exact q_retz C0 V (by decide) (⟨rfl, (show 1 ≤ (1 : Int32).toInt from (by have z0 : (1 : Int32).toInt = 1 := rfl; omega)), (show (1 : Int32).toInt ≤ 1 from (by have z0 : (1 : Int32).toInt = 1 := rfl; omega))⟩) d_31_154_18
set_option maxRecDepth 100000 in
set_option maxHeartbeats 4000000 in
theorem T_jLat_indexOfChar_3 (l : Launch) (D : va_G) (g : Nat → ClassId) (q : Nat → Nat) (ws : va_W) (x2 : Int32) (x3 : Int32) (x4 : Int32) (hI : q_I (nsh g q) q ws) (pre0 : 0 ≤ x3.toInt) (pre1 : x4.toInt ≤ 7) : q_mI l y_jLat_indexOfChar prog_33_method_23_code 6 (.int) 1 0 0 D g [.ref (g (9 + 2 * 3)), .int x2, .int x3, .int x4] ws (fun r u => ws = u ∧ (0 ≤ r.toInt + 1) ∧ (r.toInt ≤ 6)) := by
  intro sz
  refine q_into (by decide) (Nat.le_of_ble_eq_true rfl) ?_
  intro p e s m below meth c ls hsz C0 V hl
  have hx := C0.1
  have hb := C0.2.1
  replace pre0 : q_F (0 ≤ x3.toInt) := pre0
  replace pre1 : q_F (x4.toInt ≤ 7) := pre1
  have hl : lv_has ls 6 [(0, .ref (g (9 + 2 * 3))), (1, .int x2), (2, .int x3), (3, .int x4)] := hl
  refine lv_iload_n hx hb d_33_23_0 rfl (lv_at hl 1 rfl) ?_
  refine lv_i2b hx hb d_33_23_1 rfl ?_
  obtain ⟨a1, e2⟩ := q_nm (x2.toInt8.toInt32 : Int32)
  refine q_ti (v := a1) e2 ?_
  refine lv_istore (lv' := [(4, .int a1), (0, .ref (g (9 + 2 * 3))), (1, .int x2), (2, .int x3), (3, .int x4)]) hx hb d_33_23_2 hl (by decide) rfl (fun ls hl => ?_)
  refine lv_iload_n hx hb d_33_23_4 rfl (lv_at hl 3 rfl) ?_
  refine lv_istore (lv' := [(5, .int x3), (4, .int a1), (0, .ref (g (9 + 2 * 3))), (1, .int x2), (2, .int x3), (3, .int x4)]) hx hb d_33_23_5 hl (by decide) rfl (fun ls hl => ?_)
  refine q_loop (X := Int32) (fun z H locs ls _ => q_F (x3.toInt ≤ z.toInt) ∧ q_Wd D g (va_A ws sz) s ws H locs ∧ lv_has ls 6 [(5, .int z), (4, .int a1), (0, .ref (g (9 + 2 * 3))), (3, .int x4)]) (fun z => (7 - z.toInt).toNat) ?_ ((x3 : Int32)) _ _ _ ws ⟨(show q_F (x3.toInt ≤ x3.toInt) from (show x3.toInt ≤ x3.toInt from by omega)), V, q_lw hl (q_lw1 0 rfl (q_lw1 1 rfl (q_lw1 2 rfl (q_lw1 5 rfl q_lw0))))⟩
  rintro lx4 H locs ls _ ⟨i5, V, hl⟩ ih6
  replace i5 : q_F (x3.toInt ≤ lx4.toInt) := i5
  replace hl : lv_has ls 6 [(5, .int lx4), (4, .int a1), (0, .ref (g (9 + 2 * 3))), (3, .int x4)] := hl
  refine lv_iload hx hb d_33_23_7 (lv_at hl 0 rfl) ?_
  refine lv_iload_n hx hb d_33_23_9 rfl (lv_at hl 3 rfl) ?_
  refine lv_icmp_ge (tgt := 31) hx hb d_33_23_10 (by decide) (fun c7 => ?_) (fun c7 => ?_)
  ·
    have b8 : q_F (x4.toInt ≤ lx4.toInt) := (q_leI c7)
    refine lv_iconst (v := (-1)) hx hb d_33_23_31 (by decide) ?_
    exact q_reti C0 V (⟨rfl, (show 0 ≤ (-1 : Int32).toInt + 1 from (by have z3 : (-1 : Int32).toInt = -1 := rfl; omega)), (show (-1 : Int32).toInt ≤ 6 from (by have z3 : (-1 : Int32).toInt = -1 := rfl; omega))⟩) d_33_23_32
  ·
    have b9 : q_F (lx4.toInt < x4.toInt) := (q_nleI c7)
    refine lv_aload_n hx hb d_33_23_13 rfl (lv_at hl 2 rfl) ?_
    refine lv_iload hx hb d_33_23_14 (lv_at hl 0 rfl) ?_
    refine q_sbal (i := 3) (v := (([98, 66, 115, 83, 99, 67, 37] : List Int32).getD lx4.toNatClampNeg 0)) C0 V rfl (show vp_in lx4 7 from q_ix (x := lx4.toInt) rfl (by have t1 : 0 ≤ x3.toInt := pre0; have t2 : x3.toInt ≤ lx4.toInt := i5; omega) (by have t1 : 0 ≤ x3.toInt := pre0; have t2 : x3.toInt ≤ lx4.toInt := i5; have t3 : x4.toInt ≤ 7 := pre1; have t4 : lx4.toInt < x4.toInt := b9; omega)) rfl d_33_23_16 ?_
    obtain ⟨a10, e11⟩ := q_nm ((([98, 66, 115, 83, 99, 67, 37] : List Int32).getD lx4.toNatClampNeg 0) : Int32)
    refine q_ti (v := a10) e11 ?_
    refine lv_iload hx hb d_33_23_17 (lv_at hl 1 rfl) ?_
    refine lv_icmp_ne (tgt := 25) hx hb d_33_23_19 (by decide) (fun c12 => ?_) (fun c12 => ?_)
    ·
      have b13 : q_F (a10.toInt ≠ a1.toInt) := (q_neI c12)
      obtain ⟨a14, e15⟩ := q_nm (lx4 + 1 : Int32)
      have b16 : q_F (a14.toInt = lx4.toInt + 1) := (by rw [← e15]; exact q_addI (y := 1) rfl (by decide) (by have _ := q_lo32 (x := lx4); have _ := q_hi32 (x := lx4); have t1 : lx4.toInt < x4.toInt := b9; have _ := q_lo32 (x := x4); have _ := q_hi32 (x := x4); omega) (by have _ := q_lo32 (x := lx4); have _ := q_hi32 (x := lx4); have t1 : lx4.toInt < x4.toInt := b9; have _ := q_lo32 (x := x4); have _ := q_hi32 (x := x4); omega))
      refine lv_iinc (v := a14) (lv' := [(5, .int a14), (4, .int a1), (0, .ref (g (9 + 2 * 3))), (3, .int x4)]) hx hb d_33_23_25 hl (k := 0) rfl (e15) (by decide) rfl (fun ls hl => ?_)
      refine lv_goto (tgt := 7) hx hb d_33_23_28 (by decide) ?_
      exact ih6 ((a14 : Int32)) _ _ _ ws (show (7 - a14.toInt).toNat < (7 - lx4.toInt).toNat from by have t1 : a14.toInt = lx4.toInt + 1 := b16; have t2 : x4.toInt ≤ 7 := pre1; have t3 : lx4.toInt < x4.toInt := b9; omega) ⟨(show q_F (x3.toInt ≤ a14.toInt) from (show x3.toInt ≤ a14.toInt from by have t1 : x3.toInt ≤ lx4.toInt := i5; have t2 : a14.toInt = lx4.toInt + 1 := b16; omega)), V, q_lw hl (q_lw1 0 rfl (q_lw1 1 rfl (q_lw1 2 rfl (q_lw1 3 rfl q_lw0))))⟩
    ·
      have b17 : q_F (a10.toInt = a1.toInt) := (q_eqI c12)
      refine lv_iload hx hb d_33_23_22 (lv_at hl 0 rfl) ?_
      exact q_reti C0 V (⟨rfl, (show 0 ≤ lx4.toInt + 1 from (by have t1 : 0 ≤ x3.toInt := pre0; have t2 : x3.toInt ≤ lx4.toInt := i5; omega)), (show lx4.toInt ≤ 6 from (by have t1 : x4.toInt ≤ 7 := pre1; have t2 : lx4.toInt < x4.toInt := b9; omega))⟩) d_33_23_24
set_option maxRecDepth 100000 in
set_option maxHeartbeats 4000000 in
theorem T_jLat_indexOf_3 (l : Launch) (D : va_G) (g : Nat → ClassId) (q : Nat → Nat) (ws : va_W) (x2 : Int32) (x3 : Int32) (x4 : Int32) (hI : q_I (nsh g q) q ws) (pre0 : 0 ≤ x3.toInt) (pre1 : x4.toInt ≤ 7) : q_mI l y_jLat_indexOf prog_33_method_22_code 4 (.int) 2 0 0 D g [.ref (g (9 + 2 * 3)), .int x2, .int x3, .int x4] ws (fun r u => ws = u ∧ (0 ≤ r.toInt + 1) ∧ (r.toInt ≤ 6)) := by
  intro sz
  refine q_into (by decide) (Nat.le_of_ble_eq_true rfl) ?_
  intro p e s m below meth c ls hsz C0 V hl
  have hx := C0.1
  have hb := C0.2.1
  replace pre0 : q_F (0 ≤ x3.toInt) := pre0
  replace pre1 : q_F (x4.toInt ≤ 7) := pre1
  have hl : lv_has ls 4 [(0, .ref (g (9 + 2 * 3))), (1, .int x2), (2, .int x3), (3, .int x4)] := hl
  refine lv_iload_n hx hb d_33_22_0 rfl (lv_at hl 1 rfl) ?_
  refine q_goi V (q_runS (As := [.int x2]) (rest := []) (d := 1) (mc := 0) (ms := 0) C0 V rfl LS_jLat_88 (T_jLat_canEncode l D g q ws  x2 hI   _) rfl hl.1 rfl (Nat.le_of_ble_eq_true rfl) ⟨by decide, by decide⟩ ⟨Nat.le_of_ble_eq_true rfl, Nat.le_of_ble_eq_true rfl⟩ d_33_22_1) (fun a3 u1 H locs hp2 V => ?_)
  obtain ⟨rfl, b4, b5⟩ := hp2
  replace b4 : q_F (0 ≤ a3.toInt) := b4
  replace b5 : q_F (a3.toInt ≤ 1) := b5
  refine lv_if_ne (tgt := 9) hx hb d_33_22_4 (by decide) (fun c6 => ?_) (fun c6 => ?_)
  ·
    have b7 : q_F (a3.toInt ≠ 0) := (q_neI c6)
    refine lv_iload_n hx hb d_33_22_9 rfl (lv_at hl 2 rfl) ?_
    refine lv_iconst (v := 0) hx hb d_33_22_10 (by decide) ?_
    refine q_max C0 hl.1 rfl w_1773 w_803 w_7 w_804 ⟨Nat.le_of_ble_eq_true rfl, Nat.le_of_ble_eq_true rfl⟩ ⟨Nat.le_of_ble_eq_true rfl, Nat.le_of_ble_eq_true rfl⟩ d_33_22_11 ?_
    obtain ⟨a8, e9⟩ := q_nm (if x3 < 0 then 0 else x3 : Int32)
    refine q_ti (v := a8) e9 ?_
    have b10 : q_F (x3.toInt ≤ a8.toInt ∧ 0 ≤ a8.toInt ∧ (a8.toInt = x3.toInt ∨ a8.toInt = 0)) := (by rw [← e9]; show x3.toInt ≤ (if x3 < 0 then 0 else x3 : Int32).toInt ∧ 0 ≤ (if x3 < 0 then 0 else x3 : Int32).toInt ∧ ((if x3 < 0 then 0 else x3 : Int32).toInt = x3.toInt ∨ (if x3 < 0 then 0 else x3 : Int32).toInt = 0); exact (by have y1 : (0 : Int32).toInt = 0 := rfl; have z := s_max (a := x3) (b := 0); omega))
    refine lv_istore_n (lv' := [(2, .int a8), (0, .ref (g (9 + 2 * 3))), (1, .int x2), (3, .int x4)]) hx hb d_33_22_14 rfl hl (by decide) rfl (fun ls hl => ?_)
    refine lv_iload_n hx hb d_33_22_15 rfl (lv_at hl 3 rfl) ?_
    refine lv_aload_n hx hb d_33_22_16 rfl (lv_at hl 1 rfl) ?_
    refine q_slen (i := 3) (v := 7) C0 V rfl (by decide) d_33_22_17 ?_
    refine q_min C0 hl.1 rfl w_1774 w_774 w_7 w_775 ⟨Nat.le_of_ble_eq_true rfl, Nat.le_of_ble_eq_true rfl⟩ ⟨Nat.le_of_ble_eq_true rfl, Nat.le_of_ble_eq_true rfl⟩ d_33_22_18 ?_
    obtain ⟨a11, e12⟩ := q_nm (if 7 < x4 then 7 else x4 : Int32)
    refine q_ti (v := a11) e12 ?_
    have b13 : q_F (a11.toInt ≤ x4.toInt ∧ a11.toInt ≤ 7 ∧ (a11.toInt = x4.toInt ∨ a11.toInt = 7)) := (by rw [← e12]; show (if 7 < x4 then 7 else x4 : Int32).toInt ≤ x4.toInt ∧ (if 7 < x4 then 7 else x4 : Int32).toInt ≤ 7 ∧ ((if 7 < x4 then 7 else x4 : Int32).toInt = x4.toInt ∨ (if 7 < x4 then 7 else x4 : Int32).toInt = 7); exact (by have y1 : (7 : Int32).toInt = 7 := rfl; have z := s_min (a := x4) (b := 7); omega))
    refine lv_istore_n (lv' := [(3, .int a11), (2, .int a8), (0, .ref (g (9 + 2 * 3))), (1, .int x2)]) hx hb d_33_22_21 rfl hl (by decide) rfl (fun ls hl => ?_)
    refine lv_iload_n hx hb d_33_22_22 rfl (lv_at hl 1 rfl) ?_
    refine lv_iload_n hx hb d_33_22_23 rfl (lv_at hl 0 rfl) ?_
    refine lv_icmp_lt (tgt := 29) hx hb d_33_22_24 (by decide) (fun c14 => ?_) (fun c14 => ?_)
    ·
      have b15 : q_F (a8.toInt < a11.toInt) := (q_ltI c14)
      refine lv_aload_n hx hb d_33_22_29 rfl (lv_at hl 2 rfl) ?_
      refine lv_iload_n hx hb d_33_22_30 rfl (lv_at hl 3 rfl) ?_
      refine lv_iload_n hx hb d_33_22_31 rfl (lv_at hl 1 rfl) ?_
      refine lv_iload_n hx hb d_33_22_32 rfl (lv_at hl 0 rfl) ?_
      refine q_goi V (q_runS (As := [.ref (g (9 + 2 * 3)), .int x2, .int a8, .int a11]) (rest := []) (d := 1) (mc := 0) (ms := 0) C0 V rfl LS_jLat_95 (T_jLat_indexOfChar_3 l D g q ws  x2 a8 a11 hI  (by have t1 : x3.toInt ≤ a8.toInt ∧ 0 ≤ a8.toInt ∧ (a8.toInt = x3.toInt ∨ a8.toInt = 0) := b10; omega) (by have t1 : a11.toInt ≤ x4.toInt ∧ a11.toInt ≤ 7 ∧ (a11.toInt = x4.toInt ∨ a11.toInt = 7) := b13; omega) _) rfl hl.1 rfl (Nat.le_of_ble_eq_true rfl) ⟨by decide, by decide⟩ ⟨Nat.le_of_ble_eq_true rfl, Nat.le_of_ble_eq_true rfl⟩ d_33_22_33) (fun a18 u16 H locs hp17 V => ?_)
      obtain ⟨rfl, b19, b20⟩ := hp17
      replace b19 : q_F (0 ≤ a18.toInt + 1) := b19
      replace b20 : q_F (a18.toInt ≤ 6) := b20
      exact q_reti C0 V (⟨rfl, (show 0 ≤ a18.toInt + 1 from (by have t1 : 0 ≤ a18.toInt + 1 := b19; omega)), (show a18.toInt ≤ 6 from (by have t1 : a18.toInt ≤ 6 := b20; omega))⟩) d_33_22_36
    ·
      have b21 : q_F (a11.toInt ≤ a8.toInt) := (q_nltI c14)
      refine lv_iconst (v := (-1)) hx hb d_33_22_27 (by decide) ?_
      exact q_reti C0 V (⟨rfl, (show 0 ≤ (-1 : Int32).toInt + 1 from (by have z3 : (-1 : Int32).toInt = -1 := rfl; omega)), (show (-1 : Int32).toInt ≤ 6 from (by have z3 : (-1 : Int32).toInt = -1 := rfl; omega))⟩) d_33_22_28
  ·
    have b22 : q_F (a3.toInt = 0) := (q_eqI c6)
    refine lv_iconst (v := (-1)) hx hb d_33_22_7 (by decide) ?_
    exact q_reti C0 V (⟨rfl, (show 0 ≤ (-1 : Int32).toInt + 1 from (by have z3 : (-1 : Int32).toInt = -1 := rfl; omega)), (show (-1 : Int32).toInt ≤ 6 from (by have z3 : (-1 : Int32).toInt = -1 := rfl; omega))⟩) d_33_22_8
set_option maxRecDepth 100000 in
set_option maxHeartbeats 4000000 in
theorem T_jStr_indexOf_III_3 (l : Launch) (D : va_G) (g : Nat → ClassId) (q : Nat → Nat) (ws : va_W) (x2 : Int32) (x3 : Int32) (hI : q_I (nsh g q) q ws) (pre0 : 0 ≤ x3.toInt) : q_mI l y_jStr_indexOf_III prog_31_method_80_code 3 (.int) 3 0 0 D g [.ref (g (8 + 2 * 3)), .int x2, .int x3] ws (fun r u => ws = u ∧ (0 ≤ r.toInt + 1) ∧ (r.toInt ≤ 6)) := by
  intro sz
  refine q_into (by decide) (Nat.le_of_ble_eq_true rfl) ?_
  intro p e s m below meth c ls hsz C0 V hl
  have hx := C0.1
  have hb := C0.2.1
  replace pre0 : q_F (0 ≤ x3.toInt) := pre0
  have hl : lv_has ls 3 [(0, .ref (g (8 + 2 * 3))), (1, .int x2), (2, .int x3)] := hl
  refine lv_aload_n hx hb d_31_80_0 rfl (lv_at hl 0 rfl) ?_
  refine q_goi V (q_runVs (As := []) (rest := []) (d := 1) (mc := 0) (ms := 0) (i := 3) C0 V rfl LV_jStr_492 (T_jStr_isLatin1_3 l D g q ws   hI   _) rfl rfl rfl hl.1 rfl (Nat.le_of_ble_eq_true rfl) ⟨by decide, by decide⟩ ⟨Nat.le_of_ble_eq_true rfl, Nat.le_of_ble_eq_true rfl⟩ d_31_80_1) (fun a3 u1 H locs hp2 V => ?_)
  obtain ⟨rfl, b4, b5⟩ := hp2
  replace b4 : q_F (1 ≤ a3.toInt) := b4
  replace b5 : q_F (a3.toInt ≤ 1) := b5
  obtain rfl : a3 = (1 : Int32) := q_Ieq (x := a3.toInt) (y := 1) rfl (by decide) (by have t1 : 1 ≤ a3.toInt := b4; have t2 : a3.toInt ≤ 1 := b5; omega)
  refine lv_if_eq (tgt := 23) hx hb d_31_80_4 (by decide) (fun c6 => absurd c6 (by decide)) (fun c6 => ?_)
  refine lv_aload_n hx hb d_31_80_7 rfl (lv_at hl 0 rfl) ?_
  refine q_sval (i := 3) C0 V rfl rfl w_1018 d_31_80_8 ?_
  refine lv_iload_n hx hb d_31_80_11 rfl (lv_at hl 1 rfl) ?_
  refine lv_iload_n hx hb d_31_80_12 rfl (lv_at hl 2 rfl) ?_
  refine lv_aload_n hx hb d_31_80_13 rfl (lv_at hl 0 rfl) ?_
  refine q_goi V (q_runVs (As := []) (rest := [.int x3, .int x2, .ref (g (9 + 2 * 3))]) (d := 2) (mc := 0) (ms := 0) (i := 3) C0 V rfl LV_jStr_505 (T_jStr_length_3 l D g q ws   hI   _) rfl rfl rfl hl.1 rfl (Nat.le_of_ble_eq_true rfl) ⟨by decide, by decide⟩ ⟨Nat.le_of_ble_eq_true rfl, Nat.le_of_ble_eq_true rfl⟩ d_31_80_14) (fun a9 u7 H locs hp8 V => ?_)
  obtain ⟨rfl, b10, b11⟩ := hp8
  replace b10 : q_F (7 ≤ a9.toInt) := b10
  replace b11 : q_F (a9.toInt ≤ 7) := b11
  obtain rfl : a9 = (7 : Int32) := q_Ieq (x := a9.toInt) (y := 7) rfl (by decide) (by have t1 : 7 ≤ a9.toInt := b10; have t2 : a9.toInt ≤ 7 := b11; omega)
  refine q_goi V (q_runS (As := [.ref (g (9 + 2 * 3)), .int x2, .int x3, .int 7]) (rest := []) (d := 2) (mc := 0) (ms := 0) C0 V rfl LS_jStr_637 (T_jLat_indexOf_3 l D g q ws  x2 x3 7 hI  (by have y0 : (7 : Int32).toInt = 7 := rfl; have t1 : 0 ≤ x3.toInt := pre0; omega) (by have y0 : (7 : Int32).toInt = 7 := rfl; omega) _) rfl hl.1 rfl (Nat.le_of_ble_eq_true rfl) ⟨by decide, by decide⟩ ⟨Nat.le_of_ble_eq_true rfl, Nat.le_of_ble_eq_true rfl⟩ d_31_80_17) (fun a14 u12 H locs hp13 V => ?_)
  obtain ⟨rfl, b15, b16⟩ := hp13
  replace b15 : q_F (0 ≤ a14.toInt + 1) := b15
  replace b16 : q_F (a14.toInt ≤ 6) := b16
  refine lv_goto (tgt := 36) hx hb d_31_80_20 (by decide) ?_
  exact q_reti C0 V (⟨rfl, (show 0 ≤ a14.toInt + 1 from (by have t1 : 0 ≤ a14.toInt + 1 := b15; omega)), (show a14.toInt ≤ 6 from (by have t1 : a14.toInt ≤ 6 := b16; omega))⟩) d_31_80_36
set_option maxRecDepth 100000 in
set_option maxHeartbeats 4000000 in
theorem T_jStr_indexOf_II_3 (l : Launch) (D : va_G) (g : Nat → ClassId) (q : Nat → Nat) (ws : va_W) (x2 : Int32) (hI : q_I (nsh g q) q ws) : q_mI l y_jStr_indexOf_II prog_31_method_79_code 2 (.int) 4 0 0 D g [.ref (g (8 + 2 * 3)), .int x2] ws (fun r u => ws = u ∧ (0 ≤ r.toInt + 1) ∧ (r.toInt ≤ 6)) := by
  intro sz
  refine q_into (by decide) (Nat.le_of_ble_eq_true rfl) ?_
  intro p e s m below meth c ls hsz C0 V hl
  have hx := C0.1
  have hb := C0.2.1
  have hl : lv_has ls 2 [(0, .ref (g (8 + 2 * 3))), (1, .int x2)] := hl
  refine lv_aload_n hx hb d_31_79_0 rfl (lv_at hl 0 rfl) ?_
  refine lv_iload_n hx hb d_31_79_1 rfl (lv_at hl 1 rfl) ?_
  refine lv_iconst (v := 0) hx hb d_31_79_2 (by decide) ?_
  refine q_goi V (q_runVs (As := [.int x2, .int 0]) (rest := []) (d := 3) (mc := 0) (ms := 0) (i := 3) C0 V rfl LV_jStr_633 (T_jStr_indexOf_III_3 l D g q ws  x2 0 hI  (by have y0 : (0 : Int32).toInt = 0 := rfl; omega) _) rfl rfl rfl hl.1 rfl (Nat.le_of_ble_eq_true rfl) ⟨by decide, by decide⟩ ⟨Nat.le_of_ble_eq_true rfl, Nat.le_of_ble_eq_true rfl⟩ d_31_79_3) (fun a3 u1 H locs hp2 V => ?_)
  obtain ⟨rfl, b4, b5⟩ := hp2
  replace b4 : q_F (0 ≤ a3.toInt + 1) := b4
  replace b5 : q_F (a3.toInt ≤ 6) := b5
  exact q_reti C0 V (⟨rfl, (show 0 ≤ a3.toInt + 1 from (by have t1 : 0 ≤ a3.toInt + 1 := b4; omega)), (show a3.toInt ≤ 6 from (by have t1 : a3.toInt ≤ 6 := b5; omega))⟩) d_31_79_6
set_option maxRecDepth 100000 in
set_option maxHeartbeats 4000000 in
theorem T_jStr_coder_4 (l : Launch) (D : va_G) (g : Nat → ClassId) (q : Nat → Nat) (ws : va_W) (hI : q_I (nsh g q) q ws) : q_mI l y_jStr_coder prog_31_method_152_code 1 (.byte) 1 0 0 D g [.ref (g (8 + 2 * 4))] ws (fun r u => ws = u ∧ (0 ≤ r.toInt) ∧ (r.toInt ≤ 0)) := by
  intro sz
  refine q_into (by decide) (Nat.le_of_ble_eq_true rfl) ?_
  intro p e s m below meth c ls hsz C0 V hl
  have hx := C0.1
  have hb := C0.2.1
  have hl : lv_has ls 1 [(0, .ref (g (8 + 2 * 4)))] := hl
  refine q_scmp C0 V rfl w_663 d_31_152_0 ?_
  refine lv_if_eq (tgt := 13) hx hb d_31_152_3 (by decide) (fun c1 => absurd c1 (by decide)) (fun c1 => ?_)
  refine lv_aload_n hx hb d_31_152_6 rfl (lv_at hl 0 rfl) ?_
  refine q_scod (i := 4) C0 V rfl rfl w_1019 d_31_152_7 ?_
  refine lv_goto (tgt := 14) hx hb d_31_152_10 (by decide) ?_
  exact q_retn C0 V (rfl) (⟨rfl, (show 0 ≤ (0 : Int32).toInt from (by have z0 : (0 : Int32).toInt = 0 := rfl; omega)), (show (0 : Int32).toInt ≤ 0 from (by have z0 : (0 : Int32).toInt = 0 := rfl; omega))⟩) d_31_152_14
set_option maxRecDepth 100000 in
set_option maxHeartbeats 4000000 in
theorem T_jStr_length_4 (l : Launch) (D : va_G) (g : Nat → ClassId) (q : Nat → Nat) (ws : va_W) (hI : q_I (nsh g q) q ws) : q_mI l y_jStr_length prog_31_method_54_code 1 (.int) 2 0 0 D g [.ref (g (8 + 2 * 4))] ws (fun r u => ws = u ∧ (3 ≤ r.toInt) ∧ (r.toInt ≤ 3)) := by
  intro sz
  refine q_into (by decide) (Nat.le_of_ble_eq_true rfl) ?_
  intro p e s m below meth c ls hsz C0 V hl
  have hx := C0.1
  have hb := C0.2.1
  have hl : lv_has ls 1 [(0, .ref (g (8 + 2 * 4)))] := hl
  refine lv_aload_n hx hb d_31_54_0 rfl (lv_at hl 0 rfl) ?_
  refine q_sval (i := 4) C0 V rfl rfl w_1018 d_31_54_1 ?_
  refine q_slen (i := 4) (v := 3) C0 V rfl (by decide) d_31_54_4 ?_
  refine lv_aload_n hx hb d_31_54_5 rfl (lv_at hl 0 rfl) ?_
  refine q_goi V (q_runVs (As := []) (rest := [.int 3]) (d := 1) (mc := 0) (ms := 0) (i := 4) C0 V rfl LV_jStr_335 (T_jStr_coder_4 l D g q ws   hI   _) rfl rfl rfl hl.1 rfl (Nat.le_of_ble_eq_true rfl) ⟨by decide, by decide⟩ ⟨Nat.le_of_ble_eq_true rfl, Nat.le_of_ble_eq_true rfl⟩ d_31_54_6) (fun a3 u1 H locs hp2 V => ?_)
  obtain ⟨rfl, b4, b5⟩ := hp2
  replace b4 : q_F (0 ≤ a3.toInt) := b4
  replace b5 : q_F (a3.toInt ≤ 0) := b5
  obtain rfl : a3 = (0 : Int32) := q_Ieq (x := a3.toInt) (y := 0) rfl (by decide) (by have t1 : 0 ≤ a3.toInt := b4; have t2 : a3.toInt ≤ 0 := b5; omega)
  refine lv_ishr hx hb d_31_54_9 ?_
  refine q_ti (v := 3) (by decide) ?_
  exact q_reti C0 V (⟨rfl, (show 3 ≤ (3 : Int32).toInt from (by have z0 : (3 : Int32).toInt = 3 := rfl; omega)), (show (3 : Int32).toInt ≤ 3 from (by have z0 : (3 : Int32).toInt = 3 := rfl; omega))⟩) d_31_54_10
set_option maxRecDepth 100000 in
set_option maxHeartbeats 4000000 in
theorem T_jStr_isLatin1_4 (l : Launch) (D : va_G) (g : Nat → ClassId) (q : Nat → Nat) (ws : va_W) (hI : q_I (nsh g q) q ws) : q_mI l y_jStr_isLatin1 prog_31_method_154_code 1 (.boolean) 1 0 0 D g [.ref (g (8 + 2 * 4))] ws (fun r u => ws = u ∧ (1 ≤ r.toInt) ∧ (r.toInt ≤ 1)) := by
  intro sz
  refine q_into (by decide) (Nat.le_of_ble_eq_true rfl) ?_
  intro p e s m below meth c ls hsz C0 V hl
  have hx := C0.1
  have hb := C0.2.1
  have hl : lv_has ls 1 [(0, .ref (g (8 + 2 * 4)))] := hl
  refine q_scmp C0 V rfl w_663 d_31_154_0 ?_
  refine lv_if_eq (tgt := 17) hx hb d_31_154_3 (by decide) (fun c1 => absurd c1 (by decide)) (fun c1 => ?_)
  refine lv_aload_n hx hb d_31_154_6 rfl (lv_at hl 0 rfl) ?_
  refine q_scod (i := 4) C0 V rfl rfl w_1019 d_31_154_7 ?_
  refine lv_if_ne (tgt := 17) hx hb d_31_154_10 (by decide) (fun c2 => absurd (by decide) c2) (fun c2 => ?_)
  refine lv_iconst (v := 1) hx hb d_31_154_13 (by decide) ?_
  refine lv_goto (tgt := 18) hx hb d_31_154_14 (by decide) ?_
  exact q_retz C0 V (by decide) (⟨rfl, (show 1 ≤ (1 : Int32).toInt from (by have z0 : (1 : Int32).toInt = 1 := rfl; omega)), (show (1 : Int32).toInt ≤ 1 from (by have z0 : (1 : Int32).toInt = 1 := rfl; omega))⟩) d_31_154_18
set_option maxRecDepth 100000 in
set_option maxHeartbeats 4000000 in
theorem T_jLat_indexOfChar_4 (l : Launch) (D : va_G) (g : Nat → ClassId) (q : Nat → Nat) (ws : va_W) (x2 : Int32) (x3 : Int32) (x4 : Int32) (hI : q_I (nsh g q) q ws) (pre0 : 0 ≤ x3.toInt) (pre1 : x4.toInt ≤ 3) : q_mI l y_jLat_indexOfChar prog_33_method_23_code 6 (.int) 1 0 0 D g [.ref (g (9 + 2 * 4)), .int x2, .int x3, .int x4] ws (fun r u => ws = u ∧ (0 ≤ r.toInt + 1) ∧ (r.toInt ≤ 2)) := by
  intro sz
  refine q_into (by decide) (Nat.le_of_ble_eq_true rfl) ?_
  intro p e s m below meth c ls hsz C0 V hl
  have hx := C0.1
  have hb := C0.2.1
  replace pre0 : q_F (0 ≤ x3.toInt) := pre0
  replace pre1 : q_F (x4.toInt ≤ 3) := pre1
  have hl : lv_has ls 6 [(0, .ref (g (9 + 2 * 4))), (1, .int x2), (2, .int x3), (3, .int x4)] := hl
  refine lv_iload_n hx hb d_33_23_0 rfl (lv_at hl 1 rfl) ?_
  refine lv_i2b hx hb d_33_23_1 rfl ?_
  obtain ⟨a1, e2⟩ := q_nm (x2.toInt8.toInt32 : Int32)
  refine q_ti (v := a1) e2 ?_
  refine lv_istore (lv' := [(4, .int a1), (0, .ref (g (9 + 2 * 4))), (1, .int x2), (2, .int x3), (3, .int x4)]) hx hb d_33_23_2 hl (by decide) rfl (fun ls hl => ?_)
  refine lv_iload_n hx hb d_33_23_4 rfl (lv_at hl 3 rfl) ?_
  refine lv_istore (lv' := [(5, .int x3), (4, .int a1), (0, .ref (g (9 + 2 * 4))), (1, .int x2), (2, .int x3), (3, .int x4)]) hx hb d_33_23_5 hl (by decide) rfl (fun ls hl => ?_)
  refine q_loop (X := Int32) (fun z H locs ls _ => q_F (x3.toInt ≤ z.toInt) ∧ q_Wd D g (va_A ws sz) s ws H locs ∧ lv_has ls 6 [(5, .int z), (4, .int a1), (0, .ref (g (9 + 2 * 4))), (3, .int x4)]) (fun z => (3 - z.toInt).toNat) ?_ ((x3 : Int32)) _ _ _ ws ⟨(show q_F (x3.toInt ≤ x3.toInt) from (show x3.toInt ≤ x3.toInt from by omega)), V, q_lw hl (q_lw1 0 rfl (q_lw1 1 rfl (q_lw1 2 rfl (q_lw1 5 rfl q_lw0))))⟩
  rintro lx4 H locs ls _ ⟨i5, V, hl⟩ ih6
  replace i5 : q_F (x3.toInt ≤ lx4.toInt) := i5
  replace hl : lv_has ls 6 [(5, .int lx4), (4, .int a1), (0, .ref (g (9 + 2 * 4))), (3, .int x4)] := hl
  refine lv_iload hx hb d_33_23_7 (lv_at hl 0 rfl) ?_
  refine lv_iload_n hx hb d_33_23_9 rfl (lv_at hl 3 rfl) ?_
  refine lv_icmp_ge (tgt := 31) hx hb d_33_23_10 (by decide) (fun c7 => ?_) (fun c7 => ?_)
  ·
    have b8 : q_F (x4.toInt ≤ lx4.toInt) := (q_leI c7)
    refine lv_iconst (v := (-1)) hx hb d_33_23_31 (by decide) ?_
    exact q_reti C0 V (⟨rfl, (show 0 ≤ (-1 : Int32).toInt + 1 from (by have z3 : (-1 : Int32).toInt = -1 := rfl; omega)), (show (-1 : Int32).toInt ≤ 2 from (by have z3 : (-1 : Int32).toInt = -1 := rfl; omega))⟩) d_33_23_32
  ·
    have b9 : q_F (lx4.toInt < x4.toInt) := (q_nleI c7)
    refine lv_aload_n hx hb d_33_23_13 rfl (lv_at hl 2 rfl) ?_
    refine lv_iload hx hb d_33_23_14 (lv_at hl 0 rfl) ?_
    refine q_sbal (i := 4) (v := (([111, 120, 88] : List Int32).getD lx4.toNatClampNeg 0)) C0 V rfl (show vp_in lx4 3 from q_ix (x := lx4.toInt) rfl (by have t1 : 0 ≤ x3.toInt := pre0; have t2 : x3.toInt ≤ lx4.toInt := i5; omega) (by have t1 : 0 ≤ x3.toInt := pre0; have t2 : x3.toInt ≤ lx4.toInt := i5; have t3 : x4.toInt ≤ 3 := pre1; have t4 : lx4.toInt < x4.toInt := b9; omega)) rfl d_33_23_16 ?_
    obtain ⟨a10, e11⟩ := q_nm ((([111, 120, 88] : List Int32).getD lx4.toNatClampNeg 0) : Int32)
    refine q_ti (v := a10) e11 ?_
    refine lv_iload hx hb d_33_23_17 (lv_at hl 1 rfl) ?_
    refine lv_icmp_ne (tgt := 25) hx hb d_33_23_19 (by decide) (fun c12 => ?_) (fun c12 => ?_)
    ·
      have b13 : q_F (a10.toInt ≠ a1.toInt) := (q_neI c12)
      obtain ⟨a14, e15⟩ := q_nm (lx4 + 1 : Int32)
      have b16 : q_F (a14.toInt = lx4.toInt + 1) := (by rw [← e15]; exact q_addI (y := 1) rfl (by decide) (by have _ := q_lo32 (x := lx4); have _ := q_hi32 (x := lx4); have t1 : lx4.toInt < x4.toInt := b9; have _ := q_lo32 (x := x4); have _ := q_hi32 (x := x4); omega) (by have _ := q_lo32 (x := lx4); have _ := q_hi32 (x := lx4); have t1 : lx4.toInt < x4.toInt := b9; have _ := q_lo32 (x := x4); have _ := q_hi32 (x := x4); omega))
      refine lv_iinc (v := a14) (lv' := [(5, .int a14), (4, .int a1), (0, .ref (g (9 + 2 * 4))), (3, .int x4)]) hx hb d_33_23_25 hl (k := 0) rfl (e15) (by decide) rfl (fun ls hl => ?_)
      refine lv_goto (tgt := 7) hx hb d_33_23_28 (by decide) ?_
      exact ih6 ((a14 : Int32)) _ _ _ ws (show (3 - a14.toInt).toNat < (3 - lx4.toInt).toNat from by have t1 : a14.toInt = lx4.toInt + 1 := b16; have t2 : x4.toInt ≤ 3 := pre1; have t3 : lx4.toInt < x4.toInt := b9; omega) ⟨(show q_F (x3.toInt ≤ a14.toInt) from (show x3.toInt ≤ a14.toInt from by have t1 : x3.toInt ≤ lx4.toInt := i5; have t2 : a14.toInt = lx4.toInt + 1 := b16; omega)), V, q_lw hl (q_lw1 0 rfl (q_lw1 1 rfl (q_lw1 2 rfl (q_lw1 3 rfl q_lw0))))⟩
    ·
      have b17 : q_F (a10.toInt = a1.toInt) := (q_eqI c12)
      refine lv_iload hx hb d_33_23_22 (lv_at hl 0 rfl) ?_
      exact q_reti C0 V (⟨rfl, (show 0 ≤ lx4.toInt + 1 from (by have t1 : 0 ≤ x3.toInt := pre0; have t2 : x3.toInt ≤ lx4.toInt := i5; omega)), (show lx4.toInt ≤ 2 from (by have t1 : x4.toInt ≤ 3 := pre1; have t2 : lx4.toInt < x4.toInt := b9; omega))⟩) d_33_23_24
set_option maxRecDepth 100000 in
set_option maxHeartbeats 4000000 in
theorem T_jLat_indexOf_4 (l : Launch) (D : va_G) (g : Nat → ClassId) (q : Nat → Nat) (ws : va_W) (x2 : Int32) (x3 : Int32) (x4 : Int32) (hI : q_I (nsh g q) q ws) (pre0 : 0 ≤ x3.toInt) (pre1 : x4.toInt ≤ 3) : q_mI l y_jLat_indexOf prog_33_method_22_code 4 (.int) 2 0 0 D g [.ref (g (9 + 2 * 4)), .int x2, .int x3, .int x4] ws (fun r u => ws = u ∧ (0 ≤ r.toInt + 1) ∧ (r.toInt ≤ 2)) := by
  intro sz
  refine q_into (by decide) (Nat.le_of_ble_eq_true rfl) ?_
  intro p e s m below meth c ls hsz C0 V hl
  have hx := C0.1
  have hb := C0.2.1
  replace pre0 : q_F (0 ≤ x3.toInt) := pre0
  replace pre1 : q_F (x4.toInt ≤ 3) := pre1
  have hl : lv_has ls 4 [(0, .ref (g (9 + 2 * 4))), (1, .int x2), (2, .int x3), (3, .int x4)] := hl
  refine lv_iload_n hx hb d_33_22_0 rfl (lv_at hl 1 rfl) ?_
  refine q_goi V (q_runS (As := [.int x2]) (rest := []) (d := 1) (mc := 0) (ms := 0) C0 V rfl LS_jLat_88 (T_jLat_canEncode l D g q ws  x2 hI   _) rfl hl.1 rfl (Nat.le_of_ble_eq_true rfl) ⟨by decide, by decide⟩ ⟨Nat.le_of_ble_eq_true rfl, Nat.le_of_ble_eq_true rfl⟩ d_33_22_1) (fun a3 u1 H locs hp2 V => ?_)
  obtain ⟨rfl, b4, b5⟩ := hp2
  replace b4 : q_F (0 ≤ a3.toInt) := b4
  replace b5 : q_F (a3.toInt ≤ 1) := b5
  refine lv_if_ne (tgt := 9) hx hb d_33_22_4 (by decide) (fun c6 => ?_) (fun c6 => ?_)
  ·
    have b7 : q_F (a3.toInt ≠ 0) := (q_neI c6)
    refine lv_iload_n hx hb d_33_22_9 rfl (lv_at hl 2 rfl) ?_
    refine lv_iconst (v := 0) hx hb d_33_22_10 (by decide) ?_
    refine q_max C0 hl.1 rfl w_1773 w_803 w_7 w_804 ⟨Nat.le_of_ble_eq_true rfl, Nat.le_of_ble_eq_true rfl⟩ ⟨Nat.le_of_ble_eq_true rfl, Nat.le_of_ble_eq_true rfl⟩ d_33_22_11 ?_
    obtain ⟨a8, e9⟩ := q_nm (if x3 < 0 then 0 else x3 : Int32)
    refine q_ti (v := a8) e9 ?_
    have b10 : q_F (x3.toInt ≤ a8.toInt ∧ 0 ≤ a8.toInt ∧ (a8.toInt = x3.toInt ∨ a8.toInt = 0)) := (by rw [← e9]; show x3.toInt ≤ (if x3 < 0 then 0 else x3 : Int32).toInt ∧ 0 ≤ (if x3 < 0 then 0 else x3 : Int32).toInt ∧ ((if x3 < 0 then 0 else x3 : Int32).toInt = x3.toInt ∨ (if x3 < 0 then 0 else x3 : Int32).toInt = 0); exact (by have y1 : (0 : Int32).toInt = 0 := rfl; have z := s_max (a := x3) (b := 0); omega))
    refine lv_istore_n (lv' := [(2, .int a8), (0, .ref (g (9 + 2 * 4))), (1, .int x2), (3, .int x4)]) hx hb d_33_22_14 rfl hl (by decide) rfl (fun ls hl => ?_)
    refine lv_iload_n hx hb d_33_22_15 rfl (lv_at hl 3 rfl) ?_
    refine lv_aload_n hx hb d_33_22_16 rfl (lv_at hl 1 rfl) ?_
    refine q_slen (i := 4) (v := 3) C0 V rfl (by decide) d_33_22_17 ?_
    refine q_min C0 hl.1 rfl w_1774 w_774 w_7 w_775 ⟨Nat.le_of_ble_eq_true rfl, Nat.le_of_ble_eq_true rfl⟩ ⟨Nat.le_of_ble_eq_true rfl, Nat.le_of_ble_eq_true rfl⟩ d_33_22_18 ?_
    obtain ⟨a11, e12⟩ := q_nm (if 3 < x4 then 3 else x4 : Int32)
    refine q_ti (v := a11) e12 ?_
    have b13 : q_F (a11.toInt ≤ x4.toInt ∧ a11.toInt ≤ 3 ∧ (a11.toInt = x4.toInt ∨ a11.toInt = 3)) := (by rw [← e12]; show (if 3 < x4 then 3 else x4 : Int32).toInt ≤ x4.toInt ∧ (if 3 < x4 then 3 else x4 : Int32).toInt ≤ 3 ∧ ((if 3 < x4 then 3 else x4 : Int32).toInt = x4.toInt ∨ (if 3 < x4 then 3 else x4 : Int32).toInt = 3); exact (by have y1 : (3 : Int32).toInt = 3 := rfl; have z := s_min (a := x4) (b := 3); omega))
    refine lv_istore_n (lv' := [(3, .int a11), (2, .int a8), (0, .ref (g (9 + 2 * 4))), (1, .int x2)]) hx hb d_33_22_21 rfl hl (by decide) rfl (fun ls hl => ?_)
    refine lv_iload_n hx hb d_33_22_22 rfl (lv_at hl 1 rfl) ?_
    refine lv_iload_n hx hb d_33_22_23 rfl (lv_at hl 0 rfl) ?_
    refine lv_icmp_lt (tgt := 29) hx hb d_33_22_24 (by decide) (fun c14 => ?_) (fun c14 => ?_)
    ·
      have b15 : q_F (a8.toInt < a11.toInt) := (q_ltI c14)
      refine lv_aload_n hx hb d_33_22_29 rfl (lv_at hl 2 rfl) ?_
      refine lv_iload_n hx hb d_33_22_30 rfl (lv_at hl 3 rfl) ?_
      refine lv_iload_n hx hb d_33_22_31 rfl (lv_at hl 1 rfl) ?_
      refine lv_iload_n hx hb d_33_22_32 rfl (lv_at hl 0 rfl) ?_
      refine q_goi V (q_runS (As := [.ref (g (9 + 2 * 4)), .int x2, .int a8, .int a11]) (rest := []) (d := 1) (mc := 0) (ms := 0) C0 V rfl LS_jLat_95 (T_jLat_indexOfChar_4 l D g q ws  x2 a8 a11 hI  (by have t1 : x3.toInt ≤ a8.toInt ∧ 0 ≤ a8.toInt ∧ (a8.toInt = x3.toInt ∨ a8.toInt = 0) := b10; omega) (by have t1 : a11.toInt ≤ x4.toInt ∧ a11.toInt ≤ 3 ∧ (a11.toInt = x4.toInt ∨ a11.toInt = 3) := b13; omega) _) rfl hl.1 rfl (Nat.le_of_ble_eq_true rfl) ⟨by decide, by decide⟩ ⟨Nat.le_of_ble_eq_true rfl, Nat.le_of_ble_eq_true rfl⟩ d_33_22_33) (fun a18 u16 H locs hp17 V => ?_)
      obtain ⟨rfl, b19, b20⟩ := hp17
      replace b19 : q_F (0 ≤ a18.toInt + 1) := b19
      replace b20 : q_F (a18.toInt ≤ 2) := b20
      exact q_reti C0 V (⟨rfl, (show 0 ≤ a18.toInt + 1 from (by have t1 : 0 ≤ a18.toInt + 1 := b19; omega)), (show a18.toInt ≤ 2 from (by have t1 : a18.toInt ≤ 2 := b20; omega))⟩) d_33_22_36
    ·
      have b21 : q_F (a11.toInt ≤ a8.toInt) := (q_nltI c14)
      refine lv_iconst (v := (-1)) hx hb d_33_22_27 (by decide) ?_
      exact q_reti C0 V (⟨rfl, (show 0 ≤ (-1 : Int32).toInt + 1 from (by have z3 : (-1 : Int32).toInt = -1 := rfl; omega)), (show (-1 : Int32).toInt ≤ 2 from (by have z3 : (-1 : Int32).toInt = -1 := rfl; omega))⟩) d_33_22_28
  ·
    have b22 : q_F (a3.toInt = 0) := (q_eqI c6)
    refine lv_iconst (v := (-1)) hx hb d_33_22_7 (by decide) ?_
    exact q_reti C0 V (⟨rfl, (show 0 ≤ (-1 : Int32).toInt + 1 from (by have z3 : (-1 : Int32).toInt = -1 := rfl; omega)), (show (-1 : Int32).toInt ≤ 2 from (by have z3 : (-1 : Int32).toInt = -1 := rfl; omega))⟩) d_33_22_8
set_option maxRecDepth 100000 in
set_option maxHeartbeats 4000000 in
theorem T_jStr_indexOf_III_4 (l : Launch) (D : va_G) (g : Nat → ClassId) (q : Nat → Nat) (ws : va_W) (x2 : Int32) (x3 : Int32) (hI : q_I (nsh g q) q ws) (pre0 : 0 ≤ x3.toInt) : q_mI l y_jStr_indexOf_III prog_31_method_80_code 3 (.int) 3 0 0 D g [.ref (g (8 + 2 * 4)), .int x2, .int x3] ws (fun r u => ws = u ∧ (0 ≤ r.toInt + 1) ∧ (r.toInt ≤ 2)) := by
  intro sz
  refine q_into (by decide) (Nat.le_of_ble_eq_true rfl) ?_
  intro p e s m below meth c ls hsz C0 V hl
  have hx := C0.1
  have hb := C0.2.1
  replace pre0 : q_F (0 ≤ x3.toInt) := pre0
  have hl : lv_has ls 3 [(0, .ref (g (8 + 2 * 4))), (1, .int x2), (2, .int x3)] := hl
  refine lv_aload_n hx hb d_31_80_0 rfl (lv_at hl 0 rfl) ?_
  refine q_goi V (q_runVs (As := []) (rest := []) (d := 1) (mc := 0) (ms := 0) (i := 4) C0 V rfl LV_jStr_492 (T_jStr_isLatin1_4 l D g q ws   hI   _) rfl rfl rfl hl.1 rfl (Nat.le_of_ble_eq_true rfl) ⟨by decide, by decide⟩ ⟨Nat.le_of_ble_eq_true rfl, Nat.le_of_ble_eq_true rfl⟩ d_31_80_1) (fun a3 u1 H locs hp2 V => ?_)
  obtain ⟨rfl, b4, b5⟩ := hp2
  replace b4 : q_F (1 ≤ a3.toInt) := b4
  replace b5 : q_F (a3.toInt ≤ 1) := b5
  obtain rfl : a3 = (1 : Int32) := q_Ieq (x := a3.toInt) (y := 1) rfl (by decide) (by have t1 : 1 ≤ a3.toInt := b4; have t2 : a3.toInt ≤ 1 := b5; omega)
  refine lv_if_eq (tgt := 23) hx hb d_31_80_4 (by decide) (fun c6 => absurd c6 (by decide)) (fun c6 => ?_)
  refine lv_aload_n hx hb d_31_80_7 rfl (lv_at hl 0 rfl) ?_
  refine q_sval (i := 4) C0 V rfl rfl w_1018 d_31_80_8 ?_
  refine lv_iload_n hx hb d_31_80_11 rfl (lv_at hl 1 rfl) ?_
  refine lv_iload_n hx hb d_31_80_12 rfl (lv_at hl 2 rfl) ?_
  refine lv_aload_n hx hb d_31_80_13 rfl (lv_at hl 0 rfl) ?_
  refine q_goi V (q_runVs (As := []) (rest := [.int x3, .int x2, .ref (g (9 + 2 * 4))]) (d := 2) (mc := 0) (ms := 0) (i := 4) C0 V rfl LV_jStr_505 (T_jStr_length_4 l D g q ws   hI   _) rfl rfl rfl hl.1 rfl (Nat.le_of_ble_eq_true rfl) ⟨by decide, by decide⟩ ⟨Nat.le_of_ble_eq_true rfl, Nat.le_of_ble_eq_true rfl⟩ d_31_80_14) (fun a9 u7 H locs hp8 V => ?_)
  obtain ⟨rfl, b10, b11⟩ := hp8
  replace b10 : q_F (3 ≤ a9.toInt) := b10
  replace b11 : q_F (a9.toInt ≤ 3) := b11
  obtain rfl : a9 = (3 : Int32) := q_Ieq (x := a9.toInt) (y := 3) rfl (by decide) (by have t1 : 3 ≤ a9.toInt := b10; have t2 : a9.toInt ≤ 3 := b11; omega)
  refine q_goi V (q_runS (As := [.ref (g (9 + 2 * 4)), .int x2, .int x3, .int 3]) (rest := []) (d := 2) (mc := 0) (ms := 0) C0 V rfl LS_jStr_637 (T_jLat_indexOf_4 l D g q ws  x2 x3 3 hI  (by have y0 : (3 : Int32).toInt = 3 := rfl; have t1 : 0 ≤ x3.toInt := pre0; omega) (by have y0 : (3 : Int32).toInt = 3 := rfl; omega) _) rfl hl.1 rfl (Nat.le_of_ble_eq_true rfl) ⟨by decide, by decide⟩ ⟨Nat.le_of_ble_eq_true rfl, Nat.le_of_ble_eq_true rfl⟩ d_31_80_17) (fun a14 u12 H locs hp13 V => ?_)
  obtain ⟨rfl, b15, b16⟩ := hp13
  replace b15 : q_F (0 ≤ a14.toInt + 1) := b15
  replace b16 : q_F (a14.toInt ≤ 2) := b16
  refine lv_goto (tgt := 36) hx hb d_31_80_20 (by decide) ?_
  exact q_reti C0 V (⟨rfl, (show 0 ≤ a14.toInt + 1 from (by have t1 : 0 ≤ a14.toInt + 1 := b15; omega)), (show a14.toInt ≤ 2 from (by have t1 : a14.toInt ≤ 2 := b16; omega))⟩) d_31_80_36
set_option maxRecDepth 100000 in
set_option maxHeartbeats 4000000 in
theorem T_jStr_indexOf_II_4 (l : Launch) (D : va_G) (g : Nat → ClassId) (q : Nat → Nat) (ws : va_W) (x2 : Int32) (hI : q_I (nsh g q) q ws) : q_mI l y_jStr_indexOf_II prog_31_method_79_code 2 (.int) 4 0 0 D g [.ref (g (8 + 2 * 4)), .int x2] ws (fun r u => ws = u ∧ (0 ≤ r.toInt + 1) ∧ (r.toInt ≤ 2)) := by
  intro sz
  refine q_into (by decide) (Nat.le_of_ble_eq_true rfl) ?_
  intro p e s m below meth c ls hsz C0 V hl
  have hx := C0.1
  have hb := C0.2.1
  have hl : lv_has ls 2 [(0, .ref (g (8 + 2 * 4))), (1, .int x2)] := hl
  refine lv_aload_n hx hb d_31_79_0 rfl (lv_at hl 0 rfl) ?_
  refine lv_iload_n hx hb d_31_79_1 rfl (lv_at hl 1 rfl) ?_
  refine lv_iconst (v := 0) hx hb d_31_79_2 (by decide) ?_
  refine q_goi V (q_runVs (As := [.int x2, .int 0]) (rest := []) (d := 3) (mc := 0) (ms := 0) (i := 4) C0 V rfl LV_jStr_633 (T_jStr_indexOf_III_4 l D g q ws  x2 0 hI  (by have y0 : (0 : Int32).toInt = 0 := rfl; omega) _) rfl rfl rfl hl.1 rfl (Nat.le_of_ble_eq_true rfl) ⟨by decide, by decide⟩ ⟨Nat.le_of_ble_eq_true rfl, Nat.le_of_ble_eq_true rfl⟩ d_31_79_3) (fun a3 u1 H locs hp2 V => ?_)
  obtain ⟨rfl, b4, b5⟩ := hp2
  replace b4 : q_F (0 ≤ a3.toInt + 1) := b4
  replace b5 : q_F (a3.toInt ≤ 2) := b5
  exact q_reti C0 V (⟨rfl, (show 0 ≤ a3.toInt + 1 from (by have t1 : 0 ≤ a3.toInt + 1 := b4; omega)), (show a3.toInt ≤ 2 from (by have t1 : a3.toInt ≤ 2 := b5; omega))⟩) d_31_79_6
set_option maxRecDepth 100000 in
set_option maxHeartbeats 4000000 in
theorem T_jStr_coder_5 (l : Launch) (D : va_G) (g : Nat → ClassId) (q : Nat → Nat) (ws : va_W) (hI : q_I (nsh g q) q ws) : q_mI l y_jStr_coder prog_31_method_152_code 1 (.byte) 1 0 0 D g [.ref (g (8 + 2 * 5))] ws (fun r u => ws = u ∧ (0 ≤ r.toInt) ∧ (r.toInt ≤ 0)) := by
  intro sz
  refine q_into (by decide) (Nat.le_of_ble_eq_true rfl) ?_
  intro p e s m below meth c ls hsz C0 V hl
  have hx := C0.1
  have hb := C0.2.1
  have hl : lv_has ls 1 [(0, .ref (g (8 + 2 * 5)))] := hl
  refine q_scmp C0 V rfl w_663 d_31_152_0 ?_
  refine lv_if_eq (tgt := 13) hx hb d_31_152_3 (by decide) (fun c1 => absurd c1 (by decide)) (fun c1 => ?_)
  refine lv_aload_n hx hb d_31_152_6 rfl (lv_at hl 0 rfl) ?_
  refine q_scod (i := 5) C0 V rfl rfl w_1019 d_31_152_7 ?_
  refine lv_goto (tgt := 14) hx hb d_31_152_10 (by decide) ?_
  exact q_retn C0 V (rfl) (⟨rfl, (show 0 ≤ (0 : Int32).toInt from (by have z0 : (0 : Int32).toInt = 0 := rfl; omega)), (show (0 : Int32).toInt ≤ 0 from (by have z0 : (0 : Int32).toInt = 0 := rfl; omega))⟩) d_31_152_14
set_option maxRecDepth 100000 in
set_option maxHeartbeats 4000000 in
theorem T_jStr_length_5 (l : Launch) (D : va_G) (g : Nat → ClassId) (q : Nat → Nat) (ws : va_W) (hI : q_I (nsh g q) q ws) : q_mI l y_jStr_length prog_31_method_54_code 1 (.int) 2 0 0 D g [.ref (g (8 + 2 * 5))] ws (fun r u => ws = u ∧ (3 ≤ r.toInt) ∧ (r.toInt ≤ 3)) := by
  intro sz
  refine q_into (by decide) (Nat.le_of_ble_eq_true rfl) ?_
  intro p e s m below meth c ls hsz C0 V hl
  have hx := C0.1
  have hb := C0.2.1
  have hl : lv_has ls 1 [(0, .ref (g (8 + 2 * 5)))] := hl
  refine lv_aload_n hx hb d_31_54_0 rfl (lv_at hl 0 rfl) ?_
  refine q_sval (i := 5) C0 V rfl rfl w_1018 d_31_54_1 ?_
  refine q_slen (i := 5) (v := 3) C0 V rfl (by decide) d_31_54_4 ?_
  refine lv_aload_n hx hb d_31_54_5 rfl (lv_at hl 0 rfl) ?_
  refine q_goi V (q_runVs (As := []) (rest := [.int 3]) (d := 1) (mc := 0) (ms := 0) (i := 5) C0 V rfl LV_jStr_335 (T_jStr_coder_5 l D g q ws   hI   _) rfl rfl rfl hl.1 rfl (Nat.le_of_ble_eq_true rfl) ⟨by decide, by decide⟩ ⟨Nat.le_of_ble_eq_true rfl, Nat.le_of_ble_eq_true rfl⟩ d_31_54_6) (fun a3 u1 H locs hp2 V => ?_)
  obtain ⟨rfl, b4, b5⟩ := hp2
  replace b4 : q_F (0 ≤ a3.toInt) := b4
  replace b5 : q_F (a3.toInt ≤ 0) := b5
  obtain rfl : a3 = (0 : Int32) := q_Ieq (x := a3.toInt) (y := 0) rfl (by decide) (by have t1 : 0 ≤ a3.toInt := b4; have t2 : a3.toInt ≤ 0 := b5; omega)
  refine lv_ishr hx hb d_31_54_9 ?_
  refine q_ti (v := 3) (by decide) ?_
  exact q_reti C0 V (⟨rfl, (show 3 ≤ (3 : Int32).toInt from (by have z0 : (3 : Int32).toInt = 3 := rfl; omega)), (show (3 : Int32).toInt ≤ 3 from (by have z0 : (3 : Int32).toInt = 3 := rfl; omega))⟩) d_31_54_10
set_option maxRecDepth 100000 in
set_option maxHeartbeats 4000000 in
theorem T_jStr_isLatin1_5 (l : Launch) (D : va_G) (g : Nat → ClassId) (q : Nat → Nat) (ws : va_W) (hI : q_I (nsh g q) q ws) : q_mI l y_jStr_isLatin1 prog_31_method_154_code 1 (.boolean) 1 0 0 D g [.ref (g (8 + 2 * 5))] ws (fun r u => ws = u ∧ (1 ≤ r.toInt) ∧ (r.toInt ≤ 1)) := by
  intro sz
  refine q_into (by decide) (Nat.le_of_ble_eq_true rfl) ?_
  intro p e s m below meth c ls hsz C0 V hl
  have hx := C0.1
  have hb := C0.2.1
  have hl : lv_has ls 1 [(0, .ref (g (8 + 2 * 5)))] := hl
  refine q_scmp C0 V rfl w_663 d_31_154_0 ?_
  refine lv_if_eq (tgt := 17) hx hb d_31_154_3 (by decide) (fun c1 => absurd c1 (by decide)) (fun c1 => ?_)
  refine lv_aload_n hx hb d_31_154_6 rfl (lv_at hl 0 rfl) ?_
  refine q_scod (i := 5) C0 V rfl rfl w_1019 d_31_154_7 ?_
  refine lv_if_ne (tgt := 17) hx hb d_31_154_10 (by decide) (fun c2 => absurd (by decide) c2) (fun c2 => ?_)
  refine lv_iconst (v := 1) hx hb d_31_154_13 (by decide) ?_
  refine lv_goto (tgt := 18) hx hb d_31_154_14 (by decide) ?_
  exact q_retz C0 V (by decide) (⟨rfl, (show 1 ≤ (1 : Int32).toInt from (by have z0 : (1 : Int32).toInt = 1 := rfl; omega)), (show (1 : Int32).toInt ≤ 1 from (by have z0 : (1 : Int32).toInt = 1 := rfl; omega))⟩) d_31_154_18
set_option maxRecDepth 100000 in
set_option maxHeartbeats 4000000 in
theorem T_jLat_indexOfChar_5 (l : Launch) (D : va_G) (g : Nat → ClassId) (q : Nat → Nat) (ws : va_W) (x2 : Int32) (x3 : Int32) (x4 : Int32) (hI : q_I (nsh g q) q ws) (pre0 : 0 ≤ x3.toInt) (pre1 : x4.toInt ≤ 3) : q_mI l y_jLat_indexOfChar prog_33_method_23_code 6 (.int) 1 0 0 D g [.ref (g (9 + 2 * 5)), .int x2, .int x3, .int x4] ws (fun r u => ws = u ∧ (0 ≤ r.toInt + 1) ∧ (r.toInt ≤ 2)) := by
  intro sz
  refine q_into (by decide) (Nat.le_of_ble_eq_true rfl) ?_
  intro p e s m below meth c ls hsz C0 V hl
  have hx := C0.1
  have hb := C0.2.1
  replace pre0 : q_F (0 ≤ x3.toInt) := pre0
  replace pre1 : q_F (x4.toInt ≤ 3) := pre1
  have hl : lv_has ls 6 [(0, .ref (g (9 + 2 * 5))), (1, .int x2), (2, .int x3), (3, .int x4)] := hl
  refine lv_iload_n hx hb d_33_23_0 rfl (lv_at hl 1 rfl) ?_
  refine lv_i2b hx hb d_33_23_1 rfl ?_
  obtain ⟨a1, e2⟩ := q_nm (x2.toInt8.toInt32 : Int32)
  refine q_ti (v := a1) e2 ?_
  refine lv_istore (lv' := [(4, .int a1), (0, .ref (g (9 + 2 * 5))), (1, .int x2), (2, .int x3), (3, .int x4)]) hx hb d_33_23_2 hl (by decide) rfl (fun ls hl => ?_)
  refine lv_iload_n hx hb d_33_23_4 rfl (lv_at hl 3 rfl) ?_
  refine lv_istore (lv' := [(5, .int x3), (4, .int a1), (0, .ref (g (9 + 2 * 5))), (1, .int x2), (2, .int x3), (3, .int x4)]) hx hb d_33_23_5 hl (by decide) rfl (fun ls hl => ?_)
  refine q_loop (X := Int32) (fun z H locs ls _ => q_F (x3.toInt ≤ z.toInt) ∧ q_Wd D g (va_A ws sz) s ws H locs ∧ lv_has ls 6 [(5, .int z), (4, .int a1), (0, .ref (g (9 + 2 * 5))), (3, .int x4)]) (fun z => (3 - z.toInt).toNat) ?_ ((x3 : Int32)) _ _ _ ws ⟨(show q_F (x3.toInt ≤ x3.toInt) from (show x3.toInt ≤ x3.toInt from by omega)), V, q_lw hl (q_lw1 0 rfl (q_lw1 1 rfl (q_lw1 2 rfl (q_lw1 5 rfl q_lw0))))⟩
  rintro lx4 H locs ls _ ⟨i5, V, hl⟩ ih6
  replace i5 : q_F (x3.toInt ≤ lx4.toInt) := i5
  replace hl : lv_has ls 6 [(5, .int lx4), (4, .int a1), (0, .ref (g (9 + 2 * 5))), (3, .int x4)] := hl
  refine lv_iload hx hb d_33_23_7 (lv_at hl 0 rfl) ?_
  refine lv_iload_n hx hb d_33_23_9 rfl (lv_at hl 3 rfl) ?_
  refine lv_icmp_ge (tgt := 31) hx hb d_33_23_10 (by decide) (fun c7 => ?_) (fun c7 => ?_)
  ·
    have b8 : q_F (x4.toInt ≤ lx4.toInt) := (q_leI c7)
    refine lv_iconst (v := (-1)) hx hb d_33_23_31 (by decide) ?_
    exact q_reti C0 V (⟨rfl, (show 0 ≤ (-1 : Int32).toInt + 1 from (by have z3 : (-1 : Int32).toInt = -1 := rfl; omega)), (show (-1 : Int32).toInt ≤ 2 from (by have z3 : (-1 : Int32).toInt = -1 := rfl; omega))⟩) d_33_23_32
  ·
    have b9 : q_F (lx4.toInt < x4.toInt) := (q_nleI c7)
    refine lv_aload_n hx hb d_33_23_13 rfl (lv_at hl 2 rfl) ?_
    refine lv_iload hx hb d_33_23_14 (lv_at hl 0 rfl) ?_
    refine q_sbal (i := 5) (v := (([100, 103, 71] : List Int32).getD lx4.toNatClampNeg 0)) C0 V rfl (show vp_in lx4 3 from q_ix (x := lx4.toInt) rfl (by have t1 : 0 ≤ x3.toInt := pre0; have t2 : x3.toInt ≤ lx4.toInt := i5; omega) (by have t1 : 0 ≤ x3.toInt := pre0; have t2 : x3.toInt ≤ lx4.toInt := i5; have t3 : x4.toInt ≤ 3 := pre1; have t4 : lx4.toInt < x4.toInt := b9; omega)) rfl d_33_23_16 ?_
    obtain ⟨a10, e11⟩ := q_nm ((([100, 103, 71] : List Int32).getD lx4.toNatClampNeg 0) : Int32)
    refine q_ti (v := a10) e11 ?_
    refine lv_iload hx hb d_33_23_17 (lv_at hl 1 rfl) ?_
    refine lv_icmp_ne (tgt := 25) hx hb d_33_23_19 (by decide) (fun c12 => ?_) (fun c12 => ?_)
    ·
      have b13 : q_F (a10.toInt ≠ a1.toInt) := (q_neI c12)
      obtain ⟨a14, e15⟩ := q_nm (lx4 + 1 : Int32)
      have b16 : q_F (a14.toInt = lx4.toInt + 1) := (by rw [← e15]; exact q_addI (y := 1) rfl (by decide) (by have _ := q_lo32 (x := lx4); have _ := q_hi32 (x := lx4); have t1 : lx4.toInt < x4.toInt := b9; have _ := q_lo32 (x := x4); have _ := q_hi32 (x := x4); omega) (by have _ := q_lo32 (x := lx4); have _ := q_hi32 (x := lx4); have t1 : lx4.toInt < x4.toInt := b9; have _ := q_lo32 (x := x4); have _ := q_hi32 (x := x4); omega))
      refine lv_iinc (v := a14) (lv' := [(5, .int a14), (4, .int a1), (0, .ref (g (9 + 2 * 5))), (3, .int x4)]) hx hb d_33_23_25 hl (k := 0) rfl (e15) (by decide) rfl (fun ls hl => ?_)
      refine lv_goto (tgt := 7) hx hb d_33_23_28 (by decide) ?_
      exact ih6 ((a14 : Int32)) _ _ _ ws (show (3 - a14.toInt).toNat < (3 - lx4.toInt).toNat from by have t1 : a14.toInt = lx4.toInt + 1 := b16; have t2 : x4.toInt ≤ 3 := pre1; have t3 : lx4.toInt < x4.toInt := b9; omega) ⟨(show q_F (x3.toInt ≤ a14.toInt) from (show x3.toInt ≤ a14.toInt from by have t1 : x3.toInt ≤ lx4.toInt := i5; have t2 : a14.toInt = lx4.toInt + 1 := b16; omega)), V, q_lw hl (q_lw1 0 rfl (q_lw1 1 rfl (q_lw1 2 rfl (q_lw1 3 rfl q_lw0))))⟩
    ·
      have b17 : q_F (a10.toInt = a1.toInt) := (q_eqI c12)
      refine lv_iload hx hb d_33_23_22 (lv_at hl 0 rfl) ?_
      exact q_reti C0 V (⟨rfl, (show 0 ≤ lx4.toInt + 1 from (by have t1 : 0 ≤ x3.toInt := pre0; have t2 : x3.toInt ≤ lx4.toInt := i5; omega)), (show lx4.toInt ≤ 2 from (by have t1 : x4.toInt ≤ 3 := pre1; have t2 : lx4.toInt < x4.toInt := b9; omega))⟩) d_33_23_24
set_option maxRecDepth 100000 in
set_option maxHeartbeats 4000000 in
theorem T_jLat_indexOf_5 (l : Launch) (D : va_G) (g : Nat → ClassId) (q : Nat → Nat) (ws : va_W) (x2 : Int32) (x3 : Int32) (x4 : Int32) (hI : q_I (nsh g q) q ws) (pre0 : 0 ≤ x3.toInt) (pre1 : x4.toInt ≤ 3) : q_mI l y_jLat_indexOf prog_33_method_22_code 4 (.int) 2 0 0 D g [.ref (g (9 + 2 * 5)), .int x2, .int x3, .int x4] ws (fun r u => ws = u ∧ (0 ≤ r.toInt + 1) ∧ (r.toInt ≤ 2)) := by
  intro sz
  refine q_into (by decide) (Nat.le_of_ble_eq_true rfl) ?_
  intro p e s m below meth c ls hsz C0 V hl
  have hx := C0.1
  have hb := C0.2.1
  replace pre0 : q_F (0 ≤ x3.toInt) := pre0
  replace pre1 : q_F (x4.toInt ≤ 3) := pre1
  have hl : lv_has ls 4 [(0, .ref (g (9 + 2 * 5))), (1, .int x2), (2, .int x3), (3, .int x4)] := hl
  refine lv_iload_n hx hb d_33_22_0 rfl (lv_at hl 1 rfl) ?_
  refine q_goi V (q_runS (As := [.int x2]) (rest := []) (d := 1) (mc := 0) (ms := 0) C0 V rfl LS_jLat_88 (T_jLat_canEncode l D g q ws  x2 hI   _) rfl hl.1 rfl (Nat.le_of_ble_eq_true rfl) ⟨by decide, by decide⟩ ⟨Nat.le_of_ble_eq_true rfl, Nat.le_of_ble_eq_true rfl⟩ d_33_22_1) (fun a3 u1 H locs hp2 V => ?_)
  obtain ⟨rfl, b4, b5⟩ := hp2
  replace b4 : q_F (0 ≤ a3.toInt) := b4
  replace b5 : q_F (a3.toInt ≤ 1) := b5
  refine lv_if_ne (tgt := 9) hx hb d_33_22_4 (by decide) (fun c6 => ?_) (fun c6 => ?_)
  ·
    have b7 : q_F (a3.toInt ≠ 0) := (q_neI c6)
    refine lv_iload_n hx hb d_33_22_9 rfl (lv_at hl 2 rfl) ?_
    refine lv_iconst (v := 0) hx hb d_33_22_10 (by decide) ?_
    refine q_max C0 hl.1 rfl w_1773 w_803 w_7 w_804 ⟨Nat.le_of_ble_eq_true rfl, Nat.le_of_ble_eq_true rfl⟩ ⟨Nat.le_of_ble_eq_true rfl, Nat.le_of_ble_eq_true rfl⟩ d_33_22_11 ?_
    obtain ⟨a8, e9⟩ := q_nm (if x3 < 0 then 0 else x3 : Int32)
    refine q_ti (v := a8) e9 ?_
    have b10 : q_F (x3.toInt ≤ a8.toInt ∧ 0 ≤ a8.toInt ∧ (a8.toInt = x3.toInt ∨ a8.toInt = 0)) := (by rw [← e9]; show x3.toInt ≤ (if x3 < 0 then 0 else x3 : Int32).toInt ∧ 0 ≤ (if x3 < 0 then 0 else x3 : Int32).toInt ∧ ((if x3 < 0 then 0 else x3 : Int32).toInt = x3.toInt ∨ (if x3 < 0 then 0 else x3 : Int32).toInt = 0); exact (by have y1 : (0 : Int32).toInt = 0 := rfl; have z := s_max (a := x3) (b := 0); omega))
    refine lv_istore_n (lv' := [(2, .int a8), (0, .ref (g (9 + 2 * 5))), (1, .int x2), (3, .int x4)]) hx hb d_33_22_14 rfl hl (by decide) rfl (fun ls hl => ?_)
    refine lv_iload_n hx hb d_33_22_15 rfl (lv_at hl 3 rfl) ?_
    refine lv_aload_n hx hb d_33_22_16 rfl (lv_at hl 1 rfl) ?_
    refine q_slen (i := 5) (v := 3) C0 V rfl (by decide) d_33_22_17 ?_
    refine q_min C0 hl.1 rfl w_1774 w_774 w_7 w_775 ⟨Nat.le_of_ble_eq_true rfl, Nat.le_of_ble_eq_true rfl⟩ ⟨Nat.le_of_ble_eq_true rfl, Nat.le_of_ble_eq_true rfl⟩ d_33_22_18 ?_
    obtain ⟨a11, e12⟩ := q_nm (if 3 < x4 then 3 else x4 : Int32)
    refine q_ti (v := a11) e12 ?_
    have b13 : q_F (a11.toInt ≤ x4.toInt ∧ a11.toInt ≤ 3 ∧ (a11.toInt = x4.toInt ∨ a11.toInt = 3)) := (by rw [← e12]; show (if 3 < x4 then 3 else x4 : Int32).toInt ≤ x4.toInt ∧ (if 3 < x4 then 3 else x4 : Int32).toInt ≤ 3 ∧ ((if 3 < x4 then 3 else x4 : Int32).toInt = x4.toInt ∨ (if 3 < x4 then 3 else x4 : Int32).toInt = 3); exact (by have y1 : (3 : Int32).toInt = 3 := rfl; have z := s_min (a := x4) (b := 3); omega))
    refine lv_istore_n (lv' := [(3, .int a11), (2, .int a8), (0, .ref (g (9 + 2 * 5))), (1, .int x2)]) hx hb d_33_22_21 rfl hl (by decide) rfl (fun ls hl => ?_)
    refine lv_iload_n hx hb d_33_22_22 rfl (lv_at hl 1 rfl) ?_
    refine lv_iload_n hx hb d_33_22_23 rfl (lv_at hl 0 rfl) ?_
    refine lv_icmp_lt (tgt := 29) hx hb d_33_22_24 (by decide) (fun c14 => ?_) (fun c14 => ?_)
    ·
      have b15 : q_F (a8.toInt < a11.toInt) := (q_ltI c14)
      refine lv_aload_n hx hb d_33_22_29 rfl (lv_at hl 2 rfl) ?_
      refine lv_iload_n hx hb d_33_22_30 rfl (lv_at hl 3 rfl) ?_
      refine lv_iload_n hx hb d_33_22_31 rfl (lv_at hl 1 rfl) ?_
      refine lv_iload_n hx hb d_33_22_32 rfl (lv_at hl 0 rfl) ?_
      refine q_goi V (q_runS (As := [.ref (g (9 + 2 * 5)), .int x2, .int a8, .int a11]) (rest := []) (d := 1) (mc := 0) (ms := 0) C0 V rfl LS_jLat_95 (T_jLat_indexOfChar_5 l D g q ws  x2 a8 a11 hI  (by have t1 : x3.toInt ≤ a8.toInt ∧ 0 ≤ a8.toInt ∧ (a8.toInt = x3.toInt ∨ a8.toInt = 0) := b10; omega) (by have t1 : a11.toInt ≤ x4.toInt ∧ a11.toInt ≤ 3 ∧ (a11.toInt = x4.toInt ∨ a11.toInt = 3) := b13; omega) _) rfl hl.1 rfl (Nat.le_of_ble_eq_true rfl) ⟨by decide, by decide⟩ ⟨Nat.le_of_ble_eq_true rfl, Nat.le_of_ble_eq_true rfl⟩ d_33_22_33) (fun a18 u16 H locs hp17 V => ?_)
      obtain ⟨rfl, b19, b20⟩ := hp17
      replace b19 : q_F (0 ≤ a18.toInt + 1) := b19
      replace b20 : q_F (a18.toInt ≤ 2) := b20
      exact q_reti C0 V (⟨rfl, (show 0 ≤ a18.toInt + 1 from (by have t1 : 0 ≤ a18.toInt + 1 := b19; omega)), (show a18.toInt ≤ 2 from (by have t1 : a18.toInt ≤ 2 := b20; omega))⟩) d_33_22_36
    ·
      have b21 : q_F (a11.toInt ≤ a8.toInt) := (q_nltI c14)
      refine lv_iconst (v := (-1)) hx hb d_33_22_27 (by decide) ?_
      exact q_reti C0 V (⟨rfl, (show 0 ≤ (-1 : Int32).toInt + 1 from (by have z3 : (-1 : Int32).toInt = -1 := rfl; omega)), (show (-1 : Int32).toInt ≤ 2 from (by have z3 : (-1 : Int32).toInt = -1 := rfl; omega))⟩) d_33_22_28
  ·
    have b22 : q_F (a3.toInt = 0) := (q_eqI c6)
    refine lv_iconst (v := (-1)) hx hb d_33_22_7 (by decide) ?_
    exact q_reti C0 V (⟨rfl, (show 0 ≤ (-1 : Int32).toInt + 1 from (by have z3 : (-1 : Int32).toInt = -1 := rfl; omega)), (show (-1 : Int32).toInt ≤ 2 from (by have z3 : (-1 : Int32).toInt = -1 := rfl; omega))⟩) d_33_22_8
set_option maxRecDepth 100000 in
set_option maxHeartbeats 4000000 in
theorem T_jStr_indexOf_III_5 (l : Launch) (D : va_G) (g : Nat → ClassId) (q : Nat → Nat) (ws : va_W) (x2 : Int32) (x3 : Int32) (hI : q_I (nsh g q) q ws) (pre0 : 0 ≤ x3.toInt) : q_mI l y_jStr_indexOf_III prog_31_method_80_code 3 (.int) 3 0 0 D g [.ref (g (8 + 2 * 5)), .int x2, .int x3] ws (fun r u => ws = u ∧ (0 ≤ r.toInt + 1) ∧ (r.toInt ≤ 2)) := by
  intro sz
  refine q_into (by decide) (Nat.le_of_ble_eq_true rfl) ?_
  intro p e s m below meth c ls hsz C0 V hl
  have hx := C0.1
  have hb := C0.2.1
  replace pre0 : q_F (0 ≤ x3.toInt) := pre0
  have hl : lv_has ls 3 [(0, .ref (g (8 + 2 * 5))), (1, .int x2), (2, .int x3)] := hl
  refine lv_aload_n hx hb d_31_80_0 rfl (lv_at hl 0 rfl) ?_
  refine q_goi V (q_runVs (As := []) (rest := []) (d := 1) (mc := 0) (ms := 0) (i := 5) C0 V rfl LV_jStr_492 (T_jStr_isLatin1_5 l D g q ws   hI   _) rfl rfl rfl hl.1 rfl (Nat.le_of_ble_eq_true rfl) ⟨by decide, by decide⟩ ⟨Nat.le_of_ble_eq_true rfl, Nat.le_of_ble_eq_true rfl⟩ d_31_80_1) (fun a3 u1 H locs hp2 V => ?_)
  obtain ⟨rfl, b4, b5⟩ := hp2
  replace b4 : q_F (1 ≤ a3.toInt) := b4
  replace b5 : q_F (a3.toInt ≤ 1) := b5
  obtain rfl : a3 = (1 : Int32) := q_Ieq (x := a3.toInt) (y := 1) rfl (by decide) (by have t1 : 1 ≤ a3.toInt := b4; have t2 : a3.toInt ≤ 1 := b5; omega)
  refine lv_if_eq (tgt := 23) hx hb d_31_80_4 (by decide) (fun c6 => absurd c6 (by decide)) (fun c6 => ?_)
  refine lv_aload_n hx hb d_31_80_7 rfl (lv_at hl 0 rfl) ?_
  refine q_sval (i := 5) C0 V rfl rfl w_1018 d_31_80_8 ?_
  refine lv_iload_n hx hb d_31_80_11 rfl (lv_at hl 1 rfl) ?_
  refine lv_iload_n hx hb d_31_80_12 rfl (lv_at hl 2 rfl) ?_
  refine lv_aload_n hx hb d_31_80_13 rfl (lv_at hl 0 rfl) ?_
  refine q_goi V (q_runVs (As := []) (rest := [.int x3, .int x2, .ref (g (9 + 2 * 5))]) (d := 2) (mc := 0) (ms := 0) (i := 5) C0 V rfl LV_jStr_505 (T_jStr_length_5 l D g q ws   hI   _) rfl rfl rfl hl.1 rfl (Nat.le_of_ble_eq_true rfl) ⟨by decide, by decide⟩ ⟨Nat.le_of_ble_eq_true rfl, Nat.le_of_ble_eq_true rfl⟩ d_31_80_14) (fun a9 u7 H locs hp8 V => ?_)
  obtain ⟨rfl, b10, b11⟩ := hp8
  replace b10 : q_F (3 ≤ a9.toInt) := b10
  replace b11 : q_F (a9.toInt ≤ 3) := b11
  obtain rfl : a9 = (3 : Int32) := q_Ieq (x := a9.toInt) (y := 3) rfl (by decide) (by have t1 : 3 ≤ a9.toInt := b10; have t2 : a9.toInt ≤ 3 := b11; omega)
  refine q_goi V (q_runS (As := [.ref (g (9 + 2 * 5)), .int x2, .int x3, .int 3]) (rest := []) (d := 2) (mc := 0) (ms := 0) C0 V rfl LS_jStr_637 (T_jLat_indexOf_5 l D g q ws  x2 x3 3 hI  (by have y0 : (3 : Int32).toInt = 3 := rfl; have t1 : 0 ≤ x3.toInt := pre0; omega) (by have y0 : (3 : Int32).toInt = 3 := rfl; omega) _) rfl hl.1 rfl (Nat.le_of_ble_eq_true rfl) ⟨by decide, by decide⟩ ⟨Nat.le_of_ble_eq_true rfl, Nat.le_of_ble_eq_true rfl⟩ d_31_80_17) (fun a14 u12 H locs hp13 V => ?_)
  obtain ⟨rfl, b15, b16⟩ := hp13
  replace b15 : q_F (0 ≤ a14.toInt + 1) := b15
  replace b16 : q_F (a14.toInt ≤ 2) := b16
  refine lv_goto (tgt := 36) hx hb d_31_80_20 (by decide) ?_
  exact q_reti C0 V (⟨rfl, (show 0 ≤ a14.toInt + 1 from (by have t1 : 0 ≤ a14.toInt + 1 := b15; omega)), (show a14.toInt ≤ 2 from (by have t1 : a14.toInt ≤ 2 := b16; omega))⟩) d_31_80_36
set_option maxRecDepth 100000 in
set_option maxHeartbeats 4000000 in
theorem T_jStr_indexOf_II_5 (l : Launch) (D : va_G) (g : Nat → ClassId) (q : Nat → Nat) (ws : va_W) (x2 : Int32) (hI : q_I (nsh g q) q ws) : q_mI l y_jStr_indexOf_II prog_31_method_79_code 2 (.int) 4 0 0 D g [.ref (g (8 + 2 * 5)), .int x2] ws (fun r u => ws = u ∧ (0 ≤ r.toInt + 1) ∧ (r.toInt ≤ 2)) := by
  intro sz
  refine q_into (by decide) (Nat.le_of_ble_eq_true rfl) ?_
  intro p e s m below meth c ls hsz C0 V hl
  have hx := C0.1
  have hb := C0.2.1
  have hl : lv_has ls 2 [(0, .ref (g (8 + 2 * 5))), (1, .int x2)] := hl
  refine lv_aload_n hx hb d_31_79_0 rfl (lv_at hl 0 rfl) ?_
  refine lv_iload_n hx hb d_31_79_1 rfl (lv_at hl 1 rfl) ?_
  refine lv_iconst (v := 0) hx hb d_31_79_2 (by decide) ?_
  refine q_goi V (q_runVs (As := [.int x2, .int 0]) (rest := []) (d := 3) (mc := 0) (ms := 0) (i := 5) C0 V rfl LV_jStr_633 (T_jStr_indexOf_III_5 l D g q ws  x2 0 hI  (by have y0 : (0 : Int32).toInt = 0 := rfl; omega) _) rfl rfl rfl hl.1 rfl (Nat.le_of_ble_eq_true rfl) ⟨by decide, by decide⟩ ⟨Nat.le_of_ble_eq_true rfl, Nat.le_of_ble_eq_true rfl⟩ d_31_79_3) (fun a3 u1 H locs hp2 V => ?_)
  obtain ⟨rfl, b4, b5⟩ := hp2
  replace b4 : q_F (0 ≤ a3.toInt + 1) := b4
  replace b5 : q_F (a3.toInt ≤ 2) := b5
  exact q_reti C0 V (⟨rfl, (show 0 ≤ a3.toInt + 1 from (by have t1 : 0 ≤ a3.toInt + 1 := b4; omega)), (show a3.toInt ≤ 2 from (by have t1 : a3.toInt ≤ 2 := b5; omega))⟩) d_31_79_6
set_option maxRecDepth 100000 in
set_option maxHeartbeats 4000000 in
theorem T_jStr_coder_6 (l : Launch) (D : va_G) (g : Nat → ClassId) (q : Nat → Nat) (ws : va_W) (hI : q_I (nsh g q) q ws) : q_mI l y_jStr_coder prog_31_method_152_code 1 (.byte) 1 0 0 D g [.ref (g (8 + 2 * 6))] ws (fun r u => ws = u ∧ (0 ≤ r.toInt) ∧ (r.toInt ≤ 0)) := by
  intro sz
  refine q_into (by decide) (Nat.le_of_ble_eq_true rfl) ?_
  intro p e s m below meth c ls hsz C0 V hl
  have hx := C0.1
  have hb := C0.2.1
  have hl : lv_has ls 1 [(0, .ref (g (8 + 2 * 6)))] := hl
  refine q_scmp C0 V rfl w_663 d_31_152_0 ?_
  refine lv_if_eq (tgt := 13) hx hb d_31_152_3 (by decide) (fun c1 => absurd c1 (by decide)) (fun c1 => ?_)
  refine lv_aload_n hx hb d_31_152_6 rfl (lv_at hl 0 rfl) ?_
  refine q_scod (i := 6) C0 V rfl rfl w_1019 d_31_152_7 ?_
  refine lv_goto (tgt := 14) hx hb d_31_152_10 (by decide) ?_
  exact q_retn C0 V (rfl) (⟨rfl, (show 0 ≤ (0 : Int32).toInt from (by have z0 : (0 : Int32).toInt = 0 := rfl; omega)), (show (0 : Int32).toInt ≤ 0 from (by have z0 : (0 : Int32).toInt = 0 := rfl; omega))⟩) d_31_152_14
set_option maxRecDepth 100000 in
set_option maxHeartbeats 4000000 in
theorem T_jStr_length_6 (l : Launch) (D : va_G) (g : Nat → ClassId) (q : Nat → Nat) (ws : va_W) (hI : q_I (nsh g q) q ws) : q_mI l y_jStr_length prog_31_method_54_code 1 (.int) 2 0 0 D g [.ref (g (8 + 2 * 6))] ws (fun r u => ws = u ∧ (2 ≤ r.toInt) ∧ (r.toInt ≤ 2)) := by
  intro sz
  refine q_into (by decide) (Nat.le_of_ble_eq_true rfl) ?_
  intro p e s m below meth c ls hsz C0 V hl
  have hx := C0.1
  have hb := C0.2.1
  have hl : lv_has ls 1 [(0, .ref (g (8 + 2 * 6)))] := hl
  refine lv_aload_n hx hb d_31_54_0 rfl (lv_at hl 0 rfl) ?_
  refine q_sval (i := 6) C0 V rfl rfl w_1018 d_31_54_1 ?_
  refine q_slen (i := 6) (v := 2) C0 V rfl (by decide) d_31_54_4 ?_
  refine lv_aload_n hx hb d_31_54_5 rfl (lv_at hl 0 rfl) ?_
  refine q_goi V (q_runVs (As := []) (rest := [.int 2]) (d := 1) (mc := 0) (ms := 0) (i := 6) C0 V rfl LV_jStr_335 (T_jStr_coder_6 l D g q ws   hI   _) rfl rfl rfl hl.1 rfl (Nat.le_of_ble_eq_true rfl) ⟨by decide, by decide⟩ ⟨Nat.le_of_ble_eq_true rfl, Nat.le_of_ble_eq_true rfl⟩ d_31_54_6) (fun a3 u1 H locs hp2 V => ?_)
  obtain ⟨rfl, b4, b5⟩ := hp2
  replace b4 : q_F (0 ≤ a3.toInt) := b4
  replace b5 : q_F (a3.toInt ≤ 0) := b5
  obtain rfl : a3 = (0 : Int32) := q_Ieq (x := a3.toInt) (y := 0) rfl (by decide) (by have t1 : 0 ≤ a3.toInt := b4; have t2 : a3.toInt ≤ 0 := b5; omega)
  refine lv_ishr hx hb d_31_54_9 ?_
  refine q_ti (v := 2) (by decide) ?_
  exact q_reti C0 V (⟨rfl, (show 2 ≤ (2 : Int32).toInt from (by have z0 : (2 : Int32).toInt = 2 := rfl; omega)), (show (2 : Int32).toInt ≤ 2 from (by have z0 : (2 : Int32).toInt = 2 := rfl; omega))⟩) d_31_54_10
set_option maxRecDepth 100000 in
set_option maxHeartbeats 4000000 in
theorem T_jStr_isLatin1_6 (l : Launch) (D : va_G) (g : Nat → ClassId) (q : Nat → Nat) (ws : va_W) (hI : q_I (nsh g q) q ws) : q_mI l y_jStr_isLatin1 prog_31_method_154_code 1 (.boolean) 1 0 0 D g [.ref (g (8 + 2 * 6))] ws (fun r u => ws = u ∧ (1 ≤ r.toInt) ∧ (r.toInt ≤ 1)) := by
  intro sz
  refine q_into (by decide) (Nat.le_of_ble_eq_true rfl) ?_
  intro p e s m below meth c ls hsz C0 V hl
  have hx := C0.1
  have hb := C0.2.1
  have hl : lv_has ls 1 [(0, .ref (g (8 + 2 * 6)))] := hl
  refine q_scmp C0 V rfl w_663 d_31_154_0 ?_
  refine lv_if_eq (tgt := 17) hx hb d_31_154_3 (by decide) (fun c1 => absurd c1 (by decide)) (fun c1 => ?_)
  refine lv_aload_n hx hb d_31_154_6 rfl (lv_at hl 0 rfl) ?_
  refine q_scod (i := 6) C0 V rfl rfl w_1019 d_31_154_7 ?_
  refine lv_if_ne (tgt := 17) hx hb d_31_154_10 (by decide) (fun c2 => absurd (by decide) c2) (fun c2 => ?_)
  refine lv_iconst (v := 1) hx hb d_31_154_13 (by decide) ?_
  refine lv_goto (tgt := 18) hx hb d_31_154_14 (by decide) ?_
  exact q_retz C0 V (by decide) (⟨rfl, (show 1 ≤ (1 : Int32).toInt from (by have z0 : (1 : Int32).toInt = 1 := rfl; omega)), (show (1 : Int32).toInt ≤ 1 from (by have z0 : (1 : Int32).toInt = 1 := rfl; omega))⟩) d_31_154_18
set_option maxRecDepth 100000 in
set_option maxHeartbeats 4000000 in
theorem T_jLat_indexOfChar_6 (l : Launch) (D : va_G) (g : Nat → ClassId) (q : Nat → Nat) (ws : va_W) (x2 : Int32) (x3 : Int32) (x4 : Int32) (hI : q_I (nsh g q) q ws) (pre0 : 0 ≤ x3.toInt) (pre1 : x4.toInt ≤ 2) : q_mI l y_jLat_indexOfChar prog_33_method_23_code 6 (.int) 1 0 0 D g [.ref (g (9 + 2 * 6)), .int x2, .int x3, .int x4] ws (fun r u => ws = u ∧ (0 ≤ r.toInt + 1) ∧ (r.toInt ≤ 1)) := by
  intro sz
  refine q_into (by decide) (Nat.le_of_ble_eq_true rfl) ?_
  intro p e s m below meth c ls hsz C0 V hl
  have hx := C0.1
  have hb := C0.2.1
  replace pre0 : q_F (0 ≤ x3.toInt) := pre0
  replace pre1 : q_F (x4.toInt ≤ 2) := pre1
  have hl : lv_has ls 6 [(0, .ref (g (9 + 2 * 6))), (1, .int x2), (2, .int x3), (3, .int x4)] := hl
  refine lv_iload_n hx hb d_33_23_0 rfl (lv_at hl 1 rfl) ?_
  refine lv_i2b hx hb d_33_23_1 rfl ?_
  obtain ⟨a1, e2⟩ := q_nm (x2.toInt8.toInt32 : Int32)
  refine q_ti (v := a1) e2 ?_
  refine lv_istore (lv' := [(4, .int a1), (0, .ref (g (9 + 2 * 6))), (1, .int x2), (2, .int x3), (3, .int x4)]) hx hb d_33_23_2 hl (by decide) rfl (fun ls hl => ?_)
  refine lv_iload_n hx hb d_33_23_4 rfl (lv_at hl 3 rfl) ?_
  refine lv_istore (lv' := [(5, .int x3), (4, .int a1), (0, .ref (g (9 + 2 * 6))), (1, .int x2), (2, .int x3), (3, .int x4)]) hx hb d_33_23_5 hl (by decide) rfl (fun ls hl => ?_)
  refine q_loop (X := Int32) (fun z H locs ls _ => q_F (x3.toInt ≤ z.toInt) ∧ q_Wd D g (va_A ws sz) s ws H locs ∧ lv_has ls 6 [(5, .int z), (4, .int a1), (0, .ref (g (9 + 2 * 6))), (3, .int x4)]) (fun z => (2 - z.toInt).toNat) ?_ ((x3 : Int32)) _ _ _ ws ⟨(show q_F (x3.toInt ≤ x3.toInt) from (show x3.toInt ≤ x3.toInt from by omega)), V, q_lw hl (q_lw1 0 rfl (q_lw1 1 rfl (q_lw1 2 rfl (q_lw1 5 rfl q_lw0))))⟩
  rintro lx4 H locs ls _ ⟨i5, V, hl⟩ ih6
  replace i5 : q_F (x3.toInt ≤ lx4.toInt) := i5
  replace hl : lv_has ls 6 [(5, .int lx4), (4, .int a1), (0, .ref (g (9 + 2 * 6))), (3, .int x4)] := hl
  refine lv_iload hx hb d_33_23_7 (lv_at hl 0 rfl) ?_
  refine lv_iload_n hx hb d_33_23_9 rfl (lv_at hl 3 rfl) ?_
  refine lv_icmp_ge (tgt := 31) hx hb d_33_23_10 (by decide) (fun c7 => ?_) (fun c7 => ?_)
  ·
    have b8 : q_F (x4.toInt ≤ lx4.toInt) := (q_leI c7)
    refine lv_iconst (v := (-1)) hx hb d_33_23_31 (by decide) ?_
    exact q_reti C0 V (⟨rfl, (show 0 ≤ (-1 : Int32).toInt + 1 from (by have z3 : (-1 : Int32).toInt = -1 := rfl; omega)), (show (-1 : Int32).toInt ≤ 1 from (by have z3 : (-1 : Int32).toInt = -1 := rfl; omega))⟩) d_33_23_32
  ·
    have b9 : q_F (lx4.toInt < x4.toInt) := (q_nleI c7)
    refine lv_aload_n hx hb d_33_23_13 rfl (lv_at hl 2 rfl) ?_
    refine lv_iload hx hb d_33_23_14 (lv_at hl 0 rfl) ?_
    refine q_sbal (i := 6) (v := (([101, 69] : List Int32).getD lx4.toNatClampNeg 0)) C0 V rfl (show vp_in lx4 2 from q_ix (x := lx4.toInt) rfl (by have t1 : 0 ≤ x3.toInt := pre0; have t2 : x3.toInt ≤ lx4.toInt := i5; omega) (by have t1 : 0 ≤ x3.toInt := pre0; have t2 : x3.toInt ≤ lx4.toInt := i5; have t3 : x4.toInt ≤ 2 := pre1; have t4 : lx4.toInt < x4.toInt := b9; omega)) rfl d_33_23_16 ?_
    obtain ⟨a10, e11⟩ := q_nm ((([101, 69] : List Int32).getD lx4.toNatClampNeg 0) : Int32)
    refine q_ti (v := a10) e11 ?_
    refine lv_iload hx hb d_33_23_17 (lv_at hl 1 rfl) ?_
    refine lv_icmp_ne (tgt := 25) hx hb d_33_23_19 (by decide) (fun c12 => ?_) (fun c12 => ?_)
    ·
      have b13 : q_F (a10.toInt ≠ a1.toInt) := (q_neI c12)
      obtain ⟨a14, e15⟩ := q_nm (lx4 + 1 : Int32)
      have b16 : q_F (a14.toInt = lx4.toInt + 1) := (by rw [← e15]; exact q_addI (y := 1) rfl (by decide) (by have _ := q_lo32 (x := lx4); have _ := q_hi32 (x := lx4); have t1 : lx4.toInt < x4.toInt := b9; have _ := q_lo32 (x := x4); have _ := q_hi32 (x := x4); omega) (by have _ := q_lo32 (x := lx4); have _ := q_hi32 (x := lx4); have t1 : lx4.toInt < x4.toInt := b9; have _ := q_lo32 (x := x4); have _ := q_hi32 (x := x4); omega))
      refine lv_iinc (v := a14) (lv' := [(5, .int a14), (4, .int a1), (0, .ref (g (9 + 2 * 6))), (3, .int x4)]) hx hb d_33_23_25 hl (k := 0) rfl (e15) (by decide) rfl (fun ls hl => ?_)
      refine lv_goto (tgt := 7) hx hb d_33_23_28 (by decide) ?_
      exact ih6 ((a14 : Int32)) _ _ _ ws (show (2 - a14.toInt).toNat < (2 - lx4.toInt).toNat from by have t1 : a14.toInt = lx4.toInt + 1 := b16; have t2 : x4.toInt ≤ 2 := pre1; have t3 : lx4.toInt < x4.toInt := b9; omega) ⟨(show q_F (x3.toInt ≤ a14.toInt) from (show x3.toInt ≤ a14.toInt from by have t1 : x3.toInt ≤ lx4.toInt := i5; have t2 : a14.toInt = lx4.toInt + 1 := b16; omega)), V, q_lw hl (q_lw1 0 rfl (q_lw1 1 rfl (q_lw1 2 rfl (q_lw1 3 rfl q_lw0))))⟩
    ·
      have b17 : q_F (a10.toInt = a1.toInt) := (q_eqI c12)
      refine lv_iload hx hb d_33_23_22 (lv_at hl 0 rfl) ?_
      exact q_reti C0 V (⟨rfl, (show 0 ≤ lx4.toInt + 1 from (by have t1 : 0 ≤ x3.toInt := pre0; have t2 : x3.toInt ≤ lx4.toInt := i5; omega)), (show lx4.toInt ≤ 1 from (by have t1 : x4.toInt ≤ 2 := pre1; have t2 : lx4.toInt < x4.toInt := b9; omega))⟩) d_33_23_24
set_option maxRecDepth 100000 in
set_option maxHeartbeats 4000000 in
theorem T_jLat_indexOf_6 (l : Launch) (D : va_G) (g : Nat → ClassId) (q : Nat → Nat) (ws : va_W) (x2 : Int32) (x3 : Int32) (x4 : Int32) (hI : q_I (nsh g q) q ws) (pre0 : 0 ≤ x3.toInt) (pre1 : x4.toInt ≤ 2) : q_mI l y_jLat_indexOf prog_33_method_22_code 4 (.int) 2 0 0 D g [.ref (g (9 + 2 * 6)), .int x2, .int x3, .int x4] ws (fun r u => ws = u ∧ (0 ≤ r.toInt + 1) ∧ (r.toInt ≤ 1)) := by
  intro sz
  refine q_into (by decide) (Nat.le_of_ble_eq_true rfl) ?_
  intro p e s m below meth c ls hsz C0 V hl
  have hx := C0.1
  have hb := C0.2.1
  replace pre0 : q_F (0 ≤ x3.toInt) := pre0
  replace pre1 : q_F (x4.toInt ≤ 2) := pre1
  have hl : lv_has ls 4 [(0, .ref (g (9 + 2 * 6))), (1, .int x2), (2, .int x3), (3, .int x4)] := hl
  refine lv_iload_n hx hb d_33_22_0 rfl (lv_at hl 1 rfl) ?_
  refine q_goi V (q_runS (As := [.int x2]) (rest := []) (d := 1) (mc := 0) (ms := 0) C0 V rfl LS_jLat_88 (T_jLat_canEncode l D g q ws  x2 hI   _) rfl hl.1 rfl (Nat.le_of_ble_eq_true rfl) ⟨by decide, by decide⟩ ⟨Nat.le_of_ble_eq_true rfl, Nat.le_of_ble_eq_true rfl⟩ d_33_22_1) (fun a3 u1 H locs hp2 V => ?_)
  obtain ⟨rfl, b4, b5⟩ := hp2
  replace b4 : q_F (0 ≤ a3.toInt) := b4
  replace b5 : q_F (a3.toInt ≤ 1) := b5
  refine lv_if_ne (tgt := 9) hx hb d_33_22_4 (by decide) (fun c6 => ?_) (fun c6 => ?_)
  ·
    have b7 : q_F (a3.toInt ≠ 0) := (q_neI c6)
    refine lv_iload_n hx hb d_33_22_9 rfl (lv_at hl 2 rfl) ?_
    refine lv_iconst (v := 0) hx hb d_33_22_10 (by decide) ?_
    refine q_max C0 hl.1 rfl w_1773 w_803 w_7 w_804 ⟨Nat.le_of_ble_eq_true rfl, Nat.le_of_ble_eq_true rfl⟩ ⟨Nat.le_of_ble_eq_true rfl, Nat.le_of_ble_eq_true rfl⟩ d_33_22_11 ?_
    obtain ⟨a8, e9⟩ := q_nm (if x3 < 0 then 0 else x3 : Int32)
    refine q_ti (v := a8) e9 ?_
    have b10 : q_F (x3.toInt ≤ a8.toInt ∧ 0 ≤ a8.toInt ∧ (a8.toInt = x3.toInt ∨ a8.toInt = 0)) := (by rw [← e9]; show x3.toInt ≤ (if x3 < 0 then 0 else x3 : Int32).toInt ∧ 0 ≤ (if x3 < 0 then 0 else x3 : Int32).toInt ∧ ((if x3 < 0 then 0 else x3 : Int32).toInt = x3.toInt ∨ (if x3 < 0 then 0 else x3 : Int32).toInt = 0); exact (by have y1 : (0 : Int32).toInt = 0 := rfl; have z := s_max (a := x3) (b := 0); omega))
    refine lv_istore_n (lv' := [(2, .int a8), (0, .ref (g (9 + 2 * 6))), (1, .int x2), (3, .int x4)]) hx hb d_33_22_14 rfl hl (by decide) rfl (fun ls hl => ?_)
    refine lv_iload_n hx hb d_33_22_15 rfl (lv_at hl 3 rfl) ?_
    refine lv_aload_n hx hb d_33_22_16 rfl (lv_at hl 1 rfl) ?_
    refine q_slen (i := 6) (v := 2) C0 V rfl (by decide) d_33_22_17 ?_
    refine q_min C0 hl.1 rfl w_1774 w_774 w_7 w_775 ⟨Nat.le_of_ble_eq_true rfl, Nat.le_of_ble_eq_true rfl⟩ ⟨Nat.le_of_ble_eq_true rfl, Nat.le_of_ble_eq_true rfl⟩ d_33_22_18 ?_
    obtain ⟨a11, e12⟩ := q_nm (if 2 < x4 then 2 else x4 : Int32)
    refine q_ti (v := a11) e12 ?_
    have b13 : q_F (a11.toInt ≤ x4.toInt ∧ a11.toInt ≤ 2 ∧ (a11.toInt = x4.toInt ∨ a11.toInt = 2)) := (by rw [← e12]; show (if 2 < x4 then 2 else x4 : Int32).toInt ≤ x4.toInt ∧ (if 2 < x4 then 2 else x4 : Int32).toInt ≤ 2 ∧ ((if 2 < x4 then 2 else x4 : Int32).toInt = x4.toInt ∨ (if 2 < x4 then 2 else x4 : Int32).toInt = 2); exact (by have y1 : (2 : Int32).toInt = 2 := rfl; have z := s_min (a := x4) (b := 2); omega))
    refine lv_istore_n (lv' := [(3, .int a11), (2, .int a8), (0, .ref (g (9 + 2 * 6))), (1, .int x2)]) hx hb d_33_22_21 rfl hl (by decide) rfl (fun ls hl => ?_)
    refine lv_iload_n hx hb d_33_22_22 rfl (lv_at hl 1 rfl) ?_
    refine lv_iload_n hx hb d_33_22_23 rfl (lv_at hl 0 rfl) ?_
    refine lv_icmp_lt (tgt := 29) hx hb d_33_22_24 (by decide) (fun c14 => ?_) (fun c14 => ?_)
    ·
      have b15 : q_F (a8.toInt < a11.toInt) := (q_ltI c14)
      refine lv_aload_n hx hb d_33_22_29 rfl (lv_at hl 2 rfl) ?_
      refine lv_iload_n hx hb d_33_22_30 rfl (lv_at hl 3 rfl) ?_
      refine lv_iload_n hx hb d_33_22_31 rfl (lv_at hl 1 rfl) ?_
      refine lv_iload_n hx hb d_33_22_32 rfl (lv_at hl 0 rfl) ?_
      refine q_goi V (q_runS (As := [.ref (g (9 + 2 * 6)), .int x2, .int a8, .int a11]) (rest := []) (d := 1) (mc := 0) (ms := 0) C0 V rfl LS_jLat_95 (T_jLat_indexOfChar_6 l D g q ws  x2 a8 a11 hI  (by have t1 : x3.toInt ≤ a8.toInt ∧ 0 ≤ a8.toInt ∧ (a8.toInt = x3.toInt ∨ a8.toInt = 0) := b10; omega) (by have t1 : a11.toInt ≤ x4.toInt ∧ a11.toInt ≤ 2 ∧ (a11.toInt = x4.toInt ∨ a11.toInt = 2) := b13; omega) _) rfl hl.1 rfl (Nat.le_of_ble_eq_true rfl) ⟨by decide, by decide⟩ ⟨Nat.le_of_ble_eq_true rfl, Nat.le_of_ble_eq_true rfl⟩ d_33_22_33) (fun a18 u16 H locs hp17 V => ?_)
      obtain ⟨rfl, b19, b20⟩ := hp17
      replace b19 : q_F (0 ≤ a18.toInt + 1) := b19
      replace b20 : q_F (a18.toInt ≤ 1) := b20
      exact q_reti C0 V (⟨rfl, (show 0 ≤ a18.toInt + 1 from (by have t1 : 0 ≤ a18.toInt + 1 := b19; omega)), (show a18.toInt ≤ 1 from (by have t1 : a18.toInt ≤ 1 := b20; omega))⟩) d_33_22_36
    ·
      have b21 : q_F (a11.toInt ≤ a8.toInt) := (q_nltI c14)
      refine lv_iconst (v := (-1)) hx hb d_33_22_27 (by decide) ?_
      exact q_reti C0 V (⟨rfl, (show 0 ≤ (-1 : Int32).toInt + 1 from (by have z3 : (-1 : Int32).toInt = -1 := rfl; omega)), (show (-1 : Int32).toInt ≤ 1 from (by have z3 : (-1 : Int32).toInt = -1 := rfl; omega))⟩) d_33_22_28
  ·
    have b22 : q_F (a3.toInt = 0) := (q_eqI c6)
    refine lv_iconst (v := (-1)) hx hb d_33_22_7 (by decide) ?_
    exact q_reti C0 V (⟨rfl, (show 0 ≤ (-1 : Int32).toInt + 1 from (by have z3 : (-1 : Int32).toInt = -1 := rfl; omega)), (show (-1 : Int32).toInt ≤ 1 from (by have z3 : (-1 : Int32).toInt = -1 := rfl; omega))⟩) d_33_22_8
set_option maxRecDepth 100000 in
set_option maxHeartbeats 4000000 in
theorem T_jStr_indexOf_III_6 (l : Launch) (D : va_G) (g : Nat → ClassId) (q : Nat → Nat) (ws : va_W) (x2 : Int32) (x3 : Int32) (hI : q_I (nsh g q) q ws) (pre0 : 0 ≤ x3.toInt) : q_mI l y_jStr_indexOf_III prog_31_method_80_code 3 (.int) 3 0 0 D g [.ref (g (8 + 2 * 6)), .int x2, .int x3] ws (fun r u => ws = u ∧ (0 ≤ r.toInt + 1) ∧ (r.toInt ≤ 1)) := by
  intro sz
  refine q_into (by decide) (Nat.le_of_ble_eq_true rfl) ?_
  intro p e s m below meth c ls hsz C0 V hl
  have hx := C0.1
  have hb := C0.2.1
  replace pre0 : q_F (0 ≤ x3.toInt) := pre0
  have hl : lv_has ls 3 [(0, .ref (g (8 + 2 * 6))), (1, .int x2), (2, .int x3)] := hl
  refine lv_aload_n hx hb d_31_80_0 rfl (lv_at hl 0 rfl) ?_
  refine q_goi V (q_runVs (As := []) (rest := []) (d := 1) (mc := 0) (ms := 0) (i := 6) C0 V rfl LV_jStr_492 (T_jStr_isLatin1_6 l D g q ws   hI   _) rfl rfl rfl hl.1 rfl (Nat.le_of_ble_eq_true rfl) ⟨by decide, by decide⟩ ⟨Nat.le_of_ble_eq_true rfl, Nat.le_of_ble_eq_true rfl⟩ d_31_80_1) (fun a3 u1 H locs hp2 V => ?_)
  obtain ⟨rfl, b4, b5⟩ := hp2
  replace b4 : q_F (1 ≤ a3.toInt) := b4
  replace b5 : q_F (a3.toInt ≤ 1) := b5
  obtain rfl : a3 = (1 : Int32) := q_Ieq (x := a3.toInt) (y := 1) rfl (by decide) (by have t1 : 1 ≤ a3.toInt := b4; have t2 : a3.toInt ≤ 1 := b5; omega)
  refine lv_if_eq (tgt := 23) hx hb d_31_80_4 (by decide) (fun c6 => absurd c6 (by decide)) (fun c6 => ?_)
  refine lv_aload_n hx hb d_31_80_7 rfl (lv_at hl 0 rfl) ?_
  refine q_sval (i := 6) C0 V rfl rfl w_1018 d_31_80_8 ?_
  refine lv_iload_n hx hb d_31_80_11 rfl (lv_at hl 1 rfl) ?_
  refine lv_iload_n hx hb d_31_80_12 rfl (lv_at hl 2 rfl) ?_
  refine lv_aload_n hx hb d_31_80_13 rfl (lv_at hl 0 rfl) ?_
  refine q_goi V (q_runVs (As := []) (rest := [.int x3, .int x2, .ref (g (9 + 2 * 6))]) (d := 2) (mc := 0) (ms := 0) (i := 6) C0 V rfl LV_jStr_505 (T_jStr_length_6 l D g q ws   hI   _) rfl rfl rfl hl.1 rfl (Nat.le_of_ble_eq_true rfl) ⟨by decide, by decide⟩ ⟨Nat.le_of_ble_eq_true rfl, Nat.le_of_ble_eq_true rfl⟩ d_31_80_14) (fun a9 u7 H locs hp8 V => ?_)
  obtain ⟨rfl, b10, b11⟩ := hp8
  replace b10 : q_F (2 ≤ a9.toInt) := b10
  replace b11 : q_F (a9.toInt ≤ 2) := b11
  obtain rfl : a9 = (2 : Int32) := q_Ieq (x := a9.toInt) (y := 2) rfl (by decide) (by have t1 : 2 ≤ a9.toInt := b10; have t2 : a9.toInt ≤ 2 := b11; omega)
  refine q_goi V (q_runS (As := [.ref (g (9 + 2 * 6)), .int x2, .int x3, .int 2]) (rest := []) (d := 2) (mc := 0) (ms := 0) C0 V rfl LS_jStr_637 (T_jLat_indexOf_6 l D g q ws  x2 x3 2 hI  (by have y0 : (2 : Int32).toInt = 2 := rfl; have t1 : 0 ≤ x3.toInt := pre0; omega) (by have y0 : (2 : Int32).toInt = 2 := rfl; omega) _) rfl hl.1 rfl (Nat.le_of_ble_eq_true rfl) ⟨by decide, by decide⟩ ⟨Nat.le_of_ble_eq_true rfl, Nat.le_of_ble_eq_true rfl⟩ d_31_80_17) (fun a14 u12 H locs hp13 V => ?_)
  obtain ⟨rfl, b15, b16⟩ := hp13
  replace b15 : q_F (0 ≤ a14.toInt + 1) := b15
  replace b16 : q_F (a14.toInt ≤ 1) := b16
  refine lv_goto (tgt := 36) hx hb d_31_80_20 (by decide) ?_
  exact q_reti C0 V (⟨rfl, (show 0 ≤ a14.toInt + 1 from (by have t1 : 0 ≤ a14.toInt + 1 := b15; omega)), (show a14.toInt ≤ 1 from (by have t1 : a14.toInt ≤ 1 := b16; omega))⟩) d_31_80_36
set_option maxRecDepth 100000 in
set_option maxHeartbeats 4000000 in
theorem T_jStr_indexOf_II_6 (l : Launch) (D : va_G) (g : Nat → ClassId) (q : Nat → Nat) (ws : va_W) (x2 : Int32) (hI : q_I (nsh g q) q ws) : q_mI l y_jStr_indexOf_II prog_31_method_79_code 2 (.int) 4 0 0 D g [.ref (g (8 + 2 * 6)), .int x2] ws (fun r u => ws = u ∧ (0 ≤ r.toInt + 1) ∧ (r.toInt ≤ 1)) := by
  intro sz
  refine q_into (by decide) (Nat.le_of_ble_eq_true rfl) ?_
  intro p e s m below meth c ls hsz C0 V hl
  have hx := C0.1
  have hb := C0.2.1
  have hl : lv_has ls 2 [(0, .ref (g (8 + 2 * 6))), (1, .int x2)] := hl
  refine lv_aload_n hx hb d_31_79_0 rfl (lv_at hl 0 rfl) ?_
  refine lv_iload_n hx hb d_31_79_1 rfl (lv_at hl 1 rfl) ?_
  refine lv_iconst (v := 0) hx hb d_31_79_2 (by decide) ?_
  refine q_goi V (q_runVs (As := [.int x2, .int 0]) (rest := []) (d := 3) (mc := 0) (ms := 0) (i := 6) C0 V rfl LV_jStr_633 (T_jStr_indexOf_III_6 l D g q ws  x2 0 hI  (by have y0 : (0 : Int32).toInt = 0 := rfl; omega) _) rfl rfl rfl hl.1 rfl (Nat.le_of_ble_eq_true rfl) ⟨by decide, by decide⟩ ⟨Nat.le_of_ble_eq_true rfl, Nat.le_of_ble_eq_true rfl⟩ d_31_79_3) (fun a3 u1 H locs hp2 V => ?_)
  obtain ⟨rfl, b4, b5⟩ := hp2
  replace b4 : q_F (0 ≤ a3.toInt + 1) := b4
  replace b5 : q_F (a3.toInt ≤ 1) := b5
  exact q_reti C0 V (⟨rfl, (show 0 ≤ a3.toInt + 1 from (by have t1 : 0 ≤ a3.toInt + 1 := b4; omega)), (show a3.toInt ≤ 1 from (by have t1 : a3.toInt ≤ 1 := b5; omega))⟩) d_31_79_6
set_option maxRecDepth 100000 in
set_option maxHeartbeats 4000000 in
theorem T_jStr_coder_7 (l : Launch) (D : va_G) (g : Nat → ClassId) (q : Nat → Nat) (ws : va_W) (hI : q_I (nsh g q) q ws) : q_mI l y_jStr_coder prog_31_method_152_code 1 (.byte) 1 0 0 D g [.ref (g (8 + 2 * 7))] ws (fun r u => ws = u ∧ (0 ≤ r.toInt) ∧ (r.toInt ≤ 0)) := by
  intro sz
  refine q_into (by decide) (Nat.le_of_ble_eq_true rfl) ?_
  intro p e s m below meth c ls hsz C0 V hl
  have hx := C0.1
  have hb := C0.2.1
  have hl : lv_has ls 1 [(0, .ref (g (8 + 2 * 7)))] := hl
  refine q_scmp C0 V rfl w_663 d_31_152_0 ?_
  refine lv_if_eq (tgt := 13) hx hb d_31_152_3 (by decide) (fun c1 => absurd c1 (by decide)) (fun c1 => ?_)
  refine lv_aload_n hx hb d_31_152_6 rfl (lv_at hl 0 rfl) ?_
  refine q_scod (i := 7) C0 V rfl rfl w_1019 d_31_152_7 ?_
  refine lv_goto (tgt := 14) hx hb d_31_152_10 (by decide) ?_
  exact q_retn C0 V (rfl) (⟨rfl, (show 0 ≤ (0 : Int32).toInt from (by have z0 : (0 : Int32).toInt = 0 := rfl; omega)), (show (0 : Int32).toInt ≤ 0 from (by have z0 : (0 : Int32).toInt = 0 := rfl; omega))⟩) d_31_152_14
set_option maxRecDepth 100000 in
set_option maxHeartbeats 4000000 in
theorem T_jStr_length_7 (l : Launch) (D : va_G) (g : Nat → ClassId) (q : Nat → Nat) (ws : va_W) (hI : q_I (nsh g q) q ws) : q_mI l y_jStr_length prog_31_method_54_code 1 (.int) 2 0 0 D g [.ref (g (8 + 2 * 7))] ws (fun r u => ws = u ∧ (2 ≤ r.toInt) ∧ (r.toInt ≤ 2)) := by
  intro sz
  refine q_into (by decide) (Nat.le_of_ble_eq_true rfl) ?_
  intro p e s m below meth c ls hsz C0 V hl
  have hx := C0.1
  have hb := C0.2.1
  have hl : lv_has ls 1 [(0, .ref (g (8 + 2 * 7)))] := hl
  refine lv_aload_n hx hb d_31_54_0 rfl (lv_at hl 0 rfl) ?_
  refine q_sval (i := 7) C0 V rfl rfl w_1018 d_31_54_1 ?_
  refine q_slen (i := 7) (v := 2) C0 V rfl (by decide) d_31_54_4 ?_
  refine lv_aload_n hx hb d_31_54_5 rfl (lv_at hl 0 rfl) ?_
  refine q_goi V (q_runVs (As := []) (rest := [.int 2]) (d := 1) (mc := 0) (ms := 0) (i := 7) C0 V rfl LV_jStr_335 (T_jStr_coder_7 l D g q ws   hI   _) rfl rfl rfl hl.1 rfl (Nat.le_of_ble_eq_true rfl) ⟨by decide, by decide⟩ ⟨Nat.le_of_ble_eq_true rfl, Nat.le_of_ble_eq_true rfl⟩ d_31_54_6) (fun a3 u1 H locs hp2 V => ?_)
  obtain ⟨rfl, b4, b5⟩ := hp2
  replace b4 : q_F (0 ≤ a3.toInt) := b4
  replace b5 : q_F (a3.toInt ≤ 0) := b5
  obtain rfl : a3 = (0 : Int32) := q_Ieq (x := a3.toInt) (y := 0) rfl (by decide) (by have t1 : 0 ≤ a3.toInt := b4; have t2 : a3.toInt ≤ 0 := b5; omega)
  refine lv_ishr hx hb d_31_54_9 ?_
  refine q_ti (v := 2) (by decide) ?_
  exact q_reti C0 V (⟨rfl, (show 2 ≤ (2 : Int32).toInt from (by have z0 : (2 : Int32).toInt = 2 := rfl; omega)), (show (2 : Int32).toInt ≤ 2 from (by have z0 : (2 : Int32).toInt = 2 := rfl; omega))⟩) d_31_54_10
set_option maxRecDepth 100000 in
set_option maxHeartbeats 4000000 in
theorem T_jStr_isLatin1_7 (l : Launch) (D : va_G) (g : Nat → ClassId) (q : Nat → Nat) (ws : va_W) (hI : q_I (nsh g q) q ws) : q_mI l y_jStr_isLatin1 prog_31_method_154_code 1 (.boolean) 1 0 0 D g [.ref (g (8 + 2 * 7))] ws (fun r u => ws = u ∧ (1 ≤ r.toInt) ∧ (r.toInt ≤ 1)) := by
  intro sz
  refine q_into (by decide) (Nat.le_of_ble_eq_true rfl) ?_
  intro p e s m below meth c ls hsz C0 V hl
  have hx := C0.1
  have hb := C0.2.1
  have hl : lv_has ls 1 [(0, .ref (g (8 + 2 * 7)))] := hl
  refine q_scmp C0 V rfl w_663 d_31_154_0 ?_
  refine lv_if_eq (tgt := 17) hx hb d_31_154_3 (by decide) (fun c1 => absurd c1 (by decide)) (fun c1 => ?_)
  refine lv_aload_n hx hb d_31_154_6 rfl (lv_at hl 0 rfl) ?_
  refine q_scod (i := 7) C0 V rfl rfl w_1019 d_31_154_7 ?_
  refine lv_if_ne (tgt := 17) hx hb d_31_154_10 (by decide) (fun c2 => absurd (by decide) c2) (fun c2 => ?_)
  refine lv_iconst (v := 1) hx hb d_31_154_13 (by decide) ?_
  refine lv_goto (tgt := 18) hx hb d_31_154_14 (by decide) ?_
  exact q_retz C0 V (by decide) (⟨rfl, (show 1 ≤ (1 : Int32).toInt from (by have z0 : (1 : Int32).toInt = 1 := rfl; omega)), (show (1 : Int32).toInt ≤ 1 from (by have z0 : (1 : Int32).toInt = 1 := rfl; omega))⟩) d_31_154_18
set_option maxRecDepth 100000 in
set_option maxHeartbeats 4000000 in
theorem T_jLat_indexOfChar_7 (l : Launch) (D : va_G) (g : Nat → ClassId) (q : Nat → Nat) (ws : va_W) (x2 : Int32) (x3 : Int32) (x4 : Int32) (hI : q_I (nsh g q) q ws) (pre0 : 0 ≤ x3.toInt) (pre1 : x4.toInt ≤ 2) : q_mI l y_jLat_indexOfChar prog_33_method_23_code 6 (.int) 1 0 0 D g [.ref (g (9 + 2 * 7)), .int x2, .int x3, .int x4] ws (fun r u => ws = u ∧ (0 ≤ r.toInt + 1) ∧ (r.toInt ≤ 1)) := by
  intro sz
  refine q_into (by decide) (Nat.le_of_ble_eq_true rfl) ?_
  intro p e s m below meth c ls hsz C0 V hl
  have hx := C0.1
  have hb := C0.2.1
  replace pre0 : q_F (0 ≤ x3.toInt) := pre0
  replace pre1 : q_F (x4.toInt ≤ 2) := pre1
  have hl : lv_has ls 6 [(0, .ref (g (9 + 2 * 7))), (1, .int x2), (2, .int x3), (3, .int x4)] := hl
  refine lv_iload_n hx hb d_33_23_0 rfl (lv_at hl 1 rfl) ?_
  refine lv_i2b hx hb d_33_23_1 rfl ?_
  obtain ⟨a1, e2⟩ := q_nm (x2.toInt8.toInt32 : Int32)
  refine q_ti (v := a1) e2 ?_
  refine lv_istore (lv' := [(4, .int a1), (0, .ref (g (9 + 2 * 7))), (1, .int x2), (2, .int x3), (3, .int x4)]) hx hb d_33_23_2 hl (by decide) rfl (fun ls hl => ?_)
  refine lv_iload_n hx hb d_33_23_4 rfl (lv_at hl 3 rfl) ?_
  refine lv_istore (lv' := [(5, .int x3), (4, .int a1), (0, .ref (g (9 + 2 * 7))), (1, .int x2), (2, .int x3), (3, .int x4)]) hx hb d_33_23_5 hl (by decide) rfl (fun ls hl => ?_)
  refine q_loop (X := Int32) (fun z H locs ls _ => q_F (x3.toInt ≤ z.toInt) ∧ q_Wd D g (va_A ws sz) s ws H locs ∧ lv_has ls 6 [(5, .int z), (4, .int a1), (0, .ref (g (9 + 2 * 7))), (3, .int x4)]) (fun z => (2 - z.toInt).toNat) ?_ ((x3 : Int32)) _ _ _ ws ⟨(show q_F (x3.toInt ≤ x3.toInt) from (show x3.toInt ≤ x3.toInt from by omega)), V, q_lw hl (q_lw1 0 rfl (q_lw1 1 rfl (q_lw1 2 rfl (q_lw1 5 rfl q_lw0))))⟩
  rintro lx4 H locs ls _ ⟨i5, V, hl⟩ ih6
  replace i5 : q_F (x3.toInt ≤ lx4.toInt) := i5
  replace hl : lv_has ls 6 [(5, .int lx4), (4, .int a1), (0, .ref (g (9 + 2 * 7))), (3, .int x4)] := hl
  refine lv_iload hx hb d_33_23_7 (lv_at hl 0 rfl) ?_
  refine lv_iload_n hx hb d_33_23_9 rfl (lv_at hl 3 rfl) ?_
  refine lv_icmp_ge (tgt := 31) hx hb d_33_23_10 (by decide) (fun c7 => ?_) (fun c7 => ?_)
  ·
    have b8 : q_F (x4.toInt ≤ lx4.toInt) := (q_leI c7)
    refine lv_iconst (v := (-1)) hx hb d_33_23_31 (by decide) ?_
    exact q_reti C0 V (⟨rfl, (show 0 ≤ (-1 : Int32).toInt + 1 from (by have z3 : (-1 : Int32).toInt = -1 := rfl; omega)), (show (-1 : Int32).toInt ≤ 1 from (by have z3 : (-1 : Int32).toInt = -1 := rfl; omega))⟩) d_33_23_32
  ·
    have b9 : q_F (lx4.toInt < x4.toInt) := (q_nleI c7)
    refine lv_aload_n hx hb d_33_23_13 rfl (lv_at hl 2 rfl) ?_
    refine lv_iload hx hb d_33_23_14 (lv_at hl 0 rfl) ?_
    refine q_sbal (i := 7) (v := (([37, 110] : List Int32).getD lx4.toNatClampNeg 0)) C0 V rfl (show vp_in lx4 2 from q_ix (x := lx4.toInt) rfl (by have t1 : 0 ≤ x3.toInt := pre0; have t2 : x3.toInt ≤ lx4.toInt := i5; omega) (by have t1 : 0 ≤ x3.toInt := pre0; have t2 : x3.toInt ≤ lx4.toInt := i5; have t3 : x4.toInt ≤ 2 := pre1; have t4 : lx4.toInt < x4.toInt := b9; omega)) rfl d_33_23_16 ?_
    obtain ⟨a10, e11⟩ := q_nm ((([37, 110] : List Int32).getD lx4.toNatClampNeg 0) : Int32)
    refine q_ti (v := a10) e11 ?_
    refine lv_iload hx hb d_33_23_17 (lv_at hl 1 rfl) ?_
    refine lv_icmp_ne (tgt := 25) hx hb d_33_23_19 (by decide) (fun c12 => ?_) (fun c12 => ?_)
    ·
      have b13 : q_F (a10.toInt ≠ a1.toInt) := (q_neI c12)
      obtain ⟨a14, e15⟩ := q_nm (lx4 + 1 : Int32)
      have b16 : q_F (a14.toInt = lx4.toInt + 1) := (by rw [← e15]; exact q_addI (y := 1) rfl (by decide) (by have _ := q_lo32 (x := lx4); have _ := q_hi32 (x := lx4); have t1 : lx4.toInt < x4.toInt := b9; have _ := q_lo32 (x := x4); have _ := q_hi32 (x := x4); omega) (by have _ := q_lo32 (x := lx4); have _ := q_hi32 (x := lx4); have t1 : lx4.toInt < x4.toInt := b9; have _ := q_lo32 (x := x4); have _ := q_hi32 (x := x4); omega))
      refine lv_iinc (v := a14) (lv' := [(5, .int a14), (4, .int a1), (0, .ref (g (9 + 2 * 7))), (3, .int x4)]) hx hb d_33_23_25 hl (k := 0) rfl (e15) (by decide) rfl (fun ls hl => ?_)
      refine lv_goto (tgt := 7) hx hb d_33_23_28 (by decide) ?_
      exact ih6 ((a14 : Int32)) _ _ _ ws (show (2 - a14.toInt).toNat < (2 - lx4.toInt).toNat from by have t1 : a14.toInt = lx4.toInt + 1 := b16; have t2 : x4.toInt ≤ 2 := pre1; have t3 : lx4.toInt < x4.toInt := b9; omega) ⟨(show q_F (x3.toInt ≤ a14.toInt) from (show x3.toInt ≤ a14.toInt from by have t1 : x3.toInt ≤ lx4.toInt := i5; have t2 : a14.toInt = lx4.toInt + 1 := b16; omega)), V, q_lw hl (q_lw1 0 rfl (q_lw1 1 rfl (q_lw1 2 rfl (q_lw1 3 rfl q_lw0))))⟩
    ·
      have b17 : q_F (a10.toInt = a1.toInt) := (q_eqI c12)
      refine lv_iload hx hb d_33_23_22 (lv_at hl 0 rfl) ?_
      exact q_reti C0 V (⟨rfl, (show 0 ≤ lx4.toInt + 1 from (by have t1 : 0 ≤ x3.toInt := pre0; have t2 : x3.toInt ≤ lx4.toInt := i5; omega)), (show lx4.toInt ≤ 1 from (by have t1 : x4.toInt ≤ 2 := pre1; have t2 : lx4.toInt < x4.toInt := b9; omega))⟩) d_33_23_24
set_option maxRecDepth 100000 in
set_option maxHeartbeats 4000000 in
theorem T_jLat_indexOf_7 (l : Launch) (D : va_G) (g : Nat → ClassId) (q : Nat → Nat) (ws : va_W) (x2 : Int32) (x3 : Int32) (x4 : Int32) (hI : q_I (nsh g q) q ws) (pre0 : 0 ≤ x3.toInt) (pre1 : x4.toInt ≤ 2) : q_mI l y_jLat_indexOf prog_33_method_22_code 4 (.int) 2 0 0 D g [.ref (g (9 + 2 * 7)), .int x2, .int x3, .int x4] ws (fun r u => ws = u ∧ (0 ≤ r.toInt + 1) ∧ (r.toInt ≤ 1)) := by
  intro sz
  refine q_into (by decide) (Nat.le_of_ble_eq_true rfl) ?_
  intro p e s m below meth c ls hsz C0 V hl
  have hx := C0.1
  have hb := C0.2.1
  replace pre0 : q_F (0 ≤ x3.toInt) := pre0
  replace pre1 : q_F (x4.toInt ≤ 2) := pre1
  have hl : lv_has ls 4 [(0, .ref (g (9 + 2 * 7))), (1, .int x2), (2, .int x3), (3, .int x4)] := hl
  refine lv_iload_n hx hb d_33_22_0 rfl (lv_at hl 1 rfl) ?_
  refine q_goi V (q_runS (As := [.int x2]) (rest := []) (d := 1) (mc := 0) (ms := 0) C0 V rfl LS_jLat_88 (T_jLat_canEncode l D g q ws  x2 hI   _) rfl hl.1 rfl (Nat.le_of_ble_eq_true rfl) ⟨by decide, by decide⟩ ⟨Nat.le_of_ble_eq_true rfl, Nat.le_of_ble_eq_true rfl⟩ d_33_22_1) (fun a3 u1 H locs hp2 V => ?_)
  obtain ⟨rfl, b4, b5⟩ := hp2
  replace b4 : q_F (0 ≤ a3.toInt) := b4
  replace b5 : q_F (a3.toInt ≤ 1) := b5
  refine lv_if_ne (tgt := 9) hx hb d_33_22_4 (by decide) (fun c6 => ?_) (fun c6 => ?_)
  ·
    have b7 : q_F (a3.toInt ≠ 0) := (q_neI c6)
    refine lv_iload_n hx hb d_33_22_9 rfl (lv_at hl 2 rfl) ?_
    refine lv_iconst (v := 0) hx hb d_33_22_10 (by decide) ?_
    refine q_max C0 hl.1 rfl w_1773 w_803 w_7 w_804 ⟨Nat.le_of_ble_eq_true rfl, Nat.le_of_ble_eq_true rfl⟩ ⟨Nat.le_of_ble_eq_true rfl, Nat.le_of_ble_eq_true rfl⟩ d_33_22_11 ?_
    obtain ⟨a8, e9⟩ := q_nm (if x3 < 0 then 0 else x3 : Int32)
    refine q_ti (v := a8) e9 ?_
    have b10 : q_F (x3.toInt ≤ a8.toInt ∧ 0 ≤ a8.toInt ∧ (a8.toInt = x3.toInt ∨ a8.toInt = 0)) := (by rw [← e9]; show x3.toInt ≤ (if x3 < 0 then 0 else x3 : Int32).toInt ∧ 0 ≤ (if x3 < 0 then 0 else x3 : Int32).toInt ∧ ((if x3 < 0 then 0 else x3 : Int32).toInt = x3.toInt ∨ (if x3 < 0 then 0 else x3 : Int32).toInt = 0); exact (by have y1 : (0 : Int32).toInt = 0 := rfl; have z := s_max (a := x3) (b := 0); omega))
    refine lv_istore_n (lv' := [(2, .int a8), (0, .ref (g (9 + 2 * 7))), (1, .int x2), (3, .int x4)]) hx hb d_33_22_14 rfl hl (by decide) rfl (fun ls hl => ?_)
    refine lv_iload_n hx hb d_33_22_15 rfl (lv_at hl 3 rfl) ?_
    refine lv_aload_n hx hb d_33_22_16 rfl (lv_at hl 1 rfl) ?_
    refine q_slen (i := 7) (v := 2) C0 V rfl (by decide) d_33_22_17 ?_
    refine q_min C0 hl.1 rfl w_1774 w_774 w_7 w_775 ⟨Nat.le_of_ble_eq_true rfl, Nat.le_of_ble_eq_true rfl⟩ ⟨Nat.le_of_ble_eq_true rfl, Nat.le_of_ble_eq_true rfl⟩ d_33_22_18 ?_
    obtain ⟨a11, e12⟩ := q_nm (if 2 < x4 then 2 else x4 : Int32)
    refine q_ti (v := a11) e12 ?_
    have b13 : q_F (a11.toInt ≤ x4.toInt ∧ a11.toInt ≤ 2 ∧ (a11.toInt = x4.toInt ∨ a11.toInt = 2)) := (by rw [← e12]; show (if 2 < x4 then 2 else x4 : Int32).toInt ≤ x4.toInt ∧ (if 2 < x4 then 2 else x4 : Int32).toInt ≤ 2 ∧ ((if 2 < x4 then 2 else x4 : Int32).toInt = x4.toInt ∨ (if 2 < x4 then 2 else x4 : Int32).toInt = 2); exact (by have y1 : (2 : Int32).toInt = 2 := rfl; have z := s_min (a := x4) (b := 2); omega))
    refine lv_istore_n (lv' := [(3, .int a11), (2, .int a8), (0, .ref (g (9 + 2 * 7))), (1, .int x2)]) hx hb d_33_22_21 rfl hl (by decide) rfl (fun ls hl => ?_)
    refine lv_iload_n hx hb d_33_22_22 rfl (lv_at hl 1 rfl) ?_
    refine lv_iload_n hx hb d_33_22_23 rfl (lv_at hl 0 rfl) ?_
    refine lv_icmp_lt (tgt := 29) hx hb d_33_22_24 (by decide) (fun c14 => ?_) (fun c14 => ?_)
    ·
      have b15 : q_F (a8.toInt < a11.toInt) := (q_ltI c14)
      refine lv_aload_n hx hb d_33_22_29 rfl (lv_at hl 2 rfl) ?_
      refine lv_iload_n hx hb d_33_22_30 rfl (lv_at hl 3 rfl) ?_
      refine lv_iload_n hx hb d_33_22_31 rfl (lv_at hl 1 rfl) ?_
      refine lv_iload_n hx hb d_33_22_32 rfl (lv_at hl 0 rfl) ?_
      refine q_goi V (q_runS (As := [.ref (g (9 + 2 * 7)), .int x2, .int a8, .int a11]) (rest := []) (d := 1) (mc := 0) (ms := 0) C0 V rfl LS_jLat_95 (T_jLat_indexOfChar_7 l D g q ws  x2 a8 a11 hI  (by have t1 : x3.toInt ≤ a8.toInt ∧ 0 ≤ a8.toInt ∧ (a8.toInt = x3.toInt ∨ a8.toInt = 0) := b10; omega) (by have t1 : a11.toInt ≤ x4.toInt ∧ a11.toInt ≤ 2 ∧ (a11.toInt = x4.toInt ∨ a11.toInt = 2) := b13; omega) _) rfl hl.1 rfl (Nat.le_of_ble_eq_true rfl) ⟨by decide, by decide⟩ ⟨Nat.le_of_ble_eq_true rfl, Nat.le_of_ble_eq_true rfl⟩ d_33_22_33) (fun a18 u16 H locs hp17 V => ?_)
      obtain ⟨rfl, b19, b20⟩ := hp17
      replace b19 : q_F (0 ≤ a18.toInt + 1) := b19
      replace b20 : q_F (a18.toInt ≤ 1) := b20
      exact q_reti C0 V (⟨rfl, (show 0 ≤ a18.toInt + 1 from (by have t1 : 0 ≤ a18.toInt + 1 := b19; omega)), (show a18.toInt ≤ 1 from (by have t1 : a18.toInt ≤ 1 := b20; omega))⟩) d_33_22_36
    ·
      have b21 : q_F (a11.toInt ≤ a8.toInt) := (q_nltI c14)
      refine lv_iconst (v := (-1)) hx hb d_33_22_27 (by decide) ?_
      exact q_reti C0 V (⟨rfl, (show 0 ≤ (-1 : Int32).toInt + 1 from (by have z3 : (-1 : Int32).toInt = -1 := rfl; omega)), (show (-1 : Int32).toInt ≤ 1 from (by have z3 : (-1 : Int32).toInt = -1 := rfl; omega))⟩) d_33_22_28
  ·
    have b22 : q_F (a3.toInt = 0) := (q_eqI c6)
    refine lv_iconst (v := (-1)) hx hb d_33_22_7 (by decide) ?_
    exact q_reti C0 V (⟨rfl, (show 0 ≤ (-1 : Int32).toInt + 1 from (by have z3 : (-1 : Int32).toInt = -1 := rfl; omega)), (show (-1 : Int32).toInt ≤ 1 from (by have z3 : (-1 : Int32).toInt = -1 := rfl; omega))⟩) d_33_22_8
set_option maxRecDepth 100000 in
set_option maxHeartbeats 4000000 in
theorem T_jStr_indexOf_III_7 (l : Launch) (D : va_G) (g : Nat → ClassId) (q : Nat → Nat) (ws : va_W) (x2 : Int32) (x3 : Int32) (hI : q_I (nsh g q) q ws) (pre0 : 0 ≤ x3.toInt) : q_mI l y_jStr_indexOf_III prog_31_method_80_code 3 (.int) 3 0 0 D g [.ref (g (8 + 2 * 7)), .int x2, .int x3] ws (fun r u => ws = u ∧ (0 ≤ r.toInt + 1) ∧ (r.toInt ≤ 1)) := by
  intro sz
  refine q_into (by decide) (Nat.le_of_ble_eq_true rfl) ?_
  intro p e s m below meth c ls hsz C0 V hl
  have hx := C0.1
  have hb := C0.2.1
  replace pre0 : q_F (0 ≤ x3.toInt) := pre0
  have hl : lv_has ls 3 [(0, .ref (g (8 + 2 * 7))), (1, .int x2), (2, .int x3)] := hl
  refine lv_aload_n hx hb d_31_80_0 rfl (lv_at hl 0 rfl) ?_
  refine q_goi V (q_runVs (As := []) (rest := []) (d := 1) (mc := 0) (ms := 0) (i := 7) C0 V rfl LV_jStr_492 (T_jStr_isLatin1_7 l D g q ws   hI   _) rfl rfl rfl hl.1 rfl (Nat.le_of_ble_eq_true rfl) ⟨by decide, by decide⟩ ⟨Nat.le_of_ble_eq_true rfl, Nat.le_of_ble_eq_true rfl⟩ d_31_80_1) (fun a3 u1 H locs hp2 V => ?_)
  obtain ⟨rfl, b4, b5⟩ := hp2
  replace b4 : q_F (1 ≤ a3.toInt) := b4
  replace b5 : q_F (a3.toInt ≤ 1) := b5
  obtain rfl : a3 = (1 : Int32) := q_Ieq (x := a3.toInt) (y := 1) rfl (by decide) (by have t1 : 1 ≤ a3.toInt := b4; have t2 : a3.toInt ≤ 1 := b5; omega)
  refine lv_if_eq (tgt := 23) hx hb d_31_80_4 (by decide) (fun c6 => absurd c6 (by decide)) (fun c6 => ?_)
  refine lv_aload_n hx hb d_31_80_7 rfl (lv_at hl 0 rfl) ?_
  refine q_sval (i := 7) C0 V rfl rfl w_1018 d_31_80_8 ?_
  refine lv_iload_n hx hb d_31_80_11 rfl (lv_at hl 1 rfl) ?_
  refine lv_iload_n hx hb d_31_80_12 rfl (lv_at hl 2 rfl) ?_
  refine lv_aload_n hx hb d_31_80_13 rfl (lv_at hl 0 rfl) ?_
  refine q_goi V (q_runVs (As := []) (rest := [.int x3, .int x2, .ref (g (9 + 2 * 7))]) (d := 2) (mc := 0) (ms := 0) (i := 7) C0 V rfl LV_jStr_505 (T_jStr_length_7 l D g q ws   hI   _) rfl rfl rfl hl.1 rfl (Nat.le_of_ble_eq_true rfl) ⟨by decide, by decide⟩ ⟨Nat.le_of_ble_eq_true rfl, Nat.le_of_ble_eq_true rfl⟩ d_31_80_14) (fun a9 u7 H locs hp8 V => ?_)
  obtain ⟨rfl, b10, b11⟩ := hp8
  replace b10 : q_F (2 ≤ a9.toInt) := b10
  replace b11 : q_F (a9.toInt ≤ 2) := b11
  obtain rfl : a9 = (2 : Int32) := q_Ieq (x := a9.toInt) (y := 2) rfl (by decide) (by have t1 : 2 ≤ a9.toInt := b10; have t2 : a9.toInt ≤ 2 := b11; omega)
  refine q_goi V (q_runS (As := [.ref (g (9 + 2 * 7)), .int x2, .int x3, .int 2]) (rest := []) (d := 2) (mc := 0) (ms := 0) C0 V rfl LS_jStr_637 (T_jLat_indexOf_7 l D g q ws  x2 x3 2 hI  (by have y0 : (2 : Int32).toInt = 2 := rfl; have t1 : 0 ≤ x3.toInt := pre0; omega) (by have y0 : (2 : Int32).toInt = 2 := rfl; omega) _) rfl hl.1 rfl (Nat.le_of_ble_eq_true rfl) ⟨by decide, by decide⟩ ⟨Nat.le_of_ble_eq_true rfl, Nat.le_of_ble_eq_true rfl⟩ d_31_80_17) (fun a14 u12 H locs hp13 V => ?_)
  obtain ⟨rfl, b15, b16⟩ := hp13
  replace b15 : q_F (0 ≤ a14.toInt + 1) := b15
  replace b16 : q_F (a14.toInt ≤ 1) := b16
  refine lv_goto (tgt := 36) hx hb d_31_80_20 (by decide) ?_
  exact q_reti C0 V (⟨rfl, (show 0 ≤ a14.toInt + 1 from (by have t1 : 0 ≤ a14.toInt + 1 := b15; omega)), (show a14.toInt ≤ 1 from (by have t1 : a14.toInt ≤ 1 := b16; omega))⟩) d_31_80_36
set_option maxRecDepth 100000 in
set_option maxHeartbeats 4000000 in
theorem T_jStr_indexOf_II_7 (l : Launch) (D : va_G) (g : Nat → ClassId) (q : Nat → Nat) (ws : va_W) (x2 : Int32) (hI : q_I (nsh g q) q ws) : q_mI l y_jStr_indexOf_II prog_31_method_79_code 2 (.int) 4 0 0 D g [.ref (g (8 + 2 * 7)), .int x2] ws (fun r u => ws = u ∧ (0 ≤ r.toInt + 1) ∧ (r.toInt ≤ 1)) := by
  intro sz
  refine q_into (by decide) (Nat.le_of_ble_eq_true rfl) ?_
  intro p e s m below meth c ls hsz C0 V hl
  have hx := C0.1
  have hb := C0.2.1
  have hl : lv_has ls 2 [(0, .ref (g (8 + 2 * 7))), (1, .int x2)] := hl
  refine lv_aload_n hx hb d_31_79_0 rfl (lv_at hl 0 rfl) ?_
  refine lv_iload_n hx hb d_31_79_1 rfl (lv_at hl 1 rfl) ?_
  refine lv_iconst (v := 0) hx hb d_31_79_2 (by decide) ?_
  refine q_goi V (q_runVs (As := [.int x2, .int 0]) (rest := []) (d := 3) (mc := 0) (ms := 0) (i := 7) C0 V rfl LV_jStr_633 (T_jStr_indexOf_III_7 l D g q ws  x2 0 hI  (by have y0 : (0 : Int32).toInt = 0 := rfl; omega) _) rfl rfl rfl hl.1 rfl (Nat.le_of_ble_eq_true rfl) ⟨by decide, by decide⟩ ⟨Nat.le_of_ble_eq_true rfl, Nat.le_of_ble_eq_true rfl⟩ d_31_79_3) (fun a3 u1 H locs hp2 V => ?_)
  obtain ⟨rfl, b4, b5⟩ := hp2
  replace b4 : q_F (0 ≤ a3.toInt + 1) := b4
  replace b5 : q_F (a3.toInt ≤ 1) := b5
  exact q_reti C0 V (⟨rfl, (show 0 ≤ a3.toInt + 1 from (by have t1 : 0 ≤ a3.toInt + 1 := b4; omega)), (show a3.toInt ≤ 1 from (by have t1 : a3.toInt ≤ 1 := b5; omega))⟩) d_31_79_6
set_option maxRecDepth 100000 in
set_option maxHeartbeats 4000000 in
theorem T_jStr_coder_8 (l : Launch) (D : va_G) (g : Nat → ClassId) (q : Nat → Nat) (ws : va_W) (hI : q_I (nsh g q) q ws) : q_mI l y_jStr_coder prog_31_method_152_code 1 (.byte) 1 0 0 D g [.ref (g (8 + 2 * 8))] ws (fun r u => ws = u ∧ (0 ≤ r.toInt) ∧ (r.toInt ≤ 0)) := by
  intro sz
  refine q_into (by decide) (Nat.le_of_ble_eq_true rfl) ?_
  intro p e s m below meth c ls hsz C0 V hl
  have hx := C0.1
  have hb := C0.2.1
  have hl : lv_has ls 1 [(0, .ref (g (8 + 2 * 8)))] := hl
  refine q_scmp C0 V rfl w_663 d_31_152_0 ?_
  refine lv_if_eq (tgt := 13) hx hb d_31_152_3 (by decide) (fun c1 => absurd c1 (by decide)) (fun c1 => ?_)
  refine lv_aload_n hx hb d_31_152_6 rfl (lv_at hl 0 rfl) ?_
  refine q_scod (i := 8) C0 V rfl rfl w_1019 d_31_152_7 ?_
  refine lv_goto (tgt := 14) hx hb d_31_152_10 (by decide) ?_
  exact q_retn C0 V (rfl) (⟨rfl, (show 0 ≤ (0 : Int32).toInt from (by have z0 : (0 : Int32).toInt = 0 := rfl; omega)), (show (0 : Int32).toInt ≤ 0 from (by have z0 : (0 : Int32).toInt = 0 := rfl; omega))⟩) d_31_152_14
set_option maxRecDepth 100000 in
set_option maxHeartbeats 4000000 in
theorem T_jStr_length_8 (l : Launch) (D : va_G) (g : Nat → ClassId) (q : Nat → Nat) (ws : va_W) (hI : q_I (nsh g q) q ws) : q_mI l y_jStr_length prog_31_method_54_code 1 (.int) 2 0 0 D g [.ref (g (8 + 2 * 8))] ws (fun r u => ws = u ∧ (4 ≤ r.toInt) ∧ (r.toInt ≤ 4)) := by
  intro sz
  refine q_into (by decide) (Nat.le_of_ble_eq_true rfl) ?_
  intro p e s m below meth c ls hsz C0 V hl
  have hx := C0.1
  have hb := C0.2.1
  have hl : lv_has ls 1 [(0, .ref (g (8 + 2 * 8)))] := hl
  refine lv_aload_n hx hb d_31_54_0 rfl (lv_at hl 0 rfl) ?_
  refine q_sval (i := 8) C0 V rfl rfl w_1018 d_31_54_1 ?_
  refine q_slen (i := 8) (v := 4) C0 V rfl (by decide) d_31_54_4 ?_
  refine lv_aload_n hx hb d_31_54_5 rfl (lv_at hl 0 rfl) ?_
  refine q_goi V (q_runVs (As := []) (rest := [.int 4]) (d := 1) (mc := 0) (ms := 0) (i := 8) C0 V rfl LV_jStr_335 (T_jStr_coder_8 l D g q ws   hI   _) rfl rfl rfl hl.1 rfl (Nat.le_of_ble_eq_true rfl) ⟨by decide, by decide⟩ ⟨Nat.le_of_ble_eq_true rfl, Nat.le_of_ble_eq_true rfl⟩ d_31_54_6) (fun a3 u1 H locs hp2 V => ?_)
  obtain ⟨rfl, b4, b5⟩ := hp2
  replace b4 : q_F (0 ≤ a3.toInt) := b4
  replace b5 : q_F (a3.toInt ≤ 0) := b5
  obtain rfl : a3 = (0 : Int32) := q_Ieq (x := a3.toInt) (y := 0) rfl (by decide) (by have t1 : 0 ≤ a3.toInt := b4; have t2 : a3.toInt ≤ 0 := b5; omega)
  refine lv_ishr hx hb d_31_54_9 ?_
  refine q_ti (v := 4) (by decide) ?_
  exact q_reti C0 V (⟨rfl, (show 4 ≤ (4 : Int32).toInt from (by have z0 : (4 : Int32).toInt = 4 := rfl; omega)), (show (4 : Int32).toInt ≤ 4 from (by have z0 : (4 : Int32).toInt = 4 := rfl; omega))⟩) d_31_54_10
set_option maxRecDepth 100000 in
set_option maxHeartbeats 4000000 in
theorem T_jStr_isLatin1_8 (l : Launch) (D : va_G) (g : Nat → ClassId) (q : Nat → Nat) (ws : va_W) (hI : q_I (nsh g q) q ws) : q_mI l y_jStr_isLatin1 prog_31_method_154_code 1 (.boolean) 1 0 0 D g [.ref (g (8 + 2 * 8))] ws (fun r u => ws = u ∧ (1 ≤ r.toInt) ∧ (r.toInt ≤ 1)) := by
  intro sz
  refine q_into (by decide) (Nat.le_of_ble_eq_true rfl) ?_
  intro p e s m below meth c ls hsz C0 V hl
  have hx := C0.1
  have hb := C0.2.1
  have hl : lv_has ls 1 [(0, .ref (g (8 + 2 * 8)))] := hl
  refine q_scmp C0 V rfl w_663 d_31_154_0 ?_
  refine lv_if_eq (tgt := 17) hx hb d_31_154_3 (by decide) (fun c1 => absurd c1 (by decide)) (fun c1 => ?_)
  refine lv_aload_n hx hb d_31_154_6 rfl (lv_at hl 0 rfl) ?_
  refine q_scod (i := 8) C0 V rfl rfl w_1019 d_31_154_7 ?_
  refine lv_if_ne (tgt := 17) hx hb d_31_154_10 (by decide) (fun c2 => absurd (by decide) c2) (fun c2 => ?_)
  refine lv_iconst (v := 1) hx hb d_31_154_13 (by decide) ?_
  refine lv_goto (tgt := 18) hx hb d_31_154_14 (by decide) ?_
  exact q_retz C0 V (by decide) (⟨rfl, (show 1 ≤ (1 : Int32).toInt from (by have z0 : (1 : Int32).toInt = 1 := rfl; omega)), (show (1 : Int32).toInt ≤ 1 from (by have z0 : (1 : Int32).toInt = 1 := rfl; omega))⟩) d_31_154_18
set_option maxRecDepth 100000 in
set_option maxHeartbeats 4000000 in
theorem T_jLat_indexOfChar_8 (l : Launch) (D : va_G) (g : Nat → ClassId) (q : Nat → Nat) (ws : va_W) (x2 : Int32) (x3 : Int32) (x4 : Int32) (hI : q_I (nsh g q) q ws) (pre0 : 0 ≤ x3.toInt) (pre1 : x4.toInt ≤ 4) : q_mI l y_jLat_indexOfChar prog_33_method_23_code 6 (.int) 1 0 0 D g [.ref (g (9 + 2 * 8)), .int x2, .int x3, .int x4] ws (fun r u => ws = u ∧ (0 ≤ r.toInt + 1) ∧ (r.toInt ≤ 3)) := by
  intro sz
  refine q_into (by decide) (Nat.le_of_ble_eq_true rfl) ?_
  intro p e s m below meth c ls hsz C0 V hl
  have hx := C0.1
  have hb := C0.2.1
  replace pre0 : q_F (0 ≤ x3.toInt) := pre0
  replace pre1 : q_F (x4.toInt ≤ 4) := pre1
  have hl : lv_has ls 6 [(0, .ref (g (9 + 2 * 8))), (1, .int x2), (2, .int x3), (3, .int x4)] := hl
  refine lv_iload_n hx hb d_33_23_0 rfl (lv_at hl 1 rfl) ?_
  refine lv_i2b hx hb d_33_23_1 rfl ?_
  obtain ⟨a1, e2⟩ := q_nm (x2.toInt8.toInt32 : Int32)
  refine q_ti (v := a1) e2 ?_
  refine lv_istore (lv' := [(4, .int a1), (0, .ref (g (9 + 2 * 8))), (1, .int x2), (2, .int x3), (3, .int x4)]) hx hb d_33_23_2 hl (by decide) rfl (fun ls hl => ?_)
  refine lv_iload_n hx hb d_33_23_4 rfl (lv_at hl 3 rfl) ?_
  refine lv_istore (lv' := [(5, .int x3), (4, .int a1), (0, .ref (g (9 + 2 * 8))), (1, .int x2), (2, .int x3), (3, .int x4)]) hx hb d_33_23_5 hl (by decide) rfl (fun ls hl => ?_)
  refine q_loop (X := Int32) (fun z H locs ls _ => q_F (x3.toInt ≤ z.toInt) ∧ q_Wd D g (va_A ws sz) s ws H locs ∧ lv_has ls 6 [(5, .int z), (4, .int a1), (0, .ref (g (9 + 2 * 8))), (3, .int x4)]) (fun z => (4 - z.toInt).toNat) ?_ ((x3 : Int32)) _ _ _ ws ⟨(show q_F (x3.toInt ≤ x3.toInt) from (show x3.toInt ≤ x3.toInt from by omega)), V, q_lw hl (q_lw1 0 rfl (q_lw1 1 rfl (q_lw1 2 rfl (q_lw1 5 rfl q_lw0))))⟩
  rintro lx4 H locs ls _ ⟨i5, V, hl⟩ ih6
  replace i5 : q_F (x3.toInt ≤ lx4.toInt) := i5
  replace hl : lv_has ls 6 [(5, .int lx4), (4, .int a1), (0, .ref (g (9 + 2 * 8))), (3, .int x4)] := hl
  refine lv_iload hx hb d_33_23_7 (lv_at hl 0 rfl) ?_
  refine lv_iload_n hx hb d_33_23_9 rfl (lv_at hl 3 rfl) ?_
  refine lv_icmp_ge (tgt := 31) hx hb d_33_23_10 (by decide) (fun c7 => ?_) (fun c7 => ?_)
  ·
    have b8 : q_F (x4.toInt ≤ lx4.toInt) := (q_leI c7)
    refine lv_iconst (v := (-1)) hx hb d_33_23_31 (by decide) ?_
    exact q_reti C0 V (⟨rfl, (show 0 ≤ (-1 : Int32).toInt + 1 from (by have z3 : (-1 : Int32).toInt = -1 := rfl; omega)), (show (-1 : Int32).toInt ≤ 3 from (by have z3 : (-1 : Int32).toInt = -1 := rfl; omega))⟩) d_33_23_32
  ·
    have b9 : q_F (lx4.toInt < x4.toInt) := (q_nleI c7)
    refine lv_aload_n hx hb d_33_23_13 rfl (lv_at hl 2 rfl) ?_
    refine lv_iload hx hb d_33_23_14 (lv_at hl 0 rfl) ?_
    refine q_sbal (i := 8) (v := (([98, 66, 115, 83] : List Int32).getD lx4.toNatClampNeg 0)) C0 V rfl (show vp_in lx4 4 from q_ix (x := lx4.toInt) rfl (by have t1 : 0 ≤ x3.toInt := pre0; have t2 : x3.toInt ≤ lx4.toInt := i5; omega) (by have t1 : 0 ≤ x3.toInt := pre0; have t2 : x3.toInt ≤ lx4.toInt := i5; have t3 : x4.toInt ≤ 4 := pre1; have t4 : lx4.toInt < x4.toInt := b9; omega)) rfl d_33_23_16 ?_
    obtain ⟨a10, e11⟩ := q_nm ((([98, 66, 115, 83] : List Int32).getD lx4.toNatClampNeg 0) : Int32)
    refine q_ti (v := a10) e11 ?_
    refine lv_iload hx hb d_33_23_17 (lv_at hl 1 rfl) ?_
    refine lv_icmp_ne (tgt := 25) hx hb d_33_23_19 (by decide) (fun c12 => ?_) (fun c12 => ?_)
    ·
      have b13 : q_F (a10.toInt ≠ a1.toInt) := (q_neI c12)
      obtain ⟨a14, e15⟩ := q_nm (lx4 + 1 : Int32)
      have b16 : q_F (a14.toInt = lx4.toInt + 1) := (by rw [← e15]; exact q_addI (y := 1) rfl (by decide) (by have _ := q_lo32 (x := lx4); have _ := q_hi32 (x := lx4); have t1 : lx4.toInt < x4.toInt := b9; have _ := q_lo32 (x := x4); have _ := q_hi32 (x := x4); omega) (by have _ := q_lo32 (x := lx4); have _ := q_hi32 (x := lx4); have t1 : lx4.toInt < x4.toInt := b9; have _ := q_lo32 (x := x4); have _ := q_hi32 (x := x4); omega))
      refine lv_iinc (v := a14) (lv' := [(5, .int a14), (4, .int a1), (0, .ref (g (9 + 2 * 8))), (3, .int x4)]) hx hb d_33_23_25 hl (k := 0) rfl (e15) (by decide) rfl (fun ls hl => ?_)
      refine lv_goto (tgt := 7) hx hb d_33_23_28 (by decide) ?_
      exact ih6 ((a14 : Int32)) _ _ _ ws (show (4 - a14.toInt).toNat < (4 - lx4.toInt).toNat from by have t1 : a14.toInt = lx4.toInt + 1 := b16; have t2 : x4.toInt ≤ 4 := pre1; have t3 : lx4.toInt < x4.toInt := b9; omega) ⟨(show q_F (x3.toInt ≤ a14.toInt) from (show x3.toInt ≤ a14.toInt from by have t1 : x3.toInt ≤ lx4.toInt := i5; have t2 : a14.toInt = lx4.toInt + 1 := b16; omega)), V, q_lw hl (q_lw1 0 rfl (q_lw1 1 rfl (q_lw1 2 rfl (q_lw1 3 rfl q_lw0))))⟩
    ·
      have b17 : q_F (a10.toInt = a1.toInt) := (q_eqI c12)
      refine lv_iload hx hb d_33_23_22 (lv_at hl 0 rfl) ?_
      exact q_reti C0 V (⟨rfl, (show 0 ≤ lx4.toInt + 1 from (by have t1 : 0 ≤ x3.toInt := pre0; have t2 : x3.toInt ≤ lx4.toInt := i5; omega)), (show lx4.toInt ≤ 3 from (by have t1 : x4.toInt ≤ 4 := pre1; have t2 : lx4.toInt < x4.toInt := b9; omega))⟩) d_33_23_24
set_option maxRecDepth 100000 in
set_option maxHeartbeats 4000000 in
theorem T_jLat_indexOf_8 (l : Launch) (D : va_G) (g : Nat → ClassId) (q : Nat → Nat) (ws : va_W) (x2 : Int32) (x3 : Int32) (x4 : Int32) (hI : q_I (nsh g q) q ws) (pre0 : 0 ≤ x3.toInt) (pre1 : x4.toInt ≤ 4) : q_mI l y_jLat_indexOf prog_33_method_22_code 4 (.int) 2 0 0 D g [.ref (g (9 + 2 * 8)), .int x2, .int x3, .int x4] ws (fun r u => ws = u ∧ (0 ≤ r.toInt + 1) ∧ (r.toInt ≤ 3)) := by
  intro sz
  refine q_into (by decide) (Nat.le_of_ble_eq_true rfl) ?_
  intro p e s m below meth c ls hsz C0 V hl
  have hx := C0.1
  have hb := C0.2.1
  replace pre0 : q_F (0 ≤ x3.toInt) := pre0
  replace pre1 : q_F (x4.toInt ≤ 4) := pre1
  have hl : lv_has ls 4 [(0, .ref (g (9 + 2 * 8))), (1, .int x2), (2, .int x3), (3, .int x4)] := hl
  refine lv_iload_n hx hb d_33_22_0 rfl (lv_at hl 1 rfl) ?_
  refine q_goi V (q_runS (As := [.int x2]) (rest := []) (d := 1) (mc := 0) (ms := 0) C0 V rfl LS_jLat_88 (T_jLat_canEncode l D g q ws  x2 hI   _) rfl hl.1 rfl (Nat.le_of_ble_eq_true rfl) ⟨by decide, by decide⟩ ⟨Nat.le_of_ble_eq_true rfl, Nat.le_of_ble_eq_true rfl⟩ d_33_22_1) (fun a3 u1 H locs hp2 V => ?_)
  obtain ⟨rfl, b4, b5⟩ := hp2
  replace b4 : q_F (0 ≤ a3.toInt) := b4
  replace b5 : q_F (a3.toInt ≤ 1) := b5
  refine lv_if_ne (tgt := 9) hx hb d_33_22_4 (by decide) (fun c6 => ?_) (fun c6 => ?_)
  ·
    have b7 : q_F (a3.toInt ≠ 0) := (q_neI c6)
    refine lv_iload_n hx hb d_33_22_9 rfl (lv_at hl 2 rfl) ?_
    refine lv_iconst (v := 0) hx hb d_33_22_10 (by decide) ?_
    refine q_max C0 hl.1 rfl w_1773 w_803 w_7 w_804 ⟨Nat.le_of_ble_eq_true rfl, Nat.le_of_ble_eq_true rfl⟩ ⟨Nat.le_of_ble_eq_true rfl, Nat.le_of_ble_eq_true rfl⟩ d_33_22_11 ?_
    obtain ⟨a8, e9⟩ := q_nm (if x3 < 0 then 0 else x3 : Int32)
    refine q_ti (v := a8) e9 ?_
    have b10 : q_F (x3.toInt ≤ a8.toInt ∧ 0 ≤ a8.toInt ∧ (a8.toInt = x3.toInt ∨ a8.toInt = 0)) := (by rw [← e9]; show x3.toInt ≤ (if x3 < 0 then 0 else x3 : Int32).toInt ∧ 0 ≤ (if x3 < 0 then 0 else x3 : Int32).toInt ∧ ((if x3 < 0 then 0 else x3 : Int32).toInt = x3.toInt ∨ (if x3 < 0 then 0 else x3 : Int32).toInt = 0); exact (by have y1 : (0 : Int32).toInt = 0 := rfl; have z := s_max (a := x3) (b := 0); omega))
    refine lv_istore_n (lv' := [(2, .int a8), (0, .ref (g (9 + 2 * 8))), (1, .int x2), (3, .int x4)]) hx hb d_33_22_14 rfl hl (by decide) rfl (fun ls hl => ?_)
    refine lv_iload_n hx hb d_33_22_15 rfl (lv_at hl 3 rfl) ?_
    refine lv_aload_n hx hb d_33_22_16 rfl (lv_at hl 1 rfl) ?_
    refine q_slen (i := 8) (v := 4) C0 V rfl (by decide) d_33_22_17 ?_
    refine q_min C0 hl.1 rfl w_1774 w_774 w_7 w_775 ⟨Nat.le_of_ble_eq_true rfl, Nat.le_of_ble_eq_true rfl⟩ ⟨Nat.le_of_ble_eq_true rfl, Nat.le_of_ble_eq_true rfl⟩ d_33_22_18 ?_
    obtain ⟨a11, e12⟩ := q_nm (if 4 < x4 then 4 else x4 : Int32)
    refine q_ti (v := a11) e12 ?_
    have b13 : q_F (a11.toInt ≤ x4.toInt ∧ a11.toInt ≤ 4 ∧ (a11.toInt = x4.toInt ∨ a11.toInt = 4)) := (by rw [← e12]; show (if 4 < x4 then 4 else x4 : Int32).toInt ≤ x4.toInt ∧ (if 4 < x4 then 4 else x4 : Int32).toInt ≤ 4 ∧ ((if 4 < x4 then 4 else x4 : Int32).toInt = x4.toInt ∨ (if 4 < x4 then 4 else x4 : Int32).toInt = 4); exact (by have y1 : (4 : Int32).toInt = 4 := rfl; have z := s_min (a := x4) (b := 4); omega))
    refine lv_istore_n (lv' := [(3, .int a11), (2, .int a8), (0, .ref (g (9 + 2 * 8))), (1, .int x2)]) hx hb d_33_22_21 rfl hl (by decide) rfl (fun ls hl => ?_)
    refine lv_iload_n hx hb d_33_22_22 rfl (lv_at hl 1 rfl) ?_
    refine lv_iload_n hx hb d_33_22_23 rfl (lv_at hl 0 rfl) ?_
    refine lv_icmp_lt (tgt := 29) hx hb d_33_22_24 (by decide) (fun c14 => ?_) (fun c14 => ?_)
    ·
      have b15 : q_F (a8.toInt < a11.toInt) := (q_ltI c14)
      refine lv_aload_n hx hb d_33_22_29 rfl (lv_at hl 2 rfl) ?_
      refine lv_iload_n hx hb d_33_22_30 rfl (lv_at hl 3 rfl) ?_
      refine lv_iload_n hx hb d_33_22_31 rfl (lv_at hl 1 rfl) ?_
      refine lv_iload_n hx hb d_33_22_32 rfl (lv_at hl 0 rfl) ?_
      refine q_goi V (q_runS (As := [.ref (g (9 + 2 * 8)), .int x2, .int a8, .int a11]) (rest := []) (d := 1) (mc := 0) (ms := 0) C0 V rfl LS_jLat_95 (T_jLat_indexOfChar_8 l D g q ws  x2 a8 a11 hI  (by have t1 : x3.toInt ≤ a8.toInt ∧ 0 ≤ a8.toInt ∧ (a8.toInt = x3.toInt ∨ a8.toInt = 0) := b10; omega) (by have t1 : a11.toInt ≤ x4.toInt ∧ a11.toInt ≤ 4 ∧ (a11.toInt = x4.toInt ∨ a11.toInt = 4) := b13; omega) _) rfl hl.1 rfl (Nat.le_of_ble_eq_true rfl) ⟨by decide, by decide⟩ ⟨Nat.le_of_ble_eq_true rfl, Nat.le_of_ble_eq_true rfl⟩ d_33_22_33) (fun a18 u16 H locs hp17 V => ?_)
      obtain ⟨rfl, b19, b20⟩ := hp17
      replace b19 : q_F (0 ≤ a18.toInt + 1) := b19
      replace b20 : q_F (a18.toInt ≤ 3) := b20
      exact q_reti C0 V (⟨rfl, (show 0 ≤ a18.toInt + 1 from (by have t1 : 0 ≤ a18.toInt + 1 := b19; omega)), (show a18.toInt ≤ 3 from (by have t1 : a18.toInt ≤ 3 := b20; omega))⟩) d_33_22_36
    ·
      have b21 : q_F (a11.toInt ≤ a8.toInt) := (q_nltI c14)
      refine lv_iconst (v := (-1)) hx hb d_33_22_27 (by decide) ?_
      exact q_reti C0 V (⟨rfl, (show 0 ≤ (-1 : Int32).toInt + 1 from (by have z3 : (-1 : Int32).toInt = -1 := rfl; omega)), (show (-1 : Int32).toInt ≤ 3 from (by have z3 : (-1 : Int32).toInt = -1 := rfl; omega))⟩) d_33_22_28
  ·
    have b22 : q_F (a3.toInt = 0) := (q_eqI c6)
    refine lv_iconst (v := (-1)) hx hb d_33_22_7 (by decide) ?_
    exact q_reti C0 V (⟨rfl, (show 0 ≤ (-1 : Int32).toInt + 1 from (by have z3 : (-1 : Int32).toInt = -1 := rfl; omega)), (show (-1 : Int32).toInt ≤ 3 from (by have z3 : (-1 : Int32).toInt = -1 := rfl; omega))⟩) d_33_22_8
set_option maxRecDepth 100000 in
set_option maxHeartbeats 4000000 in
theorem T_jStr_indexOf_III_8 (l : Launch) (D : va_G) (g : Nat → ClassId) (q : Nat → Nat) (ws : va_W) (x2 : Int32) (x3 : Int32) (hI : q_I (nsh g q) q ws) (pre0 : 0 ≤ x3.toInt) : q_mI l y_jStr_indexOf_III prog_31_method_80_code 3 (.int) 3 0 0 D g [.ref (g (8 + 2 * 8)), .int x2, .int x3] ws (fun r u => ws = u ∧ (0 ≤ r.toInt + 1) ∧ (r.toInt ≤ 3)) := by
  intro sz
  refine q_into (by decide) (Nat.le_of_ble_eq_true rfl) ?_
  intro p e s m below meth c ls hsz C0 V hl
  have hx := C0.1
  have hb := C0.2.1
  replace pre0 : q_F (0 ≤ x3.toInt) := pre0
  have hl : lv_has ls 3 [(0, .ref (g (8 + 2 * 8))), (1, .int x2), (2, .int x3)] := hl
  refine lv_aload_n hx hb d_31_80_0 rfl (lv_at hl 0 rfl) ?_
  refine q_goi V (q_runVs (As := []) (rest := []) (d := 1) (mc := 0) (ms := 0) (i := 8) C0 V rfl LV_jStr_492 (T_jStr_isLatin1_8 l D g q ws   hI   _) rfl rfl rfl hl.1 rfl (Nat.le_of_ble_eq_true rfl) ⟨by decide, by decide⟩ ⟨Nat.le_of_ble_eq_true rfl, Nat.le_of_ble_eq_true rfl⟩ d_31_80_1) (fun a3 u1 H locs hp2 V => ?_)
  obtain ⟨rfl, b4, b5⟩ := hp2
  replace b4 : q_F (1 ≤ a3.toInt) := b4
  replace b5 : q_F (a3.toInt ≤ 1) := b5
  obtain rfl : a3 = (1 : Int32) := q_Ieq (x := a3.toInt) (y := 1) rfl (by decide) (by have t1 : 1 ≤ a3.toInt := b4; have t2 : a3.toInt ≤ 1 := b5; omega)
  refine lv_if_eq (tgt := 23) hx hb d_31_80_4 (by decide) (fun c6 => absurd c6 (by decide)) (fun c6 => ?_)
  refine lv_aload_n hx hb d_31_80_7 rfl (lv_at hl 0 rfl) ?_
  refine q_sval (i := 8) C0 V rfl rfl w_1018 d_31_80_8 ?_
  refine lv_iload_n hx hb d_31_80_11 rfl (lv_at hl 1 rfl) ?_
  refine lv_iload_n hx hb d_31_80_12 rfl (lv_at hl 2 rfl) ?_
  refine lv_aload_n hx hb d_31_80_13 rfl (lv_at hl 0 rfl) ?_
  refine q_goi V (q_runVs (As := []) (rest := [.int x3, .int x2, .ref (g (9 + 2 * 8))]) (d := 2) (mc := 0) (ms := 0) (i := 8) C0 V rfl LV_jStr_505 (T_jStr_length_8 l D g q ws   hI   _) rfl rfl rfl hl.1 rfl (Nat.le_of_ble_eq_true rfl) ⟨by decide, by decide⟩ ⟨Nat.le_of_ble_eq_true rfl, Nat.le_of_ble_eq_true rfl⟩ d_31_80_14) (fun a9 u7 H locs hp8 V => ?_)
  obtain ⟨rfl, b10, b11⟩ := hp8
  replace b10 : q_F (4 ≤ a9.toInt) := b10
  replace b11 : q_F (a9.toInt ≤ 4) := b11
  obtain rfl : a9 = (4 : Int32) := q_Ieq (x := a9.toInt) (y := 4) rfl (by decide) (by have t1 : 4 ≤ a9.toInt := b10; have t2 : a9.toInt ≤ 4 := b11; omega)
  refine q_goi V (q_runS (As := [.ref (g (9 + 2 * 8)), .int x2, .int x3, .int 4]) (rest := []) (d := 2) (mc := 0) (ms := 0) C0 V rfl LS_jStr_637 (T_jLat_indexOf_8 l D g q ws  x2 x3 4 hI  (by have y0 : (4 : Int32).toInt = 4 := rfl; have t1 : 0 ≤ x3.toInt := pre0; omega) (by have y0 : (4 : Int32).toInt = 4 := rfl; omega) _) rfl hl.1 rfl (Nat.le_of_ble_eq_true rfl) ⟨by decide, by decide⟩ ⟨Nat.le_of_ble_eq_true rfl, Nat.le_of_ble_eq_true rfl⟩ d_31_80_17) (fun a14 u12 H locs hp13 V => ?_)
  obtain ⟨rfl, b15, b16⟩ := hp13
  replace b15 : q_F (0 ≤ a14.toInt + 1) := b15
  replace b16 : q_F (a14.toInt ≤ 3) := b16
  refine lv_goto (tgt := 36) hx hb d_31_80_20 (by decide) ?_
  exact q_reti C0 V (⟨rfl, (show 0 ≤ a14.toInt + 1 from (by have t1 : 0 ≤ a14.toInt + 1 := b15; omega)), (show a14.toInt ≤ 3 from (by have t1 : a14.toInt ≤ 3 := b16; omega))⟩) d_31_80_36
set_option maxRecDepth 100000 in
set_option maxHeartbeats 4000000 in
theorem T_jStr_indexOf_II_8 (l : Launch) (D : va_G) (g : Nat → ClassId) (q : Nat → Nat) (ws : va_W) (x2 : Int32) (hI : q_I (nsh g q) q ws) : q_mI l y_jStr_indexOf_II prog_31_method_79_code 2 (.int) 4 0 0 D g [.ref (g (8 + 2 * 8)), .int x2] ws (fun r u => ws = u ∧ (0 ≤ r.toInt + 1) ∧ (r.toInt ≤ 3)) := by
  intro sz
  refine q_into (by decide) (Nat.le_of_ble_eq_true rfl) ?_
  intro p e s m below meth c ls hsz C0 V hl
  have hx := C0.1
  have hb := C0.2.1
  have hl : lv_has ls 2 [(0, .ref (g (8 + 2 * 8))), (1, .int x2)] := hl
  refine lv_aload_n hx hb d_31_79_0 rfl (lv_at hl 0 rfl) ?_
  refine lv_iload_n hx hb d_31_79_1 rfl (lv_at hl 1 rfl) ?_
  refine lv_iconst (v := 0) hx hb d_31_79_2 (by decide) ?_
  refine q_goi V (q_runVs (As := [.int x2, .int 0]) (rest := []) (d := 3) (mc := 0) (ms := 0) (i := 8) C0 V rfl LV_jStr_633 (T_jStr_indexOf_III_8 l D g q ws  x2 0 hI  (by have y0 : (0 : Int32).toInt = 0 := rfl; omega) _) rfl rfl rfl hl.1 rfl (Nat.le_of_ble_eq_true rfl) ⟨by decide, by decide⟩ ⟨Nat.le_of_ble_eq_true rfl, Nat.le_of_ble_eq_true rfl⟩ d_31_79_3) (fun a3 u1 H locs hp2 V => ?_)
  obtain ⟨rfl, b4, b5⟩ := hp2
  replace b4 : q_F (0 ≤ a3.toInt + 1) := b4
  replace b5 : q_F (a3.toInt ≤ 3) := b5
  exact q_reti C0 V (⟨rfl, (show 0 ≤ a3.toInt + 1 from (by have t1 : 0 ≤ a3.toInt + 1 := b4; omega)), (show a3.toInt ≤ 3 from (by have t1 : a3.toInt ≤ 3 := b5; omega))⟩) d_31_79_6
set_option maxRecDepth 100000 in
set_option maxHeartbeats 4000000 in
theorem T_jStr_coder_9 (l : Launch) (D : va_G) (g : Nat → ClassId) (q : Nat → Nat) (ws : va_W) (hI : q_I (nsh g q) q ws) : q_mI l y_jStr_coder prog_31_method_152_code 1 (.byte) 1 0 0 D g [.ref (g (8 + 2 * 9))] ws (fun r u => ws = u ∧ (0 ≤ r.toInt) ∧ (r.toInt ≤ 0)) := by
  intro sz
  refine q_into (by decide) (Nat.le_of_ble_eq_true rfl) ?_
  intro p e s m below meth c ls hsz C0 V hl
  have hx := C0.1
  have hb := C0.2.1
  have hl : lv_has ls 1 [(0, .ref (g (8 + 2 * 9)))] := hl
  refine q_scmp C0 V rfl w_663 d_31_152_0 ?_
  refine lv_if_eq (tgt := 13) hx hb d_31_152_3 (by decide) (fun c1 => absurd c1 (by decide)) (fun c1 => ?_)
  refine lv_aload_n hx hb d_31_152_6 rfl (lv_at hl 0 rfl) ?_
  refine q_scod (i := 9) C0 V rfl rfl w_1019 d_31_152_7 ?_
  refine lv_goto (tgt := 14) hx hb d_31_152_10 (by decide) ?_
  exact q_retn C0 V (rfl) (⟨rfl, (show 0 ≤ (0 : Int32).toInt from (by have z0 : (0 : Int32).toInt = 0 := rfl; omega)), (show (0 : Int32).toInt ≤ 0 from (by have z0 : (0 : Int32).toInt = 0 := rfl; omega))⟩) d_31_152_14
set_option maxRecDepth 100000 in
set_option maxHeartbeats 4000000 in
theorem T_jStr_length_9 (l : Launch) (D : va_G) (g : Nat → ClassId) (q : Nat → Nat) (ws : va_W) (hI : q_I (nsh g q) q ws) : q_mI l y_jStr_length prog_31_method_54_code 1 (.int) 2 0 0 D g [.ref (g (8 + 2 * 9))] ws (fun r u => ws = u ∧ (2 ≤ r.toInt) ∧ (r.toInt ≤ 2)) := by
  intro sz
  refine q_into (by decide) (Nat.le_of_ble_eq_true rfl) ?_
  intro p e s m below meth c ls hsz C0 V hl
  have hx := C0.1
  have hb := C0.2.1
  have hl : lv_has ls 1 [(0, .ref (g (8 + 2 * 9)))] := hl
  refine lv_aload_n hx hb d_31_54_0 rfl (lv_at hl 0 rfl) ?_
  refine q_sval (i := 9) C0 V rfl rfl w_1018 d_31_54_1 ?_
  refine q_slen (i := 9) (v := 2) C0 V rfl (by decide) d_31_54_4 ?_
  refine lv_aload_n hx hb d_31_54_5 rfl (lv_at hl 0 rfl) ?_
  refine q_goi V (q_runVs (As := []) (rest := [.int 2]) (d := 1) (mc := 0) (ms := 0) (i := 9) C0 V rfl LV_jStr_335 (T_jStr_coder_9 l D g q ws   hI   _) rfl rfl rfl hl.1 rfl (Nat.le_of_ble_eq_true rfl) ⟨by decide, by decide⟩ ⟨Nat.le_of_ble_eq_true rfl, Nat.le_of_ble_eq_true rfl⟩ d_31_54_6) (fun a3 u1 H locs hp2 V => ?_)
  obtain ⟨rfl, b4, b5⟩ := hp2
  replace b4 : q_F (0 ≤ a3.toInt) := b4
  replace b5 : q_F (a3.toInt ≤ 0) := b5
  obtain rfl : a3 = (0 : Int32) := q_Ieq (x := a3.toInt) (y := 0) rfl (by decide) (by have t1 : 0 ≤ a3.toInt := b4; have t2 : a3.toInt ≤ 0 := b5; omega)
  refine lv_ishr hx hb d_31_54_9 ?_
  refine q_ti (v := 2) (by decide) ?_
  exact q_reti C0 V (⟨rfl, (show 2 ≤ (2 : Int32).toInt from (by have z0 : (2 : Int32).toInt = 2 := rfl; omega)), (show (2 : Int32).toInt ≤ 2 from (by have z0 : (2 : Int32).toInt = 2 := rfl; omega))⟩) d_31_54_10
set_option maxRecDepth 100000 in
set_option maxHeartbeats 4000000 in
theorem T_jStr_isLatin1_9 (l : Launch) (D : va_G) (g : Nat → ClassId) (q : Nat → Nat) (ws : va_W) (hI : q_I (nsh g q) q ws) : q_mI l y_jStr_isLatin1 prog_31_method_154_code 1 (.boolean) 1 0 0 D g [.ref (g (8 + 2 * 9))] ws (fun r u => ws = u ∧ (1 ≤ r.toInt) ∧ (r.toInt ≤ 1)) := by
  intro sz
  refine q_into (by decide) (Nat.le_of_ble_eq_true rfl) ?_
  intro p e s m below meth c ls hsz C0 V hl
  have hx := C0.1
  have hb := C0.2.1
  have hl : lv_has ls 1 [(0, .ref (g (8 + 2 * 9)))] := hl
  refine q_scmp C0 V rfl w_663 d_31_154_0 ?_
  refine lv_if_eq (tgt := 17) hx hb d_31_154_3 (by decide) (fun c1 => absurd c1 (by decide)) (fun c1 => ?_)
  refine lv_aload_n hx hb d_31_154_6 rfl (lv_at hl 0 rfl) ?_
  refine q_scod (i := 9) C0 V rfl rfl w_1019 d_31_154_7 ?_
  refine lv_if_ne (tgt := 17) hx hb d_31_154_10 (by decide) (fun c2 => absurd (by decide) c2) (fun c2 => ?_)
  refine lv_iconst (v := 1) hx hb d_31_154_13 (by decide) ?_
  refine lv_goto (tgt := 18) hx hb d_31_154_14 (by decide) ?_
  exact q_retz C0 V (by decide) (⟨rfl, (show 1 ≤ (1 : Int32).toInt from (by have z0 : (1 : Int32).toInt = 1 := rfl; omega)), (show (1 : Int32).toInt ≤ 1 from (by have z0 : (1 : Int32).toInt = 1 := rfl; omega))⟩) d_31_154_18
set_option maxRecDepth 100000 in
set_option maxHeartbeats 4000000 in
theorem T_jLat_indexOfChar_9 (l : Launch) (D : va_G) (g : Nat → ClassId) (q : Nat → Nat) (ws : va_W) (x2 : Int32) (x3 : Int32) (x4 : Int32) (hI : q_I (nsh g q) q ws) (pre0 : 0 ≤ x3.toInt) (pre1 : x4.toInt ≤ 2) : q_mI l y_jLat_indexOfChar prog_33_method_23_code 6 (.int) 1 0 0 D g [.ref (g (9 + 2 * 9)), .int x2, .int x3, .int x4] ws (fun r u => ws = u ∧ (0 ≤ r.toInt + 1) ∧ (r.toInt ≤ 1)) := by
  intro sz
  refine q_into (by decide) (Nat.le_of_ble_eq_true rfl) ?_
  intro p e s m below meth c ls hsz C0 V hl
  have hx := C0.1
  have hb := C0.2.1
  replace pre0 : q_F (0 ≤ x3.toInt) := pre0
  replace pre1 : q_F (x4.toInt ≤ 2) := pre1
  have hl : lv_has ls 6 [(0, .ref (g (9 + 2 * 9))), (1, .int x2), (2, .int x3), (3, .int x4)] := hl
  refine lv_iload_n hx hb d_33_23_0 rfl (lv_at hl 1 rfl) ?_
  refine lv_i2b hx hb d_33_23_1 rfl ?_
  obtain ⟨a1, e2⟩ := q_nm (x2.toInt8.toInt32 : Int32)
  refine q_ti (v := a1) e2 ?_
  refine lv_istore (lv' := [(4, .int a1), (0, .ref (g (9 + 2 * 9))), (1, .int x2), (2, .int x3), (3, .int x4)]) hx hb d_33_23_2 hl (by decide) rfl (fun ls hl => ?_)
  refine lv_iload_n hx hb d_33_23_4 rfl (lv_at hl 3 rfl) ?_
  refine lv_istore (lv' := [(5, .int x3), (4, .int a1), (0, .ref (g (9 + 2 * 9))), (1, .int x2), (2, .int x3), (3, .int x4)]) hx hb d_33_23_5 hl (by decide) rfl (fun ls hl => ?_)
  refine q_loop (X := Int32) (fun z H locs ls _ => q_F (x3.toInt ≤ z.toInt) ∧ q_Wd D g (va_A ws sz) s ws H locs ∧ lv_has ls 6 [(5, .int z), (4, .int a1), (0, .ref (g (9 + 2 * 9))), (3, .int x4)]) (fun z => (2 - z.toInt).toNat) ?_ ((x3 : Int32)) _ _ _ ws ⟨(show q_F (x3.toInt ≤ x3.toInt) from (show x3.toInt ≤ x3.toInt from by omega)), V, q_lw hl (q_lw1 0 rfl (q_lw1 1 rfl (q_lw1 2 rfl (q_lw1 5 rfl q_lw0))))⟩
  rintro lx4 H locs ls _ ⟨i5, V, hl⟩ ih6
  replace i5 : q_F (x3.toInt ≤ lx4.toInt) := i5
  replace hl : lv_has ls 6 [(5, .int lx4), (4, .int a1), (0, .ref (g (9 + 2 * 9))), (3, .int x4)] := hl
  refine lv_iload hx hb d_33_23_7 (lv_at hl 0 rfl) ?_
  refine lv_iload_n hx hb d_33_23_9 rfl (lv_at hl 3 rfl) ?_
  refine lv_icmp_ge (tgt := 31) hx hb d_33_23_10 (by decide) (fun c7 => ?_) (fun c7 => ?_)
  ·
    have b8 : q_F (x4.toInt ≤ lx4.toInt) := (q_leI c7)
    refine lv_iconst (v := (-1)) hx hb d_33_23_31 (by decide) ?_
    exact q_reti C0 V (⟨rfl, (show 0 ≤ (-1 : Int32).toInt + 1 from (by have z3 : (-1 : Int32).toInt = -1 := rfl; omega)), (show (-1 : Int32).toInt ≤ 1 from (by have z3 : (-1 : Int32).toInt = -1 := rfl; omega))⟩) d_33_23_32
  ·
    have b9 : q_F (lx4.toInt < x4.toInt) := (q_nleI c7)
    refine lv_aload_n hx hb d_33_23_13 rfl (lv_at hl 2 rfl) ?_
    refine lv_iload hx hb d_33_23_14 (lv_at hl 0 rfl) ?_
    refine q_sbal (i := 9) (v := (([99, 67] : List Int32).getD lx4.toNatClampNeg 0)) C0 V rfl (show vp_in lx4 2 from q_ix (x := lx4.toInt) rfl (by have t1 : 0 ≤ x3.toInt := pre0; have t2 : x3.toInt ≤ lx4.toInt := i5; omega) (by have t1 : 0 ≤ x3.toInt := pre0; have t2 : x3.toInt ≤ lx4.toInt := i5; have t3 : x4.toInt ≤ 2 := pre1; have t4 : lx4.toInt < x4.toInt := b9; omega)) rfl d_33_23_16 ?_
    obtain ⟨a10, e11⟩ := q_nm ((([99, 67] : List Int32).getD lx4.toNatClampNeg 0) : Int32)
    refine q_ti (v := a10) e11 ?_
    refine lv_iload hx hb d_33_23_17 (lv_at hl 1 rfl) ?_
    refine lv_icmp_ne (tgt := 25) hx hb d_33_23_19 (by decide) (fun c12 => ?_) (fun c12 => ?_)
    ·
      have b13 : q_F (a10.toInt ≠ a1.toInt) := (q_neI c12)
      obtain ⟨a14, e15⟩ := q_nm (lx4 + 1 : Int32)
      have b16 : q_F (a14.toInt = lx4.toInt + 1) := (by rw [← e15]; exact q_addI (y := 1) rfl (by decide) (by have _ := q_lo32 (x := lx4); have _ := q_hi32 (x := lx4); have t1 : lx4.toInt < x4.toInt := b9; have _ := q_lo32 (x := x4); have _ := q_hi32 (x := x4); omega) (by have _ := q_lo32 (x := lx4); have _ := q_hi32 (x := lx4); have t1 : lx4.toInt < x4.toInt := b9; have _ := q_lo32 (x := x4); have _ := q_hi32 (x := x4); omega))
      refine lv_iinc (v := a14) (lv' := [(5, .int a14), (4, .int a1), (0, .ref (g (9 + 2 * 9))), (3, .int x4)]) hx hb d_33_23_25 hl (k := 0) rfl (e15) (by decide) rfl (fun ls hl => ?_)
      refine lv_goto (tgt := 7) hx hb d_33_23_28 (by decide) ?_
      exact ih6 ((a14 : Int32)) _ _ _ ws (show (2 - a14.toInt).toNat < (2 - lx4.toInt).toNat from by have t1 : a14.toInt = lx4.toInt + 1 := b16; have t2 : x4.toInt ≤ 2 := pre1; have t3 : lx4.toInt < x4.toInt := b9; omega) ⟨(show q_F (x3.toInt ≤ a14.toInt) from (show x3.toInt ≤ a14.toInt from by have t1 : x3.toInt ≤ lx4.toInt := i5; have t2 : a14.toInt = lx4.toInt + 1 := b16; omega)), V, q_lw hl (q_lw1 0 rfl (q_lw1 1 rfl (q_lw1 2 rfl (q_lw1 3 rfl q_lw0))))⟩
    ·
      have b17 : q_F (a10.toInt = a1.toInt) := (q_eqI c12)
      refine lv_iload hx hb d_33_23_22 (lv_at hl 0 rfl) ?_
      exact q_reti C0 V (⟨rfl, (show 0 ≤ lx4.toInt + 1 from (by have t1 : 0 ≤ x3.toInt := pre0; have t2 : x3.toInt ≤ lx4.toInt := i5; omega)), (show lx4.toInt ≤ 1 from (by have t1 : x4.toInt ≤ 2 := pre1; have t2 : lx4.toInt < x4.toInt := b9; omega))⟩) d_33_23_24
set_option maxRecDepth 100000 in
set_option maxHeartbeats 4000000 in
theorem T_jLat_indexOf_9 (l : Launch) (D : va_G) (g : Nat → ClassId) (q : Nat → Nat) (ws : va_W) (x2 : Int32) (x3 : Int32) (x4 : Int32) (hI : q_I (nsh g q) q ws) (pre0 : 0 ≤ x3.toInt) (pre1 : x4.toInt ≤ 2) : q_mI l y_jLat_indexOf prog_33_method_22_code 4 (.int) 2 0 0 D g [.ref (g (9 + 2 * 9)), .int x2, .int x3, .int x4] ws (fun r u => ws = u ∧ (0 ≤ r.toInt + 1) ∧ (r.toInt ≤ 1)) := by
  intro sz
  refine q_into (by decide) (Nat.le_of_ble_eq_true rfl) ?_
  intro p e s m below meth c ls hsz C0 V hl
  have hx := C0.1
  have hb := C0.2.1
  replace pre0 : q_F (0 ≤ x3.toInt) := pre0
  replace pre1 : q_F (x4.toInt ≤ 2) := pre1
  have hl : lv_has ls 4 [(0, .ref (g (9 + 2 * 9))), (1, .int x2), (2, .int x3), (3, .int x4)] := hl
  refine lv_iload_n hx hb d_33_22_0 rfl (lv_at hl 1 rfl) ?_
  refine q_goi V (q_runS (As := [.int x2]) (rest := []) (d := 1) (mc := 0) (ms := 0) C0 V rfl LS_jLat_88 (T_jLat_canEncode l D g q ws  x2 hI   _) rfl hl.1 rfl (Nat.le_of_ble_eq_true rfl) ⟨by decide, by decide⟩ ⟨Nat.le_of_ble_eq_true rfl, Nat.le_of_ble_eq_true rfl⟩ d_33_22_1) (fun a3 u1 H locs hp2 V => ?_)
  obtain ⟨rfl, b4, b5⟩ := hp2
  replace b4 : q_F (0 ≤ a3.toInt) := b4
  replace b5 : q_F (a3.toInt ≤ 1) := b5
  refine lv_if_ne (tgt := 9) hx hb d_33_22_4 (by decide) (fun c6 => ?_) (fun c6 => ?_)
  ·
    have b7 : q_F (a3.toInt ≠ 0) := (q_neI c6)
    refine lv_iload_n hx hb d_33_22_9 rfl (lv_at hl 2 rfl) ?_
    refine lv_iconst (v := 0) hx hb d_33_22_10 (by decide) ?_
    refine q_max C0 hl.1 rfl w_1773 w_803 w_7 w_804 ⟨Nat.le_of_ble_eq_true rfl, Nat.le_of_ble_eq_true rfl⟩ ⟨Nat.le_of_ble_eq_true rfl, Nat.le_of_ble_eq_true rfl⟩ d_33_22_11 ?_
    obtain ⟨a8, e9⟩ := q_nm (if x3 < 0 then 0 else x3 : Int32)
    refine q_ti (v := a8) e9 ?_
    have b10 : q_F (x3.toInt ≤ a8.toInt ∧ 0 ≤ a8.toInt ∧ (a8.toInt = x3.toInt ∨ a8.toInt = 0)) := (by rw [← e9]; show x3.toInt ≤ (if x3 < 0 then 0 else x3 : Int32).toInt ∧ 0 ≤ (if x3 < 0 then 0 else x3 : Int32).toInt ∧ ((if x3 < 0 then 0 else x3 : Int32).toInt = x3.toInt ∨ (if x3 < 0 then 0 else x3 : Int32).toInt = 0); exact (by have y1 : (0 : Int32).toInt = 0 := rfl; have z := s_max (a := x3) (b := 0); omega))
    refine lv_istore_n (lv' := [(2, .int a8), (0, .ref (g (9 + 2 * 9))), (1, .int x2), (3, .int x4)]) hx hb d_33_22_14 rfl hl (by decide) rfl (fun ls hl => ?_)
    refine lv_iload_n hx hb d_33_22_15 rfl (lv_at hl 3 rfl) ?_
    refine lv_aload_n hx hb d_33_22_16 rfl (lv_at hl 1 rfl) ?_
    refine q_slen (i := 9) (v := 2) C0 V rfl (by decide) d_33_22_17 ?_
    refine q_min C0 hl.1 rfl w_1774 w_774 w_7 w_775 ⟨Nat.le_of_ble_eq_true rfl, Nat.le_of_ble_eq_true rfl⟩ ⟨Nat.le_of_ble_eq_true rfl, Nat.le_of_ble_eq_true rfl⟩ d_33_22_18 ?_
    obtain ⟨a11, e12⟩ := q_nm (if 2 < x4 then 2 else x4 : Int32)
    refine q_ti (v := a11) e12 ?_
    have b13 : q_F (a11.toInt ≤ x4.toInt ∧ a11.toInt ≤ 2 ∧ (a11.toInt = x4.toInt ∨ a11.toInt = 2)) := (by rw [← e12]; show (if 2 < x4 then 2 else x4 : Int32).toInt ≤ x4.toInt ∧ (if 2 < x4 then 2 else x4 : Int32).toInt ≤ 2 ∧ ((if 2 < x4 then 2 else x4 : Int32).toInt = x4.toInt ∨ (if 2 < x4 then 2 else x4 : Int32).toInt = 2); exact (by have y1 : (2 : Int32).toInt = 2 := rfl; have z := s_min (a := x4) (b := 2); omega))
    refine lv_istore_n (lv' := [(3, .int a11), (2, .int a8), (0, .ref (g (9 + 2 * 9))), (1, .int x2)]) hx hb d_33_22_21 rfl hl (by decide) rfl (fun ls hl => ?_)
    refine lv_iload_n hx hb d_33_22_22 rfl (lv_at hl 1 rfl) ?_
    refine lv_iload_n hx hb d_33_22_23 rfl (lv_at hl 0 rfl) ?_
    refine lv_icmp_lt (tgt := 29) hx hb d_33_22_24 (by decide) (fun c14 => ?_) (fun c14 => ?_)
    ·
      have b15 : q_F (a8.toInt < a11.toInt) := (q_ltI c14)
      refine lv_aload_n hx hb d_33_22_29 rfl (lv_at hl 2 rfl) ?_
      refine lv_iload_n hx hb d_33_22_30 rfl (lv_at hl 3 rfl) ?_
      refine lv_iload_n hx hb d_33_22_31 rfl (lv_at hl 1 rfl) ?_
      refine lv_iload_n hx hb d_33_22_32 rfl (lv_at hl 0 rfl) ?_
      refine q_goi V (q_runS (As := [.ref (g (9 + 2 * 9)), .int x2, .int a8, .int a11]) (rest := []) (d := 1) (mc := 0) (ms := 0) C0 V rfl LS_jLat_95 (T_jLat_indexOfChar_9 l D g q ws  x2 a8 a11 hI  (by have t1 : x3.toInt ≤ a8.toInt ∧ 0 ≤ a8.toInt ∧ (a8.toInt = x3.toInt ∨ a8.toInt = 0) := b10; omega) (by have t1 : a11.toInt ≤ x4.toInt ∧ a11.toInt ≤ 2 ∧ (a11.toInt = x4.toInt ∨ a11.toInt = 2) := b13; omega) _) rfl hl.1 rfl (Nat.le_of_ble_eq_true rfl) ⟨by decide, by decide⟩ ⟨Nat.le_of_ble_eq_true rfl, Nat.le_of_ble_eq_true rfl⟩ d_33_22_33) (fun a18 u16 H locs hp17 V => ?_)
      obtain ⟨rfl, b19, b20⟩ := hp17
      replace b19 : q_F (0 ≤ a18.toInt + 1) := b19
      replace b20 : q_F (a18.toInt ≤ 1) := b20
      exact q_reti C0 V (⟨rfl, (show 0 ≤ a18.toInt + 1 from (by have t1 : 0 ≤ a18.toInt + 1 := b19; omega)), (show a18.toInt ≤ 1 from (by have t1 : a18.toInt ≤ 1 := b20; omega))⟩) d_33_22_36
    ·
      have b21 : q_F (a11.toInt ≤ a8.toInt) := (q_nltI c14)
      refine lv_iconst (v := (-1)) hx hb d_33_22_27 (by decide) ?_
      exact q_reti C0 V (⟨rfl, (show 0 ≤ (-1 : Int32).toInt + 1 from (by have z3 : (-1 : Int32).toInt = -1 := rfl; omega)), (show (-1 : Int32).toInt ≤ 1 from (by have z3 : (-1 : Int32).toInt = -1 := rfl; omega))⟩) d_33_22_28
  ·
    have b22 : q_F (a3.toInt = 0) := (q_eqI c6)
    refine lv_iconst (v := (-1)) hx hb d_33_22_7 (by decide) ?_
    exact q_reti C0 V (⟨rfl, (show 0 ≤ (-1 : Int32).toInt + 1 from (by have z3 : (-1 : Int32).toInt = -1 := rfl; omega)), (show (-1 : Int32).toInt ≤ 1 from (by have z3 : (-1 : Int32).toInt = -1 := rfl; omega))⟩) d_33_22_8
set_option maxRecDepth 100000 in
set_option maxHeartbeats 4000000 in
theorem T_jStr_indexOf_III_9 (l : Launch) (D : va_G) (g : Nat → ClassId) (q : Nat → Nat) (ws : va_W) (x2 : Int32) (x3 : Int32) (hI : q_I (nsh g q) q ws) (pre0 : 0 ≤ x3.toInt) : q_mI l y_jStr_indexOf_III prog_31_method_80_code 3 (.int) 3 0 0 D g [.ref (g (8 + 2 * 9)), .int x2, .int x3] ws (fun r u => ws = u ∧ (0 ≤ r.toInt + 1) ∧ (r.toInt ≤ 1)) := by
  intro sz
  refine q_into (by decide) (Nat.le_of_ble_eq_true rfl) ?_
  intro p e s m below meth c ls hsz C0 V hl
  have hx := C0.1
  have hb := C0.2.1
  replace pre0 : q_F (0 ≤ x3.toInt) := pre0
  have hl : lv_has ls 3 [(0, .ref (g (8 + 2 * 9))), (1, .int x2), (2, .int x3)] := hl
  refine lv_aload_n hx hb d_31_80_0 rfl (lv_at hl 0 rfl) ?_
  refine q_goi V (q_runVs (As := []) (rest := []) (d := 1) (mc := 0) (ms := 0) (i := 9) C0 V rfl LV_jStr_492 (T_jStr_isLatin1_9 l D g q ws   hI   _) rfl rfl rfl hl.1 rfl (Nat.le_of_ble_eq_true rfl) ⟨by decide, by decide⟩ ⟨Nat.le_of_ble_eq_true rfl, Nat.le_of_ble_eq_true rfl⟩ d_31_80_1) (fun a3 u1 H locs hp2 V => ?_)
  obtain ⟨rfl, b4, b5⟩ := hp2
  replace b4 : q_F (1 ≤ a3.toInt) := b4
  replace b5 : q_F (a3.toInt ≤ 1) := b5
  obtain rfl : a3 = (1 : Int32) := q_Ieq (x := a3.toInt) (y := 1) rfl (by decide) (by have t1 : 1 ≤ a3.toInt := b4; have t2 : a3.toInt ≤ 1 := b5; omega)
  refine lv_if_eq (tgt := 23) hx hb d_31_80_4 (by decide) (fun c6 => absurd c6 (by decide)) (fun c6 => ?_)
  refine lv_aload_n hx hb d_31_80_7 rfl (lv_at hl 0 rfl) ?_
  refine q_sval (i := 9) C0 V rfl rfl w_1018 d_31_80_8 ?_
  refine lv_iload_n hx hb d_31_80_11 rfl (lv_at hl 1 rfl) ?_
  refine lv_iload_n hx hb d_31_80_12 rfl (lv_at hl 2 rfl) ?_
  refine lv_aload_n hx hb d_31_80_13 rfl (lv_at hl 0 rfl) ?_
  refine q_goi V (q_runVs (As := []) (rest := [.int x3, .int x2, .ref (g (9 + 2 * 9))]) (d := 2) (mc := 0) (ms := 0) (i := 9) C0 V rfl LV_jStr_505 (T_jStr_length_9 l D g q ws   hI   _) rfl rfl rfl hl.1 rfl (Nat.le_of_ble_eq_true rfl) ⟨by decide, by decide⟩ ⟨Nat.le_of_ble_eq_true rfl, Nat.le_of_ble_eq_true rfl⟩ d_31_80_14) (fun a9 u7 H locs hp8 V => ?_)
  obtain ⟨rfl, b10, b11⟩ := hp8
  replace b10 : q_F (2 ≤ a9.toInt) := b10
  replace b11 : q_F (a9.toInt ≤ 2) := b11
  obtain rfl : a9 = (2 : Int32) := q_Ieq (x := a9.toInt) (y := 2) rfl (by decide) (by have t1 : 2 ≤ a9.toInt := b10; have t2 : a9.toInt ≤ 2 := b11; omega)
  refine q_goi V (q_runS (As := [.ref (g (9 + 2 * 9)), .int x2, .int x3, .int 2]) (rest := []) (d := 2) (mc := 0) (ms := 0) C0 V rfl LS_jStr_637 (T_jLat_indexOf_9 l D g q ws  x2 x3 2 hI  (by have y0 : (2 : Int32).toInt = 2 := rfl; have t1 : 0 ≤ x3.toInt := pre0; omega) (by have y0 : (2 : Int32).toInt = 2 := rfl; omega) _) rfl hl.1 rfl (Nat.le_of_ble_eq_true rfl) ⟨by decide, by decide⟩ ⟨Nat.le_of_ble_eq_true rfl, Nat.le_of_ble_eq_true rfl⟩ d_31_80_17) (fun a14 u12 H locs hp13 V => ?_)
  obtain ⟨rfl, b15, b16⟩ := hp13
  replace b15 : q_F (0 ≤ a14.toInt + 1) := b15
  replace b16 : q_F (a14.toInt ≤ 1) := b16
  refine lv_goto (tgt := 36) hx hb d_31_80_20 (by decide) ?_
  exact q_reti C0 V (⟨rfl, (show 0 ≤ a14.toInt + 1 from (by have t1 : 0 ≤ a14.toInt + 1 := b15; omega)), (show a14.toInt ≤ 1 from (by have t1 : a14.toInt ≤ 1 := b16; omega))⟩) d_31_80_36
set_option maxRecDepth 100000 in
set_option maxHeartbeats 4000000 in
theorem T_jStr_indexOf_II_9 (l : Launch) (D : va_G) (g : Nat → ClassId) (q : Nat → Nat) (ws : va_W) (x2 : Int32) (hI : q_I (nsh g q) q ws) : q_mI l y_jStr_indexOf_II prog_31_method_79_code 2 (.int) 4 0 0 D g [.ref (g (8 + 2 * 9)), .int x2] ws (fun r u => ws = u ∧ (0 ≤ r.toInt + 1) ∧ (r.toInt ≤ 1)) := by
  intro sz
  refine q_into (by decide) (Nat.le_of_ble_eq_true rfl) ?_
  intro p e s m below meth c ls hsz C0 V hl
  have hx := C0.1
  have hb := C0.2.1
  have hl : lv_has ls 2 [(0, .ref (g (8 + 2 * 9))), (1, .int x2)] := hl
  refine lv_aload_n hx hb d_31_79_0 rfl (lv_at hl 0 rfl) ?_
  refine lv_iload_n hx hb d_31_79_1 rfl (lv_at hl 1 rfl) ?_
  refine lv_iconst (v := 0) hx hb d_31_79_2 (by decide) ?_
  refine q_goi V (q_runVs (As := [.int x2, .int 0]) (rest := []) (d := 3) (mc := 0) (ms := 0) (i := 9) C0 V rfl LV_jStr_633 (T_jStr_indexOf_III_9 l D g q ws  x2 0 hI  (by have y0 : (0 : Int32).toInt = 0 := rfl; omega) _) rfl rfl rfl hl.1 rfl (Nat.le_of_ble_eq_true rfl) ⟨by decide, by decide⟩ ⟨Nat.le_of_ble_eq_true rfl, Nat.le_of_ble_eq_true rfl⟩ d_31_79_3) (fun a3 u1 H locs hp2 V => ?_)
  obtain ⟨rfl, b4, b5⟩ := hp2
  replace b4 : q_F (0 ≤ a3.toInt + 1) := b4
  replace b5 : q_F (a3.toInt ≤ 1) := b5
  exact q_reti C0 V (⟨rfl, (show 0 ≤ a3.toInt + 1 from (by have t1 : 0 ≤ a3.toInt + 1 := b4; omega)), (show a3.toInt ≤ 1 from (by have t1 : a3.toInt ≤ 1 := b5; omega))⟩) d_31_79_6
set_option maxRecDepth 100000 in
set_option maxHeartbeats 4000000 in
theorem T_jStr_coder_10 (l : Launch) (D : va_G) (g : Nat → ClassId) (q : Nat → Nat) (ws : va_W) (hI : q_I (nsh g q) q ws) : q_mI l y_jStr_coder prog_31_method_152_code 1 (.byte) 1 0 0 D g [.ref (g (8 + 2 * 10))] ws (fun r u => ws = u ∧ (0 ≤ r.toInt) ∧ (r.toInt ≤ 0)) := by
  intro sz
  refine q_into (by decide) (Nat.le_of_ble_eq_true rfl) ?_
  intro p e s m below meth c ls hsz C0 V hl
  have hx := C0.1
  have hb := C0.2.1
  have hl : lv_has ls 1 [(0, .ref (g (8 + 2 * 10)))] := hl
  refine q_scmp C0 V rfl w_663 d_31_152_0 ?_
  refine lv_if_eq (tgt := 13) hx hb d_31_152_3 (by decide) (fun c1 => absurd c1 (by decide)) (fun c1 => ?_)
  refine lv_aload_n hx hb d_31_152_6 rfl (lv_at hl 0 rfl) ?_
  refine q_scod (i := 10) C0 V rfl rfl w_1019 d_31_152_7 ?_
  refine lv_goto (tgt := 14) hx hb d_31_152_10 (by decide) ?_
  exact q_retn C0 V (rfl) (⟨rfl, (show 0 ≤ (0 : Int32).toInt from (by have z0 : (0 : Int32).toInt = 0 := rfl; omega)), (show (0 : Int32).toInt ≤ 0 from (by have z0 : (0 : Int32).toInt = 0 := rfl; omega))⟩) d_31_152_14
set_option maxRecDepth 100000 in
set_option maxHeartbeats 4000000 in
theorem T_jStr_length_10 (l : Launch) (D : va_G) (g : Nat → ClassId) (q : Nat → Nat) (ws : va_W) (hI : q_I (nsh g q) q ws) : q_mI l y_jStr_length prog_31_method_54_code 1 (.int) 2 0 0 D g [.ref (g (8 + 2 * 10))] ws (fun r u => ws = u ∧ (4 ≤ r.toInt) ∧ (r.toInt ≤ 4)) := by
  intro sz
  refine q_into (by decide) (Nat.le_of_ble_eq_true rfl) ?_
  intro p e s m below meth c ls hsz C0 V hl
  have hx := C0.1
  have hb := C0.2.1
  have hl : lv_has ls 1 [(0, .ref (g (8 + 2 * 10)))] := hl
  refine lv_aload_n hx hb d_31_54_0 rfl (lv_at hl 0 rfl) ?_
  refine q_sval (i := 10) C0 V rfl rfl w_1018 d_31_54_1 ?_
  refine q_slen (i := 10) (v := 4) C0 V rfl (by decide) d_31_54_4 ?_
  refine lv_aload_n hx hb d_31_54_5 rfl (lv_at hl 0 rfl) ?_
  refine q_goi V (q_runVs (As := []) (rest := [.int 4]) (d := 1) (mc := 0) (ms := 0) (i := 10) C0 V rfl LV_jStr_335 (T_jStr_coder_10 l D g q ws   hI   _) rfl rfl rfl hl.1 rfl (Nat.le_of_ble_eq_true rfl) ⟨by decide, by decide⟩ ⟨Nat.le_of_ble_eq_true rfl, Nat.le_of_ble_eq_true rfl⟩ d_31_54_6) (fun a3 u1 H locs hp2 V => ?_)
  obtain ⟨rfl, b4, b5⟩ := hp2
  replace b4 : q_F (0 ≤ a3.toInt) := b4
  replace b5 : q_F (a3.toInt ≤ 0) := b5
  obtain rfl : a3 = (0 : Int32) := q_Ieq (x := a3.toInt) (y := 0) rfl (by decide) (by have t1 : 0 ≤ a3.toInt := b4; have t2 : a3.toInt ≤ 0 := b5; omega)
  refine lv_ishr hx hb d_31_54_9 ?_
  refine q_ti (v := 4) (by decide) ?_
  exact q_reti C0 V (⟨rfl, (show 4 ≤ (4 : Int32).toInt from (by have z0 : (4 : Int32).toInt = 4 := rfl; omega)), (show (4 : Int32).toInt ≤ 4 from (by have z0 : (4 : Int32).toInt = 4 := rfl; omega))⟩) d_31_54_10
set_option maxRecDepth 100000 in
set_option maxHeartbeats 4000000 in
theorem T_jStr_isLatin1_10 (l : Launch) (D : va_G) (g : Nat → ClassId) (q : Nat → Nat) (ws : va_W) (hI : q_I (nsh g q) q ws) : q_mI l y_jStr_isLatin1 prog_31_method_154_code 1 (.boolean) 1 0 0 D g [.ref (g (8 + 2 * 10))] ws (fun r u => ws = u ∧ (1 ≤ r.toInt) ∧ (r.toInt ≤ 1)) := by
  intro sz
  refine q_into (by decide) (Nat.le_of_ble_eq_true rfl) ?_
  intro p e s m below meth c ls hsz C0 V hl
  have hx := C0.1
  have hb := C0.2.1
  have hl : lv_has ls 1 [(0, .ref (g (8 + 2 * 10)))] := hl
  refine q_scmp C0 V rfl w_663 d_31_154_0 ?_
  refine lv_if_eq (tgt := 17) hx hb d_31_154_3 (by decide) (fun c1 => absurd c1 (by decide)) (fun c1 => ?_)
  refine lv_aload_n hx hb d_31_154_6 rfl (lv_at hl 0 rfl) ?_
  refine q_scod (i := 10) C0 V rfl rfl w_1019 d_31_154_7 ?_
  refine lv_if_ne (tgt := 17) hx hb d_31_154_10 (by decide) (fun c2 => absurd (by decide) c2) (fun c2 => ?_)
  refine lv_iconst (v := 1) hx hb d_31_154_13 (by decide) ?_
  refine lv_goto (tgt := 18) hx hb d_31_154_14 (by decide) ?_
  exact q_retz C0 V (by decide) (⟨rfl, (show 1 ≤ (1 : Int32).toInt from (by have z0 : (1 : Int32).toInt = 1 := rfl; omega)), (show (1 : Int32).toInt ≤ 1 from (by have z0 : (1 : Int32).toInt = 1 := rfl; omega))⟩) d_31_154_18
set_option maxRecDepth 100000 in
set_option maxHeartbeats 4000000 in
theorem T_jLat_indexOfChar_10 (l : Launch) (D : va_G) (g : Nat → ClassId) (q : Nat → Nat) (ws : va_W) (x2 : Int32) (x3 : Int32) (x4 : Int32) (hI : q_I (nsh g q) q ws) (pre0 : 0 ≤ x3.toInt) (pre1 : x4.toInt ≤ 4) : q_mI l y_jLat_indexOfChar prog_33_method_23_code 6 (.int) 1 0 0 D g [.ref (g (9 + 2 * 10)), .int x2, .int x3, .int x4] ws (fun r u => ws = u ∧ (0 ≤ r.toInt + 1) ∧ (r.toInt ≤ 3)) := by
  intro sz
  refine q_into (by decide) (Nat.le_of_ble_eq_true rfl) ?_
  intro p e s m below meth c ls hsz C0 V hl
  have hx := C0.1
  have hb := C0.2.1
  replace pre0 : q_F (0 ≤ x3.toInt) := pre0
  replace pre1 : q_F (x4.toInt ≤ 4) := pre1
  have hl : lv_has ls 6 [(0, .ref (g (9 + 2 * 10))), (1, .int x2), (2, .int x3), (3, .int x4)] := hl
  refine lv_iload_n hx hb d_33_23_0 rfl (lv_at hl 1 rfl) ?_
  refine lv_i2b hx hb d_33_23_1 rfl ?_
  obtain ⟨a1, e2⟩ := q_nm (x2.toInt8.toInt32 : Int32)
  refine q_ti (v := a1) e2 ?_
  refine lv_istore (lv' := [(4, .int a1), (0, .ref (g (9 + 2 * 10))), (1, .int x2), (2, .int x3), (3, .int x4)]) hx hb d_33_23_2 hl (by decide) rfl (fun ls hl => ?_)
  refine lv_iload_n hx hb d_33_23_4 rfl (lv_at hl 3 rfl) ?_
  refine lv_istore (lv' := [(5, .int x3), (4, .int a1), (0, .ref (g (9 + 2 * 10))), (1, .int x2), (2, .int x3), (3, .int x4)]) hx hb d_33_23_5 hl (by decide) rfl (fun ls hl => ?_)
  refine q_loop (X := Int32) (fun z H locs ls _ => q_F (x3.toInt ≤ z.toInt) ∧ q_Wd D g (va_A ws sz) s ws H locs ∧ lv_has ls 6 [(5, .int z), (4, .int a1), (0, .ref (g (9 + 2 * 10))), (3, .int x4)]) (fun z => (4 - z.toInt).toNat) ?_ ((x3 : Int32)) _ _ _ ws ⟨(show q_F (x3.toInt ≤ x3.toInt) from (show x3.toInt ≤ x3.toInt from by omega)), V, q_lw hl (q_lw1 0 rfl (q_lw1 1 rfl (q_lw1 2 rfl (q_lw1 5 rfl q_lw0))))⟩
  rintro lx4 H locs ls _ ⟨i5, V, hl⟩ ih6
  replace i5 : q_F (x3.toInt ≤ lx4.toInt) := i5
  replace hl : lv_has ls 6 [(5, .int lx4), (4, .int a1), (0, .ref (g (9 + 2 * 10))), (3, .int x4)] := hl
  refine lv_iload hx hb d_33_23_7 (lv_at hl 0 rfl) ?_
  refine lv_iload_n hx hb d_33_23_9 rfl (lv_at hl 3 rfl) ?_
  refine lv_icmp_ge (tgt := 31) hx hb d_33_23_10 (by decide) (fun c7 => ?_) (fun c7 => ?_)
  ·
    have b8 : q_F (x4.toInt ≤ lx4.toInt) := (q_leI c7)
    refine lv_iconst (v := (-1)) hx hb d_33_23_31 (by decide) ?_
    exact q_reti C0 V (⟨rfl, (show 0 ≤ (-1 : Int32).toInt + 1 from (by have z3 : (-1 : Int32).toInt = -1 := rfl; omega)), (show (-1 : Int32).toInt ≤ 3 from (by have z3 : (-1 : Int32).toInt = -1 := rfl; omega))⟩) d_33_23_32
  ·
    have b9 : q_F (lx4.toInt < x4.toInt) := (q_nleI c7)
    refine lv_aload_n hx hb d_33_23_13 rfl (lv_at hl 2 rfl) ?_
    refine lv_iload hx hb d_33_23_14 (lv_at hl 0 rfl) ?_
    refine q_sbal (i := 10) (v := (([100, 111, 120, 88] : List Int32).getD lx4.toNatClampNeg 0)) C0 V rfl (show vp_in lx4 4 from q_ix (x := lx4.toInt) rfl (by have t1 : 0 ≤ x3.toInt := pre0; have t2 : x3.toInt ≤ lx4.toInt := i5; omega) (by have t1 : 0 ≤ x3.toInt := pre0; have t2 : x3.toInt ≤ lx4.toInt := i5; have t3 : x4.toInt ≤ 4 := pre1; have t4 : lx4.toInt < x4.toInt := b9; omega)) rfl d_33_23_16 ?_
    obtain ⟨a10, e11⟩ := q_nm ((([100, 111, 120, 88] : List Int32).getD lx4.toNatClampNeg 0) : Int32)
    refine q_ti (v := a10) e11 ?_
    refine lv_iload hx hb d_33_23_17 (lv_at hl 1 rfl) ?_
    refine lv_icmp_ne (tgt := 25) hx hb d_33_23_19 (by decide) (fun c12 => ?_) (fun c12 => ?_)
    ·
      have b13 : q_F (a10.toInt ≠ a1.toInt) := (q_neI c12)
      obtain ⟨a14, e15⟩ := q_nm (lx4 + 1 : Int32)
      have b16 : q_F (a14.toInt = lx4.toInt + 1) := (by rw [← e15]; exact q_addI (y := 1) rfl (by decide) (by have _ := q_lo32 (x := lx4); have _ := q_hi32 (x := lx4); have t1 : lx4.toInt < x4.toInt := b9; have _ := q_lo32 (x := x4); have _ := q_hi32 (x := x4); omega) (by have _ := q_lo32 (x := lx4); have _ := q_hi32 (x := lx4); have t1 : lx4.toInt < x4.toInt := b9; have _ := q_lo32 (x := x4); have _ := q_hi32 (x := x4); omega))
      refine lv_iinc (v := a14) (lv' := [(5, .int a14), (4, .int a1), (0, .ref (g (9 + 2 * 10))), (3, .int x4)]) hx hb d_33_23_25 hl (k := 0) rfl (e15) (by decide) rfl (fun ls hl => ?_)
      refine lv_goto (tgt := 7) hx hb d_33_23_28 (by decide) ?_
      exact ih6 ((a14 : Int32)) _ _ _ ws (show (4 - a14.toInt).toNat < (4 - lx4.toInt).toNat from by have t1 : a14.toInt = lx4.toInt + 1 := b16; have t2 : x4.toInt ≤ 4 := pre1; have t3 : lx4.toInt < x4.toInt := b9; omega) ⟨(show q_F (x3.toInt ≤ a14.toInt) from (show x3.toInt ≤ a14.toInt from by have t1 : x3.toInt ≤ lx4.toInt := i5; have t2 : a14.toInt = lx4.toInt + 1 := b16; omega)), V, q_lw hl (q_lw1 0 rfl (q_lw1 1 rfl (q_lw1 2 rfl (q_lw1 3 rfl q_lw0))))⟩
    ·
      have b17 : q_F (a10.toInt = a1.toInt) := (q_eqI c12)
      refine lv_iload hx hb d_33_23_22 (lv_at hl 0 rfl) ?_
      exact q_reti C0 V (⟨rfl, (show 0 ≤ lx4.toInt + 1 from (by have t1 : 0 ≤ x3.toInt := pre0; have t2 : x3.toInt ≤ lx4.toInt := i5; omega)), (show lx4.toInt ≤ 3 from (by have t1 : x4.toInt ≤ 4 := pre1; have t2 : lx4.toInt < x4.toInt := b9; omega))⟩) d_33_23_24
set_option maxRecDepth 100000 in
set_option maxHeartbeats 4000000 in
theorem T_jLat_indexOf_10 (l : Launch) (D : va_G) (g : Nat → ClassId) (q : Nat → Nat) (ws : va_W) (x2 : Int32) (x3 : Int32) (x4 : Int32) (hI : q_I (nsh g q) q ws) (pre0 : 0 ≤ x3.toInt) (pre1 : x4.toInt ≤ 4) : q_mI l y_jLat_indexOf prog_33_method_22_code 4 (.int) 2 0 0 D g [.ref (g (9 + 2 * 10)), .int x2, .int x3, .int x4] ws (fun r u => ws = u ∧ (0 ≤ r.toInt + 1) ∧ (r.toInt ≤ 3)) := by
  intro sz
  refine q_into (by decide) (Nat.le_of_ble_eq_true rfl) ?_
  intro p e s m below meth c ls hsz C0 V hl
  have hx := C0.1
  have hb := C0.2.1
  replace pre0 : q_F (0 ≤ x3.toInt) := pre0
  replace pre1 : q_F (x4.toInt ≤ 4) := pre1
  have hl : lv_has ls 4 [(0, .ref (g (9 + 2 * 10))), (1, .int x2), (2, .int x3), (3, .int x4)] := hl
  refine lv_iload_n hx hb d_33_22_0 rfl (lv_at hl 1 rfl) ?_
  refine q_goi V (q_runS (As := [.int x2]) (rest := []) (d := 1) (mc := 0) (ms := 0) C0 V rfl LS_jLat_88 (T_jLat_canEncode l D g q ws  x2 hI   _) rfl hl.1 rfl (Nat.le_of_ble_eq_true rfl) ⟨by decide, by decide⟩ ⟨Nat.le_of_ble_eq_true rfl, Nat.le_of_ble_eq_true rfl⟩ d_33_22_1) (fun a3 u1 H locs hp2 V => ?_)
  obtain ⟨rfl, b4, b5⟩ := hp2
  replace b4 : q_F (0 ≤ a3.toInt) := b4
  replace b5 : q_F (a3.toInt ≤ 1) := b5
  refine lv_if_ne (tgt := 9) hx hb d_33_22_4 (by decide) (fun c6 => ?_) (fun c6 => ?_)
  ·
    have b7 : q_F (a3.toInt ≠ 0) := (q_neI c6)
    refine lv_iload_n hx hb d_33_22_9 rfl (lv_at hl 2 rfl) ?_
    refine lv_iconst (v := 0) hx hb d_33_22_10 (by decide) ?_
    refine q_max C0 hl.1 rfl w_1773 w_803 w_7 w_804 ⟨Nat.le_of_ble_eq_true rfl, Nat.le_of_ble_eq_true rfl⟩ ⟨Nat.le_of_ble_eq_true rfl, Nat.le_of_ble_eq_true rfl⟩ d_33_22_11 ?_
    obtain ⟨a8, e9⟩ := q_nm (if x3 < 0 then 0 else x3 : Int32)
    refine q_ti (v := a8) e9 ?_
    have b10 : q_F (x3.toInt ≤ a8.toInt ∧ 0 ≤ a8.toInt ∧ (a8.toInt = x3.toInt ∨ a8.toInt = 0)) := (by rw [← e9]; show x3.toInt ≤ (if x3 < 0 then 0 else x3 : Int32).toInt ∧ 0 ≤ (if x3 < 0 then 0 else x3 : Int32).toInt ∧ ((if x3 < 0 then 0 else x3 : Int32).toInt = x3.toInt ∨ (if x3 < 0 then 0 else x3 : Int32).toInt = 0); exact (by have y1 : (0 : Int32).toInt = 0 := rfl; have z := s_max (a := x3) (b := 0); omega))
    refine lv_istore_n (lv' := [(2, .int a8), (0, .ref (g (9 + 2 * 10))), (1, .int x2), (3, .int x4)]) hx hb d_33_22_14 rfl hl (by decide) rfl (fun ls hl => ?_)
    refine lv_iload_n hx hb d_33_22_15 rfl (lv_at hl 3 rfl) ?_
    refine lv_aload_n hx hb d_33_22_16 rfl (lv_at hl 1 rfl) ?_
    refine q_slen (i := 10) (v := 4) C0 V rfl (by decide) d_33_22_17 ?_
    refine q_min C0 hl.1 rfl w_1774 w_774 w_7 w_775 ⟨Nat.le_of_ble_eq_true rfl, Nat.le_of_ble_eq_true rfl⟩ ⟨Nat.le_of_ble_eq_true rfl, Nat.le_of_ble_eq_true rfl⟩ d_33_22_18 ?_
    obtain ⟨a11, e12⟩ := q_nm (if 4 < x4 then 4 else x4 : Int32)
    refine q_ti (v := a11) e12 ?_
    have b13 : q_F (a11.toInt ≤ x4.toInt ∧ a11.toInt ≤ 4 ∧ (a11.toInt = x4.toInt ∨ a11.toInt = 4)) := (by rw [← e12]; show (if 4 < x4 then 4 else x4 : Int32).toInt ≤ x4.toInt ∧ (if 4 < x4 then 4 else x4 : Int32).toInt ≤ 4 ∧ ((if 4 < x4 then 4 else x4 : Int32).toInt = x4.toInt ∨ (if 4 < x4 then 4 else x4 : Int32).toInt = 4); exact (by have y1 : (4 : Int32).toInt = 4 := rfl; have z := s_min (a := x4) (b := 4); omega))
    refine lv_istore_n (lv' := [(3, .int a11), (2, .int a8), (0, .ref (g (9 + 2 * 10))), (1, .int x2)]) hx hb d_33_22_21 rfl hl (by decide) rfl (fun ls hl => ?_)
    refine lv_iload_n hx hb d_33_22_22 rfl (lv_at hl 1 rfl) ?_
    refine lv_iload_n hx hb d_33_22_23 rfl (lv_at hl 0 rfl) ?_
    refine lv_icmp_lt (tgt := 29) hx hb d_33_22_24 (by decide) (fun c14 => ?_) (fun c14 => ?_)
    ·
      have b15 : q_F (a8.toInt < a11.toInt) := (q_ltI c14)
      refine lv_aload_n hx hb d_33_22_29 rfl (lv_at hl 2 rfl) ?_
      refine lv_iload_n hx hb d_33_22_30 rfl (lv_at hl 3 rfl) ?_
      refine lv_iload_n hx hb d_33_22_31 rfl (lv_at hl 1 rfl) ?_
      refine lv_iload_n hx hb d_33_22_32 rfl (lv_at hl 0 rfl) ?_
      refine q_goi V (q_runS (As := [.ref (g (9 + 2 * 10)), .int x2, .int a8, .int a11]) (rest := []) (d := 1) (mc := 0) (ms := 0) C0 V rfl LS_jLat_95 (T_jLat_indexOfChar_10 l D g q ws  x2 a8 a11 hI  (by have t1 : x3.toInt ≤ a8.toInt ∧ 0 ≤ a8.toInt ∧ (a8.toInt = x3.toInt ∨ a8.toInt = 0) := b10; omega) (by have t1 : a11.toInt ≤ x4.toInt ∧ a11.toInt ≤ 4 ∧ (a11.toInt = x4.toInt ∨ a11.toInt = 4) := b13; omega) _) rfl hl.1 rfl (Nat.le_of_ble_eq_true rfl) ⟨by decide, by decide⟩ ⟨Nat.le_of_ble_eq_true rfl, Nat.le_of_ble_eq_true rfl⟩ d_33_22_33) (fun a18 u16 H locs hp17 V => ?_)
      obtain ⟨rfl, b19, b20⟩ := hp17
      replace b19 : q_F (0 ≤ a18.toInt + 1) := b19
      replace b20 : q_F (a18.toInt ≤ 3) := b20
      exact q_reti C0 V (⟨rfl, (show 0 ≤ a18.toInt + 1 from (by have t1 : 0 ≤ a18.toInt + 1 := b19; omega)), (show a18.toInt ≤ 3 from (by have t1 : a18.toInt ≤ 3 := b20; omega))⟩) d_33_22_36
    ·
      have b21 : q_F (a11.toInt ≤ a8.toInt) := (q_nltI c14)
      refine lv_iconst (v := (-1)) hx hb d_33_22_27 (by decide) ?_
      exact q_reti C0 V (⟨rfl, (show 0 ≤ (-1 : Int32).toInt + 1 from (by have z3 : (-1 : Int32).toInt = -1 := rfl; omega)), (show (-1 : Int32).toInt ≤ 3 from (by have z3 : (-1 : Int32).toInt = -1 := rfl; omega))⟩) d_33_22_28
  ·
    have b22 : q_F (a3.toInt = 0) := (q_eqI c6)
    refine lv_iconst (v := (-1)) hx hb d_33_22_7 (by decide) ?_
    exact q_reti C0 V (⟨rfl, (show 0 ≤ (-1 : Int32).toInt + 1 from (by have z3 : (-1 : Int32).toInt = -1 := rfl; omega)), (show (-1 : Int32).toInt ≤ 3 from (by have z3 : (-1 : Int32).toInt = -1 := rfl; omega))⟩) d_33_22_8
set_option maxRecDepth 100000 in
set_option maxHeartbeats 4000000 in
theorem T_jStr_indexOf_III_10 (l : Launch) (D : va_G) (g : Nat → ClassId) (q : Nat → Nat) (ws : va_W) (x2 : Int32) (x3 : Int32) (hI : q_I (nsh g q) q ws) (pre0 : 0 ≤ x3.toInt) : q_mI l y_jStr_indexOf_III prog_31_method_80_code 3 (.int) 3 0 0 D g [.ref (g (8 + 2 * 10)), .int x2, .int x3] ws (fun r u => ws = u ∧ (0 ≤ r.toInt + 1) ∧ (r.toInt ≤ 3)) := by
  intro sz
  refine q_into (by decide) (Nat.le_of_ble_eq_true rfl) ?_
  intro p e s m below meth c ls hsz C0 V hl
  have hx := C0.1
  have hb := C0.2.1
  replace pre0 : q_F (0 ≤ x3.toInt) := pre0
  have hl : lv_has ls 3 [(0, .ref (g (8 + 2 * 10))), (1, .int x2), (2, .int x3)] := hl
  refine lv_aload_n hx hb d_31_80_0 rfl (lv_at hl 0 rfl) ?_
  refine q_goi V (q_runVs (As := []) (rest := []) (d := 1) (mc := 0) (ms := 0) (i := 10) C0 V rfl LV_jStr_492 (T_jStr_isLatin1_10 l D g q ws   hI   _) rfl rfl rfl hl.1 rfl (Nat.le_of_ble_eq_true rfl) ⟨by decide, by decide⟩ ⟨Nat.le_of_ble_eq_true rfl, Nat.le_of_ble_eq_true rfl⟩ d_31_80_1) (fun a3 u1 H locs hp2 V => ?_)
  obtain ⟨rfl, b4, b5⟩ := hp2
  replace b4 : q_F (1 ≤ a3.toInt) := b4
  replace b5 : q_F (a3.toInt ≤ 1) := b5
  obtain rfl : a3 = (1 : Int32) := q_Ieq (x := a3.toInt) (y := 1) rfl (by decide) (by have t1 : 1 ≤ a3.toInt := b4; have t2 : a3.toInt ≤ 1 := b5; omega)
  refine lv_if_eq (tgt := 23) hx hb d_31_80_4 (by decide) (fun c6 => absurd c6 (by decide)) (fun c6 => ?_)
  refine lv_aload_n hx hb d_31_80_7 rfl (lv_at hl 0 rfl) ?_
  refine q_sval (i := 10) C0 V rfl rfl w_1018 d_31_80_8 ?_
  refine lv_iload_n hx hb d_31_80_11 rfl (lv_at hl 1 rfl) ?_
  refine lv_iload_n hx hb d_31_80_12 rfl (lv_at hl 2 rfl) ?_
  refine lv_aload_n hx hb d_31_80_13 rfl (lv_at hl 0 rfl) ?_
  refine q_goi V (q_runVs (As := []) (rest := [.int x3, .int x2, .ref (g (9 + 2 * 10))]) (d := 2) (mc := 0) (ms := 0) (i := 10) C0 V rfl LV_jStr_505 (T_jStr_length_10 l D g q ws   hI   _) rfl rfl rfl hl.1 rfl (Nat.le_of_ble_eq_true rfl) ⟨by decide, by decide⟩ ⟨Nat.le_of_ble_eq_true rfl, Nat.le_of_ble_eq_true rfl⟩ d_31_80_14) (fun a9 u7 H locs hp8 V => ?_)
  obtain ⟨rfl, b10, b11⟩ := hp8
  replace b10 : q_F (4 ≤ a9.toInt) := b10
  replace b11 : q_F (a9.toInt ≤ 4) := b11
  obtain rfl : a9 = (4 : Int32) := q_Ieq (x := a9.toInt) (y := 4) rfl (by decide) (by have t1 : 4 ≤ a9.toInt := b10; have t2 : a9.toInt ≤ 4 := b11; omega)
  refine q_goi V (q_runS (As := [.ref (g (9 + 2 * 10)), .int x2, .int x3, .int 4]) (rest := []) (d := 2) (mc := 0) (ms := 0) C0 V rfl LS_jStr_637 (T_jLat_indexOf_10 l D g q ws  x2 x3 4 hI  (by have y0 : (4 : Int32).toInt = 4 := rfl; have t1 : 0 ≤ x3.toInt := pre0; omega) (by have y0 : (4 : Int32).toInt = 4 := rfl; omega) _) rfl hl.1 rfl (Nat.le_of_ble_eq_true rfl) ⟨by decide, by decide⟩ ⟨Nat.le_of_ble_eq_true rfl, Nat.le_of_ble_eq_true rfl⟩ d_31_80_17) (fun a14 u12 H locs hp13 V => ?_)
  obtain ⟨rfl, b15, b16⟩ := hp13
  replace b15 : q_F (0 ≤ a14.toInt + 1) := b15
  replace b16 : q_F (a14.toInt ≤ 3) := b16
  refine lv_goto (tgt := 36) hx hb d_31_80_20 (by decide) ?_
  exact q_reti C0 V (⟨rfl, (show 0 ≤ a14.toInt + 1 from (by have t1 : 0 ≤ a14.toInt + 1 := b15; omega)), (show a14.toInt ≤ 3 from (by have t1 : a14.toInt ≤ 3 := b16; omega))⟩) d_31_80_36
set_option maxRecDepth 100000 in
set_option maxHeartbeats 4000000 in
theorem T_jStr_indexOf_II_10 (l : Launch) (D : va_G) (g : Nat → ClassId) (q : Nat → Nat) (ws : va_W) (x2 : Int32) (hI : q_I (nsh g q) q ws) : q_mI l y_jStr_indexOf_II prog_31_method_79_code 2 (.int) 4 0 0 D g [.ref (g (8 + 2 * 10)), .int x2] ws (fun r u => ws = u ∧ (0 ≤ r.toInt + 1) ∧ (r.toInt ≤ 3)) := by
  intro sz
  refine q_into (by decide) (Nat.le_of_ble_eq_true rfl) ?_
  intro p e s m below meth c ls hsz C0 V hl
  have hx := C0.1
  have hb := C0.2.1
  have hl : lv_has ls 2 [(0, .ref (g (8 + 2 * 10))), (1, .int x2)] := hl
  refine lv_aload_n hx hb d_31_79_0 rfl (lv_at hl 0 rfl) ?_
  refine lv_iload_n hx hb d_31_79_1 rfl (lv_at hl 1 rfl) ?_
  refine lv_iconst (v := 0) hx hb d_31_79_2 (by decide) ?_
  refine q_goi V (q_runVs (As := [.int x2, .int 0]) (rest := []) (d := 3) (mc := 0) (ms := 0) (i := 10) C0 V rfl LV_jStr_633 (T_jStr_indexOf_III_10 l D g q ws  x2 0 hI  (by have y0 : (0 : Int32).toInt = 0 := rfl; omega) _) rfl rfl rfl hl.1 rfl (Nat.le_of_ble_eq_true rfl) ⟨by decide, by decide⟩ ⟨Nat.le_of_ble_eq_true rfl, Nat.le_of_ble_eq_true rfl⟩ d_31_79_3) (fun a3 u1 H locs hp2 V => ?_)
  obtain ⟨rfl, b4, b5⟩ := hp2
  replace b4 : q_F (0 ≤ a3.toInt + 1) := b4
  replace b5 : q_F (a3.toInt ≤ 3) := b5
  exact q_reti C0 V (⟨rfl, (show 0 ≤ a3.toInt + 1 from (by have t1 : 0 ≤ a3.toInt + 1 := b4; omega)), (show a3.toInt ≤ 3 from (by have t1 : a3.toInt ≤ 3 := b5; omega))⟩) d_31_79_6
set_option maxRecDepth 100000 in
set_option maxHeartbeats 4000000 in
theorem T_jStr_coder_11 (l : Launch) (D : va_G) (g : Nat → ClassId) (q : Nat → Nat) (ws : va_W) (hI : q_I (nsh g q) q ws) : q_mI l y_jStr_coder prog_31_method_152_code 1 (.byte) 1 0 0 D g [.ref (g (8 + 2 * 11))] ws (fun r u => ws = u ∧ (0 ≤ r.toInt) ∧ (r.toInt ≤ 0)) := by
  intro sz
  refine q_into (by decide) (Nat.le_of_ble_eq_true rfl) ?_
  intro p e s m below meth c ls hsz C0 V hl
  have hx := C0.1
  have hb := C0.2.1
  have hl : lv_has ls 1 [(0, .ref (g (8 + 2 * 11)))] := hl
  refine q_scmp C0 V rfl w_663 d_31_152_0 ?_
  refine lv_if_eq (tgt := 13) hx hb d_31_152_3 (by decide) (fun c1 => absurd c1 (by decide)) (fun c1 => ?_)
  refine lv_aload_n hx hb d_31_152_6 rfl (lv_at hl 0 rfl) ?_
  refine q_scod (i := 11) C0 V rfl rfl w_1019 d_31_152_7 ?_
  refine lv_goto (tgt := 14) hx hb d_31_152_10 (by decide) ?_
  exact q_retn C0 V (rfl) (⟨rfl, (show 0 ≤ (0 : Int32).toInt from (by have z0 : (0 : Int32).toInt = 0 := rfl; omega)), (show (0 : Int32).toInt ≤ 0 from (by have z0 : (0 : Int32).toInt = 0 := rfl; omega))⟩) d_31_152_14
set_option maxRecDepth 100000 in
set_option maxHeartbeats 4000000 in
theorem T_jStr_length_11 (l : Launch) (D : va_G) (g : Nat → ClassId) (q : Nat → Nat) (ws : va_W) (hI : q_I (nsh g q) q ws) : q_mI l y_jStr_length prog_31_method_54_code 1 (.int) 2 0 0 D g [.ref (g (8 + 2 * 11))] ws (fun r u => ws = u ∧ (2 ≤ r.toInt) ∧ (r.toInt ≤ 2)) := by
  intro sz
  refine q_into (by decide) (Nat.le_of_ble_eq_true rfl) ?_
  intro p e s m below meth c ls hsz C0 V hl
  have hx := C0.1
  have hb := C0.2.1
  have hl : lv_has ls 1 [(0, .ref (g (8 + 2 * 11)))] := hl
  refine lv_aload_n hx hb d_31_54_0 rfl (lv_at hl 0 rfl) ?_
  refine q_sval (i := 11) C0 V rfl rfl w_1018 d_31_54_1 ?_
  refine q_slen (i := 11) (v := 2) C0 V rfl (by decide) d_31_54_4 ?_
  refine lv_aload_n hx hb d_31_54_5 rfl (lv_at hl 0 rfl) ?_
  refine q_goi V (q_runVs (As := []) (rest := [.int 2]) (d := 1) (mc := 0) (ms := 0) (i := 11) C0 V rfl LV_jStr_335 (T_jStr_coder_11 l D g q ws   hI   _) rfl rfl rfl hl.1 rfl (Nat.le_of_ble_eq_true rfl) ⟨by decide, by decide⟩ ⟨Nat.le_of_ble_eq_true rfl, Nat.le_of_ble_eq_true rfl⟩ d_31_54_6) (fun a3 u1 H locs hp2 V => ?_)
  obtain ⟨rfl, b4, b5⟩ := hp2
  replace b4 : q_F (0 ≤ a3.toInt) := b4
  replace b5 : q_F (a3.toInt ≤ 0) := b5
  obtain rfl : a3 = (0 : Int32) := q_Ieq (x := a3.toInt) (y := 0) rfl (by decide) (by have t1 : 0 ≤ a3.toInt := b4; have t2 : a3.toInt ≤ 0 := b5; omega)
  refine lv_ishr hx hb d_31_54_9 ?_
  refine q_ti (v := 2) (by decide) ?_
  exact q_reti C0 V (⟨rfl, (show 2 ≤ (2 : Int32).toInt from (by have z0 : (2 : Int32).toInt = 2 := rfl; omega)), (show (2 : Int32).toInt ≤ 2 from (by have z0 : (2 : Int32).toInt = 2 := rfl; omega))⟩) d_31_54_10
set_option maxRecDepth 100000 in
set_option maxHeartbeats 4000000 in
theorem T_jStr_isLatin1_11 (l : Launch) (D : va_G) (g : Nat → ClassId) (q : Nat → Nat) (ws : va_W) (hI : q_I (nsh g q) q ws) : q_mI l y_jStr_isLatin1 prog_31_method_154_code 1 (.boolean) 1 0 0 D g [.ref (g (8 + 2 * 11))] ws (fun r u => ws = u ∧ (1 ≤ r.toInt) ∧ (r.toInt ≤ 1)) := by
  intro sz
  refine q_into (by decide) (Nat.le_of_ble_eq_true rfl) ?_
  intro p e s m below meth c ls hsz C0 V hl
  have hx := C0.1
  have hb := C0.2.1
  have hl : lv_has ls 1 [(0, .ref (g (8 + 2 * 11)))] := hl
  refine q_scmp C0 V rfl w_663 d_31_154_0 ?_
  refine lv_if_eq (tgt := 17) hx hb d_31_154_3 (by decide) (fun c1 => absurd c1 (by decide)) (fun c1 => ?_)
  refine lv_aload_n hx hb d_31_154_6 rfl (lv_at hl 0 rfl) ?_
  refine q_scod (i := 11) C0 V rfl rfl w_1019 d_31_154_7 ?_
  refine lv_if_ne (tgt := 17) hx hb d_31_154_10 (by decide) (fun c2 => absurd (by decide) c2) (fun c2 => ?_)
  refine lv_iconst (v := 1) hx hb d_31_154_13 (by decide) ?_
  refine lv_goto (tgt := 18) hx hb d_31_154_14 (by decide) ?_
  exact q_retz C0 V (by decide) (⟨rfl, (show 1 ≤ (1 : Int32).toInt from (by have z0 : (1 : Int32).toInt = 1 := rfl; omega)), (show (1 : Int32).toInt ≤ 1 from (by have z0 : (1 : Int32).toInt = 1 := rfl; omega))⟩) d_31_154_18
set_option maxRecDepth 100000 in
set_option maxHeartbeats 4000000 in
theorem T_jLat_indexOfChar_11 (l : Launch) (D : va_G) (g : Nat → ClassId) (q : Nat → Nat) (ws : va_W) (x2 : Int32) (x3 : Int32) (x4 : Int32) (hI : q_I (nsh g q) q ws) (pre0 : 0 ≤ x3.toInt) (pre1 : x4.toInt ≤ 2) : q_mI l y_jLat_indexOfChar prog_33_method_23_code 6 (.int) 1 0 0 D g [.ref (g (9 + 2 * 11)), .int x2, .int x3, .int x4] ws (fun r u => ws = u ∧ (0 ≤ r.toInt + 1) ∧ (r.toInt ≤ 1)) := by
  intro sz
  refine q_into (by decide) (Nat.le_of_ble_eq_true rfl) ?_
  intro p e s m below meth c ls hsz C0 V hl
  have hx := C0.1
  have hb := C0.2.1
  replace pre0 : q_F (0 ≤ x3.toInt) := pre0
  replace pre1 : q_F (x4.toInt ≤ 2) := pre1
  have hl : lv_has ls 6 [(0, .ref (g (9 + 2 * 11))), (1, .int x2), (2, .int x3), (3, .int x4)] := hl
  refine lv_iload_n hx hb d_33_23_0 rfl (lv_at hl 1 rfl) ?_
  refine lv_i2b hx hb d_33_23_1 rfl ?_
  obtain ⟨a1, e2⟩ := q_nm (x2.toInt8.toInt32 : Int32)
  refine q_ti (v := a1) e2 ?_
  refine lv_istore (lv' := [(4, .int a1), (0, .ref (g (9 + 2 * 11))), (1, .int x2), (2, .int x3), (3, .int x4)]) hx hb d_33_23_2 hl (by decide) rfl (fun ls hl => ?_)
  refine lv_iload_n hx hb d_33_23_4 rfl (lv_at hl 3 rfl) ?_
  refine lv_istore (lv' := [(5, .int x3), (4, .int a1), (0, .ref (g (9 + 2 * 11))), (1, .int x2), (2, .int x3), (3, .int x4)]) hx hb d_33_23_5 hl (by decide) rfl (fun ls hl => ?_)
  refine q_loop (X := Int32) (fun z H locs ls _ => q_F (x3.toInt ≤ z.toInt) ∧ q_Wd D g (va_A ws sz) s ws H locs ∧ lv_has ls 6 [(5, .int z), (4, .int a1), (0, .ref (g (9 + 2 * 11))), (3, .int x4)]) (fun z => (2 - z.toInt).toNat) ?_ ((x3 : Int32)) _ _ _ ws ⟨(show q_F (x3.toInt ≤ x3.toInt) from (show x3.toInt ≤ x3.toInt from by omega)), V, q_lw hl (q_lw1 0 rfl (q_lw1 1 rfl (q_lw1 2 rfl (q_lw1 5 rfl q_lw0))))⟩
  rintro lx4 H locs ls _ ⟨i5, V, hl⟩ ih6
  replace i5 : q_F (x3.toInt ≤ lx4.toInt) := i5
  replace hl : lv_has ls 6 [(5, .int lx4), (4, .int a1), (0, .ref (g (9 + 2 * 11))), (3, .int x4)] := hl
  refine lv_iload hx hb d_33_23_7 (lv_at hl 0 rfl) ?_
  refine lv_iload_n hx hb d_33_23_9 rfl (lv_at hl 3 rfl) ?_
  refine lv_icmp_ge (tgt := 31) hx hb d_33_23_10 (by decide) (fun c7 => ?_) (fun c7 => ?_)
  ·
    have b8 : q_F (x4.toInt ≤ lx4.toInt) := (q_leI c7)
    refine lv_iconst (v := (-1)) hx hb d_33_23_31 (by decide) ?_
    exact q_reti C0 V (⟨rfl, (show 0 ≤ (-1 : Int32).toInt + 1 from (by have z3 : (-1 : Int32).toInt = -1 := rfl; omega)), (show (-1 : Int32).toInt ≤ 1 from (by have z3 : (-1 : Int32).toInt = -1 := rfl; omega))⟩) d_33_23_32
  ·
    have b9 : q_F (lx4.toInt < x4.toInt) := (q_nleI c7)
    refine lv_aload_n hx hb d_33_23_13 rfl (lv_at hl 2 rfl) ?_
    refine lv_iload hx hb d_33_23_14 (lv_at hl 0 rfl) ?_
    refine q_sbal (i := 11) (v := (([98, 66] : List Int32).getD lx4.toNatClampNeg 0)) C0 V rfl (show vp_in lx4 2 from q_ix (x := lx4.toInt) rfl (by have t1 : 0 ≤ x3.toInt := pre0; have t2 : x3.toInt ≤ lx4.toInt := i5; omega) (by have t1 : 0 ≤ x3.toInt := pre0; have t2 : x3.toInt ≤ lx4.toInt := i5; have t3 : x4.toInt ≤ 2 := pre1; have t4 : lx4.toInt < x4.toInt := b9; omega)) rfl d_33_23_16 ?_
    obtain ⟨a10, e11⟩ := q_nm ((([98, 66] : List Int32).getD lx4.toNatClampNeg 0) : Int32)
    refine q_ti (v := a10) e11 ?_
    refine lv_iload hx hb d_33_23_17 (lv_at hl 1 rfl) ?_
    refine lv_icmp_ne (tgt := 25) hx hb d_33_23_19 (by decide) (fun c12 => ?_) (fun c12 => ?_)
    ·
      have b13 : q_F (a10.toInt ≠ a1.toInt) := (q_neI c12)
      obtain ⟨a14, e15⟩ := q_nm (lx4 + 1 : Int32)
      have b16 : q_F (a14.toInt = lx4.toInt + 1) := (by rw [← e15]; exact q_addI (y := 1) rfl (by decide) (by have _ := q_lo32 (x := lx4); have _ := q_hi32 (x := lx4); have t1 : lx4.toInt < x4.toInt := b9; have _ := q_lo32 (x := x4); have _ := q_hi32 (x := x4); omega) (by have _ := q_lo32 (x := lx4); have _ := q_hi32 (x := lx4); have t1 : lx4.toInt < x4.toInt := b9; have _ := q_lo32 (x := x4); have _ := q_hi32 (x := x4); omega))
      refine lv_iinc (v := a14) (lv' := [(5, .int a14), (4, .int a1), (0, .ref (g (9 + 2 * 11))), (3, .int x4)]) hx hb d_33_23_25 hl (k := 0) rfl (e15) (by decide) rfl (fun ls hl => ?_)
      refine lv_goto (tgt := 7) hx hb d_33_23_28 (by decide) ?_
      exact ih6 ((a14 : Int32)) _ _ _ ws (show (2 - a14.toInt).toNat < (2 - lx4.toInt).toNat from by have t1 : a14.toInt = lx4.toInt + 1 := b16; have t2 : x4.toInt ≤ 2 := pre1; have t3 : lx4.toInt < x4.toInt := b9; omega) ⟨(show q_F (x3.toInt ≤ a14.toInt) from (show x3.toInt ≤ a14.toInt from by have t1 : x3.toInt ≤ lx4.toInt := i5; have t2 : a14.toInt = lx4.toInt + 1 := b16; omega)), V, q_lw hl (q_lw1 0 rfl (q_lw1 1 rfl (q_lw1 2 rfl (q_lw1 3 rfl q_lw0))))⟩
    ·
      have b17 : q_F (a10.toInt = a1.toInt) := (q_eqI c12)
      refine lv_iload hx hb d_33_23_22 (lv_at hl 0 rfl) ?_
      exact q_reti C0 V (⟨rfl, (show 0 ≤ lx4.toInt + 1 from (by have t1 : 0 ≤ x3.toInt := pre0; have t2 : x3.toInt ≤ lx4.toInt := i5; omega)), (show lx4.toInt ≤ 1 from (by have t1 : x4.toInt ≤ 2 := pre1; have t2 : lx4.toInt < x4.toInt := b9; omega))⟩) d_33_23_24
set_option maxRecDepth 100000 in
set_option maxHeartbeats 4000000 in
theorem T_jLat_indexOf_11 (l : Launch) (D : va_G) (g : Nat → ClassId) (q : Nat → Nat) (ws : va_W) (x2 : Int32) (x3 : Int32) (x4 : Int32) (hI : q_I (nsh g q) q ws) (pre0 : 0 ≤ x3.toInt) (pre1 : x4.toInt ≤ 2) : q_mI l y_jLat_indexOf prog_33_method_22_code 4 (.int) 2 0 0 D g [.ref (g (9 + 2 * 11)), .int x2, .int x3, .int x4] ws (fun r u => ws = u ∧ (0 ≤ r.toInt + 1) ∧ (r.toInt ≤ 1)) := by
  intro sz
  refine q_into (by decide) (Nat.le_of_ble_eq_true rfl) ?_
  intro p e s m below meth c ls hsz C0 V hl
  have hx := C0.1
  have hb := C0.2.1
  replace pre0 : q_F (0 ≤ x3.toInt) := pre0
  replace pre1 : q_F (x4.toInt ≤ 2) := pre1
  have hl : lv_has ls 4 [(0, .ref (g (9 + 2 * 11))), (1, .int x2), (2, .int x3), (3, .int x4)] := hl
  refine lv_iload_n hx hb d_33_22_0 rfl (lv_at hl 1 rfl) ?_
  refine q_goi V (q_runS (As := [.int x2]) (rest := []) (d := 1) (mc := 0) (ms := 0) C0 V rfl LS_jLat_88 (T_jLat_canEncode l D g q ws  x2 hI   _) rfl hl.1 rfl (Nat.le_of_ble_eq_true rfl) ⟨by decide, by decide⟩ ⟨Nat.le_of_ble_eq_true rfl, Nat.le_of_ble_eq_true rfl⟩ d_33_22_1) (fun a3 u1 H locs hp2 V => ?_)
  obtain ⟨rfl, b4, b5⟩ := hp2
  replace b4 : q_F (0 ≤ a3.toInt) := b4
  replace b5 : q_F (a3.toInt ≤ 1) := b5
  refine lv_if_ne (tgt := 9) hx hb d_33_22_4 (by decide) (fun c6 => ?_) (fun c6 => ?_)
  ·
    have b7 : q_F (a3.toInt ≠ 0) := (q_neI c6)
    refine lv_iload_n hx hb d_33_22_9 rfl (lv_at hl 2 rfl) ?_
    refine lv_iconst (v := 0) hx hb d_33_22_10 (by decide) ?_
    refine q_max C0 hl.1 rfl w_1773 w_803 w_7 w_804 ⟨Nat.le_of_ble_eq_true rfl, Nat.le_of_ble_eq_true rfl⟩ ⟨Nat.le_of_ble_eq_true rfl, Nat.le_of_ble_eq_true rfl⟩ d_33_22_11 ?_
    obtain ⟨a8, e9⟩ := q_nm (if x3 < 0 then 0 else x3 : Int32)
    refine q_ti (v := a8) e9 ?_
    have b10 : q_F (x3.toInt ≤ a8.toInt ∧ 0 ≤ a8.toInt ∧ (a8.toInt = x3.toInt ∨ a8.toInt = 0)) := (by rw [← e9]; show x3.toInt ≤ (if x3 < 0 then 0 else x3 : Int32).toInt ∧ 0 ≤ (if x3 < 0 then 0 else x3 : Int32).toInt ∧ ((if x3 < 0 then 0 else x3 : Int32).toInt = x3.toInt ∨ (if x3 < 0 then 0 else x3 : Int32).toInt = 0); exact (by have y1 : (0 : Int32).toInt = 0 := rfl; have z := s_max (a := x3) (b := 0); omega))
    refine lv_istore_n (lv' := [(2, .int a8), (0, .ref (g (9 + 2 * 11))), (1, .int x2), (3, .int x4)]) hx hb d_33_22_14 rfl hl (by decide) rfl (fun ls hl => ?_)
    refine lv_iload_n hx hb d_33_22_15 rfl (lv_at hl 3 rfl) ?_
    refine lv_aload_n hx hb d_33_22_16 rfl (lv_at hl 1 rfl) ?_
    refine q_slen (i := 11) (v := 2) C0 V rfl (by decide) d_33_22_17 ?_
    refine q_min C0 hl.1 rfl w_1774 w_774 w_7 w_775 ⟨Nat.le_of_ble_eq_true rfl, Nat.le_of_ble_eq_true rfl⟩ ⟨Nat.le_of_ble_eq_true rfl, Nat.le_of_ble_eq_true rfl⟩ d_33_22_18 ?_
    obtain ⟨a11, e12⟩ := q_nm (if 2 < x4 then 2 else x4 : Int32)
    refine q_ti (v := a11) e12 ?_
    have b13 : q_F (a11.toInt ≤ x4.toInt ∧ a11.toInt ≤ 2 ∧ (a11.toInt = x4.toInt ∨ a11.toInt = 2)) := (by rw [← e12]; show (if 2 < x4 then 2 else x4 : Int32).toInt ≤ x4.toInt ∧ (if 2 < x4 then 2 else x4 : Int32).toInt ≤ 2 ∧ ((if 2 < x4 then 2 else x4 : Int32).toInt = x4.toInt ∨ (if 2 < x4 then 2 else x4 : Int32).toInt = 2); exact (by have y1 : (2 : Int32).toInt = 2 := rfl; have z := s_min (a := x4) (b := 2); omega))
    refine lv_istore_n (lv' := [(3, .int a11), (2, .int a8), (0, .ref (g (9 + 2 * 11))), (1, .int x2)]) hx hb d_33_22_21 rfl hl (by decide) rfl (fun ls hl => ?_)
    refine lv_iload_n hx hb d_33_22_22 rfl (lv_at hl 1 rfl) ?_
    refine lv_iload_n hx hb d_33_22_23 rfl (lv_at hl 0 rfl) ?_
    refine lv_icmp_lt (tgt := 29) hx hb d_33_22_24 (by decide) (fun c14 => ?_) (fun c14 => ?_)
    ·
      have b15 : q_F (a8.toInt < a11.toInt) := (q_ltI c14)
      refine lv_aload_n hx hb d_33_22_29 rfl (lv_at hl 2 rfl) ?_
      refine lv_iload_n hx hb d_33_22_30 rfl (lv_at hl 3 rfl) ?_
      refine lv_iload_n hx hb d_33_22_31 rfl (lv_at hl 1 rfl) ?_
      refine lv_iload_n hx hb d_33_22_32 rfl (lv_at hl 0 rfl) ?_
      refine q_goi V (q_runS (As := [.ref (g (9 + 2 * 11)), .int x2, .int a8, .int a11]) (rest := []) (d := 1) (mc := 0) (ms := 0) C0 V rfl LS_jLat_95 (T_jLat_indexOfChar_11 l D g q ws  x2 a8 a11 hI  (by have t1 : x3.toInt ≤ a8.toInt ∧ 0 ≤ a8.toInt ∧ (a8.toInt = x3.toInt ∨ a8.toInt = 0) := b10; omega) (by have t1 : a11.toInt ≤ x4.toInt ∧ a11.toInt ≤ 2 ∧ (a11.toInt = x4.toInt ∨ a11.toInt = 2) := b13; omega) _) rfl hl.1 rfl (Nat.le_of_ble_eq_true rfl) ⟨by decide, by decide⟩ ⟨Nat.le_of_ble_eq_true rfl, Nat.le_of_ble_eq_true rfl⟩ d_33_22_33) (fun a18 u16 H locs hp17 V => ?_)
      obtain ⟨rfl, b19, b20⟩ := hp17
      replace b19 : q_F (0 ≤ a18.toInt + 1) := b19
      replace b20 : q_F (a18.toInt ≤ 1) := b20
      exact q_reti C0 V (⟨rfl, (show 0 ≤ a18.toInt + 1 from (by have t1 : 0 ≤ a18.toInt + 1 := b19; omega)), (show a18.toInt ≤ 1 from (by have t1 : a18.toInt ≤ 1 := b20; omega))⟩) d_33_22_36
    ·
      have b21 : q_F (a11.toInt ≤ a8.toInt) := (q_nltI c14)
      refine lv_iconst (v := (-1)) hx hb d_33_22_27 (by decide) ?_
      exact q_reti C0 V (⟨rfl, (show 0 ≤ (-1 : Int32).toInt + 1 from (by have z3 : (-1 : Int32).toInt = -1 := rfl; omega)), (show (-1 : Int32).toInt ≤ 1 from (by have z3 : (-1 : Int32).toInt = -1 := rfl; omega))⟩) d_33_22_28
  ·
    have b22 : q_F (a3.toInt = 0) := (q_eqI c6)
    refine lv_iconst (v := (-1)) hx hb d_33_22_7 (by decide) ?_
    exact q_reti C0 V (⟨rfl, (show 0 ≤ (-1 : Int32).toInt + 1 from (by have z3 : (-1 : Int32).toInt = -1 := rfl; omega)), (show (-1 : Int32).toInt ≤ 1 from (by have z3 : (-1 : Int32).toInt = -1 := rfl; omega))⟩) d_33_22_8
set_option maxRecDepth 100000 in
set_option maxHeartbeats 4000000 in
theorem T_jStr_indexOf_III_11 (l : Launch) (D : va_G) (g : Nat → ClassId) (q : Nat → Nat) (ws : va_W) (x2 : Int32) (x3 : Int32) (hI : q_I (nsh g q) q ws) (pre0 : 0 ≤ x3.toInt) : q_mI l y_jStr_indexOf_III prog_31_method_80_code 3 (.int) 3 0 0 D g [.ref (g (8 + 2 * 11)), .int x2, .int x3] ws (fun r u => ws = u ∧ (0 ≤ r.toInt + 1) ∧ (r.toInt ≤ 1)) := by
  intro sz
  refine q_into (by decide) (Nat.le_of_ble_eq_true rfl) ?_
  intro p e s m below meth c ls hsz C0 V hl
  have hx := C0.1
  have hb := C0.2.1
  replace pre0 : q_F (0 ≤ x3.toInt) := pre0
  have hl : lv_has ls 3 [(0, .ref (g (8 + 2 * 11))), (1, .int x2), (2, .int x3)] := hl
  refine lv_aload_n hx hb d_31_80_0 rfl (lv_at hl 0 rfl) ?_
  refine q_goi V (q_runVs (As := []) (rest := []) (d := 1) (mc := 0) (ms := 0) (i := 11) C0 V rfl LV_jStr_492 (T_jStr_isLatin1_11 l D g q ws   hI   _) rfl rfl rfl hl.1 rfl (Nat.le_of_ble_eq_true rfl) ⟨by decide, by decide⟩ ⟨Nat.le_of_ble_eq_true rfl, Nat.le_of_ble_eq_true rfl⟩ d_31_80_1) (fun a3 u1 H locs hp2 V => ?_)
  obtain ⟨rfl, b4, b5⟩ := hp2
  replace b4 : q_F (1 ≤ a3.toInt) := b4
  replace b5 : q_F (a3.toInt ≤ 1) := b5
  obtain rfl : a3 = (1 : Int32) := q_Ieq (x := a3.toInt) (y := 1) rfl (by decide) (by have t1 : 1 ≤ a3.toInt := b4; have t2 : a3.toInt ≤ 1 := b5; omega)
  refine lv_if_eq (tgt := 23) hx hb d_31_80_4 (by decide) (fun c6 => absurd c6 (by decide)) (fun c6 => ?_)
  refine lv_aload_n hx hb d_31_80_7 rfl (lv_at hl 0 rfl) ?_
  refine q_sval (i := 11) C0 V rfl rfl w_1018 d_31_80_8 ?_
  refine lv_iload_n hx hb d_31_80_11 rfl (lv_at hl 1 rfl) ?_
  refine lv_iload_n hx hb d_31_80_12 rfl (lv_at hl 2 rfl) ?_
  refine lv_aload_n hx hb d_31_80_13 rfl (lv_at hl 0 rfl) ?_
  refine q_goi V (q_runVs (As := []) (rest := [.int x3, .int x2, .ref (g (9 + 2 * 11))]) (d := 2) (mc := 0) (ms := 0) (i := 11) C0 V rfl LV_jStr_505 (T_jStr_length_11 l D g q ws   hI   _) rfl rfl rfl hl.1 rfl (Nat.le_of_ble_eq_true rfl) ⟨by decide, by decide⟩ ⟨Nat.le_of_ble_eq_true rfl, Nat.le_of_ble_eq_true rfl⟩ d_31_80_14) (fun a9 u7 H locs hp8 V => ?_)
  obtain ⟨rfl, b10, b11⟩ := hp8
  replace b10 : q_F (2 ≤ a9.toInt) := b10
  replace b11 : q_F (a9.toInt ≤ 2) := b11
  obtain rfl : a9 = (2 : Int32) := q_Ieq (x := a9.toInt) (y := 2) rfl (by decide) (by have t1 : 2 ≤ a9.toInt := b10; have t2 : a9.toInt ≤ 2 := b11; omega)
  refine q_goi V (q_runS (As := [.ref (g (9 + 2 * 11)), .int x2, .int x3, .int 2]) (rest := []) (d := 2) (mc := 0) (ms := 0) C0 V rfl LS_jStr_637 (T_jLat_indexOf_11 l D g q ws  x2 x3 2 hI  (by have y0 : (2 : Int32).toInt = 2 := rfl; have t1 : 0 ≤ x3.toInt := pre0; omega) (by have y0 : (2 : Int32).toInt = 2 := rfl; omega) _) rfl hl.1 rfl (Nat.le_of_ble_eq_true rfl) ⟨by decide, by decide⟩ ⟨Nat.le_of_ble_eq_true rfl, Nat.le_of_ble_eq_true rfl⟩ d_31_80_17) (fun a14 u12 H locs hp13 V => ?_)
  obtain ⟨rfl, b15, b16⟩ := hp13
  replace b15 : q_F (0 ≤ a14.toInt + 1) := b15
  replace b16 : q_F (a14.toInt ≤ 1) := b16
  refine lv_goto (tgt := 36) hx hb d_31_80_20 (by decide) ?_
  exact q_reti C0 V (⟨rfl, (show 0 ≤ a14.toInt + 1 from (by have t1 : 0 ≤ a14.toInt + 1 := b15; omega)), (show a14.toInt ≤ 1 from (by have t1 : a14.toInt ≤ 1 := b16; omega))⟩) d_31_80_36
set_option maxRecDepth 100000 in
set_option maxHeartbeats 4000000 in
theorem T_jStr_indexOf_II_11 (l : Launch) (D : va_G) (g : Nat → ClassId) (q : Nat → Nat) (ws : va_W) (x2 : Int32) (hI : q_I (nsh g q) q ws) : q_mI l y_jStr_indexOf_II prog_31_method_79_code 2 (.int) 4 0 0 D g [.ref (g (8 + 2 * 11)), .int x2] ws (fun r u => ws = u ∧ (0 ≤ r.toInt + 1) ∧ (r.toInt ≤ 1)) := by
  intro sz
  refine q_into (by decide) (Nat.le_of_ble_eq_true rfl) ?_
  intro p e s m below meth c ls hsz C0 V hl
  have hx := C0.1
  have hb := C0.2.1
  have hl : lv_has ls 2 [(0, .ref (g (8 + 2 * 11))), (1, .int x2)] := hl
  refine lv_aload_n hx hb d_31_79_0 rfl (lv_at hl 0 rfl) ?_
  refine lv_iload_n hx hb d_31_79_1 rfl (lv_at hl 1 rfl) ?_
  refine lv_iconst (v := 0) hx hb d_31_79_2 (by decide) ?_
  refine q_goi V (q_runVs (As := [.int x2, .int 0]) (rest := []) (d := 3) (mc := 0) (ms := 0) (i := 11) C0 V rfl LV_jStr_633 (T_jStr_indexOf_III_11 l D g q ws  x2 0 hI  (by have y0 : (0 : Int32).toInt = 0 := rfl; omega) _) rfl rfl rfl hl.1 rfl (Nat.le_of_ble_eq_true rfl) ⟨by decide, by decide⟩ ⟨Nat.le_of_ble_eq_true rfl, Nat.le_of_ble_eq_true rfl⟩ d_31_79_3) (fun a3 u1 H locs hp2 V => ?_)
  obtain ⟨rfl, b4, b5⟩ := hp2
  replace b4 : q_F (0 ≤ a3.toInt + 1) := b4
  replace b5 : q_F (a3.toInt ≤ 1) := b5
  exact q_reti C0 V (⟨rfl, (show 0 ≤ a3.toInt + 1 from (by have t1 : 0 ≤ a3.toInt + 1 := b4; omega)), (show a3.toInt ≤ 1 from (by have t1 : a3.toInt ≤ 1 := b5; omega))⟩) d_31_79_6
set_option maxRecDepth 100000 in
set_option maxHeartbeats 4000000 in
theorem T_jStr_coder_12 (l : Launch) (D : va_G) (g : Nat → ClassId) (q : Nat → Nat) (ws : va_W) (hI : q_I (nsh g q) q ws) : q_mI l y_jStr_coder prog_31_method_152_code 1 (.byte) 1 0 0 D g [.ref (g (8 + 2 * 12))] ws (fun r u => ws = u ∧ (0 ≤ r.toInt) ∧ (r.toInt ≤ 0)) := by
  intro sz
  refine q_into (by decide) (Nat.le_of_ble_eq_true rfl) ?_
  intro p e s m below meth c ls hsz C0 V hl
  have hx := C0.1
  have hb := C0.2.1
  have hl : lv_has ls 1 [(0, .ref (g (8 + 2 * 12)))] := hl
  refine q_scmp C0 V rfl w_663 d_31_152_0 ?_
  refine lv_if_eq (tgt := 13) hx hb d_31_152_3 (by decide) (fun c1 => absurd c1 (by decide)) (fun c1 => ?_)
  refine lv_aload_n hx hb d_31_152_6 rfl (lv_at hl 0 rfl) ?_
  refine q_scod (i := 12) C0 V rfl rfl w_1019 d_31_152_7 ?_
  refine lv_goto (tgt := 14) hx hb d_31_152_10 (by decide) ?_
  exact q_retn C0 V (rfl) (⟨rfl, (show 0 ≤ (0 : Int32).toInt from (by have z0 : (0 : Int32).toInt = 0 := rfl; omega)), (show (0 : Int32).toInt ≤ 0 from (by have z0 : (0 : Int32).toInt = 0 := rfl; omega))⟩) d_31_152_14
set_option maxRecDepth 100000 in
set_option maxHeartbeats 4000000 in
theorem T_jStr_length_12 (l : Launch) (D : va_G) (g : Nat → ClassId) (q : Nat → Nat) (ws : va_W) (hI : q_I (nsh g q) q ws) : q_mI l y_jStr_length prog_31_method_54_code 1 (.int) 2 0 0 D g [.ref (g (8 + 2 * 12))] ws (fun r u => ws = u ∧ (5 ≤ r.toInt) ∧ (r.toInt ≤ 5)) := by
  intro sz
  refine q_into (by decide) (Nat.le_of_ble_eq_true rfl) ?_
  intro p e s m below meth c ls hsz C0 V hl
  have hx := C0.1
  have hb := C0.2.1
  have hl : lv_has ls 1 [(0, .ref (g (8 + 2 * 12)))] := hl
  refine lv_aload_n hx hb d_31_54_0 rfl (lv_at hl 0 rfl) ?_
  refine q_sval (i := 12) C0 V rfl rfl w_1018 d_31_54_1 ?_
  refine q_slen (i := 12) (v := 5) C0 V rfl (by decide) d_31_54_4 ?_
  refine lv_aload_n hx hb d_31_54_5 rfl (lv_at hl 0 rfl) ?_
  refine q_goi V (q_runVs (As := []) (rest := [.int 5]) (d := 1) (mc := 0) (ms := 0) (i := 12) C0 V rfl LV_jStr_335 (T_jStr_coder_12 l D g q ws   hI   _) rfl rfl rfl hl.1 rfl (Nat.le_of_ble_eq_true rfl) ⟨by decide, by decide⟩ ⟨Nat.le_of_ble_eq_true rfl, Nat.le_of_ble_eq_true rfl⟩ d_31_54_6) (fun a3 u1 H locs hp2 V => ?_)
  obtain ⟨rfl, b4, b5⟩ := hp2
  replace b4 : q_F (0 ≤ a3.toInt) := b4
  replace b5 : q_F (a3.toInt ≤ 0) := b5
  obtain rfl : a3 = (0 : Int32) := q_Ieq (x := a3.toInt) (y := 0) rfl (by decide) (by have t1 : 0 ≤ a3.toInt := b4; have t2 : a3.toInt ≤ 0 := b5; omega)
  refine lv_ishr hx hb d_31_54_9 ?_
  refine q_ti (v := 5) (by decide) ?_
  exact q_reti C0 V (⟨rfl, (show 5 ≤ (5 : Int32).toInt from (by have z0 : (5 : Int32).toInt = 5 := rfl; omega)), (show (5 : Int32).toInt ≤ 5 from (by have z0 : (5 : Int32).toInt = 5 := rfl; omega))⟩) d_31_54_10
set_option maxRecDepth 100000 in
set_option maxHeartbeats 4000000 in
theorem T_jStr_isLatin1_12 (l : Launch) (D : va_G) (g : Nat → ClassId) (q : Nat → Nat) (ws : va_W) (hI : q_I (nsh g q) q ws) : q_mI l y_jStr_isLatin1 prog_31_method_154_code 1 (.boolean) 1 0 0 D g [.ref (g (8 + 2 * 12))] ws (fun r u => ws = u ∧ (1 ≤ r.toInt) ∧ (r.toInt ≤ 1)) := by
  intro sz
  refine q_into (by decide) (Nat.le_of_ble_eq_true rfl) ?_
  intro p e s m below meth c ls hsz C0 V hl
  have hx := C0.1
  have hb := C0.2.1
  have hl : lv_has ls 1 [(0, .ref (g (8 + 2 * 12)))] := hl
  refine q_scmp C0 V rfl w_663 d_31_154_0 ?_
  refine lv_if_eq (tgt := 17) hx hb d_31_154_3 (by decide) (fun c1 => absurd c1 (by decide)) (fun c1 => ?_)
  refine lv_aload_n hx hb d_31_154_6 rfl (lv_at hl 0 rfl) ?_
  refine q_scod (i := 12) C0 V rfl rfl w_1019 d_31_154_7 ?_
  refine lv_if_ne (tgt := 17) hx hb d_31_154_10 (by decide) (fun c2 => absurd (by decide) c2) (fun c2 => ?_)
  refine lv_iconst (v := 1) hx hb d_31_154_13 (by decide) ?_
  refine lv_goto (tgt := 18) hx hb d_31_154_14 (by decide) ?_
  exact q_retz C0 V (by decide) (⟨rfl, (show 1 ≤ (1 : Int32).toInt from (by have z0 : (1 : Int32).toInt = 1 := rfl; omega)), (show (1 : Int32).toInt ≤ 1 from (by have z0 : (1 : Int32).toInt = 1 := rfl; omega))⟩) d_31_154_18
theorem d_33_2_0 : decode prog_33_method_2_code 0 = .ok (.iload_n 1, 1) := by decide +kernel
theorem d_33_2_1 : decode prog_33_method_2_code 1 = .ok (.aload_n 0, 1) := by decide +kernel
theorem d_33_2_2 : decode prog_33_method_2_code 2 = .ok (.arraylength, 1) := by decide +kernel
theorem d_33_2_3 : decode prog_33_method_2_code 3 = .ok (.invokestatic 9, 3) := by decide +kernel
set_option maxRecDepth 100000 in
theorem w_678 : (Cond.code ({ cls := "java/lang/String", name := "checkIndex", desc := "(II)V" } : MethodName) prog_31_method_155_code (2 : Nat) (none : Option ClassFile.FieldType)) ∈ q_tbl := q_of3 198 rfl (by decide +kernel)
set_option maxRecDepth 100000 in
theorem w_676 : (Cond.methodLink "java/lang/StringLatin1" (9 : Nat) ({ cls := "java/lang/String", name := "checkIndex", desc := "(II)V" } : MethodName)) ∈ q_tbl := q_of3 196 rfl (by decide +kernel)
set_option maxRecDepth 100000 in
theorem w_677 : (Cond.static ({ cls := "java/lang/String", name := "checkIndex", desc := "(II)V" } : MethodName)) ∈ q_tbl := q_of3 197 rfl (by decide +kernel)
theorem LS_jLat_9 : q_LS "java/lang/StringLatin1" 9 y_jStr_checkIndex prog_31_method_155_code 2 none 2 := ⟨w_678, w_25, w_676, w_677, ⟨by decide, by decide, by decide +kernel⟩⟩
theorem d_33_2_6 : decode prog_33_method_2_code 6 = .ok (.aload_n 0, 1) := by decide +kernel
theorem d_33_2_7 : decode prog_33_method_2_code 7 = .ok (.iload_n 1, 1) := by decide +kernel
theorem d_33_2_8 : decode prog_33_method_2_code 8 = .ok (.baload, 1) := by decide +kernel
theorem d_33_2_9 : decode prog_33_method_2_code 9 = .ok (.sipush 255, 3) := by decide +kernel
theorem d_33_2_12 : decode prog_33_method_2_code 12 = .ok (.iand, 1) := by decide +kernel
theorem d_33_2_13 : decode prog_33_method_2_code 13 = .ok (.i2c, 1) := by decide +kernel
theorem d_33_2_14 : decode prog_33_method_2_code 14 = .ok (.ireturn, 1) := by decide +kernel
def y_jLat_charAt : MethodName := ⟨"java/lang/StringLatin1", "charAt", "([BI)C"⟩
set_option maxRecDepth 100000 in
set_option maxHeartbeats 4000000 in
theorem T_jLat_charAt_12 (l : Launch) (D : va_G) (g : Nat → ClassId) (q : Nat → Nat) (ws : va_W) (x2 : Int32) (hI : q_I (nsh g q) q ws) (pre0 : 0 ≤ x2.toInt) (pre1 : x2.toInt ≤ 4) : q_mI l y_jLat_charAt prog_33_method_2_code 2 (.char) 3 0 0 D g [.ref (g (9 + 2 * 12)), .int x2] ws (fun r u => ws = u ∧ (0 ≤ r.toInt) ∧ (r.toInt ≤ 255)) := by
  intro sz
  refine q_into (by decide) (Nat.le_of_ble_eq_true rfl) ?_
  intro p e s m below meth c ls hsz C0 V hl
  have hx := C0.1
  have hb := C0.2.1
  replace pre0 : q_F (0 ≤ x2.toInt) := pre0
  replace pre1 : q_F (x2.toInt ≤ 4) := pre1
  have hl : lv_has ls 2 [(0, .ref (g (9 + 2 * 12))), (1, .int x2)] := hl
  refine lv_iload_n hx hb d_33_2_0 rfl (lv_at hl 1 rfl) ?_
  refine lv_aload_n hx hb d_33_2_1 rfl (lv_at hl 0 rfl) ?_
  refine q_slen (i := 12) (v := 5) C0 V rfl (by decide) d_33_2_2 ?_
  refine q_gov V (q_runS (As := [.int x2, .int 5]) (rest := []) (d := 2) (mc := 0) (ms := 0) C0 V rfl LS_jLat_9 (T_jStr_checkIndex l D g q ws  x2 5 hI  (by have y0 : (5 : Int32).toInt = 5 := rfl; have t1 : 0 ≤ x2.toInt := pre0; omega) (by have y0 : (5 : Int32).toInt = 5 := rfl; have t1 : x2.toInt ≤ 4 := pre1; omega) _) rfl hl.1 rfl (Nat.le_of_ble_eq_true rfl) ⟨by decide, by decide⟩ ⟨Nat.le_of_ble_eq_true rfl, Nat.le_of_ble_eq_true rfl⟩ d_33_2_3) (fun u1 H locs hp2 V => ?_)
  obtain ⟨rfl, -⟩ := hp2
  refine lv_aload_n hx hb d_33_2_6 rfl (lv_at hl 0 rfl) ?_
  refine lv_iload_n hx hb d_33_2_7 rfl (lv_at hl 1 rfl) ?_
  refine q_sbal (i := 12) (v := (([102, 97, 108, 115, 101] : List Int32).getD x2.toNatClampNeg 0)) C0 V rfl (show vp_in x2 5 from q_ix (x := x2.toInt) rfl (by have t1 : 0 ≤ x2.toInt := pre0; omega) (by have t1 : 0 ≤ x2.toInt := pre0; have t2 : x2.toInt ≤ 4 := pre1; omega)) rfl d_33_2_8 ?_
  obtain ⟨a3, e4⟩ := q_nm ((([102, 97, 108, 115, 101] : List Int32).getD x2.toNatClampNeg 0) : Int32)
  refine q_ti (v := a3) e4 ?_
  refine lv_sipush (v := 255) hx hb d_33_2_9 (by decide) ?_
  refine lv_iand hx hb d_33_2_12 ?_
  obtain ⟨a5, e6⟩ := q_nm (a3 &&& 255 : Int32)
  refine q_ti (v := a5) e6 ?_
  have b7 : q_F (0 ≤ a5.toInt ∧ a5.toInt ≤ 255) := (by rw [← e6]; show 0 ≤ (a3 &&& 255 : Int32).toInt ∧ (a3 &&& 255 : Int32).toInt ≤ 255; exact s_and (by decide))
  refine lv_i2c hx hb d_33_2_13 rfl ?_
  obtain ⟨a8, e9⟩ := q_nm ((a5.toUInt32 % 65536).toInt32 : Int32)
  refine q_ti (v := a8) e9 ?_
  have b10 : q_F (a8.toInt = a5.toInt) := (by rw [← e9]; show ((a5.toUInt32 % 65536).toInt32 : Int32).toInt = a5.toInt; exact (n_i2c (x := a5)).2.2 (by have t1 : 0 ≤ a5.toInt ∧ a5.toInt ≤ 255 := b7; omega) (by have t1 : 0 ≤ a5.toInt ∧ a5.toInt ≤ 255 := b7; omega))
  exact q_retn C0 V (n_chr (by have t1 : 0 ≤ a5.toInt ∧ a5.toInt ≤ 255 := b7; have t2 : a8.toInt = a5.toInt := b10; omega) (by have t1 : 0 ≤ a5.toInt ∧ a5.toInt ≤ 255 := b7; have t2 : a8.toInt = a5.toInt := b10; omega)) (⟨rfl, (show 0 ≤ a8.toInt from (by have t1 : 0 ≤ a5.toInt ∧ a5.toInt ≤ 255 := b7; have t2 : a8.toInt = a5.toInt := b10; omega)), (show a8.toInt ≤ 255 from (by have t1 : 0 ≤ a5.toInt ∧ a5.toInt ≤ 255 := b7; have t2 : a8.toInt = a5.toInt := b10; omega))⟩) d_33_2_14
theorem d_31_56_0 : decode prog_31_method_56_code 0 = .ok (.aload_n 0, 1) := by decide +kernel
theorem d_31_56_1 : decode prog_31_method_56_code 1 = .ok (.invokevirtual 492, 3) := by decide +kernel
theorem d_31_56_4 : decode prog_31_method_56_code 4 = .ok (.ifCond .eq 12, 3) := by decide +kernel
theorem d_31_56_7 : decode prog_31_method_56_code 7 = .ok (.aload_n 0, 1) := by decide +kernel
theorem d_31_56_8 : decode prog_31_method_56_code 8 = .ok (.getfield 9, 3) := by decide +kernel
theorem d_31_56_11 : decode prog_31_method_56_code 11 = .ok (.iload_n 1, 1) := by decide +kernel
theorem d_31_56_12 : decode prog_31_method_56_code 12 = .ok (.invokestatic 495, 3) := by decide +kernel
set_option maxRecDepth 100000 in
theorem w_675 : (Cond.code ({ cls := "java/lang/StringLatin1", name := "charAt", desc := "([BI)C" } : MethodName) prog_33_method_2_code (2 : Nat) (some .char)) ∈ q_tbl := q_of3 195 rfl (by decide +kernel)
set_option maxRecDepth 100000 in
theorem w_673 : (Cond.methodLink "java/lang/String" (495 : Nat) ({ cls := "java/lang/StringLatin1", name := "charAt", desc := "([BI)C" } : MethodName)) ∈ q_tbl := q_of3 193 rfl (by decide +kernel)
set_option maxRecDepth 100000 in
theorem w_674 : (Cond.static ({ cls := "java/lang/StringLatin1", name := "charAt", desc := "([BI)C" } : MethodName)) ∈ q_tbl := q_of3 194 rfl (by decide +kernel)
theorem LS_jStr_495 : q_LS "java/lang/String" 495 y_jLat_charAt prog_33_method_2_code 2 (some .char) 2 := ⟨w_675, w_26, w_673, w_674, ⟨by decide, by decide, by decide +kernel⟩⟩
theorem d_31_56_15 : decode prog_31_method_56_code 15 = .ok (.ireturn, 1) := by decide +kernel
def y_jStr_charAt : MethodName := ⟨"java/lang/String", "charAt", "(I)C"⟩
set_option maxRecDepth 100000 in
set_option maxHeartbeats 4000000 in
theorem T_jStr_charAt_12 (l : Launch) (D : va_G) (g : Nat → ClassId) (q : Nat → Nat) (ws : va_W) (x2 : Int32) (hI : q_I (nsh g q) q ws) (pre0 : 0 ≤ x2.toInt) (pre1 : x2.toInt ≤ 4) : q_mI l y_jStr_charAt prog_31_method_56_code 2 (.char) 4 0 0 D g [.ref (g (8 + 2 * 12)), .int x2] ws (fun r u => ws = u ∧ (0 ≤ r.toInt) ∧ (r.toInt ≤ 255)) := by
  intro sz
  refine q_into (by decide) (Nat.le_of_ble_eq_true rfl) ?_
  intro p e s m below meth c ls hsz C0 V hl
  have hx := C0.1
  have hb := C0.2.1
  replace pre0 : q_F (0 ≤ x2.toInt) := pre0
  replace pre1 : q_F (x2.toInt ≤ 4) := pre1
  have hl : lv_has ls 2 [(0, .ref (g (8 + 2 * 12))), (1, .int x2)] := hl
  refine lv_aload_n hx hb d_31_56_0 rfl (lv_at hl 0 rfl) ?_
  refine q_goi V (q_runVs (As := []) (rest := []) (d := 1) (mc := 0) (ms := 0) (i := 12) C0 V rfl LV_jStr_492 (T_jStr_isLatin1_12 l D g q ws   hI   _) rfl rfl rfl hl.1 rfl (Nat.le_of_ble_eq_true rfl) ⟨by decide, by decide⟩ ⟨Nat.le_of_ble_eq_true rfl, Nat.le_of_ble_eq_true rfl⟩ d_31_56_1) (fun a3 u1 H locs hp2 V => ?_)
  obtain ⟨rfl, b4, b5⟩ := hp2
  replace b4 : q_F (1 ≤ a3.toInt) := b4
  replace b5 : q_F (a3.toInt ≤ 1) := b5
  obtain rfl : a3 = (1 : Int32) := q_Ieq (x := a3.toInt) (y := 1) rfl (by decide) (by have t1 : 1 ≤ a3.toInt := b4; have t2 : a3.toInt ≤ 1 := b5; omega)
  refine lv_if_eq (tgt := 16) hx hb d_31_56_4 (by decide) (fun c6 => absurd c6 (by decide)) (fun c6 => ?_)
  refine lv_aload_n hx hb d_31_56_7 rfl (lv_at hl 0 rfl) ?_
  refine q_sval (i := 12) C0 V rfl rfl w_1018 d_31_56_8 ?_
  refine lv_iload_n hx hb d_31_56_11 rfl (lv_at hl 1 rfl) ?_
  refine q_goi V (q_runS (As := [.ref (g (9 + 2 * 12)), .int x2]) (rest := []) (d := 3) (mc := 0) (ms := 0) C0 V rfl LS_jStr_495 (T_jLat_charAt_12 l D g q ws  x2 hI  (by have t1 : 0 ≤ x2.toInt := pre0; omega) (by have t1 : x2.toInt ≤ 4 := pre1; omega) _) rfl hl.1 rfl (Nat.le_of_ble_eq_true rfl) ⟨by decide, by decide⟩ ⟨Nat.le_of_ble_eq_true rfl, Nat.le_of_ble_eq_true rfl⟩ d_31_56_12) (fun a9 u7 H locs hp8 V => ?_)
  obtain ⟨rfl, b10, b11⟩ := hp8
  replace b10 : q_F (0 ≤ a9.toInt) := b10
  replace b11 : q_F (a9.toInt ≤ 255) := b11
  exact q_retn C0 V (n_chr (by have t1 : 0 ≤ a9.toInt := b10; omega) (by have t1 : a9.toInt ≤ 255 := b11; omega)) (⟨rfl, (show 0 ≤ a9.toInt from (by have t1 : 0 ≤ a9.toInt := b10; omega)), (show a9.toInt ≤ 255 from (by have t1 : a9.toInt ≤ 255 := b11; omega))⟩) d_31_56_15
set_option maxRecDepth 100000 in
set_option maxHeartbeats 4000000 in
theorem T_jStr_coder_13 (l : Launch) (D : va_G) (g : Nat → ClassId) (q : Nat → Nat) (ws : va_W) (hI : q_I (nsh g q) q ws) : q_mI l y_jStr_coder prog_31_method_152_code 1 (.byte) 1 0 0 D g [.ref (g (8 + 2 * 13))] ws (fun r u => ws = u ∧ (0 ≤ r.toInt) ∧ (r.toInt ≤ 0)) := by
  intro sz
  refine q_into (by decide) (Nat.le_of_ble_eq_true rfl) ?_
  intro p e s m below meth c ls hsz C0 V hl
  have hx := C0.1
  have hb := C0.2.1
  have hl : lv_has ls 1 [(0, .ref (g (8 + 2 * 13)))] := hl
  refine q_scmp C0 V rfl w_663 d_31_152_0 ?_
  refine lv_if_eq (tgt := 13) hx hb d_31_152_3 (by decide) (fun c1 => absurd c1 (by decide)) (fun c1 => ?_)
  refine lv_aload_n hx hb d_31_152_6 rfl (lv_at hl 0 rfl) ?_
  refine q_scod (i := 13) C0 V rfl rfl w_1019 d_31_152_7 ?_
  refine lv_goto (tgt := 14) hx hb d_31_152_10 (by decide) ?_
  exact q_retn C0 V (rfl) (⟨rfl, (show 0 ≤ (0 : Int32).toInt from (by have z0 : (0 : Int32).toInt = 0 := rfl; omega)), (show (0 : Int32).toInt ≤ 0 from (by have z0 : (0 : Int32).toInt = 0 := rfl; omega))⟩) d_31_152_14
set_option maxRecDepth 100000 in
set_option maxHeartbeats 4000000 in
theorem T_jStr_length_13 (l : Launch) (D : va_G) (g : Nat → ClassId) (q : Nat → Nat) (ws : va_W) (hI : q_I (nsh g q) q ws) : q_mI l y_jStr_length prog_31_method_54_code 1 (.int) 2 0 0 D g [.ref (g (8 + 2 * 13))] ws (fun r u => ws = u ∧ (4 ≤ r.toInt) ∧ (r.toInt ≤ 4)) := by
  intro sz
  refine q_into (by decide) (Nat.le_of_ble_eq_true rfl) ?_
  intro p e s m below meth c ls hsz C0 V hl
  have hx := C0.1
  have hb := C0.2.1
  have hl : lv_has ls 1 [(0, .ref (g (8 + 2 * 13)))] := hl
  refine lv_aload_n hx hb d_31_54_0 rfl (lv_at hl 0 rfl) ?_
  refine q_sval (i := 13) C0 V rfl rfl w_1018 d_31_54_1 ?_
  refine q_slen (i := 13) (v := 4) C0 V rfl (by decide) d_31_54_4 ?_
  refine lv_aload_n hx hb d_31_54_5 rfl (lv_at hl 0 rfl) ?_
  refine q_goi V (q_runVs (As := []) (rest := [.int 4]) (d := 1) (mc := 0) (ms := 0) (i := 13) C0 V rfl LV_jStr_335 (T_jStr_coder_13 l D g q ws   hI   _) rfl rfl rfl hl.1 rfl (Nat.le_of_ble_eq_true rfl) ⟨by decide, by decide⟩ ⟨Nat.le_of_ble_eq_true rfl, Nat.le_of_ble_eq_true rfl⟩ d_31_54_6) (fun a3 u1 H locs hp2 V => ?_)
  obtain ⟨rfl, b4, b5⟩ := hp2
  replace b4 : q_F (0 ≤ a3.toInt) := b4
  replace b5 : q_F (a3.toInt ≤ 0) := b5
  obtain rfl : a3 = (0 : Int32) := q_Ieq (x := a3.toInt) (y := 0) rfl (by decide) (by have t1 : 0 ≤ a3.toInt := b4; have t2 : a3.toInt ≤ 0 := b5; omega)
  refine lv_ishr hx hb d_31_54_9 ?_
  refine q_ti (v := 4) (by decide) ?_
  exact q_reti C0 V (⟨rfl, (show 4 ≤ (4 : Int32).toInt from (by have z0 : (4 : Int32).toInt = 4 := rfl; omega)), (show (4 : Int32).toInt ≤ 4 from (by have z0 : (4 : Int32).toInt = 4 := rfl; omega))⟩) d_31_54_10
set_option maxRecDepth 100000 in
set_option maxHeartbeats 4000000 in
theorem T_jStr_isLatin1_13 (l : Launch) (D : va_G) (g : Nat → ClassId) (q : Nat → Nat) (ws : va_W) (hI : q_I (nsh g q) q ws) : q_mI l y_jStr_isLatin1 prog_31_method_154_code 1 (.boolean) 1 0 0 D g [.ref (g (8 + 2 * 13))] ws (fun r u => ws = u ∧ (1 ≤ r.toInt) ∧ (r.toInt ≤ 1)) := by
  intro sz
  refine q_into (by decide) (Nat.le_of_ble_eq_true rfl) ?_
  intro p e s m below meth c ls hsz C0 V hl
  have hx := C0.1
  have hb := C0.2.1
  have hl : lv_has ls 1 [(0, .ref (g (8 + 2 * 13)))] := hl
  refine q_scmp C0 V rfl w_663 d_31_154_0 ?_
  refine lv_if_eq (tgt := 17) hx hb d_31_154_3 (by decide) (fun c1 => absurd c1 (by decide)) (fun c1 => ?_)
  refine lv_aload_n hx hb d_31_154_6 rfl (lv_at hl 0 rfl) ?_
  refine q_scod (i := 13) C0 V rfl rfl w_1019 d_31_154_7 ?_
  refine lv_if_ne (tgt := 17) hx hb d_31_154_10 (by decide) (fun c2 => absurd (by decide) c2) (fun c2 => ?_)
  refine lv_iconst (v := 1) hx hb d_31_154_13 (by decide) ?_
  refine lv_goto (tgt := 18) hx hb d_31_154_14 (by decide) ?_
  exact q_retz C0 V (by decide) (⟨rfl, (show 1 ≤ (1 : Int32).toInt from (by have z0 : (1 : Int32).toInt = 1 := rfl; omega)), (show (1 : Int32).toInt ≤ 1 from (by have z0 : (1 : Int32).toInt = 1 := rfl; omega))⟩) d_31_154_18
set_option maxRecDepth 100000 in
set_option maxHeartbeats 4000000 in
theorem T_jLat_charAt_13 (l : Launch) (D : va_G) (g : Nat → ClassId) (q : Nat → Nat) (ws : va_W) (x2 : Int32) (hI : q_I (nsh g q) q ws) (pre0 : 0 ≤ x2.toInt) (pre1 : x2.toInt ≤ 3) : q_mI l y_jLat_charAt prog_33_method_2_code 2 (.char) 3 0 0 D g [.ref (g (9 + 2 * 13)), .int x2] ws (fun r u => ws = u ∧ (0 ≤ r.toInt) ∧ (r.toInt ≤ 255)) := by
  intro sz
  refine q_into (by decide) (Nat.le_of_ble_eq_true rfl) ?_
  intro p e s m below meth c ls hsz C0 V hl
  have hx := C0.1
  have hb := C0.2.1
  replace pre0 : q_F (0 ≤ x2.toInt) := pre0
  replace pre1 : q_F (x2.toInt ≤ 3) := pre1
  have hl : lv_has ls 2 [(0, .ref (g (9 + 2 * 13))), (1, .int x2)] := hl
  refine lv_iload_n hx hb d_33_2_0 rfl (lv_at hl 1 rfl) ?_
  refine lv_aload_n hx hb d_33_2_1 rfl (lv_at hl 0 rfl) ?_
  refine q_slen (i := 13) (v := 4) C0 V rfl (by decide) d_33_2_2 ?_
  refine q_gov V (q_runS (As := [.int x2, .int 4]) (rest := []) (d := 2) (mc := 0) (ms := 0) C0 V rfl LS_jLat_9 (T_jStr_checkIndex l D g q ws  x2 4 hI  (by have y0 : (4 : Int32).toInt = 4 := rfl; have t1 : 0 ≤ x2.toInt := pre0; omega) (by have y0 : (4 : Int32).toInt = 4 := rfl; have t1 : x2.toInt ≤ 3 := pre1; omega) _) rfl hl.1 rfl (Nat.le_of_ble_eq_true rfl) ⟨by decide, by decide⟩ ⟨Nat.le_of_ble_eq_true rfl, Nat.le_of_ble_eq_true rfl⟩ d_33_2_3) (fun u1 H locs hp2 V => ?_)
  obtain ⟨rfl, -⟩ := hp2
  refine lv_aload_n hx hb d_33_2_6 rfl (lv_at hl 0 rfl) ?_
  refine lv_iload_n hx hb d_33_2_7 rfl (lv_at hl 1 rfl) ?_
  refine q_sbal (i := 13) (v := (([116, 114, 117, 101] : List Int32).getD x2.toNatClampNeg 0)) C0 V rfl (show vp_in x2 4 from q_ix (x := x2.toInt) rfl (by have t1 : 0 ≤ x2.toInt := pre0; omega) (by have t1 : 0 ≤ x2.toInt := pre0; have t2 : x2.toInt ≤ 3 := pre1; omega)) rfl d_33_2_8 ?_
  obtain ⟨a3, e4⟩ := q_nm ((([116, 114, 117, 101] : List Int32).getD x2.toNatClampNeg 0) : Int32)
  refine q_ti (v := a3) e4 ?_
  refine lv_sipush (v := 255) hx hb d_33_2_9 (by decide) ?_
  refine lv_iand hx hb d_33_2_12 ?_
  obtain ⟨a5, e6⟩ := q_nm (a3 &&& 255 : Int32)
  refine q_ti (v := a5) e6 ?_
  have b7 : q_F (0 ≤ a5.toInt ∧ a5.toInt ≤ 255) := (by rw [← e6]; show 0 ≤ (a3 &&& 255 : Int32).toInt ∧ (a3 &&& 255 : Int32).toInt ≤ 255; exact s_and (by decide))
  refine lv_i2c hx hb d_33_2_13 rfl ?_
  obtain ⟨a8, e9⟩ := q_nm ((a5.toUInt32 % 65536).toInt32 : Int32)
  refine q_ti (v := a8) e9 ?_
  have b10 : q_F (a8.toInt = a5.toInt) := (by rw [← e9]; show ((a5.toUInt32 % 65536).toInt32 : Int32).toInt = a5.toInt; exact (n_i2c (x := a5)).2.2 (by have t1 : 0 ≤ a5.toInt ∧ a5.toInt ≤ 255 := b7; omega) (by have t1 : 0 ≤ a5.toInt ∧ a5.toInt ≤ 255 := b7; omega))
  exact q_retn C0 V (n_chr (by have t1 : 0 ≤ a5.toInt ∧ a5.toInt ≤ 255 := b7; have t2 : a8.toInt = a5.toInt := b10; omega) (by have t1 : 0 ≤ a5.toInt ∧ a5.toInt ≤ 255 := b7; have t2 : a8.toInt = a5.toInt := b10; omega)) (⟨rfl, (show 0 ≤ a8.toInt from (by have t1 : 0 ≤ a5.toInt ∧ a5.toInt ≤ 255 := b7; have t2 : a8.toInt = a5.toInt := b10; omega)), (show a8.toInt ≤ 255 from (by have t1 : 0 ≤ a5.toInt ∧ a5.toInt ≤ 255 := b7; have t2 : a8.toInt = a5.toInt := b10; omega))⟩) d_33_2_14
set_option maxRecDepth 100000 in
set_option maxHeartbeats 4000000 in
theorem T_jStr_charAt_13 (l : Launch) (D : va_G) (g : Nat → ClassId) (q : Nat → Nat) (ws : va_W) (x2 : Int32) (hI : q_I (nsh g q) q ws) (pre0 : 0 ≤ x2.toInt) (pre1 : x2.toInt ≤ 3) : q_mI l y_jStr_charAt prog_31_method_56_code 2 (.char) 4 0 0 D g [.ref (g (8 + 2 * 13)), .int x2] ws (fun r u => ws = u ∧ (0 ≤ r.toInt) ∧ (r.toInt ≤ 255)) := by
  intro sz
  refine q_into (by decide) (Nat.le_of_ble_eq_true rfl) ?_
  intro p e s m below meth c ls hsz C0 V hl
  have hx := C0.1
  have hb := C0.2.1
  replace pre0 : q_F (0 ≤ x2.toInt) := pre0
  replace pre1 : q_F (x2.toInt ≤ 3) := pre1
  have hl : lv_has ls 2 [(0, .ref (g (8 + 2 * 13))), (1, .int x2)] := hl
  refine lv_aload_n hx hb d_31_56_0 rfl (lv_at hl 0 rfl) ?_
  refine q_goi V (q_runVs (As := []) (rest := []) (d := 1) (mc := 0) (ms := 0) (i := 13) C0 V rfl LV_jStr_492 (T_jStr_isLatin1_13 l D g q ws   hI   _) rfl rfl rfl hl.1 rfl (Nat.le_of_ble_eq_true rfl) ⟨by decide, by decide⟩ ⟨Nat.le_of_ble_eq_true rfl, Nat.le_of_ble_eq_true rfl⟩ d_31_56_1) (fun a3 u1 H locs hp2 V => ?_)
  obtain ⟨rfl, b4, b5⟩ := hp2
  replace b4 : q_F (1 ≤ a3.toInt) := b4
  replace b5 : q_F (a3.toInt ≤ 1) := b5
  obtain rfl : a3 = (1 : Int32) := q_Ieq (x := a3.toInt) (y := 1) rfl (by decide) (by have t1 : 1 ≤ a3.toInt := b4; have t2 : a3.toInt ≤ 1 := b5; omega)
  refine lv_if_eq (tgt := 16) hx hb d_31_56_4 (by decide) (fun c6 => absurd c6 (by decide)) (fun c6 => ?_)
  refine lv_aload_n hx hb d_31_56_7 rfl (lv_at hl 0 rfl) ?_
  refine q_sval (i := 13) C0 V rfl rfl w_1018 d_31_56_8 ?_
  refine lv_iload_n hx hb d_31_56_11 rfl (lv_at hl 1 rfl) ?_
  refine q_goi V (q_runS (As := [.ref (g (9 + 2 * 13)), .int x2]) (rest := []) (d := 3) (mc := 0) (ms := 0) C0 V rfl LS_jStr_495 (T_jLat_charAt_13 l D g q ws  x2 hI  (by have t1 : 0 ≤ x2.toInt := pre0; omega) (by have t1 : x2.toInt ≤ 3 := pre1; omega) _) rfl hl.1 rfl (Nat.le_of_ble_eq_true rfl) ⟨by decide, by decide⟩ ⟨Nat.le_of_ble_eq_true rfl, Nat.le_of_ble_eq_true rfl⟩ d_31_56_12) (fun a9 u7 H locs hp8 V => ?_)
  obtain ⟨rfl, b10, b11⟩ := hp8
  replace b10 : q_F (0 ≤ a9.toInt) := b10
  replace b11 : q_F (a9.toInt ≤ 255) := b11
  exact q_retn C0 V (n_chr (by have t1 : 0 ≤ a9.toInt := b10; omega) (by have t1 : a9.toInt ≤ 255 := b11; omega)) (⟨rfl, (show 0 ≤ a9.toInt from (by have t1 : 0 ≤ a9.toInt := b10; omega)), (show a9.toInt ≤ 255 from (by have t1 : a9.toInt ≤ 255 := b11; omega))⟩) d_31_56_15
set_option maxRecDepth 100000 in
set_option maxHeartbeats 4000000 in
theorem T_jStr_coder_14 (l : Launch) (D : va_G) (g : Nat → ClassId) (q : Nat → Nat) (ws : va_W) (hI : q_I (nsh g q) q ws) : q_mI l y_jStr_coder prog_31_method_152_code 1 (.byte) 1 0 0 D g [.ref (g (8 + 2 * 14))] ws (fun r u => ws = u ∧ (0 ≤ r.toInt) ∧ (r.toInt ≤ 0)) := by
  intro sz
  refine q_into (by decide) (Nat.le_of_ble_eq_true rfl) ?_
  intro p e s m below meth c ls hsz C0 V hl
  have hx := C0.1
  have hb := C0.2.1
  have hl : lv_has ls 1 [(0, .ref (g (8 + 2 * 14)))] := hl
  refine q_scmp C0 V rfl w_663 d_31_152_0 ?_
  refine lv_if_eq (tgt := 13) hx hb d_31_152_3 (by decide) (fun c1 => absurd c1 (by decide)) (fun c1 => ?_)
  refine lv_aload_n hx hb d_31_152_6 rfl (lv_at hl 0 rfl) ?_
  refine q_scod (i := 14) C0 V rfl rfl w_1019 d_31_152_7 ?_
  refine lv_goto (tgt := 14) hx hb d_31_152_10 (by decide) ?_
  exact q_retn C0 V (rfl) (⟨rfl, (show 0 ≤ (0 : Int32).toInt from (by have z0 : (0 : Int32).toInt = 0 := rfl; omega)), (show (0 : Int32).toInt ≤ 0 from (by have z0 : (0 : Int32).toInt = 0 := rfl; omega))⟩) d_31_152_14
set_option maxRecDepth 100000 in
set_option maxHeartbeats 4000000 in
theorem T_jStr_length_14 (l : Launch) (D : va_G) (g : Nat → ClassId) (q : Nat → Nat) (ws : va_W) (hI : q_I (nsh g q) q ws) : q_mI l y_jStr_length prog_31_method_54_code 1 (.int) 2 0 0 D g [.ref (g (8 + 2 * 14))] ws (fun r u => ws = u ∧ (2 ≤ r.toInt) ∧ (r.toInt ≤ 2)) := by
  intro sz
  refine q_into (by decide) (Nat.le_of_ble_eq_true rfl) ?_
  intro p e s m below meth c ls hsz C0 V hl
  have hx := C0.1
  have hb := C0.2.1
  have hl : lv_has ls 1 [(0, .ref (g (8 + 2 * 14)))] := hl
  refine lv_aload_n hx hb d_31_54_0 rfl (lv_at hl 0 rfl) ?_
  refine q_sval (i := 14) C0 V rfl rfl w_1018 d_31_54_1 ?_
  refine q_slen (i := 14) (v := 2) C0 V rfl (by decide) d_31_54_4 ?_
  refine lv_aload_n hx hb d_31_54_5 rfl (lv_at hl 0 rfl) ?_
  refine q_goi V (q_runVs (As := []) (rest := [.int 2]) (d := 1) (mc := 0) (ms := 0) (i := 14) C0 V rfl LV_jStr_335 (T_jStr_coder_14 l D g q ws   hI   _) rfl rfl rfl hl.1 rfl (Nat.le_of_ble_eq_true rfl) ⟨by decide, by decide⟩ ⟨Nat.le_of_ble_eq_true rfl, Nat.le_of_ble_eq_true rfl⟩ d_31_54_6) (fun a3 u1 H locs hp2 V => ?_)
  obtain ⟨rfl, b4, b5⟩ := hp2
  replace b4 : q_F (0 ≤ a3.toInt) := b4
  replace b5 : q_F (a3.toInt ≤ 0) := b5
  obtain rfl : a3 = (0 : Int32) := q_Ieq (x := a3.toInt) (y := 0) rfl (by decide) (by have t1 : 0 ≤ a3.toInt := b4; have t2 : a3.toInt ≤ 0 := b5; omega)
  refine lv_ishr hx hb d_31_54_9 ?_
  refine q_ti (v := 2) (by decide) ?_
  exact q_reti C0 V (⟨rfl, (show 2 ≤ (2 : Int32).toInt from (by have z0 : (2 : Int32).toInt = 2 := rfl; omega)), (show (2 : Int32).toInt ≤ 2 from (by have z0 : (2 : Int32).toInt = 2 := rfl; omega))⟩) d_31_54_10
set_option maxRecDepth 100000 in
set_option maxHeartbeats 4000000 in
theorem T_jStr_isLatin1_14 (l : Launch) (D : va_G) (g : Nat → ClassId) (q : Nat → Nat) (ws : va_W) (hI : q_I (nsh g q) q ws) : q_mI l y_jStr_isLatin1 prog_31_method_154_code 1 (.boolean) 1 0 0 D g [.ref (g (8 + 2 * 14))] ws (fun r u => ws = u ∧ (1 ≤ r.toInt) ∧ (r.toInt ≤ 1)) := by
  intro sz
  refine q_into (by decide) (Nat.le_of_ble_eq_true rfl) ?_
  intro p e s m below meth c ls hsz C0 V hl
  have hx := C0.1
  have hb := C0.2.1
  have hl : lv_has ls 1 [(0, .ref (g (8 + 2 * 14)))] := hl
  refine q_scmp C0 V rfl w_663 d_31_154_0 ?_
  refine lv_if_eq (tgt := 17) hx hb d_31_154_3 (by decide) (fun c1 => absurd c1 (by decide)) (fun c1 => ?_)
  refine lv_aload_n hx hb d_31_154_6 rfl (lv_at hl 0 rfl) ?_
  refine q_scod (i := 14) C0 V rfl rfl w_1019 d_31_154_7 ?_
  refine lv_if_ne (tgt := 17) hx hb d_31_154_10 (by decide) (fun c2 => absurd (by decide) c2) (fun c2 => ?_)
  refine lv_iconst (v := 1) hx hb d_31_154_13 (by decide) ?_
  refine lv_goto (tgt := 18) hx hb d_31_154_14 (by decide) ?_
  exact q_retz C0 V (by decide) (⟨rfl, (show 1 ≤ (1 : Int32).toInt from (by have z0 : (1 : Int32).toInt = 1 := rfl; omega)), (show (1 : Int32).toInt ≤ 1 from (by have z0 : (1 : Int32).toInt = 1 := rfl; omega))⟩) d_31_154_18
set_option maxRecDepth 100000 in
set_option maxHeartbeats 4000000 in
theorem T_jLat_indexOfChar_14 (l : Launch) (D : va_G) (g : Nat → ClassId) (q : Nat → Nat) (ws : va_W) (x2 : Int32) (x3 : Int32) (x4 : Int32) (hI : q_I (nsh g q) q ws) (pre0 : 0 ≤ x3.toInt) (pre1 : x4.toInt ≤ 2) : q_mI l y_jLat_indexOfChar prog_33_method_23_code 6 (.int) 1 0 0 D g [.ref (g (9 + 2 * 14)), .int x2, .int x3, .int x4] ws (fun r u => ws = u ∧ (0 ≤ r.toInt + 1) ∧ (r.toInt ≤ 1)) := by
  intro sz
  refine q_into (by decide) (Nat.le_of_ble_eq_true rfl) ?_
  intro p e s m below meth c ls hsz C0 V hl
  have hx := C0.1
  have hb := C0.2.1
  replace pre0 : q_F (0 ≤ x3.toInt) := pre0
  replace pre1 : q_F (x4.toInt ≤ 2) := pre1
  have hl : lv_has ls 6 [(0, .ref (g (9 + 2 * 14))), (1, .int x2), (2, .int x3), (3, .int x4)] := hl
  refine lv_iload_n hx hb d_33_23_0 rfl (lv_at hl 1 rfl) ?_
  refine lv_i2b hx hb d_33_23_1 rfl ?_
  obtain ⟨a1, e2⟩ := q_nm (x2.toInt8.toInt32 : Int32)
  refine q_ti (v := a1) e2 ?_
  refine lv_istore (lv' := [(4, .int a1), (0, .ref (g (9 + 2 * 14))), (1, .int x2), (2, .int x3), (3, .int x4)]) hx hb d_33_23_2 hl (by decide) rfl (fun ls hl => ?_)
  refine lv_iload_n hx hb d_33_23_4 rfl (lv_at hl 3 rfl) ?_
  refine lv_istore (lv' := [(5, .int x3), (4, .int a1), (0, .ref (g (9 + 2 * 14))), (1, .int x2), (2, .int x3), (3, .int x4)]) hx hb d_33_23_5 hl (by decide) rfl (fun ls hl => ?_)
  refine q_loop (X := Int32) (fun z H locs ls _ => q_F (x3.toInt ≤ z.toInt) ∧ q_Wd D g (va_A ws sz) s ws H locs ∧ lv_has ls 6 [(5, .int z), (4, .int a1), (0, .ref (g (9 + 2 * 14))), (3, .int x4)]) (fun z => (2 - z.toInt).toNat) ?_ ((x3 : Int32)) _ _ _ ws ⟨(show q_F (x3.toInt ≤ x3.toInt) from (show x3.toInt ≤ x3.toInt from by omega)), V, q_lw hl (q_lw1 0 rfl (q_lw1 1 rfl (q_lw1 2 rfl (q_lw1 5 rfl q_lw0))))⟩
  rintro lx4 H locs ls _ ⟨i5, V, hl⟩ ih6
  replace i5 : q_F (x3.toInt ≤ lx4.toInt) := i5
  replace hl : lv_has ls 6 [(5, .int lx4), (4, .int a1), (0, .ref (g (9 + 2 * 14))), (3, .int x4)] := hl
  refine lv_iload hx hb d_33_23_7 (lv_at hl 0 rfl) ?_
  refine lv_iload_n hx hb d_33_23_9 rfl (lv_at hl 3 rfl) ?_
  refine lv_icmp_ge (tgt := 31) hx hb d_33_23_10 (by decide) (fun c7 => ?_) (fun c7 => ?_)
  ·
    have b8 : q_F (x4.toInt ≤ lx4.toInt) := (q_leI c7)
    refine lv_iconst (v := (-1)) hx hb d_33_23_31 (by decide) ?_
    exact q_reti C0 V (⟨rfl, (show 0 ≤ (-1 : Int32).toInt + 1 from (by have z3 : (-1 : Int32).toInt = -1 := rfl; omega)), (show (-1 : Int32).toInt ≤ 1 from (by have z3 : (-1 : Int32).toInt = -1 := rfl; omega))⟩) d_33_23_32
  ·
    have b9 : q_F (lx4.toInt < x4.toInt) := (q_nleI c7)
    refine lv_aload_n hx hb d_33_23_13 rfl (lv_at hl 2 rfl) ?_
    refine lv_iload hx hb d_33_23_14 (lv_at hl 0 rfl) ?_
    refine q_sbal (i := 14) (v := (([115, 83] : List Int32).getD lx4.toNatClampNeg 0)) C0 V rfl (show vp_in lx4 2 from q_ix (x := lx4.toInt) rfl (by have t1 : 0 ≤ x3.toInt := pre0; have t2 : x3.toInt ≤ lx4.toInt := i5; omega) (by have t1 : 0 ≤ x3.toInt := pre0; have t2 : x3.toInt ≤ lx4.toInt := i5; have t3 : x4.toInt ≤ 2 := pre1; have t4 : lx4.toInt < x4.toInt := b9; omega)) rfl d_33_23_16 ?_
    obtain ⟨a10, e11⟩ := q_nm ((([115, 83] : List Int32).getD lx4.toNatClampNeg 0) : Int32)
    refine q_ti (v := a10) e11 ?_
    refine lv_iload hx hb d_33_23_17 (lv_at hl 1 rfl) ?_
    refine lv_icmp_ne (tgt := 25) hx hb d_33_23_19 (by decide) (fun c12 => ?_) (fun c12 => ?_)
    ·
      have b13 : q_F (a10.toInt ≠ a1.toInt) := (q_neI c12)
      obtain ⟨a14, e15⟩ := q_nm (lx4 + 1 : Int32)
      have b16 : q_F (a14.toInt = lx4.toInt + 1) := (by rw [← e15]; exact q_addI (y := 1) rfl (by decide) (by have _ := q_lo32 (x := lx4); have _ := q_hi32 (x := lx4); have t1 : lx4.toInt < x4.toInt := b9; have _ := q_lo32 (x := x4); have _ := q_hi32 (x := x4); omega) (by have _ := q_lo32 (x := lx4); have _ := q_hi32 (x := lx4); have t1 : lx4.toInt < x4.toInt := b9; have _ := q_lo32 (x := x4); have _ := q_hi32 (x := x4); omega))
      refine lv_iinc (v := a14) (lv' := [(5, .int a14), (4, .int a1), (0, .ref (g (9 + 2 * 14))), (3, .int x4)]) hx hb d_33_23_25 hl (k := 0) rfl (e15) (by decide) rfl (fun ls hl => ?_)
      refine lv_goto (tgt := 7) hx hb d_33_23_28 (by decide) ?_
      exact ih6 ((a14 : Int32)) _ _ _ ws (show (2 - a14.toInt).toNat < (2 - lx4.toInt).toNat from by have t1 : a14.toInt = lx4.toInt + 1 := b16; have t2 : x4.toInt ≤ 2 := pre1; have t3 : lx4.toInt < x4.toInt := b9; omega) ⟨(show q_F (x3.toInt ≤ a14.toInt) from (show x3.toInt ≤ a14.toInt from by have t1 : x3.toInt ≤ lx4.toInt := i5; have t2 : a14.toInt = lx4.toInt + 1 := b16; omega)), V, q_lw hl (q_lw1 0 rfl (q_lw1 1 rfl (q_lw1 2 rfl (q_lw1 3 rfl q_lw0))))⟩
    ·
      have b17 : q_F (a10.toInt = a1.toInt) := (q_eqI c12)
      refine lv_iload hx hb d_33_23_22 (lv_at hl 0 rfl) ?_
      exact q_reti C0 V (⟨rfl, (show 0 ≤ lx4.toInt + 1 from (by have t1 : 0 ≤ x3.toInt := pre0; have t2 : x3.toInt ≤ lx4.toInt := i5; omega)), (show lx4.toInt ≤ 1 from (by have t1 : x4.toInt ≤ 2 := pre1; have t2 : lx4.toInt < x4.toInt := b9; omega))⟩) d_33_23_24
set_option maxRecDepth 100000 in
set_option maxHeartbeats 4000000 in
theorem T_jLat_indexOf_14 (l : Launch) (D : va_G) (g : Nat → ClassId) (q : Nat → Nat) (ws : va_W) (x2 : Int32) (x3 : Int32) (x4 : Int32) (hI : q_I (nsh g q) q ws) (pre0 : 0 ≤ x3.toInt) (pre1 : x4.toInt ≤ 2) : q_mI l y_jLat_indexOf prog_33_method_22_code 4 (.int) 2 0 0 D g [.ref (g (9 + 2 * 14)), .int x2, .int x3, .int x4] ws (fun r u => ws = u ∧ (0 ≤ r.toInt + 1) ∧ (r.toInt ≤ 1)) := by
  intro sz
  refine q_into (by decide) (Nat.le_of_ble_eq_true rfl) ?_
  intro p e s m below meth c ls hsz C0 V hl
  have hx := C0.1
  have hb := C0.2.1
  replace pre0 : q_F (0 ≤ x3.toInt) := pre0
  replace pre1 : q_F (x4.toInt ≤ 2) := pre1
  have hl : lv_has ls 4 [(0, .ref (g (9 + 2 * 14))), (1, .int x2), (2, .int x3), (3, .int x4)] := hl
  refine lv_iload_n hx hb d_33_22_0 rfl (lv_at hl 1 rfl) ?_
  refine q_goi V (q_runS (As := [.int x2]) (rest := []) (d := 1) (mc := 0) (ms := 0) C0 V rfl LS_jLat_88 (T_jLat_canEncode l D g q ws  x2 hI   _) rfl hl.1 rfl (Nat.le_of_ble_eq_true rfl) ⟨by decide, by decide⟩ ⟨Nat.le_of_ble_eq_true rfl, Nat.le_of_ble_eq_true rfl⟩ d_33_22_1) (fun a3 u1 H locs hp2 V => ?_)
  obtain ⟨rfl, b4, b5⟩ := hp2
  replace b4 : q_F (0 ≤ a3.toInt) := b4
  replace b5 : q_F (a3.toInt ≤ 1) := b5
  refine lv_if_ne (tgt := 9) hx hb d_33_22_4 (by decide) (fun c6 => ?_) (fun c6 => ?_)
  ·
    have b7 : q_F (a3.toInt ≠ 0) := (q_neI c6)
    refine lv_iload_n hx hb d_33_22_9 rfl (lv_at hl 2 rfl) ?_
    refine lv_iconst (v := 0) hx hb d_33_22_10 (by decide) ?_
    refine q_max C0 hl.1 rfl w_1773 w_803 w_7 w_804 ⟨Nat.le_of_ble_eq_true rfl, Nat.le_of_ble_eq_true rfl⟩ ⟨Nat.le_of_ble_eq_true rfl, Nat.le_of_ble_eq_true rfl⟩ d_33_22_11 ?_
    obtain ⟨a8, e9⟩ := q_nm (if x3 < 0 then 0 else x3 : Int32)
    refine q_ti (v := a8) e9 ?_
    have b10 : q_F (x3.toInt ≤ a8.toInt ∧ 0 ≤ a8.toInt ∧ (a8.toInt = x3.toInt ∨ a8.toInt = 0)) := (by rw [← e9]; show x3.toInt ≤ (if x3 < 0 then 0 else x3 : Int32).toInt ∧ 0 ≤ (if x3 < 0 then 0 else x3 : Int32).toInt ∧ ((if x3 < 0 then 0 else x3 : Int32).toInt = x3.toInt ∨ (if x3 < 0 then 0 else x3 : Int32).toInt = 0); exact (by have y1 : (0 : Int32).toInt = 0 := rfl; have z := s_max (a := x3) (b := 0); omega))
    refine lv_istore_n (lv' := [(2, .int a8), (0, .ref (g (9 + 2 * 14))), (1, .int x2), (3, .int x4)]) hx hb d_33_22_14 rfl hl (by decide) rfl (fun ls hl => ?_)
    refine lv_iload_n hx hb d_33_22_15 rfl (lv_at hl 3 rfl) ?_
    refine lv_aload_n hx hb d_33_22_16 rfl (lv_at hl 1 rfl) ?_
    refine q_slen (i := 14) (v := 2) C0 V rfl (by decide) d_33_22_17 ?_
    refine q_min C0 hl.1 rfl w_1774 w_774 w_7 w_775 ⟨Nat.le_of_ble_eq_true rfl, Nat.le_of_ble_eq_true rfl⟩ ⟨Nat.le_of_ble_eq_true rfl, Nat.le_of_ble_eq_true rfl⟩ d_33_22_18 ?_
    obtain ⟨a11, e12⟩ := q_nm (if 2 < x4 then 2 else x4 : Int32)
    refine q_ti (v := a11) e12 ?_
    have b13 : q_F (a11.toInt ≤ x4.toInt ∧ a11.toInt ≤ 2 ∧ (a11.toInt = x4.toInt ∨ a11.toInt = 2)) := (by rw [← e12]; show (if 2 < x4 then 2 else x4 : Int32).toInt ≤ x4.toInt ∧ (if 2 < x4 then 2 else x4 : Int32).toInt ≤ 2 ∧ ((if 2 < x4 then 2 else x4 : Int32).toInt = x4.toInt ∨ (if 2 < x4 then 2 else x4 : Int32).toInt = 2); exact (by have y1 : (2 : Int32).toInt = 2 := rfl; have z := s_min (a := x4) (b := 2); omega))
    refine lv_istore_n (lv' := [(3, .int a11), (2, .int a8), (0, .ref (g (9 + 2 * 14))), (1, .int x2)]) hx hb d_33_22_21 rfl hl (by decide) rfl (fun ls hl => ?_)
    refine lv_iload_n hx hb d_33_22_22 rfl (lv_at hl 1 rfl) ?_
    refine lv_iload_n hx hb d_33_22_23 rfl (lv_at hl 0 rfl) ?_
    refine lv_icmp_lt (tgt := 29) hx hb d_33_22_24 (by decide) (fun c14 => ?_) (fun c14 => ?_)
    ·
      have b15 : q_F (a8.toInt < a11.toInt) := (q_ltI c14)
      refine lv_aload_n hx hb d_33_22_29 rfl (lv_at hl 2 rfl) ?_
      refine lv_iload_n hx hb d_33_22_30 rfl (lv_at hl 3 rfl) ?_
      refine lv_iload_n hx hb d_33_22_31 rfl (lv_at hl 1 rfl) ?_
      refine lv_iload_n hx hb d_33_22_32 rfl (lv_at hl 0 rfl) ?_
      refine q_goi V (q_runS (As := [.ref (g (9 + 2 * 14)), .int x2, .int a8, .int a11]) (rest := []) (d := 1) (mc := 0) (ms := 0) C0 V rfl LS_jLat_95 (T_jLat_indexOfChar_14 l D g q ws  x2 a8 a11 hI  (by have t1 : x3.toInt ≤ a8.toInt ∧ 0 ≤ a8.toInt ∧ (a8.toInt = x3.toInt ∨ a8.toInt = 0) := b10; omega) (by have t1 : a11.toInt ≤ x4.toInt ∧ a11.toInt ≤ 2 ∧ (a11.toInt = x4.toInt ∨ a11.toInt = 2) := b13; omega) _) rfl hl.1 rfl (Nat.le_of_ble_eq_true rfl) ⟨by decide, by decide⟩ ⟨Nat.le_of_ble_eq_true rfl, Nat.le_of_ble_eq_true rfl⟩ d_33_22_33) (fun a18 u16 H locs hp17 V => ?_)
      obtain ⟨rfl, b19, b20⟩ := hp17
      replace b19 : q_F (0 ≤ a18.toInt + 1) := b19
      replace b20 : q_F (a18.toInt ≤ 1) := b20
      exact q_reti C0 V (⟨rfl, (show 0 ≤ a18.toInt + 1 from (by have t1 : 0 ≤ a18.toInt + 1 := b19; omega)), (show a18.toInt ≤ 1 from (by have t1 : a18.toInt ≤ 1 := b20; omega))⟩) d_33_22_36
    ·
      have b21 : q_F (a11.toInt ≤ a8.toInt) := (q_nltI c14)
      refine lv_iconst (v := (-1)) hx hb d_33_22_27 (by decide) ?_
      exact q_reti C0 V (⟨rfl, (show 0 ≤ (-1 : Int32).toInt + 1 from (by have z3 : (-1 : Int32).toInt = -1 := rfl; omega)), (show (-1 : Int32).toInt ≤ 1 from (by have z3 : (-1 : Int32).toInt = -1 := rfl; omega))⟩) d_33_22_28
  ·
    have b22 : q_F (a3.toInt = 0) := (q_eqI c6)
    refine lv_iconst (v := (-1)) hx hb d_33_22_7 (by decide) ?_
    exact q_reti C0 V (⟨rfl, (show 0 ≤ (-1 : Int32).toInt + 1 from (by have z3 : (-1 : Int32).toInt = -1 := rfl; omega)), (show (-1 : Int32).toInt ≤ 1 from (by have z3 : (-1 : Int32).toInt = -1 := rfl; omega))⟩) d_33_22_8
set_option maxRecDepth 100000 in
set_option maxHeartbeats 4000000 in
theorem T_jStr_indexOf_III_14 (l : Launch) (D : va_G) (g : Nat → ClassId) (q : Nat → Nat) (ws : va_W) (x2 : Int32) (x3 : Int32) (hI : q_I (nsh g q) q ws) (pre0 : 0 ≤ x3.toInt) : q_mI l y_jStr_indexOf_III prog_31_method_80_code 3 (.int) 3 0 0 D g [.ref (g (8 + 2 * 14)), .int x2, .int x3] ws (fun r u => ws = u ∧ (0 ≤ r.toInt + 1) ∧ (r.toInt ≤ 1)) := by
  intro sz
  refine q_into (by decide) (Nat.le_of_ble_eq_true rfl) ?_
  intro p e s m below meth c ls hsz C0 V hl
  have hx := C0.1
  have hb := C0.2.1
  replace pre0 : q_F (0 ≤ x3.toInt) := pre0
  have hl : lv_has ls 3 [(0, .ref (g (8 + 2 * 14))), (1, .int x2), (2, .int x3)] := hl
  refine lv_aload_n hx hb d_31_80_0 rfl (lv_at hl 0 rfl) ?_
  refine q_goi V (q_runVs (As := []) (rest := []) (d := 1) (mc := 0) (ms := 0) (i := 14) C0 V rfl LV_jStr_492 (T_jStr_isLatin1_14 l D g q ws   hI   _) rfl rfl rfl hl.1 rfl (Nat.le_of_ble_eq_true rfl) ⟨by decide, by decide⟩ ⟨Nat.le_of_ble_eq_true rfl, Nat.le_of_ble_eq_true rfl⟩ d_31_80_1) (fun a3 u1 H locs hp2 V => ?_)
  obtain ⟨rfl, b4, b5⟩ := hp2
  replace b4 : q_F (1 ≤ a3.toInt) := b4
  replace b5 : q_F (a3.toInt ≤ 1) := b5
  obtain rfl : a3 = (1 : Int32) := q_Ieq (x := a3.toInt) (y := 1) rfl (by decide) (by have t1 : 1 ≤ a3.toInt := b4; have t2 : a3.toInt ≤ 1 := b5; omega)
  refine lv_if_eq (tgt := 23) hx hb d_31_80_4 (by decide) (fun c6 => absurd c6 (by decide)) (fun c6 => ?_)
  refine lv_aload_n hx hb d_31_80_7 rfl (lv_at hl 0 rfl) ?_
  refine q_sval (i := 14) C0 V rfl rfl w_1018 d_31_80_8 ?_
  refine lv_iload_n hx hb d_31_80_11 rfl (lv_at hl 1 rfl) ?_
  refine lv_iload_n hx hb d_31_80_12 rfl (lv_at hl 2 rfl) ?_
  refine lv_aload_n hx hb d_31_80_13 rfl (lv_at hl 0 rfl) ?_
  refine q_goi V (q_runVs (As := []) (rest := [.int x3, .int x2, .ref (g (9 + 2 * 14))]) (d := 2) (mc := 0) (ms := 0) (i := 14) C0 V rfl LV_jStr_505 (T_jStr_length_14 l D g q ws   hI   _) rfl rfl rfl hl.1 rfl (Nat.le_of_ble_eq_true rfl) ⟨by decide, by decide⟩ ⟨Nat.le_of_ble_eq_true rfl, Nat.le_of_ble_eq_true rfl⟩ d_31_80_14) (fun a9 u7 H locs hp8 V => ?_)
  obtain ⟨rfl, b10, b11⟩ := hp8
  replace b10 : q_F (2 ≤ a9.toInt) := b10
  replace b11 : q_F (a9.toInt ≤ 2) := b11
  obtain rfl : a9 = (2 : Int32) := q_Ieq (x := a9.toInt) (y := 2) rfl (by decide) (by have t1 : 2 ≤ a9.toInt := b10; have t2 : a9.toInt ≤ 2 := b11; omega)
  refine q_goi V (q_runS (As := [.ref (g (9 + 2 * 14)), .int x2, .int x3, .int 2]) (rest := []) (d := 2) (mc := 0) (ms := 0) C0 V rfl LS_jStr_637 (T_jLat_indexOf_14 l D g q ws  x2 x3 2 hI  (by have y0 : (2 : Int32).toInt = 2 := rfl; have t1 : 0 ≤ x3.toInt := pre0; omega) (by have y0 : (2 : Int32).toInt = 2 := rfl; omega) _) rfl hl.1 rfl (Nat.le_of_ble_eq_true rfl) ⟨by decide, by decide⟩ ⟨Nat.le_of_ble_eq_true rfl, Nat.le_of_ble_eq_true rfl⟩ d_31_80_17) (fun a14 u12 H locs hp13 V => ?_)
  obtain ⟨rfl, b15, b16⟩ := hp13
  replace b15 : q_F (0 ≤ a14.toInt + 1) := b15
  replace b16 : q_F (a14.toInt ≤ 1) := b16
  refine lv_goto (tgt := 36) hx hb d_31_80_20 (by decide) ?_
  exact q_reti C0 V (⟨rfl, (show 0 ≤ a14.toInt + 1 from (by have t1 : 0 ≤ a14.toInt + 1 := b15; omega)), (show a14.toInt ≤ 1 from (by have t1 : a14.toInt ≤ 1 := b16; omega))⟩) d_31_80_36
set_option maxRecDepth 100000 in
set_option maxHeartbeats 4000000 in
theorem T_jStr_indexOf_II_14 (l : Launch) (D : va_G) (g : Nat → ClassId) (q : Nat → Nat) (ws : va_W) (x2 : Int32) (hI : q_I (nsh g q) q ws) : q_mI l y_jStr_indexOf_II prog_31_method_79_code 2 (.int) 4 0 0 D g [.ref (g (8 + 2 * 14)), .int x2] ws (fun r u => ws = u ∧ (0 ≤ r.toInt + 1) ∧ (r.toInt ≤ 1)) := by
  intro sz
  refine q_into (by decide) (Nat.le_of_ble_eq_true rfl) ?_
  intro p e s m below meth c ls hsz C0 V hl
  have hx := C0.1
  have hb := C0.2.1
  have hl : lv_has ls 2 [(0, .ref (g (8 + 2 * 14))), (1, .int x2)] := hl
  refine lv_aload_n hx hb d_31_79_0 rfl (lv_at hl 0 rfl) ?_
  refine lv_iload_n hx hb d_31_79_1 rfl (lv_at hl 1 rfl) ?_
  refine lv_iconst (v := 0) hx hb d_31_79_2 (by decide) ?_
  refine q_goi V (q_runVs (As := [.int x2, .int 0]) (rest := []) (d := 3) (mc := 0) (ms := 0) (i := 14) C0 V rfl LV_jStr_633 (T_jStr_indexOf_III_14 l D g q ws  x2 0 hI  (by have y0 : (0 : Int32).toInt = 0 := rfl; omega) _) rfl rfl rfl hl.1 rfl (Nat.le_of_ble_eq_true rfl) ⟨by decide, by decide⟩ ⟨Nat.le_of_ble_eq_true rfl, Nat.le_of_ble_eq_true rfl⟩ d_31_79_3) (fun a3 u1 H locs hp2 V => ?_)
  obtain ⟨rfl, b4, b5⟩ := hp2
  replace b4 : q_F (0 ≤ a3.toInt + 1) := b4
  replace b5 : q_F (a3.toInt ≤ 1) := b5
  exact q_reti C0 V (⟨rfl, (show 0 ≤ a3.toInt + 1 from (by have t1 : 0 ≤ a3.toInt + 1 := b4; omega)), (show a3.toInt ≤ 1 from (by have t1 : a3.toInt ≤ 1 := b5; omega))⟩) d_31_79_6
set_option maxRecDepth 100000 in
set_option maxHeartbeats 4000000 in
theorem T_jStr_coder_15 (l : Launch) (D : va_G) (g : Nat → ClassId) (q : Nat → Nat) (ws : va_W) (hI : q_I (nsh g q) q ws) : q_mI l y_jStr_coder prog_31_method_152_code 1 (.byte) 1 0 0 D g [.ref (g (8 + 2 * 15))] ws (fun r u => ws = u ∧ (0 ≤ r.toInt) ∧ (r.toInt ≤ 0)) := by
  intro sz
  refine q_into (by decide) (Nat.le_of_ble_eq_true rfl) ?_
  intro p e s m below meth c ls hsz C0 V hl
  have hx := C0.1
  have hb := C0.2.1
  have hl : lv_has ls 1 [(0, .ref (g (8 + 2 * 15)))] := hl
  refine q_scmp C0 V rfl w_663 d_31_152_0 ?_
  refine lv_if_eq (tgt := 13) hx hb d_31_152_3 (by decide) (fun c1 => absurd c1 (by decide)) (fun c1 => ?_)
  refine lv_aload_n hx hb d_31_152_6 rfl (lv_at hl 0 rfl) ?_
  refine q_scod (i := 15) C0 V rfl rfl w_1019 d_31_152_7 ?_
  refine lv_goto (tgt := 14) hx hb d_31_152_10 (by decide) ?_
  exact q_retn C0 V (rfl) (⟨rfl, (show 0 ≤ (0 : Int32).toInt from (by have z0 : (0 : Int32).toInt = 0 := rfl; omega)), (show (0 : Int32).toInt ≤ 0 from (by have z0 : (0 : Int32).toInt = 0 := rfl; omega))⟩) d_31_152_14
set_option maxRecDepth 100000 in
set_option maxHeartbeats 4000000 in
theorem T_jStr_length_15 (l : Launch) (D : va_G) (g : Nat → ClassId) (q : Nat → Nat) (ws : va_W) (hI : q_I (nsh g q) q ws) : q_mI l y_jStr_length prog_31_method_54_code 1 (.int) 2 0 0 D g [.ref (g (8 + 2 * 15))] ws (fun r u => ws = u ∧ (4 ≤ r.toInt) ∧ (r.toInt ≤ 4)) := by
  intro sz
  refine q_into (by decide) (Nat.le_of_ble_eq_true rfl) ?_
  intro p e s m below meth c ls hsz C0 V hl
  have hx := C0.1
  have hb := C0.2.1
  have hl : lv_has ls 1 [(0, .ref (g (8 + 2 * 15)))] := hl
  refine lv_aload_n hx hb d_31_54_0 rfl (lv_at hl 0 rfl) ?_
  refine q_sval (i := 15) C0 V rfl rfl w_1018 d_31_54_1 ?_
  refine q_slen (i := 15) (v := 4) C0 V rfl (by decide) d_31_54_4 ?_
  refine lv_aload_n hx hb d_31_54_5 rfl (lv_at hl 0 rfl) ?_
  refine q_goi V (q_runVs (As := []) (rest := [.int 4]) (d := 1) (mc := 0) (ms := 0) (i := 15) C0 V rfl LV_jStr_335 (T_jStr_coder_15 l D g q ws   hI   _) rfl rfl rfl hl.1 rfl (Nat.le_of_ble_eq_true rfl) ⟨by decide, by decide⟩ ⟨Nat.le_of_ble_eq_true rfl, Nat.le_of_ble_eq_true rfl⟩ d_31_54_6) (fun a3 u1 H locs hp2 V => ?_)
  obtain ⟨rfl, b4, b5⟩ := hp2
  replace b4 : q_F (0 ≤ a3.toInt) := b4
  replace b5 : q_F (a3.toInt ≤ 0) := b5
  obtain rfl : a3 = (0 : Int32) := q_Ieq (x := a3.toInt) (y := 0) rfl (by decide) (by have t1 : 0 ≤ a3.toInt := b4; have t2 : a3.toInt ≤ 0 := b5; omega)
  refine lv_ishr hx hb d_31_54_9 ?_
  refine q_ti (v := 4) (by decide) ?_
  exact q_reti C0 V (⟨rfl, (show 4 ≤ (4 : Int32).toInt from (by have z0 : (4 : Int32).toInt = 4 := rfl; omega)), (show (4 : Int32).toInt ≤ 4 from (by have z0 : (4 : Int32).toInt = 4 := rfl; omega))⟩) d_31_54_10
set_option maxRecDepth 100000 in
set_option maxHeartbeats 4000000 in
theorem T_jStr_isLatin1_15 (l : Launch) (D : va_G) (g : Nat → ClassId) (q : Nat → Nat) (ws : va_W) (hI : q_I (nsh g q) q ws) : q_mI l y_jStr_isLatin1 prog_31_method_154_code 1 (.boolean) 1 0 0 D g [.ref (g (8 + 2 * 15))] ws (fun r u => ws = u ∧ (1 ≤ r.toInt) ∧ (r.toInt ≤ 1)) := by
  intro sz
  refine q_into (by decide) (Nat.le_of_ble_eq_true rfl) ?_
  intro p e s m below meth c ls hsz C0 V hl
  have hx := C0.1
  have hb := C0.2.1
  have hl : lv_has ls 1 [(0, .ref (g (8 + 2 * 15)))] := hl
  refine q_scmp C0 V rfl w_663 d_31_154_0 ?_
  refine lv_if_eq (tgt := 17) hx hb d_31_154_3 (by decide) (fun c1 => absurd c1 (by decide)) (fun c1 => ?_)
  refine lv_aload_n hx hb d_31_154_6 rfl (lv_at hl 0 rfl) ?_
  refine q_scod (i := 15) C0 V rfl rfl w_1019 d_31_154_7 ?_
  refine lv_if_ne (tgt := 17) hx hb d_31_154_10 (by decide) (fun c2 => absurd (by decide) c2) (fun c2 => ?_)
  refine lv_iconst (v := 1) hx hb d_31_154_13 (by decide) ?_
  refine lv_goto (tgt := 18) hx hb d_31_154_14 (by decide) ?_
  exact q_retz C0 V (by decide) (⟨rfl, (show 1 ≤ (1 : Int32).toInt from (by have z0 : (1 : Int32).toInt = 1 := rfl; omega)), (show (1 : Int32).toInt ≤ 1 from (by have z0 : (1 : Int32).toInt = 1 := rfl; omega))⟩) d_31_154_18
set_option maxRecDepth 100000 in
set_option maxHeartbeats 4000000 in
theorem T_jLat_charAt_15 (l : Launch) (D : va_G) (g : Nat → ClassId) (q : Nat → Nat) (ws : va_W) (x2 : Int32) (hI : q_I (nsh g q) q ws) (pre0 : 0 ≤ x2.toInt) (pre1 : x2.toInt ≤ 3) : q_mI l y_jLat_charAt prog_33_method_2_code 2 (.char) 3 0 0 D g [.ref (g (9 + 2 * 15)), .int x2] ws (fun r u => ws = u ∧ (0 ≤ r.toInt) ∧ (r.toInt ≤ 255)) := by
  intro sz
  refine q_into (by decide) (Nat.le_of_ble_eq_true rfl) ?_
  intro p e s m below meth c ls hsz C0 V hl
  have hx := C0.1
  have hb := C0.2.1
  replace pre0 : q_F (0 ≤ x2.toInt) := pre0
  replace pre1 : q_F (x2.toInt ≤ 3) := pre1
  have hl : lv_has ls 2 [(0, .ref (g (9 + 2 * 15))), (1, .int x2)] := hl
  refine lv_iload_n hx hb d_33_2_0 rfl (lv_at hl 1 rfl) ?_
  refine lv_aload_n hx hb d_33_2_1 rfl (lv_at hl 0 rfl) ?_
  refine q_slen (i := 15) (v := 4) C0 V rfl (by decide) d_33_2_2 ?_
  refine q_gov V (q_runS (As := [.int x2, .int 4]) (rest := []) (d := 2) (mc := 0) (ms := 0) C0 V rfl LS_jLat_9 (T_jStr_checkIndex l D g q ws  x2 4 hI  (by have y0 : (4 : Int32).toInt = 4 := rfl; have t1 : 0 ≤ x2.toInt := pre0; omega) (by have y0 : (4 : Int32).toInt = 4 := rfl; have t1 : x2.toInt ≤ 3 := pre1; omega) _) rfl hl.1 rfl (Nat.le_of_ble_eq_true rfl) ⟨by decide, by decide⟩ ⟨Nat.le_of_ble_eq_true rfl, Nat.le_of_ble_eq_true rfl⟩ d_33_2_3) (fun u1 H locs hp2 V => ?_)
  obtain ⟨rfl, -⟩ := hp2
  refine lv_aload_n hx hb d_33_2_6 rfl (lv_at hl 0 rfl) ?_
  refine lv_iload_n hx hb d_33_2_7 rfl (lv_at hl 1 rfl) ?_
  refine q_sbal (i := 15) (v := (([110, 117, 108, 108] : List Int32).getD x2.toNatClampNeg 0)) C0 V rfl (show vp_in x2 4 from q_ix (x := x2.toInt) rfl (by have t1 : 0 ≤ x2.toInt := pre0; omega) (by have t1 : 0 ≤ x2.toInt := pre0; have t2 : x2.toInt ≤ 3 := pre1; omega)) rfl d_33_2_8 ?_
  obtain ⟨a3, e4⟩ := q_nm ((([110, 117, 108, 108] : List Int32).getD x2.toNatClampNeg 0) : Int32)
  refine q_ti (v := a3) e4 ?_
  refine lv_sipush (v := 255) hx hb d_33_2_9 (by decide) ?_
  refine lv_iand hx hb d_33_2_12 ?_
  obtain ⟨a5, e6⟩ := q_nm (a3 &&& 255 : Int32)
  refine q_ti (v := a5) e6 ?_
  have b7 : q_F (0 ≤ a5.toInt ∧ a5.toInt ≤ 255) := (by rw [← e6]; show 0 ≤ (a3 &&& 255 : Int32).toInt ∧ (a3 &&& 255 : Int32).toInt ≤ 255; exact s_and (by decide))
  refine lv_i2c hx hb d_33_2_13 rfl ?_
  obtain ⟨a8, e9⟩ := q_nm ((a5.toUInt32 % 65536).toInt32 : Int32)
  refine q_ti (v := a8) e9 ?_
  have b10 : q_F (a8.toInt = a5.toInt) := (by rw [← e9]; show ((a5.toUInt32 % 65536).toInt32 : Int32).toInt = a5.toInt; exact (n_i2c (x := a5)).2.2 (by have t1 : 0 ≤ a5.toInt ∧ a5.toInt ≤ 255 := b7; omega) (by have t1 : 0 ≤ a5.toInt ∧ a5.toInt ≤ 255 := b7; omega))
  exact q_retn C0 V (n_chr (by have t1 : 0 ≤ a5.toInt ∧ a5.toInt ≤ 255 := b7; have t2 : a8.toInt = a5.toInt := b10; omega) (by have t1 : 0 ≤ a5.toInt ∧ a5.toInt ≤ 255 := b7; have t2 : a8.toInt = a5.toInt := b10; omega)) (⟨rfl, (show 0 ≤ a8.toInt from (by have t1 : 0 ≤ a5.toInt ∧ a5.toInt ≤ 255 := b7; have t2 : a8.toInt = a5.toInt := b10; omega)), (show a8.toInt ≤ 255 from (by have t1 : 0 ≤ a5.toInt ∧ a5.toInt ≤ 255 := b7; have t2 : a8.toInt = a5.toInt := b10; omega))⟩) d_33_2_14
set_option maxRecDepth 100000 in
set_option maxHeartbeats 4000000 in
theorem T_jStr_charAt_15 (l : Launch) (D : va_G) (g : Nat → ClassId) (q : Nat → Nat) (ws : va_W) (x2 : Int32) (hI : q_I (nsh g q) q ws) (pre0 : 0 ≤ x2.toInt) (pre1 : x2.toInt ≤ 3) : q_mI l y_jStr_charAt prog_31_method_56_code 2 (.char) 4 0 0 D g [.ref (g (8 + 2 * 15)), .int x2] ws (fun r u => ws = u ∧ (0 ≤ r.toInt) ∧ (r.toInt ≤ 255)) := by
  intro sz
  refine q_into (by decide) (Nat.le_of_ble_eq_true rfl) ?_
  intro p e s m below meth c ls hsz C0 V hl
  have hx := C0.1
  have hb := C0.2.1
  replace pre0 : q_F (0 ≤ x2.toInt) := pre0
  replace pre1 : q_F (x2.toInt ≤ 3) := pre1
  have hl : lv_has ls 2 [(0, .ref (g (8 + 2 * 15))), (1, .int x2)] := hl
  refine lv_aload_n hx hb d_31_56_0 rfl (lv_at hl 0 rfl) ?_
  refine q_goi V (q_runVs (As := []) (rest := []) (d := 1) (mc := 0) (ms := 0) (i := 15) C0 V rfl LV_jStr_492 (T_jStr_isLatin1_15 l D g q ws   hI   _) rfl rfl rfl hl.1 rfl (Nat.le_of_ble_eq_true rfl) ⟨by decide, by decide⟩ ⟨Nat.le_of_ble_eq_true rfl, Nat.le_of_ble_eq_true rfl⟩ d_31_56_1) (fun a3 u1 H locs hp2 V => ?_)
  obtain ⟨rfl, b4, b5⟩ := hp2
  replace b4 : q_F (1 ≤ a3.toInt) := b4
  replace b5 : q_F (a3.toInt ≤ 1) := b5
  obtain rfl : a3 = (1 : Int32) := q_Ieq (x := a3.toInt) (y := 1) rfl (by decide) (by have t1 : 1 ≤ a3.toInt := b4; have t2 : a3.toInt ≤ 1 := b5; omega)
  refine lv_if_eq (tgt := 16) hx hb d_31_56_4 (by decide) (fun c6 => absurd c6 (by decide)) (fun c6 => ?_)
  refine lv_aload_n hx hb d_31_56_7 rfl (lv_at hl 0 rfl) ?_
  refine q_sval (i := 15) C0 V rfl rfl w_1018 d_31_56_8 ?_
  refine lv_iload_n hx hb d_31_56_11 rfl (lv_at hl 1 rfl) ?_
  refine q_goi V (q_runS (As := [.ref (g (9 + 2 * 15)), .int x2]) (rest := []) (d := 3) (mc := 0) (ms := 0) C0 V rfl LS_jStr_495 (T_jLat_charAt_15 l D g q ws  x2 hI  (by have t1 : 0 ≤ x2.toInt := pre0; omega) (by have t1 : x2.toInt ≤ 3 := pre1; omega) _) rfl hl.1 rfl (Nat.le_of_ble_eq_true rfl) ⟨by decide, by decide⟩ ⟨Nat.le_of_ble_eq_true rfl, Nat.le_of_ble_eq_true rfl⟩ d_31_56_12) (fun a9 u7 H locs hp8 V => ?_)
  obtain ⟨rfl, b10, b11⟩ := hp8
  replace b10 : q_F (0 ≤ a9.toInt) := b10
  replace b11 : q_F (a9.toInt ≤ 255) := b11
  exact q_retn C0 V (n_chr (by have t1 : 0 ≤ a9.toInt := b10; omega) (by have t1 : a9.toInt ≤ 255 := b11; omega)) (⟨rfl, (show 0 ≤ a9.toInt from (by have t1 : 0 ≤ a9.toInt := b10; omega)), (show a9.toInt ≤ 255 from (by have t1 : a9.toInt ≤ 255 := b11; omega))⟩) d_31_56_15
set_option maxRecDepth 100000 in
set_option maxHeartbeats 4000000 in
theorem T_jStr_coder_16 (l : Launch) (D : va_G) (g : Nat → ClassId) (q : Nat → Nat) (ws : va_W) (hI : q_I (nsh g q) q ws) : q_mI l y_jStr_coder prog_31_method_152_code 1 (.byte) 1 0 0 D g [.ref (g (8 + 2 * 16))] ws (fun r u => ws = u ∧ (0 ≤ r.toInt) ∧ (r.toInt ≤ 0)) := by
  intro sz
  refine q_into (by decide) (Nat.le_of_ble_eq_true rfl) ?_
  intro p e s m below meth c ls hsz C0 V hl
  have hx := C0.1
  have hb := C0.2.1
  have hl : lv_has ls 1 [(0, .ref (g (8 + 2 * 16)))] := hl
  refine q_scmp C0 V rfl w_663 d_31_152_0 ?_
  refine lv_if_eq (tgt := 13) hx hb d_31_152_3 (by decide) (fun c1 => absurd c1 (by decide)) (fun c1 => ?_)
  refine lv_aload_n hx hb d_31_152_6 rfl (lv_at hl 0 rfl) ?_
  refine q_scod (i := 16) C0 V rfl rfl w_1019 d_31_152_7 ?_
  refine lv_goto (tgt := 14) hx hb d_31_152_10 (by decide) ?_
  exact q_retn C0 V (rfl) (⟨rfl, (show 0 ≤ (0 : Int32).toInt from (by have z0 : (0 : Int32).toInt = 0 := rfl; omega)), (show (0 : Int32).toInt ≤ 0 from (by have z0 : (0 : Int32).toInt = 0 := rfl; omega))⟩) d_31_152_14
set_option maxRecDepth 100000 in
set_option maxHeartbeats 4000000 in
theorem T_jStr_length_16 (l : Launch) (D : va_G) (g : Nat → ClassId) (q : Nat → Nat) (ws : va_W) (hI : q_I (nsh g q) q ws) : q_mI l y_jStr_length prog_31_method_54_code 1 (.int) 2 0 0 D g [.ref (g (8 + 2 * 16))] ws (fun r u => ws = u ∧ (3 ≤ r.toInt) ∧ (r.toInt ≤ 3)) := by
  intro sz
  refine q_into (by decide) (Nat.le_of_ble_eq_true rfl) ?_
  intro p e s m below meth c ls hsz C0 V hl
  have hx := C0.1
  have hb := C0.2.1
  have hl : lv_has ls 1 [(0, .ref (g (8 + 2 * 16)))] := hl
  refine lv_aload_n hx hb d_31_54_0 rfl (lv_at hl 0 rfl) ?_
  refine q_sval (i := 16) C0 V rfl rfl w_1018 d_31_54_1 ?_
  refine q_slen (i := 16) (v := 3) C0 V rfl (by decide) d_31_54_4 ?_
  refine lv_aload_n hx hb d_31_54_5 rfl (lv_at hl 0 rfl) ?_
  refine q_goi V (q_runVs (As := []) (rest := [.int 3]) (d := 1) (mc := 0) (ms := 0) (i := 16) C0 V rfl LV_jStr_335 (T_jStr_coder_16 l D g q ws   hI   _) rfl rfl rfl hl.1 rfl (Nat.le_of_ble_eq_true rfl) ⟨by decide, by decide⟩ ⟨Nat.le_of_ble_eq_true rfl, Nat.le_of_ble_eq_true rfl⟩ d_31_54_6) (fun a3 u1 H locs hp2 V => ?_)
  obtain ⟨rfl, b4, b5⟩ := hp2
  replace b4 : q_F (0 ≤ a3.toInt) := b4
  replace b5 : q_F (a3.toInt ≤ 0) := b5
  obtain rfl : a3 = (0 : Int32) := q_Ieq (x := a3.toInt) (y := 0) rfl (by decide) (by have t1 : 0 ≤ a3.toInt := b4; have t2 : a3.toInt ≤ 0 := b5; omega)
  refine lv_ishr hx hb d_31_54_9 ?_
  refine q_ti (v := 3) (by decide) ?_
  exact q_reti C0 V (⟨rfl, (show 3 ≤ (3 : Int32).toInt from (by have z0 : (3 : Int32).toInt = 3 := rfl; omega)), (show (3 : Int32).toInt ≤ 3 from (by have z0 : (3 : Int32).toInt = 3 := rfl; omega))⟩) d_31_54_10
set_option maxRecDepth 100000 in
set_option maxHeartbeats 4000000 in
theorem T_jStr_isLatin1_16 (l : Launch) (D : va_G) (g : Nat → ClassId) (q : Nat → Nat) (ws : va_W) (hI : q_I (nsh g q) q ws) : q_mI l y_jStr_isLatin1 prog_31_method_154_code 1 (.boolean) 1 0 0 D g [.ref (g (8 + 2 * 16))] ws (fun r u => ws = u ∧ (1 ≤ r.toInt) ∧ (r.toInt ≤ 1)) := by
  intro sz
  refine q_into (by decide) (Nat.le_of_ble_eq_true rfl) ?_
  intro p e s m below meth c ls hsz C0 V hl
  have hx := C0.1
  have hb := C0.2.1
  have hl : lv_has ls 1 [(0, .ref (g (8 + 2 * 16)))] := hl
  refine q_scmp C0 V rfl w_663 d_31_154_0 ?_
  refine lv_if_eq (tgt := 17) hx hb d_31_154_3 (by decide) (fun c1 => absurd c1 (by decide)) (fun c1 => ?_)
  refine lv_aload_n hx hb d_31_154_6 rfl (lv_at hl 0 rfl) ?_
  refine q_scod (i := 16) C0 V rfl rfl w_1019 d_31_154_7 ?_
  refine lv_if_ne (tgt := 17) hx hb d_31_154_10 (by decide) (fun c2 => absurd (by decide) c2) (fun c2 => ?_)
  refine lv_iconst (v := 1) hx hb d_31_154_13 (by decide) ?_
  refine lv_goto (tgt := 18) hx hb d_31_154_14 (by decide) ?_
  exact q_retz C0 V (by decide) (⟨rfl, (show 1 ≤ (1 : Int32).toInt from (by have z0 : (1 : Int32).toInt = 1 := rfl; omega)), (show (1 : Int32).toInt ≤ 1 from (by have z0 : (1 : Int32).toInt = 1 := rfl; omega))⟩) d_31_154_18
set_option maxRecDepth 100000 in
set_option maxHeartbeats 4000000 in
theorem T_jLat_indexOfChar_16 (l : Launch) (D : va_G) (g : Nat → ClassId) (q : Nat → Nat) (ws : va_W) (x2 : Int32) (x3 : Int32) (x4 : Int32) (hI : q_I (nsh g q) q ws) (pre0 : 0 ≤ x3.toInt) (pre1 : x4.toInt ≤ 3) : q_mI l y_jLat_indexOfChar prog_33_method_23_code 6 (.int) 1 0 0 D g [.ref (g (9 + 2 * 16)), .int x2, .int x3, .int x4] ws (fun r u => ws = u ∧ (0 ≤ r.toInt + 1) ∧ (r.toInt ≤ 2)) := by
  intro sz
  refine q_into (by decide) (Nat.le_of_ble_eq_true rfl) ?_
  intro p e s m below meth c ls hsz C0 V hl
  have hx := C0.1
  have hb := C0.2.1
  replace pre0 : q_F (0 ≤ x3.toInt) := pre0
  replace pre1 : q_F (x4.toInt ≤ 3) := pre1
  have hl : lv_has ls 6 [(0, .ref (g (9 + 2 * 16))), (1, .int x2), (2, .int x3), (3, .int x4)] := hl
  refine lv_iload_n hx hb d_33_23_0 rfl (lv_at hl 1 rfl) ?_
  refine lv_i2b hx hb d_33_23_1 rfl ?_
  obtain ⟨a1, e2⟩ := q_nm (x2.toInt8.toInt32 : Int32)
  refine q_ti (v := a1) e2 ?_
  refine lv_istore (lv' := [(4, .int a1), (0, .ref (g (9 + 2 * 16))), (1, .int x2), (2, .int x3), (3, .int x4)]) hx hb d_33_23_2 hl (by decide) rfl (fun ls hl => ?_)
  refine lv_iload_n hx hb d_33_23_4 rfl (lv_at hl 3 rfl) ?_
  refine lv_istore (lv' := [(5, .int x3), (4, .int a1), (0, .ref (g (9 + 2 * 16))), (1, .int x2), (2, .int x3), (3, .int x4)]) hx hb d_33_23_5 hl (by decide) rfl (fun ls hl => ?_)
  refine q_loop (X := Int32) (fun z H locs ls _ => q_F (x3.toInt ≤ z.toInt) ∧ q_Wd D g (va_A ws sz) s ws H locs ∧ lv_has ls 6 [(5, .int z), (4, .int a1), (0, .ref (g (9 + 2 * 16))), (3, .int x4)]) (fun z => (3 - z.toInt).toNat) ?_ ((x3 : Int32)) _ _ _ ws ⟨(show q_F (x3.toInt ≤ x3.toInt) from (show x3.toInt ≤ x3.toInt from by omega)), V, q_lw hl (q_lw1 0 rfl (q_lw1 1 rfl (q_lw1 2 rfl (q_lw1 5 rfl q_lw0))))⟩
  rintro lx4 H locs ls _ ⟨i5, V, hl⟩ ih6
  replace i5 : q_F (x3.toInt ≤ lx4.toInt) := i5
  replace hl : lv_has ls 6 [(5, .int lx4), (4, .int a1), (0, .ref (g (9 + 2 * 16))), (3, .int x4)] := hl
  refine lv_iload hx hb d_33_23_7 (lv_at hl 0 rfl) ?_
  refine lv_iload_n hx hb d_33_23_9 rfl (lv_at hl 3 rfl) ?_
  refine lv_icmp_ge (tgt := 31) hx hb d_33_23_10 (by decide) (fun c7 => ?_) (fun c7 => ?_)
  ·
    have b8 : q_F (x4.toInt ≤ lx4.toInt) := (q_leI c7)
    refine lv_iconst (v := (-1)) hx hb d_33_23_31 (by decide) ?_
    exact q_reti C0 V (⟨rfl, (show 0 ≤ (-1 : Int32).toInt + 1 from (by have z3 : (-1 : Int32).toInt = -1 := rfl; omega)), (show (-1 : Int32).toInt ≤ 2 from (by have z3 : (-1 : Int32).toInt = -1 := rfl; omega))⟩) d_33_23_32
  ·
    have b9 : q_F (lx4.toInt < x4.toInt) := (q_nleI c7)
    refine lv_aload_n hx hb d_33_23_13 rfl (lv_at hl 2 rfl) ?_
    refine lv_iload hx hb d_33_23_14 (lv_at hl 0 rfl) ?_
    refine q_sbal (i := 16) (v := (([111, 120, 88] : List Int32).getD lx4.toNatClampNeg 0)) C0 V rfl (show vp_in lx4 3 from q_ix (x := lx4.toInt) rfl (by have t1 : 0 ≤ x3.toInt := pre0; have t2 : x3.toInt ≤ lx4.toInt := i5; omega) (by have t1 : 0 ≤ x3.toInt := pre0; have t2 : x3.toInt ≤ lx4.toInt := i5; have t3 : x4.toInt ≤ 3 := pre1; have t4 : lx4.toInt < x4.toInt := b9; omega)) rfl d_33_23_16 ?_
    obtain ⟨a10, e11⟩ := q_nm ((([111, 120, 88] : List Int32).getD lx4.toNatClampNeg 0) : Int32)
    refine q_ti (v := a10) e11 ?_
    refine lv_iload hx hb d_33_23_17 (lv_at hl 1 rfl) ?_
    refine lv_icmp_ne (tgt := 25) hx hb d_33_23_19 (by decide) (fun c12 => ?_) (fun c12 => ?_)
    ·
      have b13 : q_F (a10.toInt ≠ a1.toInt) := (q_neI c12)
      obtain ⟨a14, e15⟩ := q_nm (lx4 + 1 : Int32)
      have b16 : q_F (a14.toInt = lx4.toInt + 1) := (by rw [← e15]; exact q_addI (y := 1) rfl (by decide) (by have _ := q_lo32 (x := lx4); have _ := q_hi32 (x := lx4); have t1 : lx4.toInt < x4.toInt := b9; have _ := q_lo32 (x := x4); have _ := q_hi32 (x := x4); omega) (by have _ := q_lo32 (x := lx4); have _ := q_hi32 (x := lx4); have t1 : lx4.toInt < x4.toInt := b9; have _ := q_lo32 (x := x4); have _ := q_hi32 (x := x4); omega))
      refine lv_iinc (v := a14) (lv' := [(5, .int a14), (4, .int a1), (0, .ref (g (9 + 2 * 16))), (3, .int x4)]) hx hb d_33_23_25 hl (k := 0) rfl (e15) (by decide) rfl (fun ls hl => ?_)
      refine lv_goto (tgt := 7) hx hb d_33_23_28 (by decide) ?_
      exact ih6 ((a14 : Int32)) _ _ _ ws (show (3 - a14.toInt).toNat < (3 - lx4.toInt).toNat from by have t1 : a14.toInt = lx4.toInt + 1 := b16; have t2 : x4.toInt ≤ 3 := pre1; have t3 : lx4.toInt < x4.toInt := b9; omega) ⟨(show q_F (x3.toInt ≤ a14.toInt) from (show x3.toInt ≤ a14.toInt from by have t1 : x3.toInt ≤ lx4.toInt := i5; have t2 : a14.toInt = lx4.toInt + 1 := b16; omega)), V, q_lw hl (q_lw1 0 rfl (q_lw1 1 rfl (q_lw1 2 rfl (q_lw1 3 rfl q_lw0))))⟩
    ·
      have b17 : q_F (a10.toInt = a1.toInt) := (q_eqI c12)
      refine lv_iload hx hb d_33_23_22 (lv_at hl 0 rfl) ?_
      exact q_reti C0 V (⟨rfl, (show 0 ≤ lx4.toInt + 1 from (by have t1 : 0 ≤ x3.toInt := pre0; have t2 : x3.toInt ≤ lx4.toInt := i5; omega)), (show lx4.toInt ≤ 2 from (by have t1 : x4.toInt ≤ 3 := pre1; have t2 : lx4.toInt < x4.toInt := b9; omega))⟩) d_33_23_24
set_option maxRecDepth 100000 in
set_option maxHeartbeats 4000000 in
theorem T_jLat_indexOf_16 (l : Launch) (D : va_G) (g : Nat → ClassId) (q : Nat → Nat) (ws : va_W) (x2 : Int32) (x3 : Int32) (x4 : Int32) (hI : q_I (nsh g q) q ws) (pre0 : 0 ≤ x3.toInt) (pre1 : x4.toInt ≤ 3) : q_mI l y_jLat_indexOf prog_33_method_22_code 4 (.int) 2 0 0 D g [.ref (g (9 + 2 * 16)), .int x2, .int x3, .int x4] ws (fun r u => ws = u ∧ (0 ≤ r.toInt + 1) ∧ (r.toInt ≤ 2)) := by
  intro sz
  refine q_into (by decide) (Nat.le_of_ble_eq_true rfl) ?_
  intro p e s m below meth c ls hsz C0 V hl
  have hx := C0.1
  have hb := C0.2.1
  replace pre0 : q_F (0 ≤ x3.toInt) := pre0
  replace pre1 : q_F (x4.toInt ≤ 3) := pre1
  have hl : lv_has ls 4 [(0, .ref (g (9 + 2 * 16))), (1, .int x2), (2, .int x3), (3, .int x4)] := hl
  refine lv_iload_n hx hb d_33_22_0 rfl (lv_at hl 1 rfl) ?_
  refine q_goi V (q_runS (As := [.int x2]) (rest := []) (d := 1) (mc := 0) (ms := 0) C0 V rfl LS_jLat_88 (T_jLat_canEncode l D g q ws  x2 hI   _) rfl hl.1 rfl (Nat.le_of_ble_eq_true rfl) ⟨by decide, by decide⟩ ⟨Nat.le_of_ble_eq_true rfl, Nat.le_of_ble_eq_true rfl⟩ d_33_22_1) (fun a3 u1 H locs hp2 V => ?_)
  obtain ⟨rfl, b4, b5⟩ := hp2
  replace b4 : q_F (0 ≤ a3.toInt) := b4
  replace b5 : q_F (a3.toInt ≤ 1) := b5
  refine lv_if_ne (tgt := 9) hx hb d_33_22_4 (by decide) (fun c6 => ?_) (fun c6 => ?_)
  ·
    have b7 : q_F (a3.toInt ≠ 0) := (q_neI c6)
    refine lv_iload_n hx hb d_33_22_9 rfl (lv_at hl 2 rfl) ?_
    refine lv_iconst (v := 0) hx hb d_33_22_10 (by decide) ?_
    refine q_max C0 hl.1 rfl w_1773 w_803 w_7 w_804 ⟨Nat.le_of_ble_eq_true rfl, Nat.le_of_ble_eq_true rfl⟩ ⟨Nat.le_of_ble_eq_true rfl, Nat.le_of_ble_eq_true rfl⟩ d_33_22_11 ?_
    obtain ⟨a8, e9⟩ := q_nm (if x3 < 0 then 0 else x3 : Int32)
    refine q_ti (v := a8) e9 ?_
    have b10 : q_F (x3.toInt ≤ a8.toInt ∧ 0 ≤ a8.toInt ∧ (a8.toInt = x3.toInt ∨ a8.toInt = 0)) := (by rw [← e9]; show x3.toInt ≤ (if x3 < 0 then 0 else x3 : Int32).toInt ∧ 0 ≤ (if x3 < 0 then 0 else x3 : Int32).toInt ∧ ((if x3 < 0 then 0 else x3 : Int32).toInt = x3.toInt ∨ (if x3 < 0 then 0 else x3 : Int32).toInt = 0); exact (by have y1 : (0 : Int32).toInt = 0 := rfl; have z := s_max (a := x3) (b := 0); omega))
    refine lv_istore_n (lv' := [(2, .int a8), (0, .ref (g (9 + 2 * 16))), (1, .int x2), (3, .int x4)]) hx hb d_33_22_14 rfl hl (by decide) rfl (fun ls hl => ?_)
    refine lv_iload_n hx hb d_33_22_15 rfl (lv_at hl 3 rfl) ?_
    refine lv_aload_n hx hb d_33_22_16 rfl (lv_at hl 1 rfl) ?_
    refine q_slen (i := 16) (v := 3) C0 V rfl (by decide) d_33_22_17 ?_
    refine q_min C0 hl.1 rfl w_1774 w_774 w_7 w_775 ⟨Nat.le_of_ble_eq_true rfl, Nat.le_of_ble_eq_true rfl⟩ ⟨Nat.le_of_ble_eq_true rfl, Nat.le_of_ble_eq_true rfl⟩ d_33_22_18 ?_
    obtain ⟨a11, e12⟩ := q_nm (if 3 < x4 then 3 else x4 : Int32)
    refine q_ti (v := a11) e12 ?_
    have b13 : q_F (a11.toInt ≤ x4.toInt ∧ a11.toInt ≤ 3 ∧ (a11.toInt = x4.toInt ∨ a11.toInt = 3)) := (by rw [← e12]; show (if 3 < x4 then 3 else x4 : Int32).toInt ≤ x4.toInt ∧ (if 3 < x4 then 3 else x4 : Int32).toInt ≤ 3 ∧ ((if 3 < x4 then 3 else x4 : Int32).toInt = x4.toInt ∨ (if 3 < x4 then 3 else x4 : Int32).toInt = 3); exact (by have y1 : (3 : Int32).toInt = 3 := rfl; have z := s_min (a := x4) (b := 3); omega))
    refine lv_istore_n (lv' := [(3, .int a11), (2, .int a8), (0, .ref (g (9 + 2 * 16))), (1, .int x2)]) hx hb d_33_22_21 rfl hl (by decide) rfl (fun ls hl => ?_)
    refine lv_iload_n hx hb d_33_22_22 rfl (lv_at hl 1 rfl) ?_
    refine lv_iload_n hx hb d_33_22_23 rfl (lv_at hl 0 rfl) ?_
    refine lv_icmp_lt (tgt := 29) hx hb d_33_22_24 (by decide) (fun c14 => ?_) (fun c14 => ?_)
    ·
      have b15 : q_F (a8.toInt < a11.toInt) := (q_ltI c14)
      refine lv_aload_n hx hb d_33_22_29 rfl (lv_at hl 2 rfl) ?_
      refine lv_iload_n hx hb d_33_22_30 rfl (lv_at hl 3 rfl) ?_
      refine lv_iload_n hx hb d_33_22_31 rfl (lv_at hl 1 rfl) ?_
      refine lv_iload_n hx hb d_33_22_32 rfl (lv_at hl 0 rfl) ?_
      refine q_goi V (q_runS (As := [.ref (g (9 + 2 * 16)), .int x2, .int a8, .int a11]) (rest := []) (d := 1) (mc := 0) (ms := 0) C0 V rfl LS_jLat_95 (T_jLat_indexOfChar_16 l D g q ws  x2 a8 a11 hI  (by have t1 : x3.toInt ≤ a8.toInt ∧ 0 ≤ a8.toInt ∧ (a8.toInt = x3.toInt ∨ a8.toInt = 0) := b10; omega) (by have t1 : a11.toInt ≤ x4.toInt ∧ a11.toInt ≤ 3 ∧ (a11.toInt = x4.toInt ∨ a11.toInt = 3) := b13; omega) _) rfl hl.1 rfl (Nat.le_of_ble_eq_true rfl) ⟨by decide, by decide⟩ ⟨Nat.le_of_ble_eq_true rfl, Nat.le_of_ble_eq_true rfl⟩ d_33_22_33) (fun a18 u16 H locs hp17 V => ?_)
      obtain ⟨rfl, b19, b20⟩ := hp17
      replace b19 : q_F (0 ≤ a18.toInt + 1) := b19
      replace b20 : q_F (a18.toInt ≤ 2) := b20
      exact q_reti C0 V (⟨rfl, (show 0 ≤ a18.toInt + 1 from (by have t1 : 0 ≤ a18.toInt + 1 := b19; omega)), (show a18.toInt ≤ 2 from (by have t1 : a18.toInt ≤ 2 := b20; omega))⟩) d_33_22_36
    ·
      have b21 : q_F (a11.toInt ≤ a8.toInt) := (q_nltI c14)
      refine lv_iconst (v := (-1)) hx hb d_33_22_27 (by decide) ?_
      exact q_reti C0 V (⟨rfl, (show 0 ≤ (-1 : Int32).toInt + 1 from (by have z3 : (-1 : Int32).toInt = -1 := rfl; omega)), (show (-1 : Int32).toInt ≤ 2 from (by have z3 : (-1 : Int32).toInt = -1 := rfl; omega))⟩) d_33_22_28
  ·
    have b22 : q_F (a3.toInt = 0) := (q_eqI c6)
    refine lv_iconst (v := (-1)) hx hb d_33_22_7 (by decide) ?_
    exact q_reti C0 V (⟨rfl, (show 0 ≤ (-1 : Int32).toInt + 1 from (by have z3 : (-1 : Int32).toInt = -1 := rfl; omega)), (show (-1 : Int32).toInt ≤ 2 from (by have z3 : (-1 : Int32).toInt = -1 := rfl; omega))⟩) d_33_22_8
set_option maxRecDepth 100000 in
set_option maxHeartbeats 4000000 in
theorem T_jStr_indexOf_III_16 (l : Launch) (D : va_G) (g : Nat → ClassId) (q : Nat → Nat) (ws : va_W) (x2 : Int32) (x3 : Int32) (hI : q_I (nsh g q) q ws) (pre0 : 0 ≤ x3.toInt) : q_mI l y_jStr_indexOf_III prog_31_method_80_code 3 (.int) 3 0 0 D g [.ref (g (8 + 2 * 16)), .int x2, .int x3] ws (fun r u => ws = u ∧ (0 ≤ r.toInt + 1) ∧ (r.toInt ≤ 2)) := by
  intro sz
  refine q_into (by decide) (Nat.le_of_ble_eq_true rfl) ?_
  intro p e s m below meth c ls hsz C0 V hl
  have hx := C0.1
  have hb := C0.2.1
  replace pre0 : q_F (0 ≤ x3.toInt) := pre0
  have hl : lv_has ls 3 [(0, .ref (g (8 + 2 * 16))), (1, .int x2), (2, .int x3)] := hl
  refine lv_aload_n hx hb d_31_80_0 rfl (lv_at hl 0 rfl) ?_
  refine q_goi V (q_runVs (As := []) (rest := []) (d := 1) (mc := 0) (ms := 0) (i := 16) C0 V rfl LV_jStr_492 (T_jStr_isLatin1_16 l D g q ws   hI   _) rfl rfl rfl hl.1 rfl (Nat.le_of_ble_eq_true rfl) ⟨by decide, by decide⟩ ⟨Nat.le_of_ble_eq_true rfl, Nat.le_of_ble_eq_true rfl⟩ d_31_80_1) (fun a3 u1 H locs hp2 V => ?_)
  obtain ⟨rfl, b4, b5⟩ := hp2
  replace b4 : q_F (1 ≤ a3.toInt) := b4
  replace b5 : q_F (a3.toInt ≤ 1) := b5
  obtain rfl : a3 = (1 : Int32) := q_Ieq (x := a3.toInt) (y := 1) rfl (by decide) (by have t1 : 1 ≤ a3.toInt := b4; have t2 : a3.toInt ≤ 1 := b5; omega)
  refine lv_if_eq (tgt := 23) hx hb d_31_80_4 (by decide) (fun c6 => absurd c6 (by decide)) (fun c6 => ?_)
  refine lv_aload_n hx hb d_31_80_7 rfl (lv_at hl 0 rfl) ?_
  refine q_sval (i := 16) C0 V rfl rfl w_1018 d_31_80_8 ?_
  refine lv_iload_n hx hb d_31_80_11 rfl (lv_at hl 1 rfl) ?_
  refine lv_iload_n hx hb d_31_80_12 rfl (lv_at hl 2 rfl) ?_
  refine lv_aload_n hx hb d_31_80_13 rfl (lv_at hl 0 rfl) ?_
  refine q_goi V (q_runVs (As := []) (rest := [.int x3, .int x2, .ref (g (9 + 2 * 16))]) (d := 2) (mc := 0) (ms := 0) (i := 16) C0 V rfl LV_jStr_505 (T_jStr_length_16 l D g q ws   hI   _) rfl rfl rfl hl.1 rfl (Nat.le_of_ble_eq_true rfl) ⟨by decide, by decide⟩ ⟨Nat.le_of_ble_eq_true rfl, Nat.le_of_ble_eq_true rfl⟩ d_31_80_14) (fun a9 u7 H locs hp8 V => ?_)
  obtain ⟨rfl, b10, b11⟩ := hp8
  replace b10 : q_F (3 ≤ a9.toInt) := b10
  replace b11 : q_F (a9.toInt ≤ 3) := b11
  obtain rfl : a9 = (3 : Int32) := q_Ieq (x := a9.toInt) (y := 3) rfl (by decide) (by have t1 : 3 ≤ a9.toInt := b10; have t2 : a9.toInt ≤ 3 := b11; omega)
  refine q_goi V (q_runS (As := [.ref (g (9 + 2 * 16)), .int x2, .int x3, .int 3]) (rest := []) (d := 2) (mc := 0) (ms := 0) C0 V rfl LS_jStr_637 (T_jLat_indexOf_16 l D g q ws  x2 x3 3 hI  (by have y0 : (3 : Int32).toInt = 3 := rfl; have t1 : 0 ≤ x3.toInt := pre0; omega) (by have y0 : (3 : Int32).toInt = 3 := rfl; omega) _) rfl hl.1 rfl (Nat.le_of_ble_eq_true rfl) ⟨by decide, by decide⟩ ⟨Nat.le_of_ble_eq_true rfl, Nat.le_of_ble_eq_true rfl⟩ d_31_80_17) (fun a14 u12 H locs hp13 V => ?_)
  obtain ⟨rfl, b15, b16⟩ := hp13
  replace b15 : q_F (0 ≤ a14.toInt + 1) := b15
  replace b16 : q_F (a14.toInt ≤ 2) := b16
  refine lv_goto (tgt := 36) hx hb d_31_80_20 (by decide) ?_
  exact q_reti C0 V (⟨rfl, (show 0 ≤ a14.toInt + 1 from (by have t1 : 0 ≤ a14.toInt + 1 := b15; omega)), (show a14.toInt ≤ 2 from (by have t1 : a14.toInt ≤ 2 := b16; omega))⟩) d_31_80_36
set_option maxRecDepth 100000 in
set_option maxHeartbeats 4000000 in
theorem T_jStr_indexOf_II_16 (l : Launch) (D : va_G) (g : Nat → ClassId) (q : Nat → Nat) (ws : va_W) (x2 : Int32) (hI : q_I (nsh g q) q ws) : q_mI l y_jStr_indexOf_II prog_31_method_79_code 2 (.int) 4 0 0 D g [.ref (g (8 + 2 * 16)), .int x2] ws (fun r u => ws = u ∧ (0 ≤ r.toInt + 1) ∧ (r.toInt ≤ 2)) := by
  intro sz
  refine q_into (by decide) (Nat.le_of_ble_eq_true rfl) ?_
  intro p e s m below meth c ls hsz C0 V hl
  have hx := C0.1
  have hb := C0.2.1
  have hl : lv_has ls 2 [(0, .ref (g (8 + 2 * 16))), (1, .int x2)] := hl
  refine lv_aload_n hx hb d_31_79_0 rfl (lv_at hl 0 rfl) ?_
  refine lv_iload_n hx hb d_31_79_1 rfl (lv_at hl 1 rfl) ?_
  refine lv_iconst (v := 0) hx hb d_31_79_2 (by decide) ?_
  refine q_goi V (q_runVs (As := [.int x2, .int 0]) (rest := []) (d := 3) (mc := 0) (ms := 0) (i := 16) C0 V rfl LV_jStr_633 (T_jStr_indexOf_III_16 l D g q ws  x2 0 hI  (by have y0 : (0 : Int32).toInt = 0 := rfl; omega) _) rfl rfl rfl hl.1 rfl (Nat.le_of_ble_eq_true rfl) ⟨by decide, by decide⟩ ⟨Nat.le_of_ble_eq_true rfl, Nat.le_of_ble_eq_true rfl⟩ d_31_79_3) (fun a3 u1 H locs hp2 V => ?_)
  obtain ⟨rfl, b4, b5⟩ := hp2
  replace b4 : q_F (0 ≤ a3.toInt + 1) := b4
  replace b5 : q_F (a3.toInt ≤ 2) := b5
  exact q_reti C0 V (⟨rfl, (show 0 ≤ a3.toInt + 1 from (by have t1 : 0 ≤ a3.toInt + 1 := b4; omega)), (show a3.toInt ≤ 2 from (by have t1 : a3.toInt ≤ 2 := b5; omega))⟩) d_31_79_6
set_option maxRecDepth 100000 in
set_option maxHeartbeats 4000000 in
theorem T_jStr_coder_17 (l : Launch) (D : va_G) (g : Nat → ClassId) (q : Nat → Nat) (ws : va_W) (hI : q_I (nsh g q) q ws) : q_mI l y_jStr_coder prog_31_method_152_code 1 (.byte) 1 0 0 D g [.ref (g (8 + 2 * 17))] ws (fun r u => ws = u ∧ (0 ≤ r.toInt) ∧ (r.toInt ≤ 0)) := by
  intro sz
  refine q_into (by decide) (Nat.le_of_ble_eq_true rfl) ?_
  intro p e s m below meth c ls hsz C0 V hl
  have hx := C0.1
  have hb := C0.2.1
  have hl : lv_has ls 1 [(0, .ref (g (8 + 2 * 17)))] := hl
  refine q_scmp C0 V rfl w_663 d_31_152_0 ?_
  refine lv_if_eq (tgt := 13) hx hb d_31_152_3 (by decide) (fun c1 => absurd c1 (by decide)) (fun c1 => ?_)
  refine lv_aload_n hx hb d_31_152_6 rfl (lv_at hl 0 rfl) ?_
  refine q_scod (i := 17) C0 V rfl rfl w_1019 d_31_152_7 ?_
  refine lv_goto (tgt := 14) hx hb d_31_152_10 (by decide) ?_
  exact q_retn C0 V (rfl) (⟨rfl, (show 0 ≤ (0 : Int32).toInt from (by have z0 : (0 : Int32).toInt = 0 := rfl; omega)), (show (0 : Int32).toInt ≤ 0 from (by have z0 : (0 : Int32).toInt = 0 := rfl; omega))⟩) d_31_152_14
set_option maxRecDepth 100000 in
set_option maxHeartbeats 4000000 in
theorem T_jStr_length_17 (l : Launch) (D : va_G) (g : Nat → ClassId) (q : Nat → Nat) (ws : va_W) (hI : q_I (nsh g q) q ws) : q_mI l y_jStr_length prog_31_method_54_code 1 (.int) 2 0 0 D g [.ref (g (8 + 2 * 17))] ws (fun r u => ws = u ∧ (1 ≤ r.toInt) ∧ (r.toInt ≤ 1)) := by
  intro sz
  refine q_into (by decide) (Nat.le_of_ble_eq_true rfl) ?_
  intro p e s m below meth c ls hsz C0 V hl
  have hx := C0.1
  have hb := C0.2.1
  have hl : lv_has ls 1 [(0, .ref (g (8 + 2 * 17)))] := hl
  refine lv_aload_n hx hb d_31_54_0 rfl (lv_at hl 0 rfl) ?_
  refine q_sval (i := 17) C0 V rfl rfl w_1018 d_31_54_1 ?_
  refine q_slen (i := 17) (v := 1) C0 V rfl (by decide) d_31_54_4 ?_
  refine lv_aload_n hx hb d_31_54_5 rfl (lv_at hl 0 rfl) ?_
  refine q_goi V (q_runVs (As := []) (rest := [.int 1]) (d := 1) (mc := 0) (ms := 0) (i := 17) C0 V rfl LV_jStr_335 (T_jStr_coder_17 l D g q ws   hI   _) rfl rfl rfl hl.1 rfl (Nat.le_of_ble_eq_true rfl) ⟨by decide, by decide⟩ ⟨Nat.le_of_ble_eq_true rfl, Nat.le_of_ble_eq_true rfl⟩ d_31_54_6) (fun a3 u1 H locs hp2 V => ?_)
  obtain ⟨rfl, b4, b5⟩ := hp2
  replace b4 : q_F (0 ≤ a3.toInt) := b4
  replace b5 : q_F (a3.toInt ≤ 0) := b5
  obtain rfl : a3 = (0 : Int32) := q_Ieq (x := a3.toInt) (y := 0) rfl (by decide) (by have t1 : 0 ≤ a3.toInt := b4; have t2 : a3.toInt ≤ 0 := b5; omega)
  refine lv_ishr hx hb d_31_54_9 ?_
  refine q_ti (v := 1) (by decide) ?_
  exact q_reti C0 V (⟨rfl, (show 1 ≤ (1 : Int32).toInt from (by have z0 : (1 : Int32).toInt = 1 := rfl; omega)), (show (1 : Int32).toInt ≤ 1 from (by have z0 : (1 : Int32).toInt = 1 := rfl; omega))⟩) d_31_54_10
set_option maxRecDepth 100000 in
set_option maxHeartbeats 4000000 in
theorem T_jStr_isLatin1_17 (l : Launch) (D : va_G) (g : Nat → ClassId) (q : Nat → Nat) (ws : va_W) (hI : q_I (nsh g q) q ws) : q_mI l y_jStr_isLatin1 prog_31_method_154_code 1 (.boolean) 1 0 0 D g [.ref (g (8 + 2 * 17))] ws (fun r u => ws = u ∧ (1 ≤ r.toInt) ∧ (r.toInt ≤ 1)) := by
  intro sz
  refine q_into (by decide) (Nat.le_of_ble_eq_true rfl) ?_
  intro p e s m below meth c ls hsz C0 V hl
  have hx := C0.1
  have hb := C0.2.1
  have hl : lv_has ls 1 [(0, .ref (g (8 + 2 * 17)))] := hl
  refine q_scmp C0 V rfl w_663 d_31_154_0 ?_
  refine lv_if_eq (tgt := 17) hx hb d_31_154_3 (by decide) (fun c1 => absurd c1 (by decide)) (fun c1 => ?_)
  refine lv_aload_n hx hb d_31_154_6 rfl (lv_at hl 0 rfl) ?_
  refine q_scod (i := 17) C0 V rfl rfl w_1019 d_31_154_7 ?_
  refine lv_if_ne (tgt := 17) hx hb d_31_154_10 (by decide) (fun c2 => absurd (by decide) c2) (fun c2 => ?_)
  refine lv_iconst (v := 1) hx hb d_31_154_13 (by decide) ?_
  refine lv_goto (tgt := 18) hx hb d_31_154_14 (by decide) ?_
  exact q_retz C0 V (by decide) (⟨rfl, (show 1 ≤ (1 : Int32).toInt from (by have z0 : (1 : Int32).toInt = 1 := rfl; omega)), (show (1 : Int32).toInt ≤ 1 from (by have z0 : (1 : Int32).toInt = 1 := rfl; omega))⟩) d_31_154_18
set_option maxRecDepth 100000 in
set_option maxHeartbeats 4000000 in
theorem T_jLat_charAt_17 (l : Launch) (D : va_G) (g : Nat → ClassId) (q : Nat → Nat) (ws : va_W) (x2 : Int32) (hI : q_I (nsh g q) q ws) (pre0 : 0 ≤ x2.toInt) (pre1 : x2.toInt ≤ 0) : q_mI l y_jLat_charAt prog_33_method_2_code 2 (.char) 3 0 0 D g [.ref (g (9 + 2 * 17)), .int x2] ws (fun r u => ws = u ∧ (x2.toInt ≤ r.toInt) ∧ (r.toInt ≤ x2.toInt + 255)) := by
  intro sz
  refine q_into (by decide) (Nat.le_of_ble_eq_true rfl) ?_
  intro p e s m below meth c ls hsz C0 V hl
  have hx := C0.1
  have hb := C0.2.1
  replace pre0 : q_F (0 ≤ x2.toInt) := pre0
  replace pre1 : q_F (x2.toInt ≤ 0) := pre1
  have hl : lv_has ls 2 [(0, .ref (g (9 + 2 * 17))), (1, .int x2)] := hl
  refine lv_iload_n hx hb d_33_2_0 rfl (lv_at hl 1 rfl) ?_
  refine lv_aload_n hx hb d_33_2_1 rfl (lv_at hl 0 rfl) ?_
  refine q_slen (i := 17) (v := 1) C0 V rfl (by decide) d_33_2_2 ?_
  refine q_gov V (q_runS (As := [.int x2, .int 1]) (rest := []) (d := 2) (mc := 0) (ms := 0) C0 V rfl LS_jLat_9 (T_jStr_checkIndex l D g q ws  x2 1 hI  (by have y0 : (1 : Int32).toInt = 1 := rfl; have t1 : 0 ≤ x2.toInt := pre0; omega) (by have y0 : (1 : Int32).toInt = 1 := rfl; have t1 : x2.toInt ≤ 0 := pre1; omega) _) rfl hl.1 rfl (Nat.le_of_ble_eq_true rfl) ⟨by decide, by decide⟩ ⟨Nat.le_of_ble_eq_true rfl, Nat.le_of_ble_eq_true rfl⟩ d_33_2_3) (fun u1 H locs hp2 V => ?_)
  obtain ⟨rfl, -⟩ := hp2
  refine lv_aload_n hx hb d_33_2_6 rfl (lv_at hl 0 rfl) ?_
  refine lv_iload_n hx hb d_33_2_7 rfl (lv_at hl 1 rfl) ?_
  refine q_sbal (i := 17) (v := (([48] : List Int32).getD x2.toNatClampNeg 0)) C0 V rfl (show vp_in x2 1 from q_ix (x := x2.toInt) rfl (by have t1 : 0 ≤ x2.toInt := pre0; omega) (by have t1 : 0 ≤ x2.toInt := pre0; have t2 : x2.toInt ≤ 0 := pre1; omega)) rfl d_33_2_8 ?_
  obtain ⟨a3, e4⟩ := q_nm ((([48] : List Int32).getD x2.toNatClampNeg 0) : Int32)
  refine q_ti (v := a3) e4 ?_
  refine lv_sipush (v := 255) hx hb d_33_2_9 (by decide) ?_
  refine lv_iand hx hb d_33_2_12 ?_
  obtain ⟨a5, e6⟩ := q_nm (a3 &&& 255 : Int32)
  refine q_ti (v := a5) e6 ?_
  have b7 : q_F (0 ≤ a5.toInt ∧ a5.toInt ≤ 255) := (by rw [← e6]; show 0 ≤ (a3 &&& 255 : Int32).toInt ∧ (a3 &&& 255 : Int32).toInt ≤ 255; exact s_and (by decide))
  refine lv_i2c hx hb d_33_2_13 rfl ?_
  obtain ⟨a8, e9⟩ := q_nm ((a5.toUInt32 % 65536).toInt32 : Int32)
  refine q_ti (v := a8) e9 ?_
  have b10 : q_F (a8.toInt = a5.toInt) := (by rw [← e9]; show ((a5.toUInt32 % 65536).toInt32 : Int32).toInt = a5.toInt; exact (n_i2c (x := a5)).2.2 (by have t1 : 0 ≤ a5.toInt ∧ a5.toInt ≤ 255 := b7; omega) (by have t1 : 0 ≤ a5.toInt ∧ a5.toInt ≤ 255 := b7; omega))
  exact q_retn C0 V (n_chr (by have t1 : 0 ≤ a5.toInt ∧ a5.toInt ≤ 255 := b7; have t2 : a8.toInt = a5.toInt := b10; omega) (by have t1 : 0 ≤ a5.toInt ∧ a5.toInt ≤ 255 := b7; have t2 : a8.toInt = a5.toInt := b10; omega)) (⟨rfl, (show x2.toInt ≤ a8.toInt from (by have t1 : x2.toInt ≤ 0 := pre1; have t2 : 0 ≤ a5.toInt ∧ a5.toInt ≤ 255 := b7; have t3 : a8.toInt = a5.toInt := b10; omega)), (show a8.toInt ≤ x2.toInt + 255 from (by have t1 : 0 ≤ x2.toInt := pre0; have t2 : 0 ≤ a5.toInt ∧ a5.toInt ≤ 255 := b7; have t3 : a8.toInt = a5.toInt := b10; omega))⟩) d_33_2_14
set_option maxRecDepth 100000 in
set_option maxHeartbeats 4000000 in
theorem T_jStr_charAt_17 (l : Launch) (D : va_G) (g : Nat → ClassId) (q : Nat → Nat) (ws : va_W) (x2 : Int32) (hI : q_I (nsh g q) q ws) (pre0 : 0 ≤ x2.toInt) (pre1 : x2.toInt ≤ 0) : q_mI l y_jStr_charAt prog_31_method_56_code 2 (.char) 4 0 0 D g [.ref (g (8 + 2 * 17)), .int x2] ws (fun r u => ws = u ∧ (x2.toInt ≤ r.toInt) ∧ (r.toInt ≤ x2.toInt + 255)) := by
  intro sz
  refine q_into (by decide) (Nat.le_of_ble_eq_true rfl) ?_
  intro p e s m below meth c ls hsz C0 V hl
  have hx := C0.1
  have hb := C0.2.1
  replace pre0 : q_F (0 ≤ x2.toInt) := pre0
  replace pre1 : q_F (x2.toInt ≤ 0) := pre1
  have hl : lv_has ls 2 [(0, .ref (g (8 + 2 * 17))), (1, .int x2)] := hl
  refine lv_aload_n hx hb d_31_56_0 rfl (lv_at hl 0 rfl) ?_
  refine q_goi V (q_runVs (As := []) (rest := []) (d := 1) (mc := 0) (ms := 0) (i := 17) C0 V rfl LV_jStr_492 (T_jStr_isLatin1_17 l D g q ws   hI   _) rfl rfl rfl hl.1 rfl (Nat.le_of_ble_eq_true rfl) ⟨by decide, by decide⟩ ⟨Nat.le_of_ble_eq_true rfl, Nat.le_of_ble_eq_true rfl⟩ d_31_56_1) (fun a3 u1 H locs hp2 V => ?_)
  obtain ⟨rfl, b4, b5⟩ := hp2
  replace b4 : q_F (1 ≤ a3.toInt) := b4
  replace b5 : q_F (a3.toInt ≤ 1) := b5
  obtain rfl : a3 = (1 : Int32) := q_Ieq (x := a3.toInt) (y := 1) rfl (by decide) (by have t1 : 1 ≤ a3.toInt := b4; have t2 : a3.toInt ≤ 1 := b5; omega)
  refine lv_if_eq (tgt := 16) hx hb d_31_56_4 (by decide) (fun c6 => absurd c6 (by decide)) (fun c6 => ?_)
  refine lv_aload_n hx hb d_31_56_7 rfl (lv_at hl 0 rfl) ?_
  refine q_sval (i := 17) C0 V rfl rfl w_1018 d_31_56_8 ?_
  refine lv_iload_n hx hb d_31_56_11 rfl (lv_at hl 1 rfl) ?_
  refine q_goi V (q_runS (As := [.ref (g (9 + 2 * 17)), .int x2]) (rest := []) (d := 3) (mc := 0) (ms := 0) C0 V rfl LS_jStr_495 (T_jLat_charAt_17 l D g q ws  x2 hI  (by have t1 : 0 ≤ x2.toInt := pre0; omega) (by have t1 : x2.toInt ≤ 0 := pre1; omega) _) rfl hl.1 rfl (Nat.le_of_ble_eq_true rfl) ⟨by decide, by decide⟩ ⟨Nat.le_of_ble_eq_true rfl, Nat.le_of_ble_eq_true rfl⟩ d_31_56_12) (fun a9 u7 H locs hp8 V => ?_)
  obtain ⟨rfl, b10, b11⟩ := hp8
  replace b10 : q_F (x2.toInt ≤ a9.toInt) := b10
  replace b11 : q_F (a9.toInt ≤ x2.toInt + 255) := b11
  exact q_retn C0 V (n_chr (by have t1 : 0 ≤ x2.toInt := pre0; have t2 : x2.toInt ≤ a9.toInt := b10; omega) (by have t1 : x2.toInt ≤ 0 := pre1; have t2 : a9.toInt ≤ x2.toInt + 255 := b11; omega)) (⟨rfl, (show x2.toInt ≤ a9.toInt from (by have t1 : x2.toInt ≤ a9.toInt := b10; omega)), (show a9.toInt ≤ x2.toInt + 255 from (by have t1 : a9.toInt ≤ x2.toInt + 255 := b11; omega))⟩) d_31_56_15
set_option maxRecDepth 100000 in
set_option maxHeartbeats 4000000 in
theorem T_jStr_coder_18 (l : Launch) (D : va_G) (g : Nat → ClassId) (q : Nat → Nat) (ws : va_W) (hI : q_I (nsh g q) q ws) : q_mI l y_jStr_coder prog_31_method_152_code 1 (.byte) 1 0 0 D g [.ref (g (8 + 2 * 18))] ws (fun r u => ws = u ∧ (0 ≤ r.toInt) ∧ (r.toInt ≤ 0)) := by
  intro sz
  refine q_into (by decide) (Nat.le_of_ble_eq_true rfl) ?_
  intro p e s m below meth c ls hsz C0 V hl
  have hx := C0.1
  have hb := C0.2.1
  have hl : lv_has ls 1 [(0, .ref (g (8 + 2 * 18)))] := hl
  refine q_scmp C0 V rfl w_663 d_31_152_0 ?_
  refine lv_if_eq (tgt := 13) hx hb d_31_152_3 (by decide) (fun c1 => absurd c1 (by decide)) (fun c1 => ?_)
  refine lv_aload_n hx hb d_31_152_6 rfl (lv_at hl 0 rfl) ?_
  refine q_scod (i := 18) C0 V rfl rfl w_1019 d_31_152_7 ?_
  refine lv_goto (tgt := 14) hx hb d_31_152_10 (by decide) ?_
  exact q_retn C0 V (rfl) (⟨rfl, (show 0 ≤ (0 : Int32).toInt from (by have z0 : (0 : Int32).toInt = 0 := rfl; omega)), (show (0 : Int32).toInt ≤ 0 from (by have z0 : (0 : Int32).toInt = 0 := rfl; omega))⟩) d_31_152_14
set_option maxRecDepth 100000 in
set_option maxHeartbeats 4000000 in
theorem T_jStr_length_18 (l : Launch) (D : va_G) (g : Nat → ClassId) (q : Nat → Nat) (ws : va_W) (hI : q_I (nsh g q) q ws) : q_mI l y_jStr_length prog_31_method_54_code 1 (.int) 2 0 0 D g [.ref (g (8 + 2 * 18))] ws (fun r u => ws = u ∧ (2 ≤ r.toInt) ∧ (r.toInt ≤ 2)) := by
  intro sz
  refine q_into (by decide) (Nat.le_of_ble_eq_true rfl) ?_
  intro p e s m below meth c ls hsz C0 V hl
  have hx := C0.1
  have hb := C0.2.1
  have hl : lv_has ls 1 [(0, .ref (g (8 + 2 * 18)))] := hl
  refine lv_aload_n hx hb d_31_54_0 rfl (lv_at hl 0 rfl) ?_
  refine q_sval (i := 18) C0 V rfl rfl w_1018 d_31_54_1 ?_
  refine q_slen (i := 18) (v := 2) C0 V rfl (by decide) d_31_54_4 ?_
  refine lv_aload_n hx hb d_31_54_5 rfl (lv_at hl 0 rfl) ?_
  refine q_goi V (q_runVs (As := []) (rest := [.int 2]) (d := 1) (mc := 0) (ms := 0) (i := 18) C0 V rfl LV_jStr_335 (T_jStr_coder_18 l D g q ws   hI   _) rfl rfl rfl hl.1 rfl (Nat.le_of_ble_eq_true rfl) ⟨by decide, by decide⟩ ⟨Nat.le_of_ble_eq_true rfl, Nat.le_of_ble_eq_true rfl⟩ d_31_54_6) (fun a3 u1 H locs hp2 V => ?_)
  obtain ⟨rfl, b4, b5⟩ := hp2
  replace b4 : q_F (0 ≤ a3.toInt) := b4
  replace b5 : q_F (a3.toInt ≤ 0) := b5
  obtain rfl : a3 = (0 : Int32) := q_Ieq (x := a3.toInt) (y := 0) rfl (by decide) (by have t1 : 0 ≤ a3.toInt := b4; have t2 : a3.toInt ≤ 0 := b5; omega)
  refine lv_ishr hx hb d_31_54_9 ?_
  refine q_ti (v := 2) (by decide) ?_
  exact q_reti C0 V (⟨rfl, (show 2 ≤ (2 : Int32).toInt from (by have z0 : (2 : Int32).toInt = 2 := rfl; omega)), (show (2 : Int32).toInt ≤ 2 from (by have z0 : (2 : Int32).toInt = 2 := rfl; omega))⟩) d_31_54_10
set_option maxRecDepth 100000 in
set_option maxHeartbeats 4000000 in
theorem T_jStr_isLatin1_18 (l : Launch) (D : va_G) (g : Nat → ClassId) (q : Nat → Nat) (ws : va_W) (hI : q_I (nsh g q) q ws) : q_mI l y_jStr_isLatin1 prog_31_method_154_code 1 (.boolean) 1 0 0 D g [.ref (g (8 + 2 * 18))] ws (fun r u => ws = u ∧ (1 ≤ r.toInt) ∧ (r.toInt ≤ 1)) := by
  intro sz
  refine q_into (by decide) (Nat.le_of_ble_eq_true rfl) ?_
  intro p e s m below meth c ls hsz C0 V hl
  have hx := C0.1
  have hb := C0.2.1
  have hl : lv_has ls 1 [(0, .ref (g (8 + 2 * 18)))] := hl
  refine q_scmp C0 V rfl w_663 d_31_154_0 ?_
  refine lv_if_eq (tgt := 17) hx hb d_31_154_3 (by decide) (fun c1 => absurd c1 (by decide)) (fun c1 => ?_)
  refine lv_aload_n hx hb d_31_154_6 rfl (lv_at hl 0 rfl) ?_
  refine q_scod (i := 18) C0 V rfl rfl w_1019 d_31_154_7 ?_
  refine lv_if_ne (tgt := 17) hx hb d_31_154_10 (by decide) (fun c2 => absurd (by decide) c2) (fun c2 => ?_)
  refine lv_iconst (v := 1) hx hb d_31_154_13 (by decide) ?_
  refine lv_goto (tgt := 18) hx hb d_31_154_14 (by decide) ?_
  exact q_retz C0 V (by decide) (⟨rfl, (show 1 ≤ (1 : Int32).toInt from (by have z0 : (1 : Int32).toInt = 1 := rfl; omega)), (show (1 : Int32).toInt ≤ 1 from (by have z0 : (1 : Int32).toInt = 1 := rfl; omega))⟩) d_31_154_18
set_option maxRecDepth 100000 in
set_option maxHeartbeats 4000000 in
theorem T_jLat_charAt_18 (l : Launch) (D : va_G) (g : Nat → ClassId) (q : Nat → Nat) (ws : va_W) (x2 : Int32) (hI : q_I (nsh g q) q ws) (pre0 : 0 ≤ x2.toInt) (pre1 : x2.toInt ≤ 1) : q_mI l y_jLat_charAt prog_33_method_2_code 2 (.char) 3 0 0 D g [.ref (g (9 + 2 * 18)), .int x2] ws (fun r u => ws = u ∧ (0 ≤ r.toInt) ∧ (r.toInt ≤ 255)) := by
  intro sz
  refine q_into (by decide) (Nat.le_of_ble_eq_true rfl) ?_
  intro p e s m below meth c ls hsz C0 V hl
  have hx := C0.1
  have hb := C0.2.1
  replace pre0 : q_F (0 ≤ x2.toInt) := pre0
  replace pre1 : q_F (x2.toInt ≤ 1) := pre1
  have hl : lv_has ls 2 [(0, .ref (g (9 + 2 * 18))), (1, .int x2)] := hl
  refine lv_iload_n hx hb d_33_2_0 rfl (lv_at hl 1 rfl) ?_
  refine lv_aload_n hx hb d_33_2_1 rfl (lv_at hl 0 rfl) ?_
  refine q_slen (i := 18) (v := 2) C0 V rfl (by decide) d_33_2_2 ?_
  refine q_gov V (q_runS (As := [.int x2, .int 2]) (rest := []) (d := 2) (mc := 0) (ms := 0) C0 V rfl LS_jLat_9 (T_jStr_checkIndex l D g q ws  x2 2 hI  (by have y0 : (2 : Int32).toInt = 2 := rfl; have t1 : 0 ≤ x2.toInt := pre0; omega) (by have y0 : (2 : Int32).toInt = 2 := rfl; have t1 : x2.toInt ≤ 1 := pre1; omega) _) rfl hl.1 rfl (Nat.le_of_ble_eq_true rfl) ⟨by decide, by decide⟩ ⟨Nat.le_of_ble_eq_true rfl, Nat.le_of_ble_eq_true rfl⟩ d_33_2_3) (fun u1 H locs hp2 V => ?_)
  obtain ⟨rfl, -⟩ := hp2
  refine lv_aload_n hx hb d_33_2_6 rfl (lv_at hl 0 rfl) ?_
  refine lv_iload_n hx hb d_33_2_7 rfl (lv_at hl 1 rfl) ?_
  refine q_sbal (i := 18) (v := (([48, 120] : List Int32).getD x2.toNatClampNeg 0)) C0 V rfl (show vp_in x2 2 from q_ix (x := x2.toInt) rfl (by have t1 : 0 ≤ x2.toInt := pre0; omega) (by have t1 : 0 ≤ x2.toInt := pre0; have t2 : x2.toInt ≤ 1 := pre1; omega)) rfl d_33_2_8 ?_
  obtain ⟨a3, e4⟩ := q_nm ((([48, 120] : List Int32).getD x2.toNatClampNeg 0) : Int32)
  refine q_ti (v := a3) e4 ?_
  refine lv_sipush (v := 255) hx hb d_33_2_9 (by decide) ?_
  refine lv_iand hx hb d_33_2_12 ?_
  obtain ⟨a5, e6⟩ := q_nm (a3 &&& 255 : Int32)
  refine q_ti (v := a5) e6 ?_
  have b7 : q_F (0 ≤ a5.toInt ∧ a5.toInt ≤ 255) := (by rw [← e6]; show 0 ≤ (a3 &&& 255 : Int32).toInt ∧ (a3 &&& 255 : Int32).toInt ≤ 255; exact s_and (by decide))
  refine lv_i2c hx hb d_33_2_13 rfl ?_
  obtain ⟨a8, e9⟩ := q_nm ((a5.toUInt32 % 65536).toInt32 : Int32)
  refine q_ti (v := a8) e9 ?_
  have b10 : q_F (a8.toInt = a5.toInt) := (by rw [← e9]; show ((a5.toUInt32 % 65536).toInt32 : Int32).toInt = a5.toInt; exact (n_i2c (x := a5)).2.2 (by have t1 : 0 ≤ a5.toInt ∧ a5.toInt ≤ 255 := b7; omega) (by have t1 : 0 ≤ a5.toInt ∧ a5.toInt ≤ 255 := b7; omega))
  exact q_retn C0 V (n_chr (by have t1 : 0 ≤ a5.toInt ∧ a5.toInt ≤ 255 := b7; have t2 : a8.toInt = a5.toInt := b10; omega) (by have t1 : 0 ≤ a5.toInt ∧ a5.toInt ≤ 255 := b7; have t2 : a8.toInt = a5.toInt := b10; omega)) (⟨rfl, (show 0 ≤ a8.toInt from (by have t1 : 0 ≤ a5.toInt ∧ a5.toInt ≤ 255 := b7; have t2 : a8.toInt = a5.toInt := b10; omega)), (show a8.toInt ≤ 255 from (by have t1 : 0 ≤ a5.toInt ∧ a5.toInt ≤ 255 := b7; have t2 : a8.toInt = a5.toInt := b10; omega))⟩) d_33_2_14
set_option maxRecDepth 100000 in
set_option maxHeartbeats 4000000 in
theorem T_jStr_charAt_18 (l : Launch) (D : va_G) (g : Nat → ClassId) (q : Nat → Nat) (ws : va_W) (x2 : Int32) (hI : q_I (nsh g q) q ws) (pre0 : 0 ≤ x2.toInt) (pre1 : x2.toInt ≤ 1) : q_mI l y_jStr_charAt prog_31_method_56_code 2 (.char) 4 0 0 D g [.ref (g (8 + 2 * 18)), .int x2] ws (fun r u => ws = u ∧ (0 ≤ r.toInt) ∧ (r.toInt ≤ 255)) := by
  intro sz
  refine q_into (by decide) (Nat.le_of_ble_eq_true rfl) ?_
  intro p e s m below meth c ls hsz C0 V hl
  have hx := C0.1
  have hb := C0.2.1
  replace pre0 : q_F (0 ≤ x2.toInt) := pre0
  replace pre1 : q_F (x2.toInt ≤ 1) := pre1
  have hl : lv_has ls 2 [(0, .ref (g (8 + 2 * 18))), (1, .int x2)] := hl
  refine lv_aload_n hx hb d_31_56_0 rfl (lv_at hl 0 rfl) ?_
  refine q_goi V (q_runVs (As := []) (rest := []) (d := 1) (mc := 0) (ms := 0) (i := 18) C0 V rfl LV_jStr_492 (T_jStr_isLatin1_18 l D g q ws   hI   _) rfl rfl rfl hl.1 rfl (Nat.le_of_ble_eq_true rfl) ⟨by decide, by decide⟩ ⟨Nat.le_of_ble_eq_true rfl, Nat.le_of_ble_eq_true rfl⟩ d_31_56_1) (fun a3 u1 H locs hp2 V => ?_)
  obtain ⟨rfl, b4, b5⟩ := hp2
  replace b4 : q_F (1 ≤ a3.toInt) := b4
  replace b5 : q_F (a3.toInt ≤ 1) := b5
  obtain rfl : a3 = (1 : Int32) := q_Ieq (x := a3.toInt) (y := 1) rfl (by decide) (by have t1 : 1 ≤ a3.toInt := b4; have t2 : a3.toInt ≤ 1 := b5; omega)
  refine lv_if_eq (tgt := 16) hx hb d_31_56_4 (by decide) (fun c6 => absurd c6 (by decide)) (fun c6 => ?_)
  refine lv_aload_n hx hb d_31_56_7 rfl (lv_at hl 0 rfl) ?_
  refine q_sval (i := 18) C0 V rfl rfl w_1018 d_31_56_8 ?_
  refine lv_iload_n hx hb d_31_56_11 rfl (lv_at hl 1 rfl) ?_
  refine q_goi V (q_runS (As := [.ref (g (9 + 2 * 18)), .int x2]) (rest := []) (d := 3) (mc := 0) (ms := 0) C0 V rfl LS_jStr_495 (T_jLat_charAt_18 l D g q ws  x2 hI  (by have t1 : 0 ≤ x2.toInt := pre0; omega) (by have t1 : x2.toInt ≤ 1 := pre1; omega) _) rfl hl.1 rfl (Nat.le_of_ble_eq_true rfl) ⟨by decide, by decide⟩ ⟨Nat.le_of_ble_eq_true rfl, Nat.le_of_ble_eq_true rfl⟩ d_31_56_12) (fun a9 u7 H locs hp8 V => ?_)
  obtain ⟨rfl, b10, b11⟩ := hp8
  replace b10 : q_F (0 ≤ a9.toInt) := b10
  replace b11 : q_F (a9.toInt ≤ 255) := b11
  exact q_retn C0 V (n_chr (by have t1 : 0 ≤ a9.toInt := b10; omega) (by have t1 : a9.toInt ≤ 255 := b11; omega)) (⟨rfl, (show 0 ≤ a9.toInt from (by have t1 : 0 ≤ a9.toInt := b10; omega)), (show a9.toInt ≤ 255 from (by have t1 : a9.toInt ≤ 255 := b11; omega))⟩) d_31_56_15
set_option maxRecDepth 100000 in
set_option maxHeartbeats 4000000 in
theorem T_jStr_coder_19 (l : Launch) (D : va_G) (g : Nat → ClassId) (q : Nat → Nat) (ws : va_W) (hI : q_I (nsh g q) q ws) : q_mI l y_jStr_coder prog_31_method_152_code 1 (.byte) 1 0 0 D g [.ref (g (8 + 2 * 19))] ws (fun r u => ws = u ∧ (0 ≤ r.toInt) ∧ (r.toInt ≤ 0)) := by
  intro sz
  refine q_into (by decide) (Nat.le_of_ble_eq_true rfl) ?_
  intro p e s m below meth c ls hsz C0 V hl
  have hx := C0.1
  have hb := C0.2.1
  have hl : lv_has ls 1 [(0, .ref (g (8 + 2 * 19)))] := hl
  refine q_scmp C0 V rfl w_663 d_31_152_0 ?_
  refine lv_if_eq (tgt := 13) hx hb d_31_152_3 (by decide) (fun c1 => absurd c1 (by decide)) (fun c1 => ?_)
  refine lv_aload_n hx hb d_31_152_6 rfl (lv_at hl 0 rfl) ?_
  refine q_scod (i := 19) C0 V rfl rfl w_1019 d_31_152_7 ?_
  refine lv_goto (tgt := 14) hx hb d_31_152_10 (by decide) ?_
  exact q_retn C0 V (rfl) (⟨rfl, (show 0 ≤ (0 : Int32).toInt from (by have z0 : (0 : Int32).toInt = 0 := rfl; omega)), (show (0 : Int32).toInt ≤ 0 from (by have z0 : (0 : Int32).toInt = 0 := rfl; omega))⟩) d_31_152_14
set_option maxRecDepth 100000 in
set_option maxHeartbeats 4000000 in
theorem T_jStr_length_19 (l : Launch) (D : va_G) (g : Nat → ClassId) (q : Nat → Nat) (ws : va_W) (hI : q_I (nsh g q) q ws) : q_mI l y_jStr_length prog_31_method_54_code 1 (.int) 2 0 0 D g [.ref (g (8 + 2 * 19))] ws (fun r u => ws = u ∧ (36 ≤ r.toInt) ∧ (r.toInt ≤ 36)) := by
  intro sz
  refine q_into (by decide) (Nat.le_of_ble_eq_true rfl) ?_
  intro p e s m below meth c ls hsz C0 V hl
  have hx := C0.1
  have hb := C0.2.1
  have hl : lv_has ls 1 [(0, .ref (g (8 + 2 * 19)))] := hl
  refine lv_aload_n hx hb d_31_54_0 rfl (lv_at hl 0 rfl) ?_
  refine q_sval (i := 19) C0 V rfl rfl w_1018 d_31_54_1 ?_
  refine q_slen (i := 19) (v := 36) C0 V rfl (by decide) d_31_54_4 ?_
  refine lv_aload_n hx hb d_31_54_5 rfl (lv_at hl 0 rfl) ?_
  refine q_goi V (q_runVs (As := []) (rest := [.int 36]) (d := 1) (mc := 0) (ms := 0) (i := 19) C0 V rfl LV_jStr_335 (T_jStr_coder_19 l D g q ws   hI   _) rfl rfl rfl hl.1 rfl (Nat.le_of_ble_eq_true rfl) ⟨by decide, by decide⟩ ⟨Nat.le_of_ble_eq_true rfl, Nat.le_of_ble_eq_true rfl⟩ d_31_54_6) (fun a3 u1 H locs hp2 V => ?_)
  obtain ⟨rfl, b4, b5⟩ := hp2
  replace b4 : q_F (0 ≤ a3.toInt) := b4
  replace b5 : q_F (a3.toInt ≤ 0) := b5
  obtain rfl : a3 = (0 : Int32) := q_Ieq (x := a3.toInt) (y := 0) rfl (by decide) (by have t1 : 0 ≤ a3.toInt := b4; have t2 : a3.toInt ≤ 0 := b5; omega)
  refine lv_ishr hx hb d_31_54_9 ?_
  refine q_ti (v := 36) (by decide) ?_
  exact q_reti C0 V (⟨rfl, (show 36 ≤ (36 : Int32).toInt from (by have z0 : (36 : Int32).toInt = 36 := rfl; omega)), (show (36 : Int32).toInt ≤ 36 from (by have z0 : (36 : Int32).toInt = 36 := rfl; omega))⟩) d_31_54_10
set_option maxRecDepth 100000 in
set_option maxHeartbeats 4000000 in
theorem T_jStr_isLatin1_19 (l : Launch) (D : va_G) (g : Nat → ClassId) (q : Nat → Nat) (ws : va_W) (hI : q_I (nsh g q) q ws) : q_mI l y_jStr_isLatin1 prog_31_method_154_code 1 (.boolean) 1 0 0 D g [.ref (g (8 + 2 * 19))] ws (fun r u => ws = u ∧ (1 ≤ r.toInt) ∧ (r.toInt ≤ 1)) := by
  intro sz
  refine q_into (by decide) (Nat.le_of_ble_eq_true rfl) ?_
  intro p e s m below meth c ls hsz C0 V hl
  have hx := C0.1
  have hb := C0.2.1
  have hl : lv_has ls 1 [(0, .ref (g (8 + 2 * 19)))] := hl
  refine q_scmp C0 V rfl w_663 d_31_154_0 ?_
  refine lv_if_eq (tgt := 17) hx hb d_31_154_3 (by decide) (fun c1 => absurd c1 (by decide)) (fun c1 => ?_)
  refine lv_aload_n hx hb d_31_154_6 rfl (lv_at hl 0 rfl) ?_
  refine q_scod (i := 19) C0 V rfl rfl w_1019 d_31_154_7 ?_
  refine lv_if_ne (tgt := 17) hx hb d_31_154_10 (by decide) (fun c2 => absurd (by decide) c2) (fun c2 => ?_)
  refine lv_iconst (v := 1) hx hb d_31_154_13 (by decide) ?_
  refine lv_goto (tgt := 18) hx hb d_31_154_14 (by decide) ?_
  exact q_retz C0 V (by decide) (⟨rfl, (show 1 ≤ (1 : Int32).toInt from (by have z0 : (1 : Int32).toInt = 1 := rfl; omega)), (show (1 : Int32).toInt ≤ 1 from (by have z0 : (1 : Int32).toInt = 1 := rfl; omega))⟩) d_31_154_18
set_option maxRecDepth 100000 in
set_option maxHeartbeats 4000000 in
theorem T_jLat_charAt_19 (l : Launch) (D : va_G) (g : Nat → ClassId) (q : Nat → Nat) (ws : va_W) (x2 : Int32) (hI : q_I (nsh g q) q ws) (pre0 : 0 ≤ x2.toInt) (pre1 : x2.toInt ≤ 35) : q_mI l y_jLat_charAt prog_33_method_2_code 2 (.char) 3 0 0 D g [.ref (g (9 + 2 * 19)), .int x2] ws (fun r u => ws = u ∧ (0 ≤ r.toInt) ∧ (r.toInt ≤ 255)) := by
  intro sz
  refine q_into (by decide) (Nat.le_of_ble_eq_true rfl) ?_
  intro p e s m below meth c ls hsz C0 V hl
  have hx := C0.1
  have hb := C0.2.1
  replace pre0 : q_F (0 ≤ x2.toInt) := pre0
  replace pre1 : q_F (x2.toInt ≤ 35) := pre1
  have hl : lv_has ls 2 [(0, .ref (g (9 + 2 * 19))), (1, .int x2)] := hl
  refine lv_iload_n hx hb d_33_2_0 rfl (lv_at hl 1 rfl) ?_
  refine lv_aload_n hx hb d_33_2_1 rfl (lv_at hl 0 rfl) ?_
  refine q_slen (i := 19) (v := 36) C0 V rfl (by decide) d_33_2_2 ?_
  refine q_gov V (q_runS (As := [.int x2, .int 36]) (rest := []) (d := 2) (mc := 0) (ms := 0) C0 V rfl LS_jLat_9 (T_jStr_checkIndex l D g q ws  x2 36 hI  (by have y0 : (36 : Int32).toInt = 36 := rfl; have t1 : 0 ≤ x2.toInt := pre0; omega) (by have y0 : (36 : Int32).toInt = 36 := rfl; have t1 : x2.toInt ≤ 35 := pre1; omega) _) rfl hl.1 rfl (Nat.le_of_ble_eq_true rfl) ⟨by decide, by decide⟩ ⟨Nat.le_of_ble_eq_true rfl, Nat.le_of_ble_eq_true rfl⟩ d_33_2_3) (fun u1 H locs hp2 V => ?_)
  obtain ⟨rfl, -⟩ := hp2
  refine lv_aload_n hx hb d_33_2_6 rfl (lv_at hl 0 rfl) ?_
  refine lv_iload_n hx hb d_33_2_7 rfl (lv_at hl 1 rfl) ?_
  refine q_sbal (i := 19) (v := (([48, 49, 50, 51, 52, 53, 54, 55, 56, 57, 97, 98, 99, 100, 101, 102, 103, 104, 105, 106, 107, 108, 109, 110, 111, 112, 113, 114, 115, 116, 117, 118, 119, 120, 121, 122] : List Int32).getD x2.toNatClampNeg 0)) C0 V rfl (show vp_in x2 36 from q_ix (x := x2.toInt) rfl (by have t1 : 0 ≤ x2.toInt := pre0; omega) (by have t1 : 0 ≤ x2.toInt := pre0; have t2 : x2.toInt ≤ 35 := pre1; omega)) rfl d_33_2_8 ?_
  obtain ⟨a3, e4⟩ := q_nm ((([48, 49, 50, 51, 52, 53, 54, 55, 56, 57, 97, 98, 99, 100, 101, 102, 103, 104, 105, 106, 107, 108, 109, 110, 111, 112, 113, 114, 115, 116, 117, 118, 119, 120, 121, 122] : List Int32).getD x2.toNatClampNeg 0) : Int32)
  refine q_ti (v := a3) e4 ?_
  refine lv_sipush (v := 255) hx hb d_33_2_9 (by decide) ?_
  refine lv_iand hx hb d_33_2_12 ?_
  obtain ⟨a5, e6⟩ := q_nm (a3 &&& 255 : Int32)
  refine q_ti (v := a5) e6 ?_
  have b7 : q_F (0 ≤ a5.toInt ∧ a5.toInt ≤ 255) := (by rw [← e6]; show 0 ≤ (a3 &&& 255 : Int32).toInt ∧ (a3 &&& 255 : Int32).toInt ≤ 255; exact s_and (by decide))
  refine lv_i2c hx hb d_33_2_13 rfl ?_
  obtain ⟨a8, e9⟩ := q_nm ((a5.toUInt32 % 65536).toInt32 : Int32)
  refine q_ti (v := a8) e9 ?_
  have b10 : q_F (a8.toInt = a5.toInt) := (by rw [← e9]; show ((a5.toUInt32 % 65536).toInt32 : Int32).toInt = a5.toInt; exact (n_i2c (x := a5)).2.2 (by have t1 : 0 ≤ a5.toInt ∧ a5.toInt ≤ 255 := b7; omega) (by have t1 : 0 ≤ a5.toInt ∧ a5.toInt ≤ 255 := b7; omega))
  exact q_retn C0 V (n_chr (by have t1 : 0 ≤ a5.toInt ∧ a5.toInt ≤ 255 := b7; have t2 : a8.toInt = a5.toInt := b10; omega) (by have t1 : 0 ≤ a5.toInt ∧ a5.toInt ≤ 255 := b7; have t2 : a8.toInt = a5.toInt := b10; omega)) (⟨rfl, (show 0 ≤ a8.toInt from (by have t1 : 0 ≤ a5.toInt ∧ a5.toInt ≤ 255 := b7; have t2 : a8.toInt = a5.toInt := b10; omega)), (show a8.toInt ≤ 255 from (by have t1 : 0 ≤ a5.toInt ∧ a5.toInt ≤ 255 := b7; have t2 : a8.toInt = a5.toInt := b10; omega))⟩) d_33_2_14
set_option maxRecDepth 100000 in
set_option maxHeartbeats 4000000 in
theorem T_jStr_charAt_19 (l : Launch) (D : va_G) (g : Nat → ClassId) (q : Nat → Nat) (ws : va_W) (x2 : Int32) (hI : q_I (nsh g q) q ws) (pre0 : 0 ≤ x2.toInt) (pre1 : x2.toInt ≤ 35) : q_mI l y_jStr_charAt prog_31_method_56_code 2 (.char) 4 0 0 D g [.ref (g (8 + 2 * 19)), .int x2] ws (fun r u => ws = u ∧ (0 ≤ r.toInt) ∧ (r.toInt ≤ 255)) := by
  intro sz
  refine q_into (by decide) (Nat.le_of_ble_eq_true rfl) ?_
  intro p e s m below meth c ls hsz C0 V hl
  have hx := C0.1
  have hb := C0.2.1
  replace pre0 : q_F (0 ≤ x2.toInt) := pre0
  replace pre1 : q_F (x2.toInt ≤ 35) := pre1
  have hl : lv_has ls 2 [(0, .ref (g (8 + 2 * 19))), (1, .int x2)] := hl
  refine lv_aload_n hx hb d_31_56_0 rfl (lv_at hl 0 rfl) ?_
  refine q_goi V (q_runVs (As := []) (rest := []) (d := 1) (mc := 0) (ms := 0) (i := 19) C0 V rfl LV_jStr_492 (T_jStr_isLatin1_19 l D g q ws   hI   _) rfl rfl rfl hl.1 rfl (Nat.le_of_ble_eq_true rfl) ⟨by decide, by decide⟩ ⟨Nat.le_of_ble_eq_true rfl, Nat.le_of_ble_eq_true rfl⟩ d_31_56_1) (fun a3 u1 H locs hp2 V => ?_)
  obtain ⟨rfl, b4, b5⟩ := hp2
  replace b4 : q_F (1 ≤ a3.toInt) := b4
  replace b5 : q_F (a3.toInt ≤ 1) := b5
  obtain rfl : a3 = (1 : Int32) := q_Ieq (x := a3.toInt) (y := 1) rfl (by decide) (by have t1 : 1 ≤ a3.toInt := b4; have t2 : a3.toInt ≤ 1 := b5; omega)
  refine lv_if_eq (tgt := 16) hx hb d_31_56_4 (by decide) (fun c6 => absurd c6 (by decide)) (fun c6 => ?_)
  refine lv_aload_n hx hb d_31_56_7 rfl (lv_at hl 0 rfl) ?_
  refine q_sval (i := 19) C0 V rfl rfl w_1018 d_31_56_8 ?_
  refine lv_iload_n hx hb d_31_56_11 rfl (lv_at hl 1 rfl) ?_
  refine q_goi V (q_runS (As := [.ref (g (9 + 2 * 19)), .int x2]) (rest := []) (d := 3) (mc := 0) (ms := 0) C0 V rfl LS_jStr_495 (T_jLat_charAt_19 l D g q ws  x2 hI  (by have t1 : 0 ≤ x2.toInt := pre0; omega) (by have t1 : x2.toInt ≤ 35 := pre1; omega) _) rfl hl.1 rfl (Nat.le_of_ble_eq_true rfl) ⟨by decide, by decide⟩ ⟨Nat.le_of_ble_eq_true rfl, Nat.le_of_ble_eq_true rfl⟩ d_31_56_12) (fun a9 u7 H locs hp8 V => ?_)
  obtain ⟨rfl, b10, b11⟩ := hp8
  replace b10 : q_F (0 ≤ a9.toInt) := b10
  replace b11 : q_F (a9.toInt ≤ 255) := b11
  exact q_retn C0 V (n_chr (by have t1 : 0 ≤ a9.toInt := b10; omega) (by have t1 : a9.toInt ≤ 255 := b11; omega)) (⟨rfl, (show 0 ≤ a9.toInt from (by have t1 : 0 ≤ a9.toInt := b10; omega)), (show a9.toInt ≤ 255 from (by have t1 : a9.toInt ≤ 255 := b11; omega))⟩) d_31_56_15
set_option maxRecDepth 100000 in
set_option maxHeartbeats 4000000 in
theorem T_jStr_coder_20 (l : Launch) (D : va_G) (g : Nat → ClassId) (q : Nat → Nat) (ws : va_W) (hI : q_I (nsh g q) q ws) : q_mI l y_jStr_coder prog_31_method_152_code 1 (.byte) 1 0 0 D g [.ref (g (8 + 2 * 20))] ws (fun r u => ws = u ∧ (0 ≤ r.toInt) ∧ (r.toInt ≤ 0)) := by
  intro sz
  refine q_into (by decide) (Nat.le_of_ble_eq_true rfl) ?_
  intro p e s m below meth c ls hsz C0 V hl
  have hx := C0.1
  have hb := C0.2.1
  have hl : lv_has ls 1 [(0, .ref (g (8 + 2 * 20)))] := hl
  refine q_scmp C0 V rfl w_663 d_31_152_0 ?_
  refine lv_if_eq (tgt := 13) hx hb d_31_152_3 (by decide) (fun c1 => absurd c1 (by decide)) (fun c1 => ?_)
  refine lv_aload_n hx hb d_31_152_6 rfl (lv_at hl 0 rfl) ?_
  refine q_scod (i := 20) C0 V rfl rfl w_1019 d_31_152_7 ?_
  refine lv_goto (tgt := 14) hx hb d_31_152_10 (by decide) ?_
  exact q_retn C0 V (rfl) (⟨rfl, (show 0 ≤ (0 : Int32).toInt from (by have z0 : (0 : Int32).toInt = 0 := rfl; omega)), (show (0 : Int32).toInt ≤ 0 from (by have z0 : (0 : Int32).toInt = 0 := rfl; omega))⟩) d_31_152_14
set_option maxRecDepth 100000 in
set_option maxHeartbeats 4000000 in
theorem T_jStr_length_20 (l : Launch) (D : va_G) (g : Nat → ClassId) (q : Nat → Nat) (ws : va_W) (hI : q_I (nsh g q) q ws) : q_mI l y_jStr_length prog_31_method_54_code 1 (.int) 2 0 0 D g [.ref (g (8 + 2 * 20))] ws (fun r u => ws = u ∧ (3 ≤ r.toInt) ∧ (r.toInt ≤ 3)) := by
  intro sz
  refine q_into (by decide) (Nat.le_of_ble_eq_true rfl) ?_
  intro p e s m below meth c ls hsz C0 V hl
  have hx := C0.1
  have hb := C0.2.1
  have hl : lv_has ls 1 [(0, .ref (g (8 + 2 * 20)))] := hl
  refine lv_aload_n hx hb d_31_54_0 rfl (lv_at hl 0 rfl) ?_
  refine q_sval (i := 20) C0 V rfl rfl w_1018 d_31_54_1 ?_
  refine q_slen (i := 20) (v := 3) C0 V rfl (by decide) d_31_54_4 ?_
  refine lv_aload_n hx hb d_31_54_5 rfl (lv_at hl 0 rfl) ?_
  refine q_goi V (q_runVs (As := []) (rest := [.int 3]) (d := 1) (mc := 0) (ms := 0) (i := 20) C0 V rfl LV_jStr_335 (T_jStr_coder_20 l D g q ws   hI   _) rfl rfl rfl hl.1 rfl (Nat.le_of_ble_eq_true rfl) ⟨by decide, by decide⟩ ⟨Nat.le_of_ble_eq_true rfl, Nat.le_of_ble_eq_true rfl⟩ d_31_54_6) (fun a3 u1 H locs hp2 V => ?_)
  obtain ⟨rfl, b4, b5⟩ := hp2
  replace b4 : q_F (0 ≤ a3.toInt) := b4
  replace b5 : q_F (a3.toInt ≤ 0) := b5
  obtain rfl : a3 = (0 : Int32) := q_Ieq (x := a3.toInt) (y := 0) rfl (by decide) (by have t1 : 0 ≤ a3.toInt := b4; have t2 : a3.toInt ≤ 0 := b5; omega)
  refine lv_ishr hx hb d_31_54_9 ?_
  refine q_ti (v := 3) (by decide) ?_
  exact q_reti C0 V (⟨rfl, (show 3 ≤ (3 : Int32).toInt from (by have z0 : (3 : Int32).toInt = 3 := rfl; omega)), (show (3 : Int32).toInt ≤ 3 from (by have z0 : (3 : Int32).toInt = 3 := rfl; omega))⟩) d_31_54_10
set_option maxRecDepth 100000 in
set_option maxHeartbeats 4000000 in
theorem T_jStr_isLatin1_20 (l : Launch) (D : va_G) (g : Nat → ClassId) (q : Nat → Nat) (ws : va_W) (hI : q_I (nsh g q) q ws) : q_mI l y_jStr_isLatin1 prog_31_method_154_code 1 (.boolean) 1 0 0 D g [.ref (g (8 + 2 * 20))] ws (fun r u => ws = u ∧ (1 ≤ r.toInt) ∧ (r.toInt ≤ 1)) := by
  intro sz
  refine q_into (by decide) (Nat.le_of_ble_eq_true rfl) ?_
  intro p e s m below meth c ls hsz C0 V hl
  have hx := C0.1
  have hb := C0.2.1
  have hl : lv_has ls 1 [(0, .ref (g (8 + 2 * 20)))] := hl
  refine q_scmp C0 V rfl w_663 d_31_154_0 ?_
  refine lv_if_eq (tgt := 17) hx hb d_31_154_3 (by decide) (fun c1 => absurd c1 (by decide)) (fun c1 => ?_)
  refine lv_aload_n hx hb d_31_154_6 rfl (lv_at hl 0 rfl) ?_
  refine q_scod (i := 20) C0 V rfl rfl w_1019 d_31_154_7 ?_
  refine lv_if_ne (tgt := 17) hx hb d_31_154_10 (by decide) (fun c2 => absurd (by decide) c2) (fun c2 => ?_)
  refine lv_iconst (v := 1) hx hb d_31_154_13 (by decide) ?_
  refine lv_goto (tgt := 18) hx hb d_31_154_14 (by decide) ?_
  exact q_retz C0 V (by decide) (⟨rfl, (show 1 ≤ (1 : Int32).toInt from (by have z0 : (1 : Int32).toInt = 1 := rfl; omega)), (show (1 : Int32).toInt ≤ 1 from (by have z0 : (1 : Int32).toInt = 1 := rfl; omega))⟩) d_31_154_18
set_option maxRecDepth 100000 in
set_option maxHeartbeats 4000000 in
theorem T_jLat_charAt_20 (l : Launch) (D : va_G) (g : Nat → ClassId) (q : Nat → Nat) (ws : va_W) (x2 : Int32) (hI : q_I (nsh g q) q ws) (pre0 : 0 ≤ x2.toInt) (pre1 : x2.toInt ≤ 2) : q_mI l y_jLat_charAt prog_33_method_2_code 2 (.char) 3 0 0 D g [.ref (g (9 + 2 * 20)), .int x2] ws (fun r u => ws = u ∧ (0 ≤ r.toInt) ∧ (r.toInt ≤ 255)) := by
  intro sz
  refine q_into (by decide) (Nat.le_of_ble_eq_true rfl) ?_
  intro p e s m below meth c ls hsz C0 V hl
  have hx := C0.1
  have hb := C0.2.1
  replace pre0 : q_F (0 ≤ x2.toInt) := pre0
  replace pre1 : q_F (x2.toInt ≤ 2) := pre1
  have hl : lv_has ls 2 [(0, .ref (g (9 + 2 * 20))), (1, .int x2)] := hl
  refine lv_iload_n hx hb d_33_2_0 rfl (lv_at hl 1 rfl) ?_
  refine lv_aload_n hx hb d_33_2_1 rfl (lv_at hl 0 rfl) ?_
  refine q_slen (i := 20) (v := 3) C0 V rfl (by decide) d_33_2_2 ?_
  refine q_gov V (q_runS (As := [.int x2, .int 3]) (rest := []) (d := 2) (mc := 0) (ms := 0) C0 V rfl LS_jLat_9 (T_jStr_checkIndex l D g q ws  x2 3 hI  (by have y0 : (3 : Int32).toInt = 3 := rfl; have t1 : 0 ≤ x2.toInt := pre0; omega) (by have y0 : (3 : Int32).toInt = 3 := rfl; have t1 : x2.toInt ≤ 2 := pre1; omega) _) rfl hl.1 rfl (Nat.le_of_ble_eq_true rfl) ⟨by decide, by decide⟩ ⟨Nat.le_of_ble_eq_true rfl, Nat.le_of_ble_eq_true rfl⟩ d_33_2_3) (fun u1 H locs hp2 V => ?_)
  obtain ⟨rfl, -⟩ := hp2
  refine lv_aload_n hx hb d_33_2_6 rfl (lv_at hl 0 rfl) ?_
  refine lv_iload_n hx hb d_33_2_7 rfl (lv_at hl 1 rfl) ?_
  refine q_sbal (i := 20) (v := (([78, 97, 78] : List Int32).getD x2.toNatClampNeg 0)) C0 V rfl (show vp_in x2 3 from q_ix (x := x2.toInt) rfl (by have t1 : 0 ≤ x2.toInt := pre0; omega) (by have t1 : 0 ≤ x2.toInt := pre0; have t2 : x2.toInt ≤ 2 := pre1; omega)) rfl d_33_2_8 ?_
  obtain ⟨a3, e4⟩ := q_nm ((([78, 97, 78] : List Int32).getD x2.toNatClampNeg 0) : Int32)
  refine q_ti (v := a3) e4 ?_
  refine lv_sipush (v := 255) hx hb d_33_2_9 (by decide) ?_
  refine lv_iand hx hb d_33_2_12 ?_
  obtain ⟨a5, e6⟩ := q_nm (a3 &&& 255 : Int32)
  refine q_ti (v := a5) e6 ?_
  have b7 : q_F (0 ≤ a5.toInt ∧ a5.toInt ≤ 255) := (by rw [← e6]; show 0 ≤ (a3 &&& 255 : Int32).toInt ∧ (a3 &&& 255 : Int32).toInt ≤ 255; exact s_and (by decide))
  refine lv_i2c hx hb d_33_2_13 rfl ?_
  obtain ⟨a8, e9⟩ := q_nm ((a5.toUInt32 % 65536).toInt32 : Int32)
  refine q_ti (v := a8) e9 ?_
  have b10 : q_F (a8.toInt = a5.toInt) := (by rw [← e9]; show ((a5.toUInt32 % 65536).toInt32 : Int32).toInt = a5.toInt; exact (n_i2c (x := a5)).2.2 (by have t1 : 0 ≤ a5.toInt ∧ a5.toInt ≤ 255 := b7; omega) (by have t1 : 0 ≤ a5.toInt ∧ a5.toInt ≤ 255 := b7; omega))
  exact q_retn C0 V (n_chr (by have t1 : 0 ≤ a5.toInt ∧ a5.toInt ≤ 255 := b7; have t2 : a8.toInt = a5.toInt := b10; omega) (by have t1 : 0 ≤ a5.toInt ∧ a5.toInt ≤ 255 := b7; have t2 : a8.toInt = a5.toInt := b10; omega)) (⟨rfl, (show 0 ≤ a8.toInt from (by have t1 : 0 ≤ a5.toInt ∧ a5.toInt ≤ 255 := b7; have t2 : a8.toInt = a5.toInt := b10; omega)), (show a8.toInt ≤ 255 from (by have t1 : 0 ≤ a5.toInt ∧ a5.toInt ≤ 255 := b7; have t2 : a8.toInt = a5.toInt := b10; omega))⟩) d_33_2_14
set_option maxRecDepth 100000 in
set_option maxHeartbeats 4000000 in
theorem T_jStr_charAt_20 (l : Launch) (D : va_G) (g : Nat → ClassId) (q : Nat → Nat) (ws : va_W) (x2 : Int32) (hI : q_I (nsh g q) q ws) (pre0 : 0 ≤ x2.toInt) (pre1 : x2.toInt ≤ 2) : q_mI l y_jStr_charAt prog_31_method_56_code 2 (.char) 4 0 0 D g [.ref (g (8 + 2 * 20)), .int x2] ws (fun r u => ws = u ∧ (0 ≤ r.toInt) ∧ (r.toInt ≤ 255)) := by
  intro sz
  refine q_into (by decide) (Nat.le_of_ble_eq_true rfl) ?_
  intro p e s m below meth c ls hsz C0 V hl
  have hx := C0.1
  have hb := C0.2.1
  replace pre0 : q_F (0 ≤ x2.toInt) := pre0
  replace pre1 : q_F (x2.toInt ≤ 2) := pre1
  have hl : lv_has ls 2 [(0, .ref (g (8 + 2 * 20))), (1, .int x2)] := hl
  refine lv_aload_n hx hb d_31_56_0 rfl (lv_at hl 0 rfl) ?_
  refine q_goi V (q_runVs (As := []) (rest := []) (d := 1) (mc := 0) (ms := 0) (i := 20) C0 V rfl LV_jStr_492 (T_jStr_isLatin1_20 l D g q ws   hI   _) rfl rfl rfl hl.1 rfl (Nat.le_of_ble_eq_true rfl) ⟨by decide, by decide⟩ ⟨Nat.le_of_ble_eq_true rfl, Nat.le_of_ble_eq_true rfl⟩ d_31_56_1) (fun a3 u1 H locs hp2 V => ?_)
  obtain ⟨rfl, b4, b5⟩ := hp2
  replace b4 : q_F (1 ≤ a3.toInt) := b4
  replace b5 : q_F (a3.toInt ≤ 1) := b5
  obtain rfl : a3 = (1 : Int32) := q_Ieq (x := a3.toInt) (y := 1) rfl (by decide) (by have t1 : 1 ≤ a3.toInt := b4; have t2 : a3.toInt ≤ 1 := b5; omega)
  refine lv_if_eq (tgt := 16) hx hb d_31_56_4 (by decide) (fun c6 => absurd c6 (by decide)) (fun c6 => ?_)
  refine lv_aload_n hx hb d_31_56_7 rfl (lv_at hl 0 rfl) ?_
  refine q_sval (i := 20) C0 V rfl rfl w_1018 d_31_56_8 ?_
  refine lv_iload_n hx hb d_31_56_11 rfl (lv_at hl 1 rfl) ?_
  refine q_goi V (q_runS (As := [.ref (g (9 + 2 * 20)), .int x2]) (rest := []) (d := 3) (mc := 0) (ms := 0) C0 V rfl LS_jStr_495 (T_jLat_charAt_20 l D g q ws  x2 hI  (by have t1 : 0 ≤ x2.toInt := pre0; omega) (by have t1 : x2.toInt ≤ 2 := pre1; omega) _) rfl hl.1 rfl (Nat.le_of_ble_eq_true rfl) ⟨by decide, by decide⟩ ⟨Nat.le_of_ble_eq_true rfl, Nat.le_of_ble_eq_true rfl⟩ d_31_56_12) (fun a9 u7 H locs hp8 V => ?_)
  obtain ⟨rfl, b10, b11⟩ := hp8
  replace b10 : q_F (0 ≤ a9.toInt) := b10
  replace b11 : q_F (a9.toInt ≤ 255) := b11
  exact q_retn C0 V (n_chr (by have t1 : 0 ≤ a9.toInt := b10; omega) (by have t1 : a9.toInt ≤ 255 := b11; omega)) (⟨rfl, (show 0 ≤ a9.toInt from (by have t1 : 0 ≤ a9.toInt := b10; omega)), (show a9.toInt ≤ 255 from (by have t1 : a9.toInt ≤ 255 := b11; omega))⟩) d_31_56_15
set_option maxRecDepth 100000 in
set_option maxHeartbeats 4000000 in
theorem T_jStr_coder_21 (l : Launch) (D : va_G) (g : Nat → ClassId) (q : Nat → Nat) (ws : va_W) (hI : q_I (nsh g q) q ws) : q_mI l y_jStr_coder prog_31_method_152_code 1 (.byte) 1 0 0 D g [.ref (g (8 + 2 * 21))] ws (fun r u => ws = u ∧ (0 ≤ r.toInt) ∧ (r.toInt ≤ 0)) := by
  intro sz
  refine q_into (by decide) (Nat.le_of_ble_eq_true rfl) ?_
  intro p e s m below meth c ls hsz C0 V hl
  have hx := C0.1
  have hb := C0.2.1
  have hl : lv_has ls 1 [(0, .ref (g (8 + 2 * 21)))] := hl
  refine q_scmp C0 V rfl w_663 d_31_152_0 ?_
  refine lv_if_eq (tgt := 13) hx hb d_31_152_3 (by decide) (fun c1 => absurd c1 (by decide)) (fun c1 => ?_)
  refine lv_aload_n hx hb d_31_152_6 rfl (lv_at hl 0 rfl) ?_
  refine q_scod (i := 21) C0 V rfl rfl w_1019 d_31_152_7 ?_
  refine lv_goto (tgt := 14) hx hb d_31_152_10 (by decide) ?_
  exact q_retn C0 V (rfl) (⟨rfl, (show 0 ≤ (0 : Int32).toInt from (by have z0 : (0 : Int32).toInt = 0 := rfl; omega)), (show (0 : Int32).toInt ≤ 0 from (by have z0 : (0 : Int32).toInt = 0 := rfl; omega))⟩) d_31_152_14
set_option maxRecDepth 100000 in
set_option maxHeartbeats 4000000 in
theorem T_jStr_length_21 (l : Launch) (D : va_G) (g : Nat → ClassId) (q : Nat → Nat) (ws : va_W) (hI : q_I (nsh g q) q ws) : q_mI l y_jStr_length prog_31_method_54_code 1 (.int) 2 0 0 D g [.ref (g (8 + 2 * 21))] ws (fun r u => ws = u ∧ (8 ≤ r.toInt) ∧ (r.toInt ≤ 8)) := by
  intro sz
  refine q_into (by decide) (Nat.le_of_ble_eq_true rfl) ?_
  intro p e s m below meth c ls hsz C0 V hl
  have hx := C0.1
  have hb := C0.2.1
  have hl : lv_has ls 1 [(0, .ref (g (8 + 2 * 21)))] := hl
  refine lv_aload_n hx hb d_31_54_0 rfl (lv_at hl 0 rfl) ?_
  refine q_sval (i := 21) C0 V rfl rfl w_1018 d_31_54_1 ?_
  refine q_slen (i := 21) (v := 8) C0 V rfl (by decide) d_31_54_4 ?_
  refine lv_aload_n hx hb d_31_54_5 rfl (lv_at hl 0 rfl) ?_
  refine q_goi V (q_runVs (As := []) (rest := [.int 8]) (d := 1) (mc := 0) (ms := 0) (i := 21) C0 V rfl LV_jStr_335 (T_jStr_coder_21 l D g q ws   hI   _) rfl rfl rfl hl.1 rfl (Nat.le_of_ble_eq_true rfl) ⟨by decide, by decide⟩ ⟨Nat.le_of_ble_eq_true rfl, Nat.le_of_ble_eq_true rfl⟩ d_31_54_6) (fun a3 u1 H locs hp2 V => ?_)
  obtain ⟨rfl, b4, b5⟩ := hp2
  replace b4 : q_F (0 ≤ a3.toInt) := b4
  replace b5 : q_F (a3.toInt ≤ 0) := b5
  obtain rfl : a3 = (0 : Int32) := q_Ieq (x := a3.toInt) (y := 0) rfl (by decide) (by have t1 : 0 ≤ a3.toInt := b4; have t2 : a3.toInt ≤ 0 := b5; omega)
  refine lv_ishr hx hb d_31_54_9 ?_
  refine q_ti (v := 8) (by decide) ?_
  exact q_reti C0 V (⟨rfl, (show 8 ≤ (8 : Int32).toInt from (by have z0 : (8 : Int32).toInt = 8 := rfl; omega)), (show (8 : Int32).toInt ≤ 8 from (by have z0 : (8 : Int32).toInt = 8 := rfl; omega))⟩) d_31_54_10
set_option maxRecDepth 100000 in
set_option maxHeartbeats 4000000 in
theorem T_jStr_isLatin1_21 (l : Launch) (D : va_G) (g : Nat → ClassId) (q : Nat → Nat) (ws : va_W) (hI : q_I (nsh g q) q ws) : q_mI l y_jStr_isLatin1 prog_31_method_154_code 1 (.boolean) 1 0 0 D g [.ref (g (8 + 2 * 21))] ws (fun r u => ws = u ∧ (1 ≤ r.toInt) ∧ (r.toInt ≤ 1)) := by
  intro sz
  refine q_into (by decide) (Nat.le_of_ble_eq_true rfl) ?_
  intro p e s m below meth c ls hsz C0 V hl
  have hx := C0.1
  have hb := C0.2.1
  have hl : lv_has ls 1 [(0, .ref (g (8 + 2 * 21)))] := hl
  refine q_scmp C0 V rfl w_663 d_31_154_0 ?_
  refine lv_if_eq (tgt := 17) hx hb d_31_154_3 (by decide) (fun c1 => absurd c1 (by decide)) (fun c1 => ?_)
  refine lv_aload_n hx hb d_31_154_6 rfl (lv_at hl 0 rfl) ?_
  refine q_scod (i := 21) C0 V rfl rfl w_1019 d_31_154_7 ?_
  refine lv_if_ne (tgt := 17) hx hb d_31_154_10 (by decide) (fun c2 => absurd (by decide) c2) (fun c2 => ?_)
  refine lv_iconst (v := 1) hx hb d_31_154_13 (by decide) ?_
  refine lv_goto (tgt := 18) hx hb d_31_154_14 (by decide) ?_
  exact q_retz C0 V (by decide) (⟨rfl, (show 1 ≤ (1 : Int32).toInt from (by have z0 : (1 : Int32).toInt = 1 := rfl; omega)), (show (1 : Int32).toInt ≤ 1 from (by have z0 : (1 : Int32).toInt = 1 := rfl; omega))⟩) d_31_154_18
set_option maxRecDepth 100000 in
set_option maxHeartbeats 4000000 in
theorem T_jLat_charAt_21 (l : Launch) (D : va_G) (g : Nat → ClassId) (q : Nat → Nat) (ws : va_W) (x2 : Int32) (hI : q_I (nsh g q) q ws) (pre0 : 0 ≤ x2.toInt) (pre1 : x2.toInt ≤ 7) : q_mI l y_jLat_charAt prog_33_method_2_code 2 (.char) 3 0 0 D g [.ref (g (9 + 2 * 21)), .int x2] ws (fun r u => ws = u ∧ (0 ≤ r.toInt) ∧ (r.toInt ≤ 255)) := by
  intro sz
  refine q_into (by decide) (Nat.le_of_ble_eq_true rfl) ?_
  intro p e s m below meth c ls hsz C0 V hl
  have hx := C0.1
  have hb := C0.2.1
  replace pre0 : q_F (0 ≤ x2.toInt) := pre0
  replace pre1 : q_F (x2.toInt ≤ 7) := pre1
  have hl : lv_has ls 2 [(0, .ref (g (9 + 2 * 21))), (1, .int x2)] := hl
  refine lv_iload_n hx hb d_33_2_0 rfl (lv_at hl 1 rfl) ?_
  refine lv_aload_n hx hb d_33_2_1 rfl (lv_at hl 0 rfl) ?_
  refine q_slen (i := 21) (v := 8) C0 V rfl (by decide) d_33_2_2 ?_
  refine q_gov V (q_runS (As := [.int x2, .int 8]) (rest := []) (d := 2) (mc := 0) (ms := 0) C0 V rfl LS_jLat_9 (T_jStr_checkIndex l D g q ws  x2 8 hI  (by have y0 : (8 : Int32).toInt = 8 := rfl; have t1 : 0 ≤ x2.toInt := pre0; omega) (by have y0 : (8 : Int32).toInt = 8 := rfl; have t1 : x2.toInt ≤ 7 := pre1; omega) _) rfl hl.1 rfl (Nat.le_of_ble_eq_true rfl) ⟨by decide, by decide⟩ ⟨Nat.le_of_ble_eq_true rfl, Nat.le_of_ble_eq_true rfl⟩ d_33_2_3) (fun u1 H locs hp2 V => ?_)
  obtain ⟨rfl, -⟩ := hp2
  refine lv_aload_n hx hb d_33_2_6 rfl (lv_at hl 0 rfl) ?_
  refine lv_iload_n hx hb d_33_2_7 rfl (lv_at hl 1 rfl) ?_
  refine q_sbal (i := 21) (v := (([73, 110, 102, 105, 110, 105, 116, 121] : List Int32).getD x2.toNatClampNeg 0)) C0 V rfl (show vp_in x2 8 from q_ix (x := x2.toInt) rfl (by have t1 : 0 ≤ x2.toInt := pre0; omega) (by have t1 : 0 ≤ x2.toInt := pre0; have t2 : x2.toInt ≤ 7 := pre1; omega)) rfl d_33_2_8 ?_
  obtain ⟨a3, e4⟩ := q_nm ((([73, 110, 102, 105, 110, 105, 116, 121] : List Int32).getD x2.toNatClampNeg 0) : Int32)
  refine q_ti (v := a3) e4 ?_
  refine lv_sipush (v := 255) hx hb d_33_2_9 (by decide) ?_
  refine lv_iand hx hb d_33_2_12 ?_
  obtain ⟨a5, e6⟩ := q_nm (a3 &&& 255 : Int32)
  refine q_ti (v := a5) e6 ?_
  have b7 : q_F (0 ≤ a5.toInt ∧ a5.toInt ≤ 255) := (by rw [← e6]; show 0 ≤ (a3 &&& 255 : Int32).toInt ∧ (a3 &&& 255 : Int32).toInt ≤ 255; exact s_and (by decide))
  refine lv_i2c hx hb d_33_2_13 rfl ?_
  obtain ⟨a8, e9⟩ := q_nm ((a5.toUInt32 % 65536).toInt32 : Int32)
  refine q_ti (v := a8) e9 ?_
  have b10 : q_F (a8.toInt = a5.toInt) := (by rw [← e9]; show ((a5.toUInt32 % 65536).toInt32 : Int32).toInt = a5.toInt; exact (n_i2c (x := a5)).2.2 (by have t1 : 0 ≤ a5.toInt ∧ a5.toInt ≤ 255 := b7; omega) (by have t1 : 0 ≤ a5.toInt ∧ a5.toInt ≤ 255 := b7; omega))
  exact q_retn C0 V (n_chr (by have t1 : 0 ≤ a5.toInt ∧ a5.toInt ≤ 255 := b7; have t2 : a8.toInt = a5.toInt := b10; omega) (by have t1 : 0 ≤ a5.toInt ∧ a5.toInt ≤ 255 := b7; have t2 : a8.toInt = a5.toInt := b10; omega)) (⟨rfl, (show 0 ≤ a8.toInt from (by have t1 : 0 ≤ a5.toInt ∧ a5.toInt ≤ 255 := b7; have t2 : a8.toInt = a5.toInt := b10; omega)), (show a8.toInt ≤ 255 from (by have t1 : 0 ≤ a5.toInt ∧ a5.toInt ≤ 255 := b7; have t2 : a8.toInt = a5.toInt := b10; omega))⟩) d_33_2_14
set_option maxRecDepth 100000 in
set_option maxHeartbeats 4000000 in
theorem T_jStr_charAt_21 (l : Launch) (D : va_G) (g : Nat → ClassId) (q : Nat → Nat) (ws : va_W) (x2 : Int32) (hI : q_I (nsh g q) q ws) (pre0 : 0 ≤ x2.toInt) (pre1 : x2.toInt ≤ 7) : q_mI l y_jStr_charAt prog_31_method_56_code 2 (.char) 4 0 0 D g [.ref (g (8 + 2 * 21)), .int x2] ws (fun r u => ws = u ∧ (0 ≤ r.toInt) ∧ (r.toInt ≤ 255)) := by
  intro sz
  refine q_into (by decide) (Nat.le_of_ble_eq_true rfl) ?_
  intro p e s m below meth c ls hsz C0 V hl
  have hx := C0.1
  have hb := C0.2.1
  replace pre0 : q_F (0 ≤ x2.toInt) := pre0
  replace pre1 : q_F (x2.toInt ≤ 7) := pre1
  have hl : lv_has ls 2 [(0, .ref (g (8 + 2 * 21))), (1, .int x2)] := hl
  refine lv_aload_n hx hb d_31_56_0 rfl (lv_at hl 0 rfl) ?_
  refine q_goi V (q_runVs (As := []) (rest := []) (d := 1) (mc := 0) (ms := 0) (i := 21) C0 V rfl LV_jStr_492 (T_jStr_isLatin1_21 l D g q ws   hI   _) rfl rfl rfl hl.1 rfl (Nat.le_of_ble_eq_true rfl) ⟨by decide, by decide⟩ ⟨Nat.le_of_ble_eq_true rfl, Nat.le_of_ble_eq_true rfl⟩ d_31_56_1) (fun a3 u1 H locs hp2 V => ?_)
  obtain ⟨rfl, b4, b5⟩ := hp2
  replace b4 : q_F (1 ≤ a3.toInt) := b4
  replace b5 : q_F (a3.toInt ≤ 1) := b5
  obtain rfl : a3 = (1 : Int32) := q_Ieq (x := a3.toInt) (y := 1) rfl (by decide) (by have t1 : 1 ≤ a3.toInt := b4; have t2 : a3.toInt ≤ 1 := b5; omega)
  refine lv_if_eq (tgt := 16) hx hb d_31_56_4 (by decide) (fun c6 => absurd c6 (by decide)) (fun c6 => ?_)
  refine lv_aload_n hx hb d_31_56_7 rfl (lv_at hl 0 rfl) ?_
  refine q_sval (i := 21) C0 V rfl rfl w_1018 d_31_56_8 ?_
  refine lv_iload_n hx hb d_31_56_11 rfl (lv_at hl 1 rfl) ?_
  refine q_goi V (q_runS (As := [.ref (g (9 + 2 * 21)), .int x2]) (rest := []) (d := 3) (mc := 0) (ms := 0) C0 V rfl LS_jStr_495 (T_jLat_charAt_21 l D g q ws  x2 hI  (by have t1 : 0 ≤ x2.toInt := pre0; omega) (by have t1 : x2.toInt ≤ 7 := pre1; omega) _) rfl hl.1 rfl (Nat.le_of_ble_eq_true rfl) ⟨by decide, by decide⟩ ⟨Nat.le_of_ble_eq_true rfl, Nat.le_of_ble_eq_true rfl⟩ d_31_56_12) (fun a9 u7 H locs hp8 V => ?_)
  obtain ⟨rfl, b10, b11⟩ := hp8
  replace b10 : q_F (0 ≤ a9.toInt) := b10
  replace b11 : q_F (a9.toInt ≤ 255) := b11
  exact q_retn C0 V (n_chr (by have t1 : 0 ≤ a9.toInt := b10; omega) (by have t1 : a9.toInt ≤ 255 := b11; omega)) (⟨rfl, (show 0 ≤ a9.toInt from (by have t1 : 0 ≤ a9.toInt := b10; omega)), (show a9.toInt ≤ 255 from (by have t1 : a9.toInt ≤ 255 := b11; omega))⟩) d_31_56_15
set_option maxRecDepth 100000 in
set_option maxHeartbeats 4000000 in
theorem T_jStr_coder_22 (l : Launch) (D : va_G) (g : Nat → ClassId) (q : Nat → Nat) (ws : va_W) (hI : q_I (nsh g q) q ws) : q_mI l y_jStr_coder prog_31_method_152_code 1 (.byte) 1 0 0 D g [.ref (g (8 + 2 * 22))] ws (fun r u => ws = u ∧ (0 ≤ r.toInt) ∧ (r.toInt ≤ 0)) := by
  intro sz
  refine q_into (by decide) (Nat.le_of_ble_eq_true rfl) ?_
  intro p e s m below meth c ls hsz C0 V hl
  have hx := C0.1
  have hb := C0.2.1
  have hl : lv_has ls 1 [(0, .ref (g (8 + 2 * 22)))] := hl
  refine q_scmp C0 V rfl w_663 d_31_152_0 ?_
  refine lv_if_eq (tgt := 13) hx hb d_31_152_3 (by decide) (fun c1 => absurd c1 (by decide)) (fun c1 => ?_)
  refine lv_aload_n hx hb d_31_152_6 rfl (lv_at hl 0 rfl) ?_
  refine q_scod (i := 22) C0 V rfl rfl w_1019 d_31_152_7 ?_
  refine lv_goto (tgt := 14) hx hb d_31_152_10 (by decide) ?_
  exact q_retn C0 V (rfl) (⟨rfl, (show 0 ≤ (0 : Int32).toInt from (by have z0 : (0 : Int32).toInt = 0 := rfl; omega)), (show (0 : Int32).toInt ≤ 0 from (by have z0 : (0 : Int32).toInt = 0 := rfl; omega))⟩) d_31_152_14
set_option maxRecDepth 100000 in
set_option maxHeartbeats 4000000 in
theorem T_jStr_length_22 (l : Launch) (D : va_G) (g : Nat → ClassId) (q : Nat → Nat) (ws : va_W) (hI : q_I (nsh g q) q ws) : q_mI l y_jStr_length prog_31_method_54_code 1 (.int) 2 0 0 D g [.ref (g (8 + 2 * 22))] ws (fun r u => ws = u ∧ (36 ≤ r.toInt) ∧ (r.toInt ≤ 36)) := by
  intro sz
  refine q_into (by decide) (Nat.le_of_ble_eq_true rfl) ?_
  intro p e s m below meth c ls hsz C0 V hl
  have hx := C0.1
  have hb := C0.2.1
  have hl : lv_has ls 1 [(0, .ref (g (8 + 2 * 22)))] := hl
  refine lv_aload_n hx hb d_31_54_0 rfl (lv_at hl 0 rfl) ?_
  refine q_sval (i := 22) C0 V rfl rfl w_1018 d_31_54_1 ?_
  refine q_slen (i := 22) (v := 36) C0 V rfl (by decide) d_31_54_4 ?_
  refine lv_aload_n hx hb d_31_54_5 rfl (lv_at hl 0 rfl) ?_
  refine q_goi V (q_runVs (As := []) (rest := [.int 36]) (d := 1) (mc := 0) (ms := 0) (i := 22) C0 V rfl LV_jStr_335 (T_jStr_coder_22 l D g q ws   hI   _) rfl rfl rfl hl.1 rfl (Nat.le_of_ble_eq_true rfl) ⟨by decide, by decide⟩ ⟨Nat.le_of_ble_eq_true rfl, Nat.le_of_ble_eq_true rfl⟩ d_31_54_6) (fun a3 u1 H locs hp2 V => ?_)
  obtain ⟨rfl, b4, b5⟩ := hp2
  replace b4 : q_F (0 ≤ a3.toInt) := b4
  replace b5 : q_F (a3.toInt ≤ 0) := b5
  obtain rfl : a3 = (0 : Int32) := q_Ieq (x := a3.toInt) (y := 0) rfl (by decide) (by have t1 : 0 ≤ a3.toInt := b4; have t2 : a3.toInt ≤ 0 := b5; omega)
  refine lv_ishr hx hb d_31_54_9 ?_
  refine q_ti (v := 36) (by decide) ?_
  exact q_reti C0 V (⟨rfl, (show 36 ≤ (36 : Int32).toInt from (by have z0 : (36 : Int32).toInt = 36 := rfl; omega)), (show (36 : Int32).toInt ≤ 36 from (by have z0 : (36 : Int32).toInt = 36 := rfl; omega))⟩) d_31_54_10
set_option maxRecDepth 100000 in
set_option maxHeartbeats 4000000 in
theorem T_jStr_isLatin1_22 (l : Launch) (D : va_G) (g : Nat → ClassId) (q : Nat → Nat) (ws : va_W) (hI : q_I (nsh g q) q ws) : q_mI l y_jStr_isLatin1 prog_31_method_154_code 1 (.boolean) 1 0 0 D g [.ref (g (8 + 2 * 22))] ws (fun r u => ws = u ∧ (1 ≤ r.toInt) ∧ (r.toInt ≤ 1)) := by
  intro sz
  refine q_into (by decide) (Nat.le_of_ble_eq_true rfl) ?_
  intro p e s m below meth c ls hsz C0 V hl
  have hx := C0.1
  have hb := C0.2.1
  have hl : lv_has ls 1 [(0, .ref (g (8 + 2 * 22)))] := hl
  refine q_scmp C0 V rfl w_663 d_31_154_0 ?_
  refine lv_if_eq (tgt := 17) hx hb d_31_154_3 (by decide) (fun c1 => absurd c1 (by decide)) (fun c1 => ?_)
  refine lv_aload_n hx hb d_31_154_6 rfl (lv_at hl 0 rfl) ?_
  refine q_scod (i := 22) C0 V rfl rfl w_1019 d_31_154_7 ?_
  refine lv_if_ne (tgt := 17) hx hb d_31_154_10 (by decide) (fun c2 => absurd (by decide) c2) (fun c2 => ?_)
  refine lv_iconst (v := 1) hx hb d_31_154_13 (by decide) ?_
  refine lv_goto (tgt := 18) hx hb d_31_154_14 (by decide) ?_
  exact q_retz C0 V (by decide) (⟨rfl, (show 1 ≤ (1 : Int32).toInt from (by have z0 : (1 : Int32).toInt = 1 := rfl; omega)), (show (1 : Int32).toInt ≤ 1 from (by have z0 : (1 : Int32).toInt = 1 := rfl; omega))⟩) d_31_154_18
set_option maxRecDepth 100000 in
set_option maxHeartbeats 4000000 in
theorem T_jLat_charAt_22 (l : Launch) (D : va_G) (g : Nat → ClassId) (q : Nat → Nat) (ws : va_W) (x2 : Int32) (hI : q_I (nsh g q) q ws) (pre0 : 0 ≤ x2.toInt) (pre1 : x2.toInt ≤ 35) : q_mI l y_jLat_charAt prog_33_method_2_code 2 (.char) 3 0 0 D g [.ref (g (9 + 2 * 22)), .int x2] ws (fun r u => ws = u ∧ (0 ≤ r.toInt) ∧ (r.toInt ≤ 255)) := by
  intro sz
  refine q_into (by decide) (Nat.le_of_ble_eq_true rfl) ?_
  intro p e s m below meth c ls hsz C0 V hl
  have hx := C0.1
  have hb := C0.2.1
  replace pre0 : q_F (0 ≤ x2.toInt) := pre0
  replace pre1 : q_F (x2.toInt ≤ 35) := pre1
  have hl : lv_has ls 2 [(0, .ref (g (9 + 2 * 22))), (1, .int x2)] := hl
  refine lv_iload_n hx hb d_33_2_0 rfl (lv_at hl 1 rfl) ?_
  refine lv_aload_n hx hb d_33_2_1 rfl (lv_at hl 0 rfl) ?_
  refine q_slen (i := 22) (v := 36) C0 V rfl (by decide) d_33_2_2 ?_
  refine q_gov V (q_runS (As := [.int x2, .int 36]) (rest := []) (d := 2) (mc := 0) (ms := 0) C0 V rfl LS_jLat_9 (T_jStr_checkIndex l D g q ws  x2 36 hI  (by have y0 : (36 : Int32).toInt = 36 := rfl; have t1 : 0 ≤ x2.toInt := pre0; omega) (by have y0 : (36 : Int32).toInt = 36 := rfl; have t1 : x2.toInt ≤ 35 := pre1; omega) _) rfl hl.1 rfl (Nat.le_of_ble_eq_true rfl) ⟨by decide, by decide⟩ ⟨Nat.le_of_ble_eq_true rfl, Nat.le_of_ble_eq_true rfl⟩ d_33_2_3) (fun u1 H locs hp2 V => ?_)
  obtain ⟨rfl, -⟩ := hp2
  refine lv_aload_n hx hb d_33_2_6 rfl (lv_at hl 0 rfl) ?_
  refine lv_iload_n hx hb d_33_2_7 rfl (lv_at hl 1 rfl) ?_
  refine q_sbal (i := 22) (v := (([48, 49, 50, 51, 52, 53, 54, 55, 56, 57, 97, 98, 99, 100, 101, 102, 103, 104, 105, 106, 107, 108, 109, 110, 111, 112, 113, 114, 115, 116, 117, 118, 119, 120, 121, 122] : List Int32).getD x2.toNatClampNeg 0)) C0 V rfl (show vp_in x2 36 from q_ix (x := x2.toInt) rfl (by have t1 : 0 ≤ x2.toInt := pre0; omega) (by have t1 : 0 ≤ x2.toInt := pre0; have t2 : x2.toInt ≤ 35 := pre1; omega)) rfl d_33_2_8 ?_
  obtain ⟨a3, e4⟩ := q_nm ((([48, 49, 50, 51, 52, 53, 54, 55, 56, 57, 97, 98, 99, 100, 101, 102, 103, 104, 105, 106, 107, 108, 109, 110, 111, 112, 113, 114, 115, 116, 117, 118, 119, 120, 121, 122] : List Int32).getD x2.toNatClampNeg 0) : Int32)
  refine q_ti (v := a3) e4 ?_
  refine lv_sipush (v := 255) hx hb d_33_2_9 (by decide) ?_
  refine lv_iand hx hb d_33_2_12 ?_
  obtain ⟨a5, e6⟩ := q_nm (a3 &&& 255 : Int32)
  refine q_ti (v := a5) e6 ?_
  have b7 : q_F (0 ≤ a5.toInt ∧ a5.toInt ≤ 255) := (by rw [← e6]; show 0 ≤ (a3 &&& 255 : Int32).toInt ∧ (a3 &&& 255 : Int32).toInt ≤ 255; exact s_and (by decide))
  refine lv_i2c hx hb d_33_2_13 rfl ?_
  obtain ⟨a8, e9⟩ := q_nm ((a5.toUInt32 % 65536).toInt32 : Int32)
  refine q_ti (v := a8) e9 ?_
  have b10 : q_F (a8.toInt = a5.toInt) := (by rw [← e9]; show ((a5.toUInt32 % 65536).toInt32 : Int32).toInt = a5.toInt; exact (n_i2c (x := a5)).2.2 (by have t1 : 0 ≤ a5.toInt ∧ a5.toInt ≤ 255 := b7; omega) (by have t1 : 0 ≤ a5.toInt ∧ a5.toInt ≤ 255 := b7; omega))
  exact q_retn C0 V (n_chr (by have t1 : 0 ≤ a5.toInt ∧ a5.toInt ≤ 255 := b7; have t2 : a8.toInt = a5.toInt := b10; omega) (by have t1 : 0 ≤ a5.toInt ∧ a5.toInt ≤ 255 := b7; have t2 : a8.toInt = a5.toInt := b10; omega)) (⟨rfl, (show 0 ≤ a8.toInt from (by have t1 : 0 ≤ a5.toInt ∧ a5.toInt ≤ 255 := b7; have t2 : a8.toInt = a5.toInt := b10; omega)), (show a8.toInt ≤ 255 from (by have t1 : 0 ≤ a5.toInt ∧ a5.toInt ≤ 255 := b7; have t2 : a8.toInt = a5.toInt := b10; omega))⟩) d_33_2_14
set_option maxRecDepth 100000 in
set_option maxHeartbeats 4000000 in
theorem T_jStr_charAt_22 (l : Launch) (D : va_G) (g : Nat → ClassId) (q : Nat → Nat) (ws : va_W) (x2 : Int32) (hI : q_I (nsh g q) q ws) (pre0 : 0 ≤ x2.toInt) (pre1 : x2.toInt ≤ 35) : q_mI l y_jStr_charAt prog_31_method_56_code 2 (.char) 4 0 0 D g [.ref (g (8 + 2 * 22)), .int x2] ws (fun r u => ws = u ∧ (0 ≤ r.toInt) ∧ (r.toInt ≤ 255)) := by
  intro sz
  refine q_into (by decide) (Nat.le_of_ble_eq_true rfl) ?_
  intro p e s m below meth c ls hsz C0 V hl
  have hx := C0.1
  have hb := C0.2.1
  replace pre0 : q_F (0 ≤ x2.toInt) := pre0
  replace pre1 : q_F (x2.toInt ≤ 35) := pre1
  have hl : lv_has ls 2 [(0, .ref (g (8 + 2 * 22))), (1, .int x2)] := hl
  refine lv_aload_n hx hb d_31_56_0 rfl (lv_at hl 0 rfl) ?_
  refine q_goi V (q_runVs (As := []) (rest := []) (d := 1) (mc := 0) (ms := 0) (i := 22) C0 V rfl LV_jStr_492 (T_jStr_isLatin1_22 l D g q ws   hI   _) rfl rfl rfl hl.1 rfl (Nat.le_of_ble_eq_true rfl) ⟨by decide, by decide⟩ ⟨Nat.le_of_ble_eq_true rfl, Nat.le_of_ble_eq_true rfl⟩ d_31_56_1) (fun a3 u1 H locs hp2 V => ?_)
  obtain ⟨rfl, b4, b5⟩ := hp2
  replace b4 : q_F (1 ≤ a3.toInt) := b4
  replace b5 : q_F (a3.toInt ≤ 1) := b5
  obtain rfl : a3 = (1 : Int32) := q_Ieq (x := a3.toInt) (y := 1) rfl (by decide) (by have t1 : 1 ≤ a3.toInt := b4; have t2 : a3.toInt ≤ 1 := b5; omega)
  refine lv_if_eq (tgt := 16) hx hb d_31_56_4 (by decide) (fun c6 => absurd c6 (by decide)) (fun c6 => ?_)
  refine lv_aload_n hx hb d_31_56_7 rfl (lv_at hl 0 rfl) ?_
  refine q_sval (i := 22) C0 V rfl rfl w_1018 d_31_56_8 ?_
  refine lv_iload_n hx hb d_31_56_11 rfl (lv_at hl 1 rfl) ?_
  refine q_goi V (q_runS (As := [.ref (g (9 + 2 * 22)), .int x2]) (rest := []) (d := 3) (mc := 0) (ms := 0) C0 V rfl LS_jStr_495 (T_jLat_charAt_22 l D g q ws  x2 hI  (by have t1 : 0 ≤ x2.toInt := pre0; omega) (by have t1 : x2.toInt ≤ 35 := pre1; omega) _) rfl hl.1 rfl (Nat.le_of_ble_eq_true rfl) ⟨by decide, by decide⟩ ⟨Nat.le_of_ble_eq_true rfl, Nat.le_of_ble_eq_true rfl⟩ d_31_56_12) (fun a9 u7 H locs hp8 V => ?_)
  obtain ⟨rfl, b10, b11⟩ := hp8
  replace b10 : q_F (0 ≤ a9.toInt) := b10
  replace b11 : q_F (a9.toInt ≤ 255) := b11
  exact q_retn C0 V (n_chr (by have t1 : 0 ≤ a9.toInt := b10; omega) (by have t1 : a9.toInt ≤ 255 := b11; omega)) (⟨rfl, (show 0 ≤ a9.toInt from (by have t1 : 0 ≤ a9.toInt := b10; omega)), (show a9.toInt ≤ 255 from (by have t1 : a9.toInt ≤ 255 := b11; omega))⟩) d_31_56_15
set_option maxRecDepth 100000 in
set_option maxHeartbeats 4000000 in
theorem T_jStr_coder_23 (l : Launch) (D : va_G) (g : Nat → ClassId) (q : Nat → Nat) (ws : va_W) (hI : q_I (nsh g q) q ws) : q_mI l y_jStr_coder prog_31_method_152_code 1 (.byte) 1 0 0 D g [.ref (g (8 + 2 * 23))] ws (fun r u => ws = u ∧ (0 ≤ r.toInt) ∧ (r.toInt ≤ 0)) := by
  intro sz
  refine q_into (by decide) (Nat.le_of_ble_eq_true rfl) ?_
  intro p e s m below meth c ls hsz C0 V hl
  have hx := C0.1
  have hb := C0.2.1
  have hl : lv_has ls 1 [(0, .ref (g (8 + 2 * 23)))] := hl
  refine q_scmp C0 V rfl w_663 d_31_152_0 ?_
  refine lv_if_eq (tgt := 13) hx hb d_31_152_3 (by decide) (fun c1 => absurd c1 (by decide)) (fun c1 => ?_)
  refine lv_aload_n hx hb d_31_152_6 rfl (lv_at hl 0 rfl) ?_
  refine q_scod (i := 23) C0 V rfl rfl w_1019 d_31_152_7 ?_
  refine lv_goto (tgt := 14) hx hb d_31_152_10 (by decide) ?_
  exact q_retn C0 V (rfl) (⟨rfl, (show 0 ≤ (0 : Int32).toInt from (by have z0 : (0 : Int32).toInt = 0 := rfl; omega)), (show (0 : Int32).toInt ≤ 0 from (by have z0 : (0 : Int32).toInt = 0 := rfl; omega))⟩) d_31_152_14
set_option maxRecDepth 100000 in
set_option maxHeartbeats 4000000 in
theorem T_jStr_length_23 (l : Launch) (D : va_G) (g : Nat → ClassId) (q : Nat → Nat) (ws : va_W) (hI : q_I (nsh g q) q ws) : q_mI l y_jStr_length prog_31_method_54_code 1 (.int) 2 0 0 D g [.ref (g (8 + 2 * 23))] ws (fun r u => ws = u ∧ (3 ≤ r.toInt) ∧ (r.toInt ≤ 3)) := by
  intro sz
  refine q_into (by decide) (Nat.le_of_ble_eq_true rfl) ?_
  intro p e s m below meth c ls hsz C0 V hl
  have hx := C0.1
  have hb := C0.2.1
  have hl : lv_has ls 1 [(0, .ref (g (8 + 2 * 23)))] := hl
  refine lv_aload_n hx hb d_31_54_0 rfl (lv_at hl 0 rfl) ?_
  refine q_sval (i := 23) C0 V rfl rfl w_1018 d_31_54_1 ?_
  refine q_slen (i := 23) (v := 3) C0 V rfl (by decide) d_31_54_4 ?_
  refine lv_aload_n hx hb d_31_54_5 rfl (lv_at hl 0 rfl) ?_
  refine q_goi V (q_runVs (As := []) (rest := [.int 3]) (d := 1) (mc := 0) (ms := 0) (i := 23) C0 V rfl LV_jStr_335 (T_jStr_coder_23 l D g q ws   hI   _) rfl rfl rfl hl.1 rfl (Nat.le_of_ble_eq_true rfl) ⟨by decide, by decide⟩ ⟨Nat.le_of_ble_eq_true rfl, Nat.le_of_ble_eq_true rfl⟩ d_31_54_6) (fun a3 u1 H locs hp2 V => ?_)
  obtain ⟨rfl, b4, b5⟩ := hp2
  replace b4 : q_F (0 ≤ a3.toInt) := b4
  replace b5 : q_F (a3.toInt ≤ 0) := b5
  obtain rfl : a3 = (0 : Int32) := q_Ieq (x := a3.toInt) (y := 0) rfl (by decide) (by have t1 : 0 ≤ a3.toInt := b4; have t2 : a3.toInt ≤ 0 := b5; omega)
  refine lv_ishr hx hb d_31_54_9 ?_
  refine q_ti (v := 3) (by decide) ?_
  exact q_reti C0 V (⟨rfl, (show 3 ≤ (3 : Int32).toInt from (by have z0 : (3 : Int32).toInt = 3 := rfl; omega)), (show (3 : Int32).toInt ≤ 3 from (by have z0 : (3 : Int32).toInt = 3 := rfl; omega))⟩) d_31_54_10
set_option maxRecDepth 100000 in
set_option maxHeartbeats 4000000 in
theorem T_jStr_isLatin1_23 (l : Launch) (D : va_G) (g : Nat → ClassId) (q : Nat → Nat) (ws : va_W) (hI : q_I (nsh g q) q ws) : q_mI l y_jStr_isLatin1 prog_31_method_154_code 1 (.boolean) 1 0 0 D g [.ref (g (8 + 2 * 23))] ws (fun r u => ws = u ∧ (1 ≤ r.toInt) ∧ (r.toInt ≤ 1)) := by
  intro sz
  refine q_into (by decide) (Nat.le_of_ble_eq_true rfl) ?_
  intro p e s m below meth c ls hsz C0 V hl
  have hx := C0.1
  have hb := C0.2.1
  have hl : lv_has ls 1 [(0, .ref (g (8 + 2 * 23)))] := hl
  refine q_scmp C0 V rfl w_663 d_31_154_0 ?_
  refine lv_if_eq (tgt := 17) hx hb d_31_154_3 (by decide) (fun c1 => absurd c1 (by decide)) (fun c1 => ?_)
  refine lv_aload_n hx hb d_31_154_6 rfl (lv_at hl 0 rfl) ?_
  refine q_scod (i := 23) C0 V rfl rfl w_1019 d_31_154_7 ?_
  refine lv_if_ne (tgt := 17) hx hb d_31_154_10 (by decide) (fun c2 => absurd (by decide) c2) (fun c2 => ?_)
  refine lv_iconst (v := 1) hx hb d_31_154_13 (by decide) ?_
  refine lv_goto (tgt := 18) hx hb d_31_154_14 (by decide) ?_
  exact q_retz C0 V (by decide) (⟨rfl, (show 1 ≤ (1 : Int32).toInt from (by have z0 : (1 : Int32).toInt = 1 := rfl; omega)), (show (1 : Int32).toInt ≤ 1 from (by have z0 : (1 : Int32).toInt = 1 := rfl; omega))⟩) d_31_154_18
set_option maxRecDepth 100000 in
set_option maxHeartbeats 4000000 in
theorem T_jLat_charAt_23 (l : Launch) (D : va_G) (g : Nat → ClassId) (q : Nat → Nat) (ws : va_W) (x2 : Int32) (hI : q_I (nsh g q) q ws) (pre0 : 0 ≤ x2.toInt) (pre1 : x2.toInt ≤ 2) : q_mI l y_jLat_charAt prog_33_method_2_code 2 (.char) 3 0 0 D g [.ref (g (9 + 2 * 23)), .int x2] ws (fun r u => ws = u ∧ (0 ≤ r.toInt) ∧ (r.toInt ≤ 255)) := by
  intro sz
  refine q_into (by decide) (Nat.le_of_ble_eq_true rfl) ?_
  intro p e s m below meth c ls hsz C0 V hl
  have hx := C0.1
  have hb := C0.2.1
  replace pre0 : q_F (0 ≤ x2.toInt) := pre0
  replace pre1 : q_F (x2.toInt ≤ 2) := pre1
  have hl : lv_has ls 2 [(0, .ref (g (9 + 2 * 23))), (1, .int x2)] := hl
  refine lv_iload_n hx hb d_33_2_0 rfl (lv_at hl 1 rfl) ?_
  refine lv_aload_n hx hb d_33_2_1 rfl (lv_at hl 0 rfl) ?_
  refine q_slen (i := 23) (v := 3) C0 V rfl (by decide) d_33_2_2 ?_
  refine q_gov V (q_runS (As := [.int x2, .int 3]) (rest := []) (d := 2) (mc := 0) (ms := 0) C0 V rfl LS_jLat_9 (T_jStr_checkIndex l D g q ws  x2 3 hI  (by have y0 : (3 : Int32).toInt = 3 := rfl; have t1 : 0 ≤ x2.toInt := pre0; omega) (by have y0 : (3 : Int32).toInt = 3 := rfl; have t1 : x2.toInt ≤ 2 := pre1; omega) _) rfl hl.1 rfl (Nat.le_of_ble_eq_true rfl) ⟨by decide, by decide⟩ ⟨Nat.le_of_ble_eq_true rfl, Nat.le_of_ble_eq_true rfl⟩ d_33_2_3) (fun u1 H locs hp2 V => ?_)
  obtain ⟨rfl, -⟩ := hp2
  refine lv_aload_n hx hb d_33_2_6 rfl (lv_at hl 0 rfl) ?_
  refine lv_iload_n hx hb d_33_2_7 rfl (lv_at hl 1 rfl) ?_
  refine q_sbal (i := 23) (v := (([78, 97, 78] : List Int32).getD x2.toNatClampNeg 0)) C0 V rfl (show vp_in x2 3 from q_ix (x := x2.toInt) rfl (by have t1 : 0 ≤ x2.toInt := pre0; omega) (by have t1 : 0 ≤ x2.toInt := pre0; have t2 : x2.toInt ≤ 2 := pre1; omega)) rfl d_33_2_8 ?_
  obtain ⟨a3, e4⟩ := q_nm ((([78, 97, 78] : List Int32).getD x2.toNatClampNeg 0) : Int32)
  refine q_ti (v := a3) e4 ?_
  refine lv_sipush (v := 255) hx hb d_33_2_9 (by decide) ?_
  refine lv_iand hx hb d_33_2_12 ?_
  obtain ⟨a5, e6⟩ := q_nm (a3 &&& 255 : Int32)
  refine q_ti (v := a5) e6 ?_
  have b7 : q_F (0 ≤ a5.toInt ∧ a5.toInt ≤ 255) := (by rw [← e6]; show 0 ≤ (a3 &&& 255 : Int32).toInt ∧ (a3 &&& 255 : Int32).toInt ≤ 255; exact s_and (by decide))
  refine lv_i2c hx hb d_33_2_13 rfl ?_
  obtain ⟨a8, e9⟩ := q_nm ((a5.toUInt32 % 65536).toInt32 : Int32)
  refine q_ti (v := a8) e9 ?_
  have b10 : q_F (a8.toInt = a5.toInt) := (by rw [← e9]; show ((a5.toUInt32 % 65536).toInt32 : Int32).toInt = a5.toInt; exact (n_i2c (x := a5)).2.2 (by have t1 : 0 ≤ a5.toInt ∧ a5.toInt ≤ 255 := b7; omega) (by have t1 : 0 ≤ a5.toInt ∧ a5.toInt ≤ 255 := b7; omega))
  exact q_retn C0 V (n_chr (by have t1 : 0 ≤ a5.toInt ∧ a5.toInt ≤ 255 := b7; have t2 : a8.toInt = a5.toInt := b10; omega) (by have t1 : 0 ≤ a5.toInt ∧ a5.toInt ≤ 255 := b7; have t2 : a8.toInt = a5.toInt := b10; omega)) (⟨rfl, (show 0 ≤ a8.toInt from (by have t1 : 0 ≤ a5.toInt ∧ a5.toInt ≤ 255 := b7; have t2 : a8.toInt = a5.toInt := b10; omega)), (show a8.toInt ≤ 255 from (by have t1 : 0 ≤ a5.toInt ∧ a5.toInt ≤ 255 := b7; have t2 : a8.toInt = a5.toInt := b10; omega))⟩) d_33_2_14
set_option maxRecDepth 100000 in
set_option maxHeartbeats 4000000 in
theorem T_jStr_charAt_23 (l : Launch) (D : va_G) (g : Nat → ClassId) (q : Nat → Nat) (ws : va_W) (x2 : Int32) (hI : q_I (nsh g q) q ws) (pre0 : 0 ≤ x2.toInt) (pre1 : x2.toInt ≤ 2) : q_mI l y_jStr_charAt prog_31_method_56_code 2 (.char) 4 0 0 D g [.ref (g (8 + 2 * 23)), .int x2] ws (fun r u => ws = u ∧ (0 ≤ r.toInt) ∧ (r.toInt ≤ 255)) := by
  intro sz
  refine q_into (by decide) (Nat.le_of_ble_eq_true rfl) ?_
  intro p e s m below meth c ls hsz C0 V hl
  have hx := C0.1
  have hb := C0.2.1
  replace pre0 : q_F (0 ≤ x2.toInt) := pre0
  replace pre1 : q_F (x2.toInt ≤ 2) := pre1
  have hl : lv_has ls 2 [(0, .ref (g (8 + 2 * 23))), (1, .int x2)] := hl
  refine lv_aload_n hx hb d_31_56_0 rfl (lv_at hl 0 rfl) ?_
  refine q_goi V (q_runVs (As := []) (rest := []) (d := 1) (mc := 0) (ms := 0) (i := 23) C0 V rfl LV_jStr_492 (T_jStr_isLatin1_23 l D g q ws   hI   _) rfl rfl rfl hl.1 rfl (Nat.le_of_ble_eq_true rfl) ⟨by decide, by decide⟩ ⟨Nat.le_of_ble_eq_true rfl, Nat.le_of_ble_eq_true rfl⟩ d_31_56_1) (fun a3 u1 H locs hp2 V => ?_)
  obtain ⟨rfl, b4, b5⟩ := hp2
  replace b4 : q_F (1 ≤ a3.toInt) := b4
  replace b5 : q_F (a3.toInt ≤ 1) := b5
  obtain rfl : a3 = (1 : Int32) := q_Ieq (x := a3.toInt) (y := 1) rfl (by decide) (by have t1 : 1 ≤ a3.toInt := b4; have t2 : a3.toInt ≤ 1 := b5; omega)
  refine lv_if_eq (tgt := 16) hx hb d_31_56_4 (by decide) (fun c6 => absurd c6 (by decide)) (fun c6 => ?_)
  refine lv_aload_n hx hb d_31_56_7 rfl (lv_at hl 0 rfl) ?_
  refine q_sval (i := 23) C0 V rfl rfl w_1018 d_31_56_8 ?_
  refine lv_iload_n hx hb d_31_56_11 rfl (lv_at hl 1 rfl) ?_
  refine q_goi V (q_runS (As := [.ref (g (9 + 2 * 23)), .int x2]) (rest := []) (d := 3) (mc := 0) (ms := 0) C0 V rfl LS_jStr_495 (T_jLat_charAt_23 l D g q ws  x2 hI  (by have t1 : 0 ≤ x2.toInt := pre0; omega) (by have t1 : x2.toInt ≤ 2 := pre1; omega) _) rfl hl.1 rfl (Nat.le_of_ble_eq_true rfl) ⟨by decide, by decide⟩ ⟨Nat.le_of_ble_eq_true rfl, Nat.le_of_ble_eq_true rfl⟩ d_31_56_12) (fun a9 u7 H locs hp8 V => ?_)
  obtain ⟨rfl, b10, b11⟩ := hp8
  replace b10 : q_F (0 ≤ a9.toInt) := b10
  replace b11 : q_F (a9.toInt ≤ 255) := b11
  exact q_retn C0 V (n_chr (by have t1 : 0 ≤ a9.toInt := b10; omega) (by have t1 : a9.toInt ≤ 255 := b11; omega)) (⟨rfl, (show 0 ≤ a9.toInt from (by have t1 : 0 ≤ a9.toInt := b10; omega)), (show a9.toInt ≤ 255 from (by have t1 : a9.toInt ≤ 255 := b11; omega))⟩) d_31_56_15
set_option maxRecDepth 100000 in
set_option maxHeartbeats 4000000 in
theorem T_jStr_coder_24 (l : Launch) (D : va_G) (g : Nat → ClassId) (q : Nat → Nat) (ws : va_W) (hI : q_I (nsh g q) q ws) : q_mI l y_jStr_coder prog_31_method_152_code 1 (.byte) 1 0 0 D g [.ref (g (8 + 2 * 24))] ws (fun r u => ws = u ∧ (0 ≤ r.toInt) ∧ (r.toInt ≤ 0)) := by
  intro sz
  refine q_into (by decide) (Nat.le_of_ble_eq_true rfl) ?_
  intro p e s m below meth c ls hsz C0 V hl
  have hx := C0.1
  have hb := C0.2.1
  have hl : lv_has ls 1 [(0, .ref (g (8 + 2 * 24)))] := hl
  refine q_scmp C0 V rfl w_663 d_31_152_0 ?_
  refine lv_if_eq (tgt := 13) hx hb d_31_152_3 (by decide) (fun c1 => absurd c1 (by decide)) (fun c1 => ?_)
  refine lv_aload_n hx hb d_31_152_6 rfl (lv_at hl 0 rfl) ?_
  refine q_scod (i := 24) C0 V rfl rfl w_1019 d_31_152_7 ?_
  refine lv_goto (tgt := 14) hx hb d_31_152_10 (by decide) ?_
  exact q_retn C0 V (rfl) (⟨rfl, (show 0 ≤ (0 : Int32).toInt from (by have z0 : (0 : Int32).toInt = 0 := rfl; omega)), (show (0 : Int32).toInt ≤ 0 from (by have z0 : (0 : Int32).toInt = 0 := rfl; omega))⟩) d_31_152_14
set_option maxRecDepth 100000 in
set_option maxHeartbeats 4000000 in
theorem T_jStr_length_24 (l : Launch) (D : va_G) (g : Nat → ClassId) (q : Nat → Nat) (ws : va_W) (hI : q_I (nsh g q) q ws) : q_mI l y_jStr_length prog_31_method_54_code 1 (.int) 2 0 0 D g [.ref (g (8 + 2 * 24))] ws (fun r u => ws = u ∧ (8 ≤ r.toInt) ∧ (r.toInt ≤ 8)) := by
  intro sz
  refine q_into (by decide) (Nat.le_of_ble_eq_true rfl) ?_
  intro p e s m below meth c ls hsz C0 V hl
  have hx := C0.1
  have hb := C0.2.1
  have hl : lv_has ls 1 [(0, .ref (g (8 + 2 * 24)))] := hl
  refine lv_aload_n hx hb d_31_54_0 rfl (lv_at hl 0 rfl) ?_
  refine q_sval (i := 24) C0 V rfl rfl w_1018 d_31_54_1 ?_
  refine q_slen (i := 24) (v := 8) C0 V rfl (by decide) d_31_54_4 ?_
  refine lv_aload_n hx hb d_31_54_5 rfl (lv_at hl 0 rfl) ?_
  refine q_goi V (q_runVs (As := []) (rest := [.int 8]) (d := 1) (mc := 0) (ms := 0) (i := 24) C0 V rfl LV_jStr_335 (T_jStr_coder_24 l D g q ws   hI   _) rfl rfl rfl hl.1 rfl (Nat.le_of_ble_eq_true rfl) ⟨by decide, by decide⟩ ⟨Nat.le_of_ble_eq_true rfl, Nat.le_of_ble_eq_true rfl⟩ d_31_54_6) (fun a3 u1 H locs hp2 V => ?_)
  obtain ⟨rfl, b4, b5⟩ := hp2
  replace b4 : q_F (0 ≤ a3.toInt) := b4
  replace b5 : q_F (a3.toInt ≤ 0) := b5
  obtain rfl : a3 = (0 : Int32) := q_Ieq (x := a3.toInt) (y := 0) rfl (by decide) (by have t1 : 0 ≤ a3.toInt := b4; have t2 : a3.toInt ≤ 0 := b5; omega)
  refine lv_ishr hx hb d_31_54_9 ?_
  refine q_ti (v := 8) (by decide) ?_
  exact q_reti C0 V (⟨rfl, (show 8 ≤ (8 : Int32).toInt from (by have z0 : (8 : Int32).toInt = 8 := rfl; omega)), (show (8 : Int32).toInt ≤ 8 from (by have z0 : (8 : Int32).toInt = 8 := rfl; omega))⟩) d_31_54_10
set_option maxRecDepth 100000 in
set_option maxHeartbeats 4000000 in
theorem T_jStr_isLatin1_24 (l : Launch) (D : va_G) (g : Nat → ClassId) (q : Nat → Nat) (ws : va_W) (hI : q_I (nsh g q) q ws) : q_mI l y_jStr_isLatin1 prog_31_method_154_code 1 (.boolean) 1 0 0 D g [.ref (g (8 + 2 * 24))] ws (fun r u => ws = u ∧ (1 ≤ r.toInt) ∧ (r.toInt ≤ 1)) := by
  intro sz
  refine q_into (by decide) (Nat.le_of_ble_eq_true rfl) ?_
  intro p e s m below meth c ls hsz C0 V hl
  have hx := C0.1
  have hb := C0.2.1
  have hl : lv_has ls 1 [(0, .ref (g (8 + 2 * 24)))] := hl
  refine q_scmp C0 V rfl w_663 d_31_154_0 ?_
  refine lv_if_eq (tgt := 17) hx hb d_31_154_3 (by decide) (fun c1 => absurd c1 (by decide)) (fun c1 => ?_)
  refine lv_aload_n hx hb d_31_154_6 rfl (lv_at hl 0 rfl) ?_
  refine q_scod (i := 24) C0 V rfl rfl w_1019 d_31_154_7 ?_
  refine lv_if_ne (tgt := 17) hx hb d_31_154_10 (by decide) (fun c2 => absurd (by decide) c2) (fun c2 => ?_)
  refine lv_iconst (v := 1) hx hb d_31_154_13 (by decide) ?_
  refine lv_goto (tgt := 18) hx hb d_31_154_14 (by decide) ?_
  exact q_retz C0 V (by decide) (⟨rfl, (show 1 ≤ (1 : Int32).toInt from (by have z0 : (1 : Int32).toInt = 1 := rfl; omega)), (show (1 : Int32).toInt ≤ 1 from (by have z0 : (1 : Int32).toInt = 1 := rfl; omega))⟩) d_31_154_18
set_option maxRecDepth 100000 in
set_option maxHeartbeats 4000000 in
theorem T_jLat_charAt_24 (l : Launch) (D : va_G) (g : Nat → ClassId) (q : Nat → Nat) (ws : va_W) (x2 : Int32) (hI : q_I (nsh g q) q ws) (pre0 : 0 ≤ x2.toInt) (pre1 : x2.toInt ≤ 7) : q_mI l y_jLat_charAt prog_33_method_2_code 2 (.char) 3 0 0 D g [.ref (g (9 + 2 * 24)), .int x2] ws (fun r u => ws = u ∧ (0 ≤ r.toInt) ∧ (r.toInt ≤ 255)) := by
  intro sz
  refine q_into (by decide) (Nat.le_of_ble_eq_true rfl) ?_
  intro p e s m below meth c ls hsz C0 V hl
  have hx := C0.1
  have hb := C0.2.1
  replace pre0 : q_F (0 ≤ x2.toInt) := pre0
  replace pre1 : q_F (x2.toInt ≤ 7) := pre1
  have hl : lv_has ls 2 [(0, .ref (g (9 + 2 * 24))), (1, .int x2)] := hl
  refine lv_iload_n hx hb d_33_2_0 rfl (lv_at hl 1 rfl) ?_
  refine lv_aload_n hx hb d_33_2_1 rfl (lv_at hl 0 rfl) ?_
  refine q_slen (i := 24) (v := 8) C0 V rfl (by decide) d_33_2_2 ?_
  refine q_gov V (q_runS (As := [.int x2, .int 8]) (rest := []) (d := 2) (mc := 0) (ms := 0) C0 V rfl LS_jLat_9 (T_jStr_checkIndex l D g q ws  x2 8 hI  (by have y0 : (8 : Int32).toInt = 8 := rfl; have t1 : 0 ≤ x2.toInt := pre0; omega) (by have y0 : (8 : Int32).toInt = 8 := rfl; have t1 : x2.toInt ≤ 7 := pre1; omega) _) rfl hl.1 rfl (Nat.le_of_ble_eq_true rfl) ⟨by decide, by decide⟩ ⟨Nat.le_of_ble_eq_true rfl, Nat.le_of_ble_eq_true rfl⟩ d_33_2_3) (fun u1 H locs hp2 V => ?_)
  obtain ⟨rfl, -⟩ := hp2
  refine lv_aload_n hx hb d_33_2_6 rfl (lv_at hl 0 rfl) ?_
  refine lv_iload_n hx hb d_33_2_7 rfl (lv_at hl 1 rfl) ?_
  refine q_sbal (i := 24) (v := (([73, 110, 102, 105, 110, 105, 116, 121] : List Int32).getD x2.toNatClampNeg 0)) C0 V rfl (show vp_in x2 8 from q_ix (x := x2.toInt) rfl (by have t1 : 0 ≤ x2.toInt := pre0; omega) (by have t1 : 0 ≤ x2.toInt := pre0; have t2 : x2.toInt ≤ 7 := pre1; omega)) rfl d_33_2_8 ?_
  obtain ⟨a3, e4⟩ := q_nm ((([73, 110, 102, 105, 110, 105, 116, 121] : List Int32).getD x2.toNatClampNeg 0) : Int32)
  refine q_ti (v := a3) e4 ?_
  refine lv_sipush (v := 255) hx hb d_33_2_9 (by decide) ?_
  refine lv_iand hx hb d_33_2_12 ?_
  obtain ⟨a5, e6⟩ := q_nm (a3 &&& 255 : Int32)
  refine q_ti (v := a5) e6 ?_
  have b7 : q_F (0 ≤ a5.toInt ∧ a5.toInt ≤ 255) := (by rw [← e6]; show 0 ≤ (a3 &&& 255 : Int32).toInt ∧ (a3 &&& 255 : Int32).toInt ≤ 255; exact s_and (by decide))
  refine lv_i2c hx hb d_33_2_13 rfl ?_
  obtain ⟨a8, e9⟩ := q_nm ((a5.toUInt32 % 65536).toInt32 : Int32)
  refine q_ti (v := a8) e9 ?_
  have b10 : q_F (a8.toInt = a5.toInt) := (by rw [← e9]; show ((a5.toUInt32 % 65536).toInt32 : Int32).toInt = a5.toInt; exact (n_i2c (x := a5)).2.2 (by have t1 : 0 ≤ a5.toInt ∧ a5.toInt ≤ 255 := b7; omega) (by have t1 : 0 ≤ a5.toInt ∧ a5.toInt ≤ 255 := b7; omega))
  exact q_retn C0 V (n_chr (by have t1 : 0 ≤ a5.toInt ∧ a5.toInt ≤ 255 := b7; have t2 : a8.toInt = a5.toInt := b10; omega) (by have t1 : 0 ≤ a5.toInt ∧ a5.toInt ≤ 255 := b7; have t2 : a8.toInt = a5.toInt := b10; omega)) (⟨rfl, (show 0 ≤ a8.toInt from (by have t1 : 0 ≤ a5.toInt ∧ a5.toInt ≤ 255 := b7; have t2 : a8.toInt = a5.toInt := b10; omega)), (show a8.toInt ≤ 255 from (by have t1 : 0 ≤ a5.toInt ∧ a5.toInt ≤ 255 := b7; have t2 : a8.toInt = a5.toInt := b10; omega))⟩) d_33_2_14
set_option maxRecDepth 100000 in
set_option maxHeartbeats 4000000 in
theorem T_jStr_charAt_24 (l : Launch) (D : va_G) (g : Nat → ClassId) (q : Nat → Nat) (ws : va_W) (x2 : Int32) (hI : q_I (nsh g q) q ws) (pre0 : 0 ≤ x2.toInt) (pre1 : x2.toInt ≤ 7) : q_mI l y_jStr_charAt prog_31_method_56_code 2 (.char) 4 0 0 D g [.ref (g (8 + 2 * 24)), .int x2] ws (fun r u => ws = u ∧ (0 ≤ r.toInt) ∧ (r.toInt ≤ 255)) := by
  intro sz
  refine q_into (by decide) (Nat.le_of_ble_eq_true rfl) ?_
  intro p e s m below meth c ls hsz C0 V hl
  have hx := C0.1
  have hb := C0.2.1
  replace pre0 : q_F (0 ≤ x2.toInt) := pre0
  replace pre1 : q_F (x2.toInt ≤ 7) := pre1
  have hl : lv_has ls 2 [(0, .ref (g (8 + 2 * 24))), (1, .int x2)] := hl
  refine lv_aload_n hx hb d_31_56_0 rfl (lv_at hl 0 rfl) ?_
  refine q_goi V (q_runVs (As := []) (rest := []) (d := 1) (mc := 0) (ms := 0) (i := 24) C0 V rfl LV_jStr_492 (T_jStr_isLatin1_24 l D g q ws   hI   _) rfl rfl rfl hl.1 rfl (Nat.le_of_ble_eq_true rfl) ⟨by decide, by decide⟩ ⟨Nat.le_of_ble_eq_true rfl, Nat.le_of_ble_eq_true rfl⟩ d_31_56_1) (fun a3 u1 H locs hp2 V => ?_)
  obtain ⟨rfl, b4, b5⟩ := hp2
  replace b4 : q_F (1 ≤ a3.toInt) := b4
  replace b5 : q_F (a3.toInt ≤ 1) := b5
  obtain rfl : a3 = (1 : Int32) := q_Ieq (x := a3.toInt) (y := 1) rfl (by decide) (by have t1 : 1 ≤ a3.toInt := b4; have t2 : a3.toInt ≤ 1 := b5; omega)
  refine lv_if_eq (tgt := 16) hx hb d_31_56_4 (by decide) (fun c6 => absurd c6 (by decide)) (fun c6 => ?_)
  refine lv_aload_n hx hb d_31_56_7 rfl (lv_at hl 0 rfl) ?_
  refine q_sval (i := 24) C0 V rfl rfl w_1018 d_31_56_8 ?_
  refine lv_iload_n hx hb d_31_56_11 rfl (lv_at hl 1 rfl) ?_
  refine q_goi V (q_runS (As := [.ref (g (9 + 2 * 24)), .int x2]) (rest := []) (d := 3) (mc := 0) (ms := 0) C0 V rfl LS_jStr_495 (T_jLat_charAt_24 l D g q ws  x2 hI  (by have t1 : 0 ≤ x2.toInt := pre0; omega) (by have t1 : x2.toInt ≤ 7 := pre1; omega) _) rfl hl.1 rfl (Nat.le_of_ble_eq_true rfl) ⟨by decide, by decide⟩ ⟨Nat.le_of_ble_eq_true rfl, Nat.le_of_ble_eq_true rfl⟩ d_31_56_12) (fun a9 u7 H locs hp8 V => ?_)
  obtain ⟨rfl, b10, b11⟩ := hp8
  replace b10 : q_F (0 ≤ a9.toInt) := b10
  replace b11 : q_F (a9.toInt ≤ 255) := b11
  exact q_retn C0 V (n_chr (by have t1 : 0 ≤ a9.toInt := b10; omega) (by have t1 : a9.toInt ≤ 255 := b11; omega)) (⟨rfl, (show 0 ≤ a9.toInt from (by have t1 : 0 ≤ a9.toInt := b10; omega)), (show a9.toInt ≤ 255 from (by have t1 : a9.toInt ≤ 255 := b11; omega))⟩) d_31_56_15
set_option maxRecDepth 100000 in
set_option maxHeartbeats 4000000 in
theorem T_jStr_coder_25 (l : Launch) (D : va_G) (g : Nat → ClassId) (q : Nat → Nat) (ws : va_W) (hI : q_I (nsh g q) q ws) : q_mI l y_jStr_coder prog_31_method_152_code 1 (.byte) 1 0 0 D g [.ref (g (8 + 2 * 25))] ws (fun r u => ws = u ∧ (0 ≤ r.toInt) ∧ (r.toInt ≤ 0)) := by
  intro sz
  refine q_into (by decide) (Nat.le_of_ble_eq_true rfl) ?_
  intro p e s m below meth c ls hsz C0 V hl
  have hx := C0.1
  have hb := C0.2.1
  have hl : lv_has ls 1 [(0, .ref (g (8 + 2 * 25)))] := hl
  refine q_scmp C0 V rfl w_663 d_31_152_0 ?_
  refine lv_if_eq (tgt := 13) hx hb d_31_152_3 (by decide) (fun c1 => absurd c1 (by decide)) (fun c1 => ?_)
  refine lv_aload_n hx hb d_31_152_6 rfl (lv_at hl 0 rfl) ?_
  refine q_scod (i := 25) C0 V rfl rfl w_1019 d_31_152_7 ?_
  refine lv_goto (tgt := 14) hx hb d_31_152_10 (by decide) ?_
  exact q_retn C0 V (rfl) (⟨rfl, (show 0 ≤ (0 : Int32).toInt from (by have z0 : (0 : Int32).toInt = 0 := rfl; omega)), (show (0 : Int32).toInt ≤ 0 from (by have z0 : (0 : Int32).toInt = 0 := rfl; omega))⟩) d_31_152_14
set_option maxRecDepth 100000 in
set_option maxHeartbeats 4000000 in
theorem T_jStr_length_25 (l : Launch) (D : va_G) (g : Nat → ClassId) (q : Nat → Nat) (ws : va_W) (hI : q_I (nsh g q) q ws) : q_mI l y_jStr_length prog_31_method_54_code 1 (.int) 2 0 0 D g [.ref (g (8 + 2 * 25))] ws (fun r u => ws = u ∧ (7 ≤ r.toInt) ∧ (r.toInt ≤ 7)) := by
  intro sz
  refine q_into (by decide) (Nat.le_of_ble_eq_true rfl) ?_
  intro p e s m below meth c ls hsz C0 V hl
  have hx := C0.1
  have hb := C0.2.1
  have hl : lv_has ls 1 [(0, .ref (g (8 + 2 * 25)))] := hl
  refine lv_aload_n hx hb d_31_54_0 rfl (lv_at hl 0 rfl) ?_
  refine q_sval (i := 25) C0 V rfl rfl w_1018 d_31_54_1 ?_
  refine q_slen (i := 25) (v := 7) C0 V rfl (by decide) d_31_54_4 ?_
  refine lv_aload_n hx hb d_31_54_5 rfl (lv_at hl 0 rfl) ?_
  refine q_goi V (q_runVs (As := []) (rest := [.int 7]) (d := 1) (mc := 0) (ms := 0) (i := 25) C0 V rfl LV_jStr_335 (T_jStr_coder_25 l D g q ws   hI   _) rfl rfl rfl hl.1 rfl (Nat.le_of_ble_eq_true rfl) ⟨by decide, by decide⟩ ⟨Nat.le_of_ble_eq_true rfl, Nat.le_of_ble_eq_true rfl⟩ d_31_54_6) (fun a3 u1 H locs hp2 V => ?_)
  obtain ⟨rfl, b4, b5⟩ := hp2
  replace b4 : q_F (0 ≤ a3.toInt) := b4
  replace b5 : q_F (a3.toInt ≤ 0) := b5
  obtain rfl : a3 = (0 : Int32) := q_Ieq (x := a3.toInt) (y := 0) rfl (by decide) (by have t1 : 0 ≤ a3.toInt := b4; have t2 : a3.toInt ≤ 0 := b5; omega)
  refine lv_ishr hx hb d_31_54_9 ?_
  refine q_ti (v := 7) (by decide) ?_
  exact q_reti C0 V (⟨rfl, (show 7 ≤ (7 : Int32).toInt from (by have z0 : (7 : Int32).toInt = 7 := rfl; omega)), (show (7 : Int32).toInt ≤ 7 from (by have z0 : (7 : Int32).toInt = 7 := rfl; omega))⟩) d_31_54_10
set_option maxRecDepth 100000 in
set_option maxHeartbeats 4000000 in
theorem T_jStr_isLatin1_25 (l : Launch) (D : va_G) (g : Nat → ClassId) (q : Nat → Nat) (ws : va_W) (hI : q_I (nsh g q) q ws) : q_mI l y_jStr_isLatin1 prog_31_method_154_code 1 (.boolean) 1 0 0 D g [.ref (g (8 + 2 * 25))] ws (fun r u => ws = u ∧ (1 ≤ r.toInt) ∧ (r.toInt ≤ 1)) := by
  intro sz
  refine q_into (by decide) (Nat.le_of_ble_eq_true rfl) ?_
  intro p e s m below meth c ls hsz C0 V hl
  have hx := C0.1
  have hb := C0.2.1
  have hl : lv_has ls 1 [(0, .ref (g (8 + 2 * 25)))] := hl
  refine q_scmp C0 V rfl w_663 d_31_154_0 ?_
  refine lv_if_eq (tgt := 17) hx hb d_31_154_3 (by decide) (fun c1 => absurd c1 (by decide)) (fun c1 => ?_)
  refine lv_aload_n hx hb d_31_154_6 rfl (lv_at hl 0 rfl) ?_
  refine q_scod (i := 25) C0 V rfl rfl w_1019 d_31_154_7 ?_
  refine lv_if_ne (tgt := 17) hx hb d_31_154_10 (by decide) (fun c2 => absurd (by decide) c2) (fun c2 => ?_)
  refine lv_iconst (v := 1) hx hb d_31_154_13 (by decide) ?_
  refine lv_goto (tgt := 18) hx hb d_31_154_14 (by decide) ?_
  exact q_retz C0 V (by decide) (⟨rfl, (show 1 ≤ (1 : Int32).toInt from (by have z0 : (1 : Int32).toInt = 1 := rfl; omega)), (show (1 : Int32).toInt ≤ 1 from (by have z0 : (1 : Int32).toInt = 1 := rfl; omega))⟩) d_31_154_18
set_option maxRecDepth 100000 in
set_option maxHeartbeats 4000000 in
theorem T_jLat_charAt_25 (l : Launch) (D : va_G) (g : Nat → ClassId) (q : Nat → Nat) (ws : va_W) (x2 : Int32) (hI : q_I (nsh g q) q ws) (pre0 : 0 ≤ x2.toInt) (pre1 : x2.toInt ≤ 6) : q_mI l y_jLat_charAt prog_33_method_2_code 2 (.char) 3 0 0 D g [.ref (g (9 + 2 * 25)), .int x2] ws (fun r u => ws = u ∧ (0 ≤ r.toInt) ∧ (r.toInt ≤ 255)) := by
  intro sz
  refine q_into (by decide) (Nat.le_of_ble_eq_true rfl) ?_
  intro p e s m below meth c ls hsz C0 V hl
  have hx := C0.1
  have hb := C0.2.1
  replace pre0 : q_F (0 ≤ x2.toInt) := pre0
  replace pre1 : q_F (x2.toInt ≤ 6) := pre1
  have hl : lv_has ls 2 [(0, .ref (g (9 + 2 * 25))), (1, .int x2)] := hl
  refine lv_iload_n hx hb d_33_2_0 rfl (lv_at hl 1 rfl) ?_
  refine lv_aload_n hx hb d_33_2_1 rfl (lv_at hl 0 rfl) ?_
  refine q_slen (i := 25) (v := 7) C0 V rfl (by decide) d_33_2_2 ?_
  refine q_gov V (q_runS (As := [.int x2, .int 7]) (rest := []) (d := 2) (mc := 0) (ms := 0) C0 V rfl LS_jLat_9 (T_jStr_checkIndex l D g q ws  x2 7 hI  (by have y0 : (7 : Int32).toInt = 7 := rfl; have t1 : 0 ≤ x2.toInt := pre0; omega) (by have y0 : (7 : Int32).toInt = 7 := rfl; have t1 : x2.toInt ≤ 6 := pre1; omega) _) rfl hl.1 rfl (Nat.le_of_ble_eq_true rfl) ⟨by decide, by decide⟩ ⟨Nat.le_of_ble_eq_true rfl, Nat.le_of_ble_eq_true rfl⟩ d_33_2_3) (fun u1 H locs hp2 V => ?_)
  obtain ⟨rfl, -⟩ := hp2
  refine lv_aload_n hx hb d_33_2_6 rfl (lv_at hl 0 rfl) ?_
  refine lv_iload_n hx hb d_33_2_7 rfl (lv_at hl 1 rfl) ?_
  refine q_sbal (i := 25) (v := (([48, 120, 48, 46, 48, 112, 48] : List Int32).getD x2.toNatClampNeg 0)) C0 V rfl (show vp_in x2 7 from q_ix (x := x2.toInt) rfl (by have t1 : 0 ≤ x2.toInt := pre0; omega) (by have t1 : 0 ≤ x2.toInt := pre0; have t2 : x2.toInt ≤ 6 := pre1; omega)) rfl d_33_2_8 ?_
  obtain ⟨a3, e4⟩ := q_nm ((([48, 120, 48, 46, 48, 112, 48] : List Int32).getD x2.toNatClampNeg 0) : Int32)
  refine q_ti (v := a3) e4 ?_
  refine lv_sipush (v := 255) hx hb d_33_2_9 (by decide) ?_
  refine lv_iand hx hb d_33_2_12 ?_
  obtain ⟨a5, e6⟩ := q_nm (a3 &&& 255 : Int32)
  refine q_ti (v := a5) e6 ?_
  have b7 : q_F (0 ≤ a5.toInt ∧ a5.toInt ≤ 255) := (by rw [← e6]; show 0 ≤ (a3 &&& 255 : Int32).toInt ∧ (a3 &&& 255 : Int32).toInt ≤ 255; exact s_and (by decide))
  refine lv_i2c hx hb d_33_2_13 rfl ?_
  obtain ⟨a8, e9⟩ := q_nm ((a5.toUInt32 % 65536).toInt32 : Int32)
  refine q_ti (v := a8) e9 ?_
  have b10 : q_F (a8.toInt = a5.toInt) := (by rw [← e9]; show ((a5.toUInt32 % 65536).toInt32 : Int32).toInt = a5.toInt; exact (n_i2c (x := a5)).2.2 (by have t1 : 0 ≤ a5.toInt ∧ a5.toInt ≤ 255 := b7; omega) (by have t1 : 0 ≤ a5.toInt ∧ a5.toInt ≤ 255 := b7; omega))
  exact q_retn C0 V (n_chr (by have t1 : 0 ≤ a5.toInt ∧ a5.toInt ≤ 255 := b7; have t2 : a8.toInt = a5.toInt := b10; omega) (by have t1 : 0 ≤ a5.toInt ∧ a5.toInt ≤ 255 := b7; have t2 : a8.toInt = a5.toInt := b10; omega)) (⟨rfl, (show 0 ≤ a8.toInt from (by have t1 : 0 ≤ a5.toInt ∧ a5.toInt ≤ 255 := b7; have t2 : a8.toInt = a5.toInt := b10; omega)), (show a8.toInt ≤ 255 from (by have t1 : 0 ≤ a5.toInt ∧ a5.toInt ≤ 255 := b7; have t2 : a8.toInt = a5.toInt := b10; omega))⟩) d_33_2_14
set_option maxRecDepth 100000 in
set_option maxHeartbeats 4000000 in
theorem T_jStr_charAt_25 (l : Launch) (D : va_G) (g : Nat → ClassId) (q : Nat → Nat) (ws : va_W) (x2 : Int32) (hI : q_I (nsh g q) q ws) (pre0 : 0 ≤ x2.toInt) (pre1 : x2.toInt ≤ 6) : q_mI l y_jStr_charAt prog_31_method_56_code 2 (.char) 4 0 0 D g [.ref (g (8 + 2 * 25)), .int x2] ws (fun r u => ws = u ∧ (0 ≤ r.toInt) ∧ (r.toInt ≤ 255)) := by
  intro sz
  refine q_into (by decide) (Nat.le_of_ble_eq_true rfl) ?_
  intro p e s m below meth c ls hsz C0 V hl
  have hx := C0.1
  have hb := C0.2.1
  replace pre0 : q_F (0 ≤ x2.toInt) := pre0
  replace pre1 : q_F (x2.toInt ≤ 6) := pre1
  have hl : lv_has ls 2 [(0, .ref (g (8 + 2 * 25))), (1, .int x2)] := hl
  refine lv_aload_n hx hb d_31_56_0 rfl (lv_at hl 0 rfl) ?_
  refine q_goi V (q_runVs (As := []) (rest := []) (d := 1) (mc := 0) (ms := 0) (i := 25) C0 V rfl LV_jStr_492 (T_jStr_isLatin1_25 l D g q ws   hI   _) rfl rfl rfl hl.1 rfl (Nat.le_of_ble_eq_true rfl) ⟨by decide, by decide⟩ ⟨Nat.le_of_ble_eq_true rfl, Nat.le_of_ble_eq_true rfl⟩ d_31_56_1) (fun a3 u1 H locs hp2 V => ?_)
  obtain ⟨rfl, b4, b5⟩ := hp2
  replace b4 : q_F (1 ≤ a3.toInt) := b4
  replace b5 : q_F (a3.toInt ≤ 1) := b5
  obtain rfl : a3 = (1 : Int32) := q_Ieq (x := a3.toInt) (y := 1) rfl (by decide) (by have t1 : 1 ≤ a3.toInt := b4; have t2 : a3.toInt ≤ 1 := b5; omega)
  refine lv_if_eq (tgt := 16) hx hb d_31_56_4 (by decide) (fun c6 => absurd c6 (by decide)) (fun c6 => ?_)
  refine lv_aload_n hx hb d_31_56_7 rfl (lv_at hl 0 rfl) ?_
  refine q_sval (i := 25) C0 V rfl rfl w_1018 d_31_56_8 ?_
  refine lv_iload_n hx hb d_31_56_11 rfl (lv_at hl 1 rfl) ?_
  refine q_goi V (q_runS (As := [.ref (g (9 + 2 * 25)), .int x2]) (rest := []) (d := 3) (mc := 0) (ms := 0) C0 V rfl LS_jStr_495 (T_jLat_charAt_25 l D g q ws  x2 hI  (by have t1 : 0 ≤ x2.toInt := pre0; omega) (by have t1 : x2.toInt ≤ 6 := pre1; omega) _) rfl hl.1 rfl (Nat.le_of_ble_eq_true rfl) ⟨by decide, by decide⟩ ⟨Nat.le_of_ble_eq_true rfl, Nat.le_of_ble_eq_true rfl⟩ d_31_56_12) (fun a9 u7 H locs hp8 V => ?_)
  obtain ⟨rfl, b10, b11⟩ := hp8
  replace b10 : q_F (0 ≤ a9.toInt) := b10
  replace b11 : q_F (a9.toInt ≤ 255) := b11
  exact q_retn C0 V (n_chr (by have t1 : 0 ≤ a9.toInt := b10; omega) (by have t1 : a9.toInt ≤ 255 := b11; omega)) (⟨rfl, (show 0 ≤ a9.toInt from (by have t1 : 0 ≤ a9.toInt := b10; omega)), (show a9.toInt ≤ 255 from (by have t1 : a9.toInt ≤ 255 := b11; omega))⟩) d_31_56_15
set_option maxRecDepth 100000 in
set_option maxHeartbeats 4000000 in
theorem T_jStr_coder_26 (l : Launch) (D : va_G) (g : Nat → ClassId) (q : Nat → Nat) (ws : va_W) (hI : q_I (nsh g q) q ws) : q_mI l y_jStr_coder prog_31_method_152_code 1 (.byte) 1 0 0 D g [.ref (g (8 + 2 * 26))] ws (fun r u => ws = u ∧ (0 ≤ r.toInt) ∧ (r.toInt ≤ 0)) := by
  intro sz
  refine q_into (by decide) (Nat.le_of_ble_eq_true rfl) ?_
  intro p e s m below meth c ls hsz C0 V hl
  have hx := C0.1
  have hb := C0.2.1
  have hl : lv_has ls 1 [(0, .ref (g (8 + 2 * 26)))] := hl
  refine q_scmp C0 V rfl w_663 d_31_152_0 ?_
  refine lv_if_eq (tgt := 13) hx hb d_31_152_3 (by decide) (fun c1 => absurd c1 (by decide)) (fun c1 => ?_)
  refine lv_aload_n hx hb d_31_152_6 rfl (lv_at hl 0 rfl) ?_
  refine q_scod (i := 26) C0 V rfl rfl w_1019 d_31_152_7 ?_
  refine lv_goto (tgt := 14) hx hb d_31_152_10 (by decide) ?_
  exact q_retn C0 V (rfl) (⟨rfl, (show 0 ≤ (0 : Int32).toInt from (by have z0 : (0 : Int32).toInt = 0 := rfl; omega)), (show (0 : Int32).toInt ≤ 0 from (by have z0 : (0 : Int32).toInt = 0 := rfl; omega))⟩) d_31_152_14
set_option maxRecDepth 100000 in
set_option maxHeartbeats 4000000 in
theorem T_jStr_length_26 (l : Launch) (D : va_G) (g : Nat → ClassId) (q : Nat → Nat) (ws : va_W) (hI : q_I (nsh g q) q ws) : q_mI l y_jStr_length prog_31_method_54_code 1 (.int) 2 0 0 D g [.ref (g (8 + 2 * 26))] ws (fun r u => ws = u ∧ (3 ≤ r.toInt) ∧ (r.toInt ≤ 3)) := by
  intro sz
  refine q_into (by decide) (Nat.le_of_ble_eq_true rfl) ?_
  intro p e s m below meth c ls hsz C0 V hl
  have hx := C0.1
  have hb := C0.2.1
  have hl : lv_has ls 1 [(0, .ref (g (8 + 2 * 26)))] := hl
  refine lv_aload_n hx hb d_31_54_0 rfl (lv_at hl 0 rfl) ?_
  refine q_sval (i := 26) C0 V rfl rfl w_1018 d_31_54_1 ?_
  refine q_slen (i := 26) (v := 3) C0 V rfl (by decide) d_31_54_4 ?_
  refine lv_aload_n hx hb d_31_54_5 rfl (lv_at hl 0 rfl) ?_
  refine q_goi V (q_runVs (As := []) (rest := [.int 3]) (d := 1) (mc := 0) (ms := 0) (i := 26) C0 V rfl LV_jStr_335 (T_jStr_coder_26 l D g q ws   hI   _) rfl rfl rfl hl.1 rfl (Nat.le_of_ble_eq_true rfl) ⟨by decide, by decide⟩ ⟨Nat.le_of_ble_eq_true rfl, Nat.le_of_ble_eq_true rfl⟩ d_31_54_6) (fun a3 u1 H locs hp2 V => ?_)
  obtain ⟨rfl, b4, b5⟩ := hp2
  replace b4 : q_F (0 ≤ a3.toInt) := b4
  replace b5 : q_F (a3.toInt ≤ 0) := b5
  obtain rfl : a3 = (0 : Int32) := q_Ieq (x := a3.toInt) (y := 0) rfl (by decide) (by have t1 : 0 ≤ a3.toInt := b4; have t2 : a3.toInt ≤ 0 := b5; omega)
  refine lv_ishr hx hb d_31_54_9 ?_
  refine q_ti (v := 3) (by decide) ?_
  exact q_reti C0 V (⟨rfl, (show 3 ≤ (3 : Int32).toInt from (by have z0 : (3 : Int32).toInt = 3 := rfl; omega)), (show (3 : Int32).toInt ≤ 3 from (by have z0 : (3 : Int32).toInt = 3 := rfl; omega))⟩) d_31_54_10
set_option maxRecDepth 100000 in
set_option maxHeartbeats 4000000 in
theorem T_jStr_isLatin1_26 (l : Launch) (D : va_G) (g : Nat → ClassId) (q : Nat → Nat) (ws : va_W) (hI : q_I (nsh g q) q ws) : q_mI l y_jStr_isLatin1 prog_31_method_154_code 1 (.boolean) 1 0 0 D g [.ref (g (8 + 2 * 26))] ws (fun r u => ws = u ∧ (1 ≤ r.toInt) ∧ (r.toInt ≤ 1)) := by
  intro sz
  refine q_into (by decide) (Nat.le_of_ble_eq_true rfl) ?_
  intro p e s m below meth c ls hsz C0 V hl
  have hx := C0.1
  have hb := C0.2.1
  have hl : lv_has ls 1 [(0, .ref (g (8 + 2 * 26)))] := hl
  refine q_scmp C0 V rfl w_663 d_31_154_0 ?_
  refine lv_if_eq (tgt := 17) hx hb d_31_154_3 (by decide) (fun c1 => absurd c1 (by decide)) (fun c1 => ?_)
  refine lv_aload_n hx hb d_31_154_6 rfl (lv_at hl 0 rfl) ?_
  refine q_scod (i := 26) C0 V rfl rfl w_1019 d_31_154_7 ?_
  refine lv_if_ne (tgt := 17) hx hb d_31_154_10 (by decide) (fun c2 => absurd (by decide) c2) (fun c2 => ?_)
  refine lv_iconst (v := 1) hx hb d_31_154_13 (by decide) ?_
  refine lv_goto (tgt := 18) hx hb d_31_154_14 (by decide) ?_
  exact q_retz C0 V (by decide) (⟨rfl, (show 1 ≤ (1 : Int32).toInt from (by have z0 : (1 : Int32).toInt = 1 := rfl; omega)), (show (1 : Int32).toInt ≤ 1 from (by have z0 : (1 : Int32).toInt = 1 := rfl; omega))⟩) d_31_154_18
set_option maxRecDepth 100000 in
set_option maxHeartbeats 4000000 in
theorem T_jLat_charAt_26 (l : Launch) (D : va_G) (g : Nat → ClassId) (q : Nat → Nat) (ws : va_W) (x2 : Int32) (hI : q_I (nsh g q) q ws) (pre0 : 0 ≤ x2.toInt) (pre1 : x2.toInt ≤ 2) : q_mI l y_jLat_charAt prog_33_method_2_code 2 (.char) 3 0 0 D g [.ref (g (9 + 2 * 26)), .int x2] ws (fun r u => ws = u ∧ (0 ≤ r.toInt) ∧ (r.toInt ≤ 255)) := by
  intro sz
  refine q_into (by decide) (Nat.le_of_ble_eq_true rfl) ?_
  intro p e s m below meth c ls hsz C0 V hl
  have hx := C0.1
  have hb := C0.2.1
  replace pre0 : q_F (0 ≤ x2.toInt) := pre0
  replace pre1 : q_F (x2.toInt ≤ 2) := pre1
  have hl : lv_has ls 2 [(0, .ref (g (9 + 2 * 26))), (1, .int x2)] := hl
  refine lv_iload_n hx hb d_33_2_0 rfl (lv_at hl 1 rfl) ?_
  refine lv_aload_n hx hb d_33_2_1 rfl (lv_at hl 0 rfl) ?_
  refine q_slen (i := 26) (v := 3) C0 V rfl (by decide) d_33_2_2 ?_
  refine q_gov V (q_runS (As := [.int x2, .int 3]) (rest := []) (d := 2) (mc := 0) (ms := 0) C0 V rfl LS_jLat_9 (T_jStr_checkIndex l D g q ws  x2 3 hI  (by have y0 : (3 : Int32).toInt = 3 := rfl; have t1 : 0 ≤ x2.toInt := pre0; omega) (by have y0 : (3 : Int32).toInt = 3 := rfl; have t1 : x2.toInt ≤ 2 := pre1; omega) _) rfl hl.1 rfl (Nat.le_of_ble_eq_true rfl) ⟨by decide, by decide⟩ ⟨Nat.le_of_ble_eq_true rfl, Nat.le_of_ble_eq_true rfl⟩ d_33_2_3) (fun u1 H locs hp2 V => ?_)
  obtain ⟨rfl, -⟩ := hp2
  refine lv_aload_n hx hb d_33_2_6 rfl (lv_at hl 0 rfl) ?_
  refine lv_iload_n hx hb d_33_2_7 rfl (lv_at hl 1 rfl) ?_
  refine q_sbal (i := 26) (v := (([48, 46, 48] : List Int32).getD x2.toNatClampNeg 0)) C0 V rfl (show vp_in x2 3 from q_ix (x := x2.toInt) rfl (by have t1 : 0 ≤ x2.toInt := pre0; omega) (by have t1 : 0 ≤ x2.toInt := pre0; have t2 : x2.toInt ≤ 2 := pre1; omega)) rfl d_33_2_8 ?_
  obtain ⟨a3, e4⟩ := q_nm ((([48, 46, 48] : List Int32).getD x2.toNatClampNeg 0) : Int32)
  refine q_ti (v := a3) e4 ?_
  refine lv_sipush (v := 255) hx hb d_33_2_9 (by decide) ?_
  refine lv_iand hx hb d_33_2_12 ?_
  obtain ⟨a5, e6⟩ := q_nm (a3 &&& 255 : Int32)
  refine q_ti (v := a5) e6 ?_
  have b7 : q_F (0 ≤ a5.toInt ∧ a5.toInt ≤ 255) := (by rw [← e6]; show 0 ≤ (a3 &&& 255 : Int32).toInt ∧ (a3 &&& 255 : Int32).toInt ≤ 255; exact s_and (by decide))
  refine lv_i2c hx hb d_33_2_13 rfl ?_
  obtain ⟨a8, e9⟩ := q_nm ((a5.toUInt32 % 65536).toInt32 : Int32)
  refine q_ti (v := a8) e9 ?_
  have b10 : q_F (a8.toInt = a5.toInt) := (by rw [← e9]; show ((a5.toUInt32 % 65536).toInt32 : Int32).toInt = a5.toInt; exact (n_i2c (x := a5)).2.2 (by have t1 : 0 ≤ a5.toInt ∧ a5.toInt ≤ 255 := b7; omega) (by have t1 : 0 ≤ a5.toInt ∧ a5.toInt ≤ 255 := b7; omega))
  exact q_retn C0 V (n_chr (by have t1 : 0 ≤ a5.toInt ∧ a5.toInt ≤ 255 := b7; have t2 : a8.toInt = a5.toInt := b10; omega) (by have t1 : 0 ≤ a5.toInt ∧ a5.toInt ≤ 255 := b7; have t2 : a8.toInt = a5.toInt := b10; omega)) (⟨rfl, (show 0 ≤ a8.toInt from (by have t1 : 0 ≤ a5.toInt ∧ a5.toInt ≤ 255 := b7; have t2 : a8.toInt = a5.toInt := b10; omega)), (show a8.toInt ≤ 255 from (by have t1 : 0 ≤ a5.toInt ∧ a5.toInt ≤ 255 := b7; have t2 : a8.toInt = a5.toInt := b10; omega))⟩) d_33_2_14
set_option maxRecDepth 100000 in
set_option maxHeartbeats 4000000 in
theorem T_jStr_charAt_26 (l : Launch) (D : va_G) (g : Nat → ClassId) (q : Nat → Nat) (ws : va_W) (x2 : Int32) (hI : q_I (nsh g q) q ws) (pre0 : 0 ≤ x2.toInt) (pre1 : x2.toInt ≤ 2) : q_mI l y_jStr_charAt prog_31_method_56_code 2 (.char) 4 0 0 D g [.ref (g (8 + 2 * 26)), .int x2] ws (fun r u => ws = u ∧ (0 ≤ r.toInt) ∧ (r.toInt ≤ 255)) := by
  intro sz
  refine q_into (by decide) (Nat.le_of_ble_eq_true rfl) ?_
  intro p e s m below meth c ls hsz C0 V hl
  have hx := C0.1
  have hb := C0.2.1
  replace pre0 : q_F (0 ≤ x2.toInt) := pre0
  replace pre1 : q_F (x2.toInt ≤ 2) := pre1
  have hl : lv_has ls 2 [(0, .ref (g (8 + 2 * 26))), (1, .int x2)] := hl
  refine lv_aload_n hx hb d_31_56_0 rfl (lv_at hl 0 rfl) ?_
  refine q_goi V (q_runVs (As := []) (rest := []) (d := 1) (mc := 0) (ms := 0) (i := 26) C0 V rfl LV_jStr_492 (T_jStr_isLatin1_26 l D g q ws   hI   _) rfl rfl rfl hl.1 rfl (Nat.le_of_ble_eq_true rfl) ⟨by decide, by decide⟩ ⟨Nat.le_of_ble_eq_true rfl, Nat.le_of_ble_eq_true rfl⟩ d_31_56_1) (fun a3 u1 H locs hp2 V => ?_)
  obtain ⟨rfl, b4, b5⟩ := hp2
  replace b4 : q_F (1 ≤ a3.toInt) := b4
  replace b5 : q_F (a3.toInt ≤ 1) := b5
  obtain rfl : a3 = (1 : Int32) := q_Ieq (x := a3.toInt) (y := 1) rfl (by decide) (by have t1 : 1 ≤ a3.toInt := b4; have t2 : a3.toInt ≤ 1 := b5; omega)
  refine lv_if_eq (tgt := 16) hx hb d_31_56_4 (by decide) (fun c6 => absurd c6 (by decide)) (fun c6 => ?_)
  refine lv_aload_n hx hb d_31_56_7 rfl (lv_at hl 0 rfl) ?_
  refine q_sval (i := 26) C0 V rfl rfl w_1018 d_31_56_8 ?_
  refine lv_iload_n hx hb d_31_56_11 rfl (lv_at hl 1 rfl) ?_
  refine q_goi V (q_runS (As := [.ref (g (9 + 2 * 26)), .int x2]) (rest := []) (d := 3) (mc := 0) (ms := 0) C0 V rfl LS_jStr_495 (T_jLat_charAt_26 l D g q ws  x2 hI  (by have t1 : 0 ≤ x2.toInt := pre0; omega) (by have t1 : x2.toInt ≤ 2 := pre1; omega) _) rfl hl.1 rfl (Nat.le_of_ble_eq_true rfl) ⟨by decide, by decide⟩ ⟨Nat.le_of_ble_eq_true rfl, Nat.le_of_ble_eq_true rfl⟩ d_31_56_12) (fun a9 u7 H locs hp8 V => ?_)
  obtain ⟨rfl, b10, b11⟩ := hp8
  replace b10 : q_F (0 ≤ a9.toInt) := b10
  replace b11 : q_F (a9.toInt ≤ 255) := b11
  exact q_retn C0 V (n_chr (by have t1 : 0 ≤ a9.toInt := b10; omega) (by have t1 : a9.toInt ≤ 255 := b11; omega)) (⟨rfl, (show 0 ≤ a9.toInt from (by have t1 : 0 ≤ a9.toInt := b10; omega)), (show a9.toInt ≤ 255 from (by have t1 : a9.toInt ≤ 255 := b11; omega))⟩) d_31_56_15
set_option maxRecDepth 100000 in
set_option maxHeartbeats 4000000 in
theorem T_jStr_coder_27 (l : Launch) (D : va_G) (g : Nat → ClassId) (q : Nat → Nat) (ws : va_W) (hI : q_I (nsh g q) q ws) : q_mI l y_jStr_coder prog_31_method_152_code 1 (.byte) 1 0 0 D g [.ref (g (8 + 2 * 27))] ws (fun r u => ws = u ∧ (0 ≤ r.toInt) ∧ (r.toInt ≤ 0)) := by
  intro sz
  refine q_into (by decide) (Nat.le_of_ble_eq_true rfl) ?_
  intro p e s m below meth c ls hsz C0 V hl
  have hx := C0.1
  have hb := C0.2.1
  have hl : lv_has ls 1 [(0, .ref (g (8 + 2 * 27)))] := hl
  refine q_scmp C0 V rfl w_663 d_31_152_0 ?_
  refine lv_if_eq (tgt := 13) hx hb d_31_152_3 (by decide) (fun c1 => absurd c1 (by decide)) (fun c1 => ?_)
  refine lv_aload_n hx hb d_31_152_6 rfl (lv_at hl 0 rfl) ?_
  refine q_scod (i := 27) C0 V rfl rfl w_1019 d_31_152_7 ?_
  refine lv_goto (tgt := 14) hx hb d_31_152_10 (by decide) ?_
  exact q_retn C0 V (rfl) (⟨rfl, (show 0 ≤ (0 : Int32).toInt from (by have z0 : (0 : Int32).toInt = 0 := rfl; omega)), (show (0 : Int32).toInt ≤ 0 from (by have z0 : (0 : Int32).toInt = 0 := rfl; omega))⟩) d_31_152_14
set_option maxRecDepth 100000 in
set_option maxHeartbeats 4000000 in
theorem T_jStr_length_27 (l : Launch) (D : va_G) (g : Nat → ClassId) (q : Nat → Nat) (ws : va_W) (hI : q_I (nsh g q) q ws) : q_mI l y_jStr_length prog_31_method_54_code 1 (.int) 2 0 0 D g [.ref (g (8 + 2 * 27))] ws (fun r u => ws = u ∧ (4 ≤ r.toInt) ∧ (r.toInt ≤ 4)) := by
  intro sz
  refine q_into (by decide) (Nat.le_of_ble_eq_true rfl) ?_
  intro p e s m below meth c ls hsz C0 V hl
  have hx := C0.1
  have hb := C0.2.1
  have hl : lv_has ls 1 [(0, .ref (g (8 + 2 * 27)))] := hl
  refine lv_aload_n hx hb d_31_54_0 rfl (lv_at hl 0 rfl) ?_
  refine q_sval (i := 27) C0 V rfl rfl w_1018 d_31_54_1 ?_
  refine q_slen (i := 27) (v := 4) C0 V rfl (by decide) d_31_54_4 ?_
  refine lv_aload_n hx hb d_31_54_5 rfl (lv_at hl 0 rfl) ?_
  refine q_goi V (q_runVs (As := []) (rest := [.int 4]) (d := 1) (mc := 0) (ms := 0) (i := 27) C0 V rfl LV_jStr_335 (T_jStr_coder_27 l D g q ws   hI   _) rfl rfl rfl hl.1 rfl (Nat.le_of_ble_eq_true rfl) ⟨by decide, by decide⟩ ⟨Nat.le_of_ble_eq_true rfl, Nat.le_of_ble_eq_true rfl⟩ d_31_54_6) (fun a3 u1 H locs hp2 V => ?_)
  obtain ⟨rfl, b4, b5⟩ := hp2
  replace b4 : q_F (0 ≤ a3.toInt) := b4
  replace b5 : q_F (a3.toInt ≤ 0) := b5
  obtain rfl : a3 = (0 : Int32) := q_Ieq (x := a3.toInt) (y := 0) rfl (by decide) (by have t1 : 0 ≤ a3.toInt := b4; have t2 : a3.toInt ≤ 0 := b5; omega)
  refine lv_ishr hx hb d_31_54_9 ?_
  refine q_ti (v := 4) (by decide) ?_
  exact q_reti C0 V (⟨rfl, (show 4 ≤ (4 : Int32).toInt from (by have z0 : (4 : Int32).toInt = 4 := rfl; omega)), (show (4 : Int32).toInt ≤ 4 from (by have z0 : (4 : Int32).toInt = 4 := rfl; omega))⟩) d_31_54_10
set_option maxRecDepth 100000 in
set_option maxHeartbeats 4000000 in
theorem T_jStr_isLatin1_27 (l : Launch) (D : va_G) (g : Nat → ClassId) (q : Nat → Nat) (ws : va_W) (hI : q_I (nsh g q) q ws) : q_mI l y_jStr_isLatin1 prog_31_method_154_code 1 (.boolean) 1 0 0 D g [.ref (g (8 + 2 * 27))] ws (fun r u => ws = u ∧ (1 ≤ r.toInt) ∧ (r.toInt ≤ 1)) := by
  intro sz
  refine q_into (by decide) (Nat.le_of_ble_eq_true rfl) ?_
  intro p e s m below meth c ls hsz C0 V hl
  have hx := C0.1
  have hb := C0.2.1
  have hl : lv_has ls 1 [(0, .ref (g (8 + 2 * 27)))] := hl
  refine q_scmp C0 V rfl w_663 d_31_154_0 ?_
  refine lv_if_eq (tgt := 17) hx hb d_31_154_3 (by decide) (fun c1 => absurd c1 (by decide)) (fun c1 => ?_)
  refine lv_aload_n hx hb d_31_154_6 rfl (lv_at hl 0 rfl) ?_
  refine q_scod (i := 27) C0 V rfl rfl w_1019 d_31_154_7 ?_
  refine lv_if_ne (tgt := 17) hx hb d_31_154_10 (by decide) (fun c2 => absurd (by decide) c2) (fun c2 => ?_)
  refine lv_iconst (v := 1) hx hb d_31_154_13 (by decide) ?_
  refine lv_goto (tgt := 18) hx hb d_31_154_14 (by decide) ?_
  exact q_retz C0 V (by decide) (⟨rfl, (show 1 ≤ (1 : Int32).toInt from (by have z0 : (1 : Int32).toInt = 1 := rfl; omega)), (show (1 : Int32).toInt ≤ 1 from (by have z0 : (1 : Int32).toInt = 1 := rfl; omega))⟩) d_31_154_18
set_option maxRecDepth 100000 in
set_option maxHeartbeats 4000000 in
theorem T_jLat_charAt_27 (l : Launch) (D : va_G) (g : Nat → ClassId) (q : Nat → Nat) (ws : va_W) (x2 : Int32) (hI : q_I (nsh g q) q ws) (pre0 : 0 ≤ x2.toInt) (pre1 : x2.toInt ≤ 3) : q_mI l y_jLat_charAt prog_33_method_2_code 2 (.char) 3 0 0 D g [.ref (g (9 + 2 * 27)), .int x2] ws (fun r u => ws = u ∧ (0 ≤ r.toInt) ∧ (r.toInt ≤ 255)) := by
  intro sz
  refine q_into (by decide) (Nat.le_of_ble_eq_true rfl) ?_
  intro p e s m below meth c ls hsz C0 V hl
  have hx := C0.1
  have hb := C0.2.1
  replace pre0 : q_F (0 ≤ x2.toInt) := pre0
  replace pre1 : q_F (x2.toInt ≤ 3) := pre1
  have hl : lv_has ls 2 [(0, .ref (g (9 + 2 * 27))), (1, .int x2)] := hl
  refine lv_iload_n hx hb d_33_2_0 rfl (lv_at hl 1 rfl) ?_
  refine lv_aload_n hx hb d_33_2_1 rfl (lv_at hl 0 rfl) ?_
  refine q_slen (i := 27) (v := 4) C0 V rfl (by decide) d_33_2_2 ?_
  refine q_gov V (q_runS (As := [.int x2, .int 4]) (rest := []) (d := 2) (mc := 0) (ms := 0) C0 V rfl LS_jLat_9 (T_jStr_checkIndex l D g q ws  x2 4 hI  (by have y0 : (4 : Int32).toInt = 4 := rfl; have t1 : 0 ≤ x2.toInt := pre0; omega) (by have y0 : (4 : Int32).toInt = 4 := rfl; have t1 : x2.toInt ≤ 3 := pre1; omega) _) rfl hl.1 rfl (Nat.le_of_ble_eq_true rfl) ⟨by decide, by decide⟩ ⟨Nat.le_of_ble_eq_true rfl, Nat.le_of_ble_eq_true rfl⟩ d_33_2_3) (fun u1 H locs hp2 V => ?_)
  obtain ⟨rfl, -⟩ := hp2
  refine lv_aload_n hx hb d_33_2_6 rfl (lv_at hl 0 rfl) ?_
  refine lv_iload_n hx hb d_33_2_7 rfl (lv_at hl 1 rfl) ?_
  refine q_sbal (i := 27) (v := (([48, 120, 49, 46] : List Int32).getD x2.toNatClampNeg 0)) C0 V rfl (show vp_in x2 4 from q_ix (x := x2.toInt) rfl (by have t1 : 0 ≤ x2.toInt := pre0; omega) (by have t1 : 0 ≤ x2.toInt := pre0; have t2 : x2.toInt ≤ 3 := pre1; omega)) rfl d_33_2_8 ?_
  obtain ⟨a3, e4⟩ := q_nm ((([48, 120, 49, 46] : List Int32).getD x2.toNatClampNeg 0) : Int32)
  refine q_ti (v := a3) e4 ?_
  refine lv_sipush (v := 255) hx hb d_33_2_9 (by decide) ?_
  refine lv_iand hx hb d_33_2_12 ?_
  obtain ⟨a5, e6⟩ := q_nm (a3 &&& 255 : Int32)
  refine q_ti (v := a5) e6 ?_
  have b7 : q_F (0 ≤ a5.toInt ∧ a5.toInt ≤ 255) := (by rw [← e6]; show 0 ≤ (a3 &&& 255 : Int32).toInt ∧ (a3 &&& 255 : Int32).toInt ≤ 255; exact s_and (by decide))
  refine lv_i2c hx hb d_33_2_13 rfl ?_
  obtain ⟨a8, e9⟩ := q_nm ((a5.toUInt32 % 65536).toInt32 : Int32)
  refine q_ti (v := a8) e9 ?_
  have b10 : q_F (a8.toInt = a5.toInt) := (by rw [← e9]; show ((a5.toUInt32 % 65536).toInt32 : Int32).toInt = a5.toInt; exact (n_i2c (x := a5)).2.2 (by have t1 : 0 ≤ a5.toInt ∧ a5.toInt ≤ 255 := b7; omega) (by have t1 : 0 ≤ a5.toInt ∧ a5.toInt ≤ 255 := b7; omega))
  exact q_retn C0 V (n_chr (by have t1 : 0 ≤ a5.toInt ∧ a5.toInt ≤ 255 := b7; have t2 : a8.toInt = a5.toInt := b10; omega) (by have t1 : 0 ≤ a5.toInt ∧ a5.toInt ≤ 255 := b7; have t2 : a8.toInt = a5.toInt := b10; omega)) (⟨rfl, (show 0 ≤ a8.toInt from (by have t1 : 0 ≤ a5.toInt ∧ a5.toInt ≤ 255 := b7; have t2 : a8.toInt = a5.toInt := b10; omega)), (show a8.toInt ≤ 255 from (by have t1 : 0 ≤ a5.toInt ∧ a5.toInt ≤ 255 := b7; have t2 : a8.toInt = a5.toInt := b10; omega))⟩) d_33_2_14
set_option maxRecDepth 100000 in
set_option maxHeartbeats 4000000 in
theorem T_jStr_charAt_27 (l : Launch) (D : va_G) (g : Nat → ClassId) (q : Nat → Nat) (ws : va_W) (x2 : Int32) (hI : q_I (nsh g q) q ws) (pre0 : 0 ≤ x2.toInt) (pre1 : x2.toInt ≤ 3) : q_mI l y_jStr_charAt prog_31_method_56_code 2 (.char) 4 0 0 D g [.ref (g (8 + 2 * 27)), .int x2] ws (fun r u => ws = u ∧ (0 ≤ r.toInt) ∧ (r.toInt ≤ 255)) := by
  intro sz
  refine q_into (by decide) (Nat.le_of_ble_eq_true rfl) ?_
  intro p e s m below meth c ls hsz C0 V hl
  have hx := C0.1
  have hb := C0.2.1
  replace pre0 : q_F (0 ≤ x2.toInt) := pre0
  replace pre1 : q_F (x2.toInt ≤ 3) := pre1
  have hl : lv_has ls 2 [(0, .ref (g (8 + 2 * 27))), (1, .int x2)] := hl
  refine lv_aload_n hx hb d_31_56_0 rfl (lv_at hl 0 rfl) ?_
  refine q_goi V (q_runVs (As := []) (rest := []) (d := 1) (mc := 0) (ms := 0) (i := 27) C0 V rfl LV_jStr_492 (T_jStr_isLatin1_27 l D g q ws   hI   _) rfl rfl rfl hl.1 rfl (Nat.le_of_ble_eq_true rfl) ⟨by decide, by decide⟩ ⟨Nat.le_of_ble_eq_true rfl, Nat.le_of_ble_eq_true rfl⟩ d_31_56_1) (fun a3 u1 H locs hp2 V => ?_)
  obtain ⟨rfl, b4, b5⟩ := hp2
  replace b4 : q_F (1 ≤ a3.toInt) := b4
  replace b5 : q_F (a3.toInt ≤ 1) := b5
  obtain rfl : a3 = (1 : Int32) := q_Ieq (x := a3.toInt) (y := 1) rfl (by decide) (by have t1 : 1 ≤ a3.toInt := b4; have t2 : a3.toInt ≤ 1 := b5; omega)
  refine lv_if_eq (tgt := 16) hx hb d_31_56_4 (by decide) (fun c6 => absurd c6 (by decide)) (fun c6 => ?_)
  refine lv_aload_n hx hb d_31_56_7 rfl (lv_at hl 0 rfl) ?_
  refine q_sval (i := 27) C0 V rfl rfl w_1018 d_31_56_8 ?_
  refine lv_iload_n hx hb d_31_56_11 rfl (lv_at hl 1 rfl) ?_
  refine q_goi V (q_runS (As := [.ref (g (9 + 2 * 27)), .int x2]) (rest := []) (d := 3) (mc := 0) (ms := 0) C0 V rfl LS_jStr_495 (T_jLat_charAt_27 l D g q ws  x2 hI  (by have t1 : 0 ≤ x2.toInt := pre0; omega) (by have t1 : x2.toInt ≤ 3 := pre1; omega) _) rfl hl.1 rfl (Nat.le_of_ble_eq_true rfl) ⟨by decide, by decide⟩ ⟨Nat.le_of_ble_eq_true rfl, Nat.le_of_ble_eq_true rfl⟩ d_31_56_12) (fun a9 u7 H locs hp8 V => ?_)
  obtain ⟨rfl, b10, b11⟩ := hp8
  replace b10 : q_F (0 ≤ a9.toInt) := b10
  replace b11 : q_F (a9.toInt ≤ 255) := b11
  exact q_retn C0 V (n_chr (by have t1 : 0 ≤ a9.toInt := b10; omega) (by have t1 : a9.toInt ≤ 255 := b11; omega)) (⟨rfl, (show 0 ≤ a9.toInt from (by have t1 : 0 ≤ a9.toInt := b10; omega)), (show a9.toInt ≤ 255 from (by have t1 : a9.toInt ≤ 255 := b11; omega))⟩) d_31_56_15
set_option maxRecDepth 100000 in
set_option maxHeartbeats 4000000 in
theorem T_jStr_coder_28 (l : Launch) (D : va_G) (g : Nat → ClassId) (q : Nat → Nat) (ws : va_W) (hI : q_I (nsh g q) q ws) : q_mI l y_jStr_coder prog_31_method_152_code 1 (.byte) 1 0 0 D g [.ref (g (8 + 2 * 28))] ws (fun r u => ws = u ∧ (0 ≤ r.toInt) ∧ (r.toInt ≤ 0)) := by
  intro sz
  refine q_into (by decide) (Nat.le_of_ble_eq_true rfl) ?_
  intro p e s m below meth c ls hsz C0 V hl
  have hx := C0.1
  have hb := C0.2.1
  have hl : lv_has ls 1 [(0, .ref (g (8 + 2 * 28)))] := hl
  refine q_scmp C0 V rfl w_663 d_31_152_0 ?_
  refine lv_if_eq (tgt := 13) hx hb d_31_152_3 (by decide) (fun c1 => absurd c1 (by decide)) (fun c1 => ?_)
  refine lv_aload_n hx hb d_31_152_6 rfl (lv_at hl 0 rfl) ?_
  refine q_scod (i := 28) C0 V rfl rfl w_1019 d_31_152_7 ?_
  refine lv_goto (tgt := 14) hx hb d_31_152_10 (by decide) ?_
  exact q_retn C0 V (rfl) (⟨rfl, (show 0 ≤ (0 : Int32).toInt from (by have z0 : (0 : Int32).toInt = 0 := rfl; omega)), (show (0 : Int32).toInt ≤ 0 from (by have z0 : (0 : Int32).toInt = 0 := rfl; omega))⟩) d_31_152_14
set_option maxRecDepth 100000 in
set_option maxHeartbeats 4000000 in
theorem T_jStr_length_28 (l : Launch) (D : va_G) (g : Nat → ClassId) (q : Nat → Nat) (ws : va_W) (hI : q_I (nsh g q) q ws) : q_mI l y_jStr_length prog_31_method_54_code 1 (.int) 2 0 0 D g [.ref (g (8 + 2 * 28))] ws (fun r u => ws = u ∧ (4 ≤ r.toInt) ∧ (r.toInt ≤ 4)) := by
  intro sz
  refine q_into (by decide) (Nat.le_of_ble_eq_true rfl) ?_
  intro p e s m below meth c ls hsz C0 V hl
  have hx := C0.1
  have hb := C0.2.1
  have hl : lv_has ls 1 [(0, .ref (g (8 + 2 * 28)))] := hl
  refine lv_aload_n hx hb d_31_54_0 rfl (lv_at hl 0 rfl) ?_
  refine q_sval (i := 28) C0 V rfl rfl w_1018 d_31_54_1 ?_
  refine q_slen (i := 28) (v := 4) C0 V rfl (by decide) d_31_54_4 ?_
  refine lv_aload_n hx hb d_31_54_5 rfl (lv_at hl 0 rfl) ?_
  refine q_goi V (q_runVs (As := []) (rest := [.int 4]) (d := 1) (mc := 0) (ms := 0) (i := 28) C0 V rfl LV_jStr_335 (T_jStr_coder_28 l D g q ws   hI   _) rfl rfl rfl hl.1 rfl (Nat.le_of_ble_eq_true rfl) ⟨by decide, by decide⟩ ⟨Nat.le_of_ble_eq_true rfl, Nat.le_of_ble_eq_true rfl⟩ d_31_54_6) (fun a3 u1 H locs hp2 V => ?_)
  obtain ⟨rfl, b4, b5⟩ := hp2
  replace b4 : q_F (0 ≤ a3.toInt) := b4
  replace b5 : q_F (a3.toInt ≤ 0) := b5
  obtain rfl : a3 = (0 : Int32) := q_Ieq (x := a3.toInt) (y := 0) rfl (by decide) (by have t1 : 0 ≤ a3.toInt := b4; have t2 : a3.toInt ≤ 0 := b5; omega)
  refine lv_ishr hx hb d_31_54_9 ?_
  refine q_ti (v := 4) (by decide) ?_
  exact q_reti C0 V (⟨rfl, (show 4 ≤ (4 : Int32).toInt from (by have z0 : (4 : Int32).toInt = 4 := rfl; omega)), (show (4 : Int32).toInt ≤ 4 from (by have z0 : (4 : Int32).toInt = 4 := rfl; omega))⟩) d_31_54_10
set_option maxRecDepth 100000 in
set_option maxHeartbeats 4000000 in
theorem T_jStr_isLatin1_28 (l : Launch) (D : va_G) (g : Nat → ClassId) (q : Nat → Nat) (ws : va_W) (hI : q_I (nsh g q) q ws) : q_mI l y_jStr_isLatin1 prog_31_method_154_code 1 (.boolean) 1 0 0 D g [.ref (g (8 + 2 * 28))] ws (fun r u => ws = u ∧ (1 ≤ r.toInt) ∧ (r.toInt ≤ 1)) := by
  intro sz
  refine q_into (by decide) (Nat.le_of_ble_eq_true rfl) ?_
  intro p e s m below meth c ls hsz C0 V hl
  have hx := C0.1
  have hb := C0.2.1
  have hl : lv_has ls 1 [(0, .ref (g (8 + 2 * 28)))] := hl
  refine q_scmp C0 V rfl w_663 d_31_154_0 ?_
  refine lv_if_eq (tgt := 17) hx hb d_31_154_3 (by decide) (fun c1 => absurd c1 (by decide)) (fun c1 => ?_)
  refine lv_aload_n hx hb d_31_154_6 rfl (lv_at hl 0 rfl) ?_
  refine q_scod (i := 28) C0 V rfl rfl w_1019 d_31_154_7 ?_
  refine lv_if_ne (tgt := 17) hx hb d_31_154_10 (by decide) (fun c2 => absurd (by decide) c2) (fun c2 => ?_)
  refine lv_iconst (v := 1) hx hb d_31_154_13 (by decide) ?_
  refine lv_goto (tgt := 18) hx hb d_31_154_14 (by decide) ?_
  exact q_retz C0 V (by decide) (⟨rfl, (show 1 ≤ (1 : Int32).toInt from (by have z0 : (1 : Int32).toInt = 1 := rfl; omega)), (show (1 : Int32).toInt ≤ 1 from (by have z0 : (1 : Int32).toInt = 1 := rfl; omega))⟩) d_31_154_18
set_option maxRecDepth 100000 in
set_option maxHeartbeats 4000000 in
theorem T_jLat_charAt_28 (l : Launch) (D : va_G) (g : Nat → ClassId) (q : Nat → Nat) (ws : va_W) (x2 : Int32) (hI : q_I (nsh g q) q ws) (pre0 : 0 ≤ x2.toInt) (pre1 : x2.toInt ≤ 3) : q_mI l y_jLat_charAt prog_33_method_2_code 2 (.char) 3 0 0 D g [.ref (g (9 + 2 * 28)), .int x2] ws (fun r u => ws = u ∧ (0 ≤ r.toInt) ∧ (r.toInt ≤ 255)) := by
  intro sz
  refine q_into (by decide) (Nat.le_of_ble_eq_true rfl) ?_
  intro p e s m below meth c ls hsz C0 V hl
  have hx := C0.1
  have hb := C0.2.1
  replace pre0 : q_F (0 ≤ x2.toInt) := pre0
  replace pre1 : q_F (x2.toInt ≤ 3) := pre1
  have hl : lv_has ls 2 [(0, .ref (g (9 + 2 * 28))), (1, .int x2)] := hl
  refine lv_iload_n hx hb d_33_2_0 rfl (lv_at hl 1 rfl) ?_
  refine lv_aload_n hx hb d_33_2_1 rfl (lv_at hl 0 rfl) ?_
  refine q_slen (i := 28) (v := 4) C0 V rfl (by decide) d_33_2_2 ?_
  refine q_gov V (q_runS (As := [.int x2, .int 4]) (rest := []) (d := 2) (mc := 0) (ms := 0) C0 V rfl LS_jLat_9 (T_jStr_checkIndex l D g q ws  x2 4 hI  (by have y0 : (4 : Int32).toInt = 4 := rfl; have t1 : 0 ≤ x2.toInt := pre0; omega) (by have y0 : (4 : Int32).toInt = 4 := rfl; have t1 : x2.toInt ≤ 3 := pre1; omega) _) rfl hl.1 rfl (Nat.le_of_ble_eq_true rfl) ⟨by decide, by decide⟩ ⟨Nat.le_of_ble_eq_true rfl, Nat.le_of_ble_eq_true rfl⟩ d_33_2_3) (fun u1 H locs hp2 V => ?_)
  obtain ⟨rfl, -⟩ := hp2
  refine lv_aload_n hx hb d_33_2_6 rfl (lv_at hl 0 rfl) ?_
  refine lv_iload_n hx hb d_33_2_7 rfl (lv_at hl 1 rfl) ?_
  refine q_sbal (i := 28) (v := (([48, 120, 48, 46] : List Int32).getD x2.toNatClampNeg 0)) C0 V rfl (show vp_in x2 4 from q_ix (x := x2.toInt) rfl (by have t1 : 0 ≤ x2.toInt := pre0; omega) (by have t1 : 0 ≤ x2.toInt := pre0; have t2 : x2.toInt ≤ 3 := pre1; omega)) rfl d_33_2_8 ?_
  obtain ⟨a3, e4⟩ := q_nm ((([48, 120, 48, 46] : List Int32).getD x2.toNatClampNeg 0) : Int32)
  refine q_ti (v := a3) e4 ?_
  refine lv_sipush (v := 255) hx hb d_33_2_9 (by decide) ?_
  refine lv_iand hx hb d_33_2_12 ?_
  obtain ⟨a5, e6⟩ := q_nm (a3 &&& 255 : Int32)
  refine q_ti (v := a5) e6 ?_
  have b7 : q_F (0 ≤ a5.toInt ∧ a5.toInt ≤ 255) := (by rw [← e6]; show 0 ≤ (a3 &&& 255 : Int32).toInt ∧ (a3 &&& 255 : Int32).toInt ≤ 255; exact s_and (by decide))
  refine lv_i2c hx hb d_33_2_13 rfl ?_
  obtain ⟨a8, e9⟩ := q_nm ((a5.toUInt32 % 65536).toInt32 : Int32)
  refine q_ti (v := a8) e9 ?_
  have b10 : q_F (a8.toInt = a5.toInt) := (by rw [← e9]; show ((a5.toUInt32 % 65536).toInt32 : Int32).toInt = a5.toInt; exact (n_i2c (x := a5)).2.2 (by have t1 : 0 ≤ a5.toInt ∧ a5.toInt ≤ 255 := b7; omega) (by have t1 : 0 ≤ a5.toInt ∧ a5.toInt ≤ 255 := b7; omega))
  exact q_retn C0 V (n_chr (by have t1 : 0 ≤ a5.toInt ∧ a5.toInt ≤ 255 := b7; have t2 : a8.toInt = a5.toInt := b10; omega) (by have t1 : 0 ≤ a5.toInt ∧ a5.toInt ≤ 255 := b7; have t2 : a8.toInt = a5.toInt := b10; omega)) (⟨rfl, (show 0 ≤ a8.toInt from (by have t1 : 0 ≤ a5.toInt ∧ a5.toInt ≤ 255 := b7; have t2 : a8.toInt = a5.toInt := b10; omega)), (show a8.toInt ≤ 255 from (by have t1 : 0 ≤ a5.toInt ∧ a5.toInt ≤ 255 := b7; have t2 : a8.toInt = a5.toInt := b10; omega))⟩) d_33_2_14
set_option maxRecDepth 100000 in
set_option maxHeartbeats 4000000 in
theorem T_jStr_charAt_28 (l : Launch) (D : va_G) (g : Nat → ClassId) (q : Nat → Nat) (ws : va_W) (x2 : Int32) (hI : q_I (nsh g q) q ws) (pre0 : 0 ≤ x2.toInt) (pre1 : x2.toInt ≤ 3) : q_mI l y_jStr_charAt prog_31_method_56_code 2 (.char) 4 0 0 D g [.ref (g (8 + 2 * 28)), .int x2] ws (fun r u => ws = u ∧ (0 ≤ r.toInt) ∧ (r.toInt ≤ 255)) := by
  intro sz
  refine q_into (by decide) (Nat.le_of_ble_eq_true rfl) ?_
  intro p e s m below meth c ls hsz C0 V hl
  have hx := C0.1
  have hb := C0.2.1
  replace pre0 : q_F (0 ≤ x2.toInt) := pre0
  replace pre1 : q_F (x2.toInt ≤ 3) := pre1
  have hl : lv_has ls 2 [(0, .ref (g (8 + 2 * 28))), (1, .int x2)] := hl
  refine lv_aload_n hx hb d_31_56_0 rfl (lv_at hl 0 rfl) ?_
  refine q_goi V (q_runVs (As := []) (rest := []) (d := 1) (mc := 0) (ms := 0) (i := 28) C0 V rfl LV_jStr_492 (T_jStr_isLatin1_28 l D g q ws   hI   _) rfl rfl rfl hl.1 rfl (Nat.le_of_ble_eq_true rfl) ⟨by decide, by decide⟩ ⟨Nat.le_of_ble_eq_true rfl, Nat.le_of_ble_eq_true rfl⟩ d_31_56_1) (fun a3 u1 H locs hp2 V => ?_)
  obtain ⟨rfl, b4, b5⟩ := hp2
  replace b4 : q_F (1 ≤ a3.toInt) := b4
  replace b5 : q_F (a3.toInt ≤ 1) := b5
  obtain rfl : a3 = (1 : Int32) := q_Ieq (x := a3.toInt) (y := 1) rfl (by decide) (by have t1 : 1 ≤ a3.toInt := b4; have t2 : a3.toInt ≤ 1 := b5; omega)
  refine lv_if_eq (tgt := 16) hx hb d_31_56_4 (by decide) (fun c6 => absurd c6 (by decide)) (fun c6 => ?_)
  refine lv_aload_n hx hb d_31_56_7 rfl (lv_at hl 0 rfl) ?_
  refine q_sval (i := 28) C0 V rfl rfl w_1018 d_31_56_8 ?_
  refine lv_iload_n hx hb d_31_56_11 rfl (lv_at hl 1 rfl) ?_
  refine q_goi V (q_runS (As := [.ref (g (9 + 2 * 28)), .int x2]) (rest := []) (d := 3) (mc := 0) (ms := 0) C0 V rfl LS_jStr_495 (T_jLat_charAt_28 l D g q ws  x2 hI  (by have t1 : 0 ≤ x2.toInt := pre0; omega) (by have t1 : x2.toInt ≤ 3 := pre1; omega) _) rfl hl.1 rfl (Nat.le_of_ble_eq_true rfl) ⟨by decide, by decide⟩ ⟨Nat.le_of_ble_eq_true rfl, Nat.le_of_ble_eq_true rfl⟩ d_31_56_12) (fun a9 u7 H locs hp8 V => ?_)
  obtain ⟨rfl, b10, b11⟩ := hp8
  replace b10 : q_F (0 ≤ a9.toInt) := b10
  replace b11 : q_F (a9.toInt ≤ 255) := b11
  exact q_retn C0 V (n_chr (by have t1 : 0 ≤ a9.toInt := b10; omega) (by have t1 : a9.toInt ≤ 255 := b11; omega)) (⟨rfl, (show 0 ≤ a9.toInt from (by have t1 : 0 ≤ a9.toInt := b10; omega)), (show a9.toInt ≤ 255 from (by have t1 : a9.toInt ≤ 255 := b11; omega))⟩) d_31_56_15
