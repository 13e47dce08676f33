/-! what is known exactly: is the conversion one of %n -/
def F_jLat_canEncode_e (x1 : Int32) : Int32 := if x1 < (0 : Int32) then (0) else (if (255 : Int32) < x1 then (0) else (1))
set_option maxRecDepth 100000 in
set_option maxHeartbeats 4000000 in
theorem T_jLat_canEncode_e (l : Launch) (D : va_G) (g : Nat → ClassId) (q : Nat → Nat) (ws : va_W) (x1 : Int32) (hI : q_I (nsh g q) q ws) : q_mI l y_jLat_canEncode prog_33_method_4_code 1 (.boolean) 1 0 0 D g [.int x1] ws (fun r u => ws = u ∧ (0 ≤ r.toInt) ∧ (r.toInt ≤ 1) ∧ r = F_jLat_canEncode_e x1) := by
  intro sz
  refine q_into (by decide) (Nat.le_of_ble_eq_true rfl) ?_
  intro p e s m below meth c ls hsz C0 V hl
  have hx := C0.1
  have hb := C0.2.1
  have hl : lv_has ls 1 [(0, .int x1)] := hl
  refine lv_iload_n hx hb d_33_4_0 rfl (lv_at hl 0 rfl) ?_
  refine lv_if_lt (tgt := 15) hx hb d_33_4_1 (by decide) (fun c1 => ?_) (fun c1 => ?_)
  ·
    have b2 : q_F (x1.toInt < 0) := (q_ltI c1)
    refine lv_iconst (v := 0) hx hb d_33_4_15 (by decide) ?_
    exact q_retz C0 V (by decide) (⟨rfl, (show 0 ≤ (0 : Int32).toInt from (by have z1 : (0 : Int32).toInt = 0 := rfl; omega)), (show (0 : Int32).toInt ≤ 1 from (by have z1 : (0 : Int32).toInt = 0 := rfl; omega)), (by unfold F_jLat_canEncode_e; rw [if_pos c1])⟩) d_33_4_16
  ·
    have b3 : q_F (0 ≤ x1.toInt) := (q_nltI c1)
    refine lv_iload_n hx hb d_33_4_4 rfl (lv_at hl 0 rfl) ?_
    refine lv_sipush (v := 255) hx hb d_33_4_5 (by decide) ?_
    refine lv_icmp_gt (tgt := 15) hx hb d_33_4_8 (by decide) (fun c4 => ?_) (fun c4 => ?_)
    ·
      have b5 : q_F (255 < x1.toInt) := (q_ltI c4)
      refine lv_iconst (v := 0) hx hb d_33_4_15 (by decide) ?_
      exact q_retz C0 V (by decide) (⟨rfl, (show 0 ≤ (0 : Int32).toInt from (by have z1 : (0 : Int32).toInt = 0 := rfl; omega)), (show (0 : Int32).toInt ≤ 1 from (by have z1 : (0 : Int32).toInt = 0 := rfl; omega)), (by unfold F_jLat_canEncode_e; rw [if_neg c1, if_pos c4])⟩) d_33_4_16
    ·
      have b6 : q_F (x1.toInt ≤ 255) := (q_nltI c4)
      refine lv_iconst (v := 1) hx hb d_33_4_11 (by decide) ?_
      refine lv_goto (tgt := 16) hx hb d_33_4_12 (by decide) ?_
      exact q_retz C0 V (by decide) (⟨rfl, (show 0 ≤ (1 : Int32).toInt from (by have z1 : (1 : Int32).toInt = 1 := rfl; omega)), (show (1 : Int32).toInt ≤ 1 from (by have z1 : (1 : Int32).toInt = 1 := rfl; omega)), (by unfold F_jLat_canEncode_e; rw [if_neg c1, if_neg c4])⟩) d_33_4_16
def F_jLat_indexOfChar_e_7 (x2 : Int32) : Int32 := if ((([37, 110] : List Int32).getD (0 : Int32).toNatClampNeg 0) : Int32) = (x2.toInt8.toInt32 : Int32) then (0) else (if ((([37, 110] : List Int32).getD (1 : Int32).toNatClampNeg 0) : Int32) = (x2.toInt8.toInt32 : Int32) then (1) else ((-1)))
set_option maxRecDepth 100000 in
set_option maxHeartbeats 4000000 in
theorem T_jLat_indexOfChar_e_7 (l : Launch) (D : va_G) (g : Nat → ClassId) (q : Nat → Nat) (ws : va_W) (x2 : Int32) (hI : q_I (nsh g q) q ws) : q_mI l y_jLat_indexOfChar prog_33_method_23_code 6 (.int) 1 0 0 D g [.ref (g (9 + 2 * 7)), .int x2, .int 0, .int 2] ws (fun r u => ws = u ∧ (0 ≤ r.toInt + 1) ∧ (r.toInt ≤ 1) ∧ r = F_jLat_indexOfChar_e_7 x2) := by
  intro sz
  refine q_into (by decide) (Nat.le_of_ble_eq_true rfl) ?_
  intro p e s m below meth c ls hsz C0 V hl
  have hx := C0.1
  have hb := C0.2.1
  have hl : lv_has ls 6 [(0, .ref (g (9 + 2 * 7))), (1, .int x2), (2, .int 0), (3, .int 2)] := hl
  refine lv_iload_n hx hb d_33_23_0 rfl (lv_at hl 1 rfl) ?_
  refine lv_i2b hx hb d_33_23_1 rfl ?_
  obtain ⟨a1, e2⟩ := q_nm (x2.toInt8.toInt32 : Int32)
  refine q_ti (v := a1) e2 ?_
  refine lv_istore (lv' := [(4, .int a1), (0, .ref (g (9 + 2 * 7))), (1, .int x2), (2, .int 0), (3, .int 2)]) hx hb d_33_23_2 hl (by decide) rfl (fun ls hl => ?_)
  refine lv_iload_n hx hb d_33_23_4 rfl (lv_at hl 3 rfl) ?_
  refine lv_istore (lv' := [(5, .int 0), (4, .int a1), (0, .ref (g (9 + 2 * 7))), (1, .int x2), (2, .int 0), (3, .int 2)]) hx hb d_33_23_5 hl (by decide) rfl (fun ls hl => ?_)
  refine lv_iload hx hb d_33_23_7 (lv_at hl 0 rfl) ?_
  refine lv_iload_n hx hb d_33_23_9 rfl (lv_at hl 5 rfl) ?_
  refine lv_icmp_ge (tgt := 31) hx hb d_33_23_10 (by decide) (fun c3 => absurd c3 (by decide)) (fun c3 => ?_)
  refine lv_aload_n hx hb d_33_23_13 rfl (lv_at hl 2 rfl) ?_
  refine lv_iload hx hb d_33_23_14 (lv_at hl 0 rfl) ?_
  refine q_sbal (i := 7) (v := (([37, 110] : List Int32).getD (0 : Int32).toNatClampNeg 0)) C0 V rfl (show vp_in 0 2 from q_ix (x := 0) (by decide) (by omega) (by omega)) rfl d_33_23_16 ?_
  obtain ⟨a4, e5⟩ := q_nm ((([37, 110] : List Int32).getD (0 : Int32).toNatClampNeg 0) : Int32)
  refine q_ti (v := a4) e5 ?_
  refine lv_iload hx hb d_33_23_17 (lv_at hl 1 rfl) ?_
  refine lv_icmp_ne (tgt := 25) hx hb d_33_23_19 (by decide) (fun c6 => ?_) (fun c6 => ?_)
  ·
    have b7 : q_F (a4.toInt ≠ a1.toInt) := (q_neI c6)
    refine lv_iinc (v := 1) (lv' := [(5, .int 1), (4, .int a1), (0, .ref (g (9 + 2 * 7))), (1, .int x2), (2, .int 0), (3, .int 2)]) hx hb d_33_23_25 hl (k := 0) rfl (by decide) (by decide) rfl (fun ls hl => ?_)
    refine lv_goto (tgt := 7) hx hb d_33_23_28 (by decide) ?_
    refine lv_iload hx hb d_33_23_7 (lv_at hl 0 rfl) ?_
    refine lv_iload_n hx hb d_33_23_9 rfl (lv_at hl 5 rfl) ?_
    refine lv_icmp_ge (tgt := 31) hx hb d_33_23_10 (by decide) (fun c8 => absurd c8 (by decide)) (fun c8 => ?_)
    refine lv_aload_n hx hb d_33_23_13 rfl (lv_at hl 2 rfl) ?_
    refine lv_iload hx hb d_33_23_14 (lv_at hl 0 rfl) ?_
    refine q_sbal (i := 7) (v := (([37, 110] : List Int32).getD (1 : Int32).toNatClampNeg 0)) C0 V rfl (show vp_in 1 2 from q_ix (x := 1) (by decide) (by omega) (by omega)) rfl d_33_23_16 ?_
    obtain ⟨a9, e10⟩ := q_nm ((([37, 110] : List Int32).getD (1 : Int32).toNatClampNeg 0) : Int32)
    refine q_ti (v := a9) e10 ?_
    refine lv_iload hx hb d_33_23_17 (lv_at hl 1 rfl) ?_
    refine lv_icmp_ne (tgt := 25) hx hb d_33_23_19 (by decide) (fun c11 => ?_) (fun c11 => ?_)
    ·
      have b12 : q_F (a9.toInt ≠ a1.toInt) := (q_neI c11)
      refine lv_iinc (v := 2) (lv' := [(5, .int 2), (4, .int a1), (0, .ref (g (9 + 2 * 7))), (1, .int x2), (2, .int 0), (3, .int 2)]) hx hb d_33_23_25 hl (k := 0) rfl (by decide) (by decide) rfl (fun ls hl => ?_)
      refine lv_goto (tgt := 7) hx hb d_33_23_28 (by decide) ?_
      refine lv_iload hx hb d_33_23_7 (lv_at hl 0 rfl) ?_
      refine lv_iload_n hx hb d_33_23_9 rfl (lv_at hl 5 rfl) ?_
      refine lv_icmp_ge (tgt := 31) hx hb d_33_23_10 (by decide) (fun c13 => ?_) (fun c13 => absurd (by decide) c13)
      refine lv_iconst (v := (-1)) hx hb d_33_23_31 (by decide) ?_
      exact q_reti C0 V (⟨rfl, (show 0 ≤ (-1 : Int32).toInt + 1 from (by have z1 : (-1 : Int32).toInt = -1 := rfl; omega)), (show (-1 : Int32).toInt ≤ 1 from (by have z1 : (-1 : Int32).toInt = -1 := rfl; omega)), (by subst e2; subst e5; subst e10; unfold F_jLat_indexOfChar_e_7; rw [if_neg c6, if_neg c11])⟩) d_33_23_32
    ·
      have b14 : q_F (a9.toInt = a1.toInt) := (q_eqI c11)
      refine lv_iload hx hb d_33_23_22 (lv_at hl 0 rfl) ?_
      exact q_reti C0 V (⟨rfl, (show 0 ≤ (1 : Int32).toInt + 1 from (by have z1 : (1 : Int32).toInt = 1 := rfl; omega)), (show (1 : Int32).toInt ≤ 1 from (by have z1 : (1 : Int32).toInt = 1 := rfl; omega)), (by subst e2; subst e5; subst e10; unfold F_jLat_indexOfChar_e_7; rw [if_neg c6, if_pos c11])⟩) d_33_23_24
  ·
    have b15 : q_F (a4.toInt = a1.toInt) := (q_eqI c6)
    refine lv_iload hx hb d_33_23_22 (lv_at hl 0 rfl) ?_
    exact q_reti C0 V (⟨rfl, (show 0 ≤ (0 : Int32).toInt + 1 from (by have z1 : (0 : Int32).toInt = 0 := rfl; omega)), (show (0 : Int32).toInt ≤ 1 from (by have z1 : (0 : Int32).toInt = 0 := rfl; omega)), (by subst e2; subst e5; unfold F_jLat_indexOfChar_e_7; rw [if_pos c6])⟩) d_33_23_24
def F_jLat_indexOf_e_7 (x2 : Int32) : Int32 := if (F_jLat_canEncode_e x2 : Int32) = (0 : Int32) then ((-1)) else ((F_jLat_indexOfChar_e_7 x2 : Int32))
set_option maxRecDepth 100000 in
set_option maxHeartbeats 4000000 in
theorem T_jLat_indexOf_e_7 (l : Launch) (D : va_G) (g : Nat → ClassId) (q : Nat → Nat) (ws : va_W) (x2 : Int32) (hI : q_I (nsh g q) q ws) : q_mI l y_jLat_indexOf prog_33_method_22_code 4 (.int) 2 0 0 D g [.ref (g (9 + 2 * 7)), .int x2, .int 0, .int 2] ws (fun r u => ws = u ∧ (0 ≤ r.toInt + 1) ∧ (r.toInt ≤ 1) ∧ r = F_jLat_indexOf_e_7 x2) := by
  intro sz
  refine q_into (by decide) (Nat.le_of_ble_eq_true rfl) ?_
  intro p e s m below meth c ls hsz C0 V hl
  have hx := C0.1
  have hb := C0.2.1
  have hl : lv_has ls 4 [(0, .ref (g (9 + 2 * 7))), (1, .int x2), (2, .int 0), (3, .int 2)] := hl
  refine lv_iload_n hx hb d_33_22_0 rfl (lv_at hl 1 rfl) ?_
  refine q_goi V (q_runS (As := [.int x2]) (rest := []) (d := 1) (mc := 0) (ms := 0) C0 V rfl LS_jLat_88 (T_jLat_canEncode_e l D g q ws  x2 hI   _) rfl hl.1 rfl (Nat.le_of_ble_eq_true rfl) ⟨by decide, by decide⟩ ⟨Nat.le_of_ble_eq_true rfl, Nat.le_of_ble_eq_true rfl⟩ d_33_22_1) (fun a3 u1 H locs hp2 V => ?_)
  obtain ⟨rfl, b4, b5, pu6⟩ := hp2
  replace b4 : q_F (0 ≤ a3.toInt) := b4
  replace b5 : q_F (a3.toInt ≤ 1) := b5
  refine lv_if_ne (tgt := 9) hx hb d_33_22_4 (by decide) (fun c8 => ?_) (fun c8 => ?_)
  ·
    have b9 : q_F (a3.toInt ≠ 0) := (q_neI c8)
    refine lv_iload_n hx hb d_33_22_9 rfl (lv_at hl 2 rfl) ?_
    refine lv_iconst (v := 0) hx hb d_33_22_10 (by decide) ?_
    refine q_max C0 hl.1 rfl w_1773 w_803 w_7 w_804 ⟨Nat.le_of_ble_eq_true rfl, Nat.le_of_ble_eq_true rfl⟩ ⟨Nat.le_of_ble_eq_true rfl, Nat.le_of_ble_eq_true rfl⟩ d_33_22_11 ?_
    refine q_ti (v := 0) (by decide) ?_
    refine lv_istore_n (lv' := [(2, .int 0), (0, .ref (g (9 + 2 * 7))), (1, .int x2), (3, .int 2)]) hx hb d_33_22_14 rfl hl (by decide) rfl (fun ls hl => ?_)
    refine lv_iload_n hx hb d_33_22_15 rfl (lv_at hl 3 rfl) ?_
    refine lv_aload_n hx hb d_33_22_16 rfl (lv_at hl 1 rfl) ?_
    refine q_slen (i := 7) (v := 2) C0 V rfl (by decide) d_33_22_17 ?_
    refine q_min C0 hl.1 rfl w_1774 w_774 w_7 w_775 ⟨Nat.le_of_ble_eq_true rfl, Nat.le_of_ble_eq_true rfl⟩ ⟨Nat.le_of_ble_eq_true rfl, Nat.le_of_ble_eq_true rfl⟩ d_33_22_18 ?_
    refine q_ti (v := 2) (by decide) ?_
    refine lv_istore_n (lv' := [(3, .int 2), (2, .int 0), (0, .ref (g (9 + 2 * 7))), (1, .int x2)]) hx hb d_33_22_21 rfl hl (by decide) rfl (fun ls hl => ?_)
    refine lv_iload_n hx hb d_33_22_22 rfl (lv_at hl 1 rfl) ?_
    refine lv_iload_n hx hb d_33_22_23 rfl (lv_at hl 0 rfl) ?_
    refine lv_icmp_lt (tgt := 29) hx hb d_33_22_24 (by decide) (fun c10 => ?_) (fun c10 => absurd (by decide) c10)
    refine lv_aload_n hx hb d_33_22_29 rfl (lv_at hl 2 rfl) ?_
    refine lv_iload_n hx hb d_33_22_30 rfl (lv_at hl 3 rfl) ?_
    refine lv_iload_n hx hb d_33_22_31 rfl (lv_at hl 1 rfl) ?_
    refine lv_iload_n hx hb d_33_22_32 rfl (lv_at hl 0 rfl) ?_
    refine q_goi V (q_runS (As := [.ref (g (9 + 2 * 7)), .int x2, .int 0, .int 2]) (rest := []) (d := 1) (mc := 0) (ms := 0) C0 V rfl LS_jLat_95 (T_jLat_indexOfChar_e_7 l D g q ws  x2 hI   _) rfl hl.1 rfl (Nat.le_of_ble_eq_true rfl) ⟨by decide, by decide⟩ ⟨Nat.le_of_ble_eq_true rfl, Nat.le_of_ble_eq_true rfl⟩ d_33_22_33) (fun a13 u11 H locs hp12 V => ?_)
    obtain ⟨rfl, b14, b15, pu16⟩ := hp12
    replace b14 : q_F (0 ≤ a13.toInt + 1) := b14
    replace b15 : q_F (a13.toInt ≤ 1) := b15
    exact q_reti C0 V (⟨rfl, (show 0 ≤ a13.toInt + 1 from (by have t1 : 0 ≤ a13.toInt + 1 := b14; omega)), (show a13.toInt ≤ 1 from (by have t1 : a13.toInt ≤ 1 := b15; omega)), (by subst pu6; subst pu16; unfold F_jLat_indexOf_e_7; rw [if_neg c8])⟩) d_33_22_36
  ·
    have b18 : q_F (a3.toInt = 0) := (q_eqI c8)
    refine lv_iconst (v := (-1)) hx hb d_33_22_7 (by decide) ?_
    exact q_reti C0 V (⟨rfl, (show 0 ≤ (-1 : Int32).toInt + 1 from (by have z1 : (-1 : Int32).toInt = -1 := rfl; omega)), (show (-1 : Int32).toInt ≤ 1 from (by have z1 : (-1 : Int32).toInt = -1 := rfl; omega)), (by subst pu6; unfold F_jLat_indexOf_e_7; rw [if_pos c8])⟩) d_33_22_8
def F_jStr_indexOf2_e_7 (x2 : Int32) : Int32 := (F_jLat_indexOf_e_7 x2 : Int32)
set_option maxRecDepth 100000 in
set_option maxHeartbeats 4000000 in
theorem T_jStr_indexOf2_e_7 (l : Launch) (D : va_G) (g : Nat → ClassId) (q : Nat → Nat) (ws : va_W) (x2 : Int32) (hI : q_I (nsh g q) q ws) : q_mI l y_jStr_indexOf_III prog_31_method_80_code 3 (.int) 3 0 0 D g [.ref (g (8 + 2 * 7)), .int x2, .int 0] ws (fun r u => ws = u ∧ (0 ≤ r.toInt + 1) ∧ (r.toInt ≤ 1) ∧ r = F_jStr_indexOf2_e_7 x2) := by
  intro sz
  refine q_into (by decide) (Nat.le_of_ble_eq_true rfl) ?_
  intro p e s m below meth c ls hsz C0 V hl
  have hx := C0.1
  have hb := C0.2.1
  have hl : lv_has ls 3 [(0, .ref (g (8 + 2 * 7))), (1, .int x2), (2, .int 0)] := hl
  refine lv_aload_n hx hb d_31_80_0 rfl (lv_at hl 0 rfl) ?_
  refine q_goi V (q_runVs (As := []) (rest := []) (d := 1) (mc := 0) (ms := 0) (i := 7) C0 V rfl LV_jStr_492 (T_jStr_isLatin1_7 l D g q ws   hI   _) rfl rfl rfl hl.1 rfl (Nat.le_of_ble_eq_true rfl) ⟨by decide, by decide⟩ ⟨Nat.le_of_ble_eq_true rfl, Nat.le_of_ble_eq_true rfl⟩ d_31_80_1) (fun a3 u1 H locs hp2 V => ?_)
  obtain ⟨rfl, b4, b5⟩ := hp2
  replace b4 : q_F (1 ≤ a3.toInt) := b4
  replace b5 : q_F (a3.toInt ≤ 1) := b5
  obtain rfl : a3 = (1 : Int32) := q_Ieq (x := a3.toInt) (y := 1) rfl (by decide) (by have t1 : 1 ≤ a3.toInt := b4; have t2 : a3.toInt ≤ 1 := b5; omega)
  refine lv_if_eq (tgt := 23) hx hb d_31_80_4 (by decide) (fun c7 => absurd c7 (by decide)) (fun c7 => ?_)
  refine lv_aload_n hx hb d_31_80_7 rfl (lv_at hl 0 rfl) ?_
  refine q_sval (i := 7) C0 V rfl rfl w_1018 d_31_80_8 ?_
  refine lv_iload_n hx hb d_31_80_11 rfl (lv_at hl 1 rfl) ?_
  refine lv_iload_n hx hb d_31_80_12 rfl (lv_at hl 2 rfl) ?_
  refine lv_aload_n hx hb d_31_80_13 rfl (lv_at hl 0 rfl) ?_
  refine q_goi V (q_runVs (As := []) (rest := [.int 0, .int x2, .ref (g (9 + 2 * 7))]) (d := 2) (mc := 0) (ms := 0) (i := 7) C0 V rfl LV_jStr_505 (T_jStr_length_7 l D g q ws   hI   _) rfl rfl rfl hl.1 rfl (Nat.le_of_ble_eq_true rfl) ⟨by decide, by decide⟩ ⟨Nat.le_of_ble_eq_true rfl, Nat.le_of_ble_eq_true rfl⟩ d_31_80_14) (fun a10 u8 H locs hp9 V => ?_)
  obtain ⟨rfl, b11, b12⟩ := hp9
  replace b11 : q_F (2 ≤ a10.toInt) := b11
  replace b12 : q_F (a10.toInt ≤ 2) := b12
  obtain rfl : a10 = (2 : Int32) := q_Ieq (x := a10.toInt) (y := 2) rfl (by decide) (by have t1 : 2 ≤ a10.toInt := b11; have t2 : a10.toInt ≤ 2 := b12; omega)
  refine q_goi V (q_runS (As := [.ref (g (9 + 2 * 7)), .int x2, .int 0, .int 2]) (rest := []) (d := 2) (mc := 0) (ms := 0) C0 V rfl LS_jStr_637 (T_jLat_indexOf_e_7 l D g q ws  x2 hI   _) rfl hl.1 rfl (Nat.le_of_ble_eq_true rfl) ⟨by decide, by decide⟩ ⟨Nat.le_of_ble_eq_true rfl, Nat.le_of_ble_eq_true rfl⟩ d_31_80_17) (fun a16 u14 H locs hp15 V => ?_)
  obtain ⟨rfl, b17, b18, pu19⟩ := hp15
  replace b17 : q_F (0 ≤ a16.toInt + 1) := b17
  replace b18 : q_F (a16.toInt ≤ 1) := b18
  refine lv_goto (tgt := 36) hx hb d_31_80_20 (by decide) ?_
  exact q_reti C0 V (⟨rfl, (show 0 ≤ a16.toInt + 1 from (by have t1 : 0 ≤ a16.toInt + 1 := b17; omega)), (show a16.toInt ≤ 1 from (by have t1 : a16.toInt ≤ 1 := b18; omega)), (by subst pu19; unfold F_jStr_indexOf2_e_7; rfl)⟩) d_31_80_36
def F_jStr_indexOf_e_7 (x2 : Int32) : Int32 := (F_jStr_indexOf2_e_7 x2 : Int32)
set_option maxRecDepth 100000 in
set_option maxHeartbeats 4000000 in
theorem T_jStr_indexOf_e_7 (l : Launch) (D : va_G) (g : Nat → ClassId) (q : Nat → Nat) (ws : va_W) (x2 : Int32) (hI : q_I (nsh g q) q ws) : q_mI l y_jStr_indexOf_II prog_31_method_79_code 2 (.int) 4 0 0 D g [.ref (g (8 + 2 * 7)), .int x2] ws (fun r u => ws = u ∧ (0 ≤ r.toInt + 1) ∧ (r.toInt ≤ 1) ∧ r = F_jStr_indexOf_e_7 x2) := by
  intro sz
  refine q_into (by decide) (Nat.le_of_ble_eq_true rfl) ?_
  intro p e s m below meth c ls hsz C0 V hl
  have hx := C0.1
  have hb := C0.2.1
  have hl : lv_has ls 2 [(0, .ref (g (8 + 2 * 7))), (1, .int x2)] := hl
  refine lv_aload_n hx hb d_31_79_0 rfl (lv_at hl 0 rfl) ?_
  refine lv_iload_n hx hb d_31_79_1 rfl (lv_at hl 1 rfl) ?_
  refine lv_iconst (v := 0) hx hb d_31_79_2 (by decide) ?_
  refine q_goi V (q_runVs (As := [.int x2, .int 0]) (rest := []) (d := 3) (mc := 0) (ms := 0) (i := 7) C0 V rfl LV_jStr_633 (T_jStr_indexOf2_e_7 l D g q ws  x2 hI   _) rfl rfl rfl hl.1 rfl (Nat.le_of_ble_eq_true rfl) ⟨by decide, by decide⟩ ⟨Nat.le_of_ble_eq_true rfl, Nat.le_of_ble_eq_true rfl⟩ d_31_79_3) (fun a3 u1 H locs hp2 V => ?_)
  obtain ⟨rfl, b4, b5, pu6⟩ := hp2
  replace b4 : q_F (0 ≤ a3.toInt + 1) := b4
  replace b5 : q_F (a3.toInt ≤ 1) := b5
  exact q_reti C0 V (⟨rfl, (show 0 ≤ a3.toInt + 1 from (by have t1 : 0 ≤ a3.toInt + 1 := b4; omega)), (show a3.toInt ≤ 1 from (by have t1 : a3.toInt ≤ 1 := b5; omega)), (by subst pu6; unfold F_jStr_indexOf_e_7; rfl)⟩) d_31_79_6
def F_Dir_isOneOf_e_7 (t0_4 : Int32) : Int32 := if t0_4 < (0 : Int32) then (0) else (if (F_jStr_indexOf_e_7 ((t0_4.toUInt32 % 65536).toInt32 : Int32) : Int32) < (0 : Int32) then (0) else (1))
set_option maxRecDepth 100000 in
set_option maxHeartbeats 4000000 in
theorem T_Dir_isOneOf_e_7 (l : Launch) (D : va_G) (g : Nat → ClassId) (q : Nat → Nat) (ws : va_W) (hI : q_I (nsh g q) q ws) (t0_0 : Int32) (t0_1 : Int32) (t0_2 : Int32) (t0_3 : Int32) (t0_4 : Int32) (t0_5 : Int32) (t0_6 : Int32) (hT0 : ws[47]? = (some (q 47, .inr (10, [.int t0_0, .int t0_1, .int t0_2, .int t0_3, .int t0_4, .int t0_5, .ref (q 1), .int t0_6])) : Option (Nat × va_E))) : q_mI l y_Dir_isOneOf prog_6_method_9_code 2 (.boolean) 5 0 0 D g [.ref (q 47), .ref (g (8 + 2 * 7))] ws (fun r u => ws = u ∧ (0 ≤ r.toInt) ∧ (r.toInt ≤ 1) ∧ r = F_Dir_isOneOf_e_7 t0_4) := by
  intro sz
  refine q_into (by decide) (Nat.le_of_ble_eq_true rfl) ?_
  intro p e s m below meth c ls hsz C0 V hl
  have hx := C0.1
  have hb := C0.2.1
  obtain ⟨yy0_0, yy0_1, yy0_2, yy0_3, yy0_4, yy0_5, yy0_6, hh0, btt0_2, btt0_3, btt0_6⟩ := n_o47 hI
  obtain ⟨rfl, rfl, rfl, rfl, rfl, rfl, rfl⟩ : t0_0 = yy0_0 ∧ t0_1 = yy0_1 ∧ t0_2 = yy0_2 ∧ t0_3 = yy0_3 ∧ t0_4 = yy0_4 ∧ t0_5 = yy0_5 ∧ t0_6 = yy0_6 := by have z := Option.some.inj (hT0.symm.trans hh0); simpa using z
  replace btt0_2 : q_F (-1 ≤ t0_2.toInt ∧ t0_2.toInt ≤ 9999) := btt0_2
  replace btt0_3 : q_F (-1 ≤ t0_3.toInt ∧ t0_3.toInt ≤ 9999) := btt0_3
  replace btt0_6 : q_F (0 ≤ t0_6.toInt ∧ t0_6.toInt ≤ 1) := btt0_6
  have hl : lv_has ls 2 [(0, .ref (q 47)), (1, .ref (g (8 + 2 * 7)))] := hl
  refine lv_aload_n hx hb d_6_9_0 rfl (lv_at hl 0 rfl) ?_
  refine q_get (ci := 10) (j := 4) (v := .int t0_4) C0 V i_Dir rfl rfl hT0 (by decide) w_361 rfl d_6_9_1 ?_
  refine lv_if_lt (tgt := 23) hx hb d_6_9_4 (by decide) (fun c12 => ?_) (fun c12 => ?_)
  ·
    have b13 : q_F (t0_4.toInt < 0) := (q_ltI c12)
    refine lv_iconst (v := 0) hx hb d_6_9_23 (by decide) ?_
    exact q_retz C0 V (by decide) (⟨rfl, (show 0 ≤ (0 : Int32).toInt from (by have z7 : (0 : Int32).toInt = 0 := rfl; omega)), (show (0 : Int32).toInt ≤ 1 from (by have z7 : (0 : Int32).toInt = 0 := rfl; omega)), (by unfold F_Dir_isOneOf_e_7; rw [if_pos c12])⟩) d_6_9_24
  ·
    have b14 : q_F (0 ≤ t0_4.toInt) := (q_nltI c12)
    refine lv_aload_n hx hb d_6_9_7 rfl (lv_at hl 1 rfl) ?_
    refine lv_aload_n hx hb d_6_9_8 rfl (lv_at hl 0 rfl) ?_
    refine q_get (ci := 10) (j := 4) (v := .int t0_4) C0 V i_Dir rfl rfl hT0 (by decide) w_361 rfl d_6_9_9 ?_
    refine lv_i2c hx hb d_6_9_12 rfl ?_
    obtain ⟨a15, e16⟩ := q_nm ((t0_4.toUInt32 % 65536).toInt32 : Int32)
    refine q_ti (v := a15) e16 ?_
    have b17 : q_F (0 ≤ a15.toInt ∧ a15.toInt ≤ 65535) := (by rw [← e16]; show 0 ≤ ((t0_4.toUInt32 % 65536).toInt32 : Int32).toInt ∧ ((t0_4.toUInt32 % 65536).toInt32 : Int32).toInt ≤ 65535; exact ⟨(n_i2c (x := t0_4)).1, (n_i2c (x := t0_4)).2.1⟩)
    refine q_goi V (q_runVs (As := [.int a15]) (rest := []) (d := 4) (mc := 0) (ms := 0) (i := 7) C0 V rfl LV_Dir_63 (T_jStr_indexOf_e_7 l D g q ws  a15 hI   _) rfl rfl rfl hl.1 rfl (Nat.le_of_ble_eq_true rfl) ⟨by decide, by decide⟩ ⟨Nat.le_of_ble_eq_true rfl, Nat.le_of_ble_eq_true rfl⟩ d_6_9_13) (fun a20 u18 H locs hp19 V => ?_)
    obtain ⟨rfl, b21, b22, pu23⟩ := hp19
    replace b21 : q_F (0 ≤ a20.toInt + 1) := b21
    replace b22 : q_F (a20.toInt ≤ 1) := b22
    refine lv_if_lt (tgt := 23) hx hb d_6_9_16 (by decide) (fun c25 => ?_) (fun c25 => ?_)
    ·
      have b26 : q_F (a20.toInt < 0) := (q_ltI c25)
      refine lv_iconst (v := 0) hx hb d_6_9_23 (by decide) ?_
      exact q_retz C0 V (by decide) (⟨rfl, (show 0 ≤ (0 : Int32).toInt from (by have z7 : (0 : Int32).toInt = 0 := rfl; omega)), (show (0 : Int32).toInt ≤ 1 from (by have z7 : (0 : Int32).toInt = 0 := rfl; omega)), (by subst e16; subst pu23; unfold F_Dir_isOneOf_e_7; rw [if_neg c12, if_pos c25])⟩) d_6_9_24
    ·
      have b27 : q_F (0 ≤ a20.toInt) := (q_nltI c25)
      refine lv_iconst (v := 1) hx hb d_6_9_19 (by decide) ?_
      refine lv_goto (tgt := 24) hx hb d_6_9_20 (by decide) ?_
      exact q_retz C0 V (by decide) (⟨rfl, (show 0 ≤ (1 : Int32).toInt from (by have z7 : (1 : Int32).toInt = 1 := rfl; omega)), (show (1 : Int32).toInt ≤ 1 from (by have z7 : (1 : Int32).toInt = 1 := rfl; omega)), (by subst e16; subst pu23; unfold F_Dir_isOneOf_e_7; rw [if_neg c12, if_neg c25])⟩) d_6_9_24
