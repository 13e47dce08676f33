def F_jStr_charAt_20 (x2 : Int32) : Int32 := ((F_jLat_charAt_20 x2) : Int32)
set_option maxRecDepth 100000 in
set_option maxHeartbeats 4000000 in
theorem X_jStr_charAt_20 (l : Launch) (D : va_G) (g : Nat → ClassId) (q : Nat → Nat) (ws : va_W) (x2 : Int32) (hI : q_I (nsh g q) q ws) (pre0 : 0 ≤ x2.toInt) (pre1 : x2.toInt ≤ 2) : q_mI l y_jStr_charAt prog_31_method_56_code 2 (.char) 4 0 0 D g [.ref (g (8 + 2 * 20)), .int x2] ws (fun r u => ws = u ∧ (0 ≤ r.toInt) ∧ (r.toInt ≤ 255) ∧ r = (F_jStr_charAt_20 x2)) := by
  intro sz
  refine q_into (by decide) (Nat.le_of_ble_eq_true rfl) ?_
  intro p e s m below meth c ls hsz C0 V hl
  have hx := C0.1
  have hb := C0.2.1
  replace pre0 : q_F (0 ≤ x2.toInt) := pre0
  replace pre1 : q_F (x2.toInt ≤ 2) := pre1
  have hl : lv_has ls 2 [(0, .ref (g (8 + 2 * 20))), (1, .int x2)] := hl
  refine lv_aload_n hx hb d_31_56_0 rfl (lv_at hl 0 rfl) ?_
  refine q_goi V (q_runVs (As := []) (rest := []) (d := 1) (mc := 0) (ms := 0) (i := 20) C0 V rfl LV_jStr_492 (T_jStr_isLatin1_20 l D g q ws   hI   _) rfl rfl rfl hl.1 rfl (Nat.le_of_ble_eq_true rfl) ⟨by decide, by decide⟩ ⟨Nat.le_of_ble_eq_true rfl, Nat.le_of_ble_eq_true rfl⟩ d_31_56_1) (fun a3 u1 H locs hp2 V => ?_)
  obtain ⟨rfl, b4, b5⟩ := hp2
  replace b4 : q_F (1 ≤ a3.toInt) := b4
  replace b5 : q_F (a3.toInt ≤ 1) := b5
  obtain rfl : a3 = (1 : Int32) := q_Ieq (x := a3.toInt) (y := 1) rfl (by decide) (by have t1 : 1 ≤ a3.toInt := b4; have t2 : a3.toInt ≤ 1 := b5; omega)
  refine lv_if_eq (tgt := 16) hx hb d_31_56_4 (by decide) (fun c7 => absurd c7 (by decide)) (fun c7 => ?_)
  refine lv_aload_n hx hb d_31_56_7 rfl (lv_at hl 0 rfl) ?_
  refine q_sval (i := 20) C0 V rfl rfl w_1018 d_31_56_8 ?_
  refine lv_iload_n hx hb d_31_56_11 rfl (lv_at hl 1 rfl) ?_
  refine q_goi V (q_runS (As := [.ref (g (9 + 2 * 20)), .int x2]) (rest := []) (d := 3) (mc := 0) (ms := 0) C0 V rfl LS_jStr_495 (X_jLat_charAt_20 l D g q ws  x2 hI  (by have t1 : 0 ≤ x2.toInt := pre0; omega) (by have t1 : x2.toInt ≤ 2 := pre1; omega) _) rfl hl.1 rfl (Nat.le_of_ble_eq_true rfl) ⟨by decide, by decide⟩ ⟨Nat.le_of_ble_eq_true rfl, Nat.le_of_ble_eq_true rfl⟩ d_31_56_12) (fun a10 u8 H locs hp9 V => ?_)
  obtain ⟨rfl, b11, b12, hE13⟩ := hp9
  have e14 : a10 = (F_jLat_charAt_20 x2) := hE13
  replace b11 : q_F (0 ≤ a10.toInt) := b11
  replace b12 : q_F (a10.toInt ≤ 255) := b12
  exact q_retn C0 V (n_chr (by have t1 : 0 ≤ a10.toInt := b11; omega) (by have t1 : a10.toInt ≤ 255 := b12; omega)) (⟨rfl, (show 0 ≤ a10.toInt from (by have t1 : 0 ≤ a10.toInt := b11; omega)), (show a10.toInt ≤ 255 from (by have t1 : a10.toInt ≤ 255 := b12; omega)), (show a10 = (F_jStr_charAt_20 x2) from (by rw [e14, F_jStr_charAt_20.eq_1]))⟩) d_31_56_15
def F_jStr_length_21 : Int32 := (8 : Int32)
set_option maxRecDepth 100000 in
set_option maxHeartbeats 4000000 in
theorem X_jStr_length_21 (l : Launch) (D : va_G) (g : Nat → ClassId) (q : Nat → Nat) (ws : va_W) (hI : q_I (nsh g q) q ws) : q_mI l y_jStr_length prog_31_method_54_code 1 (.int) 2 0 0 D g [.ref (g (8 + 2 * 21))] ws (fun r u => ws = u ∧ (8 ≤ r.toInt) ∧ (r.toInt ≤ 8) ∧ r = (F_jStr_length_21)) := by
  intro sz
  refine q_into (by decide) (Nat.le_of_ble_eq_true rfl) ?_
  intro p e s m below meth c ls hsz C0 V hl
  have hx := C0.1
  have hb := C0.2.1
  have hl : lv_has ls 1 [(0, .ref (g (8 + 2 * 21)))] := hl
  refine lv_aload_n hx hb d_31_54_0 rfl (lv_at hl 0 rfl) ?_
  refine q_sval (i := 21) C0 V rfl rfl w_1018 d_31_54_1 ?_
  refine q_slen (i := 21) (v := 8) C0 V rfl (by decide) d_31_54_4 ?_
  refine lv_aload_n hx hb d_31_54_5 rfl (lv_at hl 0 rfl) ?_
  refine q_goi V (q_runVs (As := []) (rest := [.int 8]) (d := 1) (mc := 0) (ms := 0) (i := 21) C0 V rfl LV_jStr_335 (T_jStr_coder_21 l D g q ws   hI   _) rfl rfl rfl hl.1 rfl (Nat.le_of_ble_eq_true rfl) ⟨by decide, by decide⟩ ⟨Nat.le_of_ble_eq_true rfl, Nat.le_of_ble_eq_true rfl⟩ d_31_54_6) (fun a3 u1 H locs hp2 V => ?_)
  obtain ⟨rfl, b4, b5⟩ := hp2
  replace b4 : q_F (0 ≤ a3.toInt) := b4
  replace b5 : q_F (a3.toInt ≤ 0) := b5
  obtain rfl : a3 = (0 : Int32) := q_Ieq (x := a3.toInt) (y := 0) rfl (by decide) (by have t1 : 0 ≤ a3.toInt := b4; have t2 : a3.toInt ≤ 0 := b5; omega)
  refine lv_ishr hx hb d_31_54_9 ?_
  refine q_ti (v := 8) (by decide) ?_
  exact q_reti C0 V (⟨rfl, (show 8 ≤ (8 : Int32).toInt from (by have z0 : (8 : Int32).toInt = 8 := rfl; omega)), (show (8 : Int32).toInt ≤ 8 from (by have z0 : (8 : Int32).toInt = 8 := rfl; omega)), (show (8 : Int32) = (F_jStr_length_21) from (by rw [F_jStr_length_21.eq_1]))⟩) d_31_54_10
def F_jLat_charAt_21 (x2 : Int32) : Int32 := (((((([73, 110, 102, 105, 110, 105, 116, 121] : List Int32).getD x2.toNatClampNeg 0) : Int32) &&& 255 : Int32).toUInt32 % 65536).toInt32 : Int32)
set_option maxRecDepth 100000 in
set_option maxHeartbeats 4000000 in
theorem X_jLat_charAt_21 (l : Launch) (D : va_G) (g : Nat → ClassId) (q : Nat → Nat) (ws : va_W) (x2 : Int32) (hI : q_I (nsh g q) q ws) (pre0 : 0 ≤ x2.toInt) (pre1 : x2.toInt ≤ 7) : q_mI l y_jLat_charAt prog_33_method_2_code 2 (.char) 3 0 0 D g [.ref (g (9 + 2 * 21)), .int x2] ws (fun r u => ws = u ∧ (0 ≤ r.toInt) ∧ (r.toInt ≤ 255) ∧ r = (F_jLat_charAt_21 x2)) := by
  intro sz
  refine q_into (by decide) (Nat.le_of_ble_eq_true rfl) ?_
  intro p e s m below meth c ls hsz C0 V hl
  have hx := C0.1
  have hb := C0.2.1
  replace pre0 : q_F (0 ≤ x2.toInt) := pre0
  replace pre1 : q_F (x2.toInt ≤ 7) := pre1
  have hl : lv_has ls 2 [(0, .ref (g (9 + 2 * 21))), (1, .int x2)] := hl
  refine lv_iload_n hx hb d_33_2_0 rfl (lv_at hl 1 rfl) ?_
  refine lv_aload_n hx hb d_33_2_1 rfl (lv_at hl 0 rfl) ?_
  refine q_slen (i := 21) (v := 8) C0 V rfl (by decide) d_33_2_2 ?_
  refine q_gov V (q_runS (As := [.int x2, .int 8]) (rest := []) (d := 2) (mc := 0) (ms := 0) C0 V rfl LS_jLat_9 (T_jStr_checkIndex l D g q ws  x2 8 hI  (by have y0 : (8 : Int32).toInt = 8 := rfl; have t1 : 0 ≤ x2.toInt := pre0; omega) (by have y0 : (8 : Int32).toInt = 8 := rfl; have t1 : x2.toInt ≤ 7 := pre1; omega) _) rfl hl.1 rfl (Nat.le_of_ble_eq_true rfl) ⟨by decide, by decide⟩ ⟨Nat.le_of_ble_eq_true rfl, Nat.le_of_ble_eq_true rfl⟩ d_33_2_3) (fun u1 H locs hp2 V => ?_)
  obtain ⟨rfl, -⟩ := hp2
  refine lv_aload_n hx hb d_33_2_6 rfl (lv_at hl 0 rfl) ?_
  refine lv_iload_n hx hb d_33_2_7 rfl (lv_at hl 1 rfl) ?_
  refine q_sbal (i := 21) (v := (([73, 110, 102, 105, 110, 105, 116, 121] : List Int32).getD x2.toNatClampNeg 0)) C0 V rfl (show vp_in x2 8 from q_ix (x := x2.toInt) rfl (by have t1 : 0 ≤ x2.toInt := pre0; omega) (by have t1 : 0 ≤ x2.toInt := pre0; have t2 : x2.toInt ≤ 7 := pre1; omega)) rfl d_33_2_8 ?_
  obtain ⟨a4, e5⟩ := q_nm ((([73, 110, 102, 105, 110, 105, 116, 121] : List Int32).getD x2.toNatClampNeg 0) : Int32)
  refine q_ti (v := a4) e5 ?_
  refine lv_sipush (v := 255) hx hb d_33_2_9 (by decide) ?_
  refine lv_iand hx hb d_33_2_12 ?_
  obtain ⟨a6, e7⟩ := q_nm (a4 &&& 255 : Int32)
  refine q_ti (v := a6) e7 ?_
  have b8 : q_F (0 ≤ a6.toInt ∧ a6.toInt ≤ 255) := (by rw [← e7]; show 0 ≤ (a4 &&& 255 : Int32).toInt ∧ (a4 &&& 255 : Int32).toInt ≤ 255; exact s_and (by decide))
  refine lv_i2c hx hb d_33_2_13 rfl ?_
  obtain ⟨a9, e10⟩ := q_nm ((a6.toUInt32 % 65536).toInt32 : Int32)
  refine q_ti (v := a9) e10 ?_
  have b11 : q_F (a9.toInt = a6.toInt) := (by rw [← e10]; show ((a6.toUInt32 % 65536).toInt32 : Int32).toInt = a6.toInt; exact (n_i2c (x := a6)).2.2 (by have t1 : 0 ≤ a6.toInt ∧ a6.toInt ≤ 255 := b8; omega) (by have t1 : 0 ≤ a6.toInt ∧ a6.toInt ≤ 255 := b8; omega))
  exact q_retn C0 V (n_chr (by have t1 : 0 ≤ a6.toInt ∧ a6.toInt ≤ 255 := b8; have t2 : a9.toInt = a6.toInt := b11; omega) (by have t1 : 0 ≤ a6.toInt ∧ a6.toInt ≤ 255 := b8; have t2 : a9.toInt = a6.toInt := b11; omega)) (⟨rfl, (show 0 ≤ a9.toInt from (by have t1 : 0 ≤ a6.toInt ∧ a6.toInt ≤ 255 := b8; have t2 : a9.toInt = a6.toInt := b11; omega)), (show a9.toInt ≤ 255 from (by have t1 : 0 ≤ a6.toInt ∧ a6.toInt ≤ 255 := b8; have t2 : a9.toInt = a6.toInt := b11; omega)), (show a9 = (F_jLat_charAt_21 x2) from (by rw [← e10, ← e7, ← e5, F_jLat_charAt_21.eq_1]))⟩) d_33_2_14
def F_jStr_charAt_21 (x2 : Int32) : Int32 := ((F_jLat_charAt_21 x2) : Int32)
set_option maxRecDepth 100000 in
set_option maxHeartbeats 4000000 in
theorem X_jStr_charAt_21 (l : Launch) (D : va_G) (g : Nat → ClassId) (q : Nat → Nat) (ws : va_W) (x2 : Int32) (hI : q_I (nsh g q) q ws) (pre0 : 0 ≤ x2.toInt) (pre1 : x2.toInt ≤ 7) : q_mI l y_jStr_charAt prog_31_method_56_code 2 (.char) 4 0 0 D g [.ref (g (8 + 2 * 21)), .int x2] ws (fun r u => ws = u ∧ (0 ≤ r.toInt) ∧ (r.toInt ≤ 255) ∧ r = (F_jStr_charAt_21 x2)) := by
  intro sz
  refine q_into (by decide) (Nat.le_of_ble_eq_true rfl) ?_
  intro p e s m below meth c ls hsz C0 V hl
  have hx := C0.1
  have hb := C0.2.1
  replace pre0 : q_F (0 ≤ x2.toInt) := pre0
  replace pre1 : q_F (x2.toInt ≤ 7) := pre1
  have hl : lv_has ls 2 [(0, .ref (g (8 + 2 * 21))), (1, .int x2)] := hl
  refine lv_aload_n hx hb d_31_56_0 rfl (lv_at hl 0 rfl) ?_
  refine q_goi V (q_runVs (As := []) (rest := []) (d := 1) (mc := 0) (ms := 0) (i := 21) C0 V rfl LV_jStr_492 (T_jStr_isLatin1_21 l D g q ws   hI   _) rfl rfl rfl hl.1 rfl (Nat.le_of_ble_eq_true rfl) ⟨by decide, by decide⟩ ⟨Nat.le_of_ble_eq_true rfl, Nat.le_of_ble_eq_true rfl⟩ d_31_56_1) (fun a3 u1 H locs hp2 V => ?_)
  obtain ⟨rfl, b4, b5⟩ := hp2
  replace b4 : q_F (1 ≤ a3.toInt) := b4
  replace b5 : q_F (a3.toInt ≤ 1) := b5
  obtain rfl : a3 = (1 : Int32) := q_Ieq (x := a3.toInt) (y := 1) rfl (by decide) (by have t1 : 1 ≤ a3.toInt := b4; have t2 : a3.toInt ≤ 1 := b5; omega)
  refine lv_if_eq (tgt := 16) hx hb d_31_56_4 (by decide) (fun c7 => absurd c7 (by decide)) (fun c7 => ?_)
  refine lv_aload_n hx hb d_31_56_7 rfl (lv_at hl 0 rfl) ?_
  refine q_sval (i := 21) C0 V rfl rfl w_1018 d_31_56_8 ?_
  refine lv_iload_n hx hb d_31_56_11 rfl (lv_at hl 1 rfl) ?_
  refine q_goi V (q_runS (As := [.ref (g (9 + 2 * 21)), .int x2]) (rest := []) (d := 3) (mc := 0) (ms := 0) C0 V rfl LS_jStr_495 (X_jLat_charAt_21 l D g q ws  x2 hI  (by have t1 : 0 ≤ x2.toInt := pre0; omega) (by have t1 : x2.toInt ≤ 7 := pre1; omega) _) rfl hl.1 rfl (Nat.le_of_ble_eq_true rfl) ⟨by decide, by decide⟩ ⟨Nat.le_of_ble_eq_true rfl, Nat.le_of_ble_eq_true rfl⟩ d_31_56_12) (fun a10 u8 H locs hp9 V => ?_)
  obtain ⟨rfl, b11, b12, hE13⟩ := hp9
  have e14 : a10 = (F_jLat_charAt_21 x2) := hE13
  replace b11 : q_F (0 ≤ a10.toInt) := b11
  replace b12 : q_F (a10.toInt ≤ 255) := b12
  exact q_retn C0 V (n_chr (by have t1 : 0 ≤ a10.toInt := b11; omega) (by have t1 : a10.toInt ≤ 255 := b12; omega)) (⟨rfl, (show 0 ≤ a10.toInt from (by have t1 : 0 ≤ a10.toInt := b11; omega)), (show a10.toInt ≤ 255 from (by have t1 : a10.toInt ≤ 255 := b12; omega)), (show a10 = (F_jStr_charAt_21 x2) from (by rw [e14, F_jStr_charAt_21.eq_1]))⟩) d_31_56_15
def F_jStr_length_22 : Int32 := (36 : Int32)
set_option maxRecDepth 100000 in
set_option maxHeartbeats 4000000 in
theorem X_jStr_length_22 (l : Launch) (D : va_G) (g : Nat → ClassId) (q : Nat → Nat) (ws : va_W) (hI : q_I (nsh g q) q ws) : q_mI l y_jStr_length prog_31_method_54_code 1 (.int) 2 0 0 D g [.ref (g (8 + 2 * 22))] ws (fun r u => ws = u ∧ (36 ≤ r.toInt) ∧ (r.toInt ≤ 36) ∧ r = (F_jStr_length_22)) := by
  intro sz
  refine q_into (by decide) (Nat.le_of_ble_eq_true rfl) ?_
  intro p e s m below meth c ls hsz C0 V hl
  have hx := C0.1
  have hb := C0.2.1
  have hl : lv_has ls 1 [(0, .ref (g (8 + 2 * 22)))] := hl
  refine lv_aload_n hx hb d_31_54_0 rfl (lv_at hl 0 rfl) ?_
  refine q_sval (i := 22) C0 V rfl rfl w_1018 d_31_54_1 ?_
  refine q_slen (i := 22) (v := 36) C0 V rfl (by decide) d_31_54_4 ?_
  refine lv_aload_n hx hb d_31_54_5 rfl (lv_at hl 0 rfl) ?_
  refine q_goi V (q_runVs (As := []) (rest := [.int 36]) (d := 1) (mc := 0) (ms := 0) (i := 22) C0 V rfl LV_jStr_335 (T_jStr_coder_22 l D g q ws   hI   _) rfl rfl rfl hl.1 rfl (Nat.le_of_ble_eq_true rfl) ⟨by decide, by decide⟩ ⟨Nat.le_of_ble_eq_true rfl, Nat.le_of_ble_eq_true rfl⟩ d_31_54_6) (fun a3 u1 H locs hp2 V => ?_)
  obtain ⟨rfl, b4, b5⟩ := hp2
  replace b4 : q_F (0 ≤ a3.toInt) := b4
  replace b5 : q_F (a3.toInt ≤ 0) := b5
  obtain rfl : a3 = (0 : Int32) := q_Ieq (x := a3.toInt) (y := 0) rfl (by decide) (by have t1 : 0 ≤ a3.toInt := b4; have t2 : a3.toInt ≤ 0 := b5; omega)
  refine lv_ishr hx hb d_31_54_9 ?_
  refine q_ti (v := 36) (by decide) ?_
  exact q_reti C0 V (⟨rfl, (show 36 ≤ (36 : Int32).toInt from (by have z0 : (36 : Int32).toInt = 36 := rfl; omega)), (show (36 : Int32).toInt ≤ 36 from (by have z0 : (36 : Int32).toInt = 36 := rfl; omega)), (show (36 : Int32) = (F_jStr_length_22) from (by rw [F_jStr_length_22.eq_1]))⟩) d_31_54_10
def F_jLat_charAt_22 (x2 : Int32) : Int32 := (((((([48, 49, 50, 51, 52, 53, 54, 55, 56, 57, 97, 98, 99, 100, 101, 102, 103, 104, 105, 106, 107, 108, 109, 110, 111, 112, 113, 114, 115, 116, 117, 118, 119, 120, 121, 122] : List Int32).getD x2.toNatClampNeg 0) : Int32) &&& 255 : Int32).toUInt32 % 65536).toInt32 : Int32)
set_option maxRecDepth 100000 in
set_option maxHeartbeats 4000000 in
theorem X_jLat_charAt_22 (l : Launch) (D : va_G) (g : Nat → ClassId) (q : Nat → Nat) (ws : va_W) (x2 : Int32) (hI : q_I (nsh g q) q ws) (pre0 : 0 ≤ x2.toInt) (pre1 : x2.toInt ≤ 35) : q_mI l y_jLat_charAt prog_33_method_2_code 2 (.char) 3 0 0 D g [.ref (g (9 + 2 * 22)), .int x2] ws (fun r u => ws = u ∧ (0 ≤ r.toInt) ∧ (r.toInt ≤ 255) ∧ r = (F_jLat_charAt_22 x2)) := by
  intro sz
  refine q_into (by decide) (Nat.le_of_ble_eq_true rfl) ?_
  intro p e s m below meth c ls hsz C0 V hl
  have hx := C0.1
  have hb := C0.2.1
  replace pre0 : q_F (0 ≤ x2.toInt) := pre0
  replace pre1 : q_F (x2.toInt ≤ 35) := pre1
  have hl : lv_has ls 2 [(0, .ref (g (9 + 2 * 22))), (1, .int x2)] := hl
  refine lv_iload_n hx hb d_33_2_0 rfl (lv_at hl 1 rfl) ?_
  refine lv_aload_n hx hb d_33_2_1 rfl (lv_at hl 0 rfl) ?_
  refine q_slen (i := 22) (v := 36) C0 V rfl (by decide) d_33_2_2 ?_
  refine q_gov V (q_runS (As := [.int x2, .int 36]) (rest := []) (d := 2) (mc := 0) (ms := 0) C0 V rfl LS_jLat_9 (T_jStr_checkIndex l D g q ws  x2 36 hI  (by have y0 : (36 : Int32).toInt = 36 := rfl; have t1 : 0 ≤ x2.toInt := pre0; omega) (by have y0 : (36 : Int32).toInt = 36 := rfl; have t1 : x2.toInt ≤ 35 := pre1; omega) _) rfl hl.1 rfl (Nat.le_of_ble_eq_true rfl) ⟨by decide, by decide⟩ ⟨Nat.le_of_ble_eq_true rfl, Nat.le_of_ble_eq_true rfl⟩ d_33_2_3) (fun u1 H locs hp2 V => ?_)
  obtain ⟨rfl, -⟩ := hp2
  refine lv_aload_n hx hb d_33_2_6 rfl (lv_at hl 0 rfl) ?_
  refine lv_iload_n hx hb d_33_2_7 rfl (lv_at hl 1 rfl) ?_
  refine q_sbal (i := 22) (v := (([48, 49, 50, 51, 52, 53, 54, 55, 56, 57, 97, 98, 99, 100, 101, 102, 103, 104, 105, 106, 107, 108, 109, 110, 111, 112, 113, 114, 115, 116, 117, 118, 119, 120, 121, 122] : List Int32).getD x2.toNatClampNeg 0)) C0 V rfl (show vp_in x2 36 from q_ix (x := x2.toInt) rfl (by have t1 : 0 ≤ x2.toInt := pre0; omega) (by have t1 : 0 ≤ x2.toInt := pre0; have t2 : x2.toInt ≤ 35 := pre1; omega)) rfl d_33_2_8 ?_
  obtain ⟨a4, e5⟩ := q_nm ((([48, 49, 50, 51, 52, 53, 54, 55, 56, 57, 97, 98, 99, 100, 101, 102, 103, 104, 105, 106, 107, 108, 109, 110, 111, 112, 113, 114, 115, 116, 117, 118, 119, 120, 121, 122] : List Int32).getD x2.toNatClampNeg 0) : Int32)
  refine q_ti (v := a4) e5 ?_
  refine lv_sipush (v := 255) hx hb d_33_2_9 (by decide) ?_
  refine lv_iand hx hb d_33_2_12 ?_
  obtain ⟨a6, e7⟩ := q_nm (a4 &&& 255 : Int32)
  refine q_ti (v := a6) e7 ?_
  have b8 : q_F (0 ≤ a6.toInt ∧ a6.toInt ≤ 255) := (by rw [← e7]; show 0 ≤ (a4 &&& 255 : Int32).toInt ∧ (a4 &&& 255 : Int32).toInt ≤ 255; exact s_and (by decide))
  refine lv_i2c hx hb d_33_2_13 rfl ?_
  obtain ⟨a9, e10⟩ := q_nm ((a6.toUInt32 % 65536).toInt32 : Int32)
  refine q_ti (v := a9) e10 ?_
  have b11 : q_F (a9.toInt = a6.toInt) := (by rw [← e10]; show ((a6.toUInt32 % 65536).toInt32 : Int32).toInt = a6.toInt; exact (n_i2c (x := a6)).2.2 (by have t1 : 0 ≤ a6.toInt ∧ a6.toInt ≤ 255 := b8; omega) (by have t1 : 0 ≤ a6.toInt ∧ a6.toInt ≤ 255 := b8; omega))
  exact q_retn C0 V (n_chr (by have t1 : 0 ≤ a6.toInt ∧ a6.toInt ≤ 255 := b8; have t2 : a9.toInt = a6.toInt := b11; omega) (by have t1 : 0 ≤ a6.toInt ∧ a6.toInt ≤ 255 := b8; have t2 : a9.toInt = a6.toInt := b11; omega)) (⟨rfl, (show 0 ≤ a9.toInt from (by have t1 : 0 ≤ a6.toInt ∧ a6.toInt ≤ 255 := b8; have t2 : a9.toInt = a6.toInt := b11; omega)), (show a9.toInt ≤ 255 from (by have t1 : 0 ≤ a6.toInt ∧ a6.toInt ≤ 255 := b8; have t2 : a9.toInt = a6.toInt := b11; omega)), (show a9 = (F_jLat_charAt_22 x2) from (by rw [← e10, ← e7, ← e5, F_jLat_charAt_22.eq_1]))⟩) d_33_2_14
def F_jStr_charAt_22 (x2 : Int32) : Int32 := ((F_jLat_charAt_22 x2) : Int32)
set_option maxRecDepth 100000 in
set_option maxHeartbeats 4000000 in
theorem X_jStr_charAt_22 (l : Launch) (D : va_G) (g : Nat → ClassId) (q : Nat → Nat) (ws : va_W) (x2 : Int32) (hI : q_I (nsh g q) q ws) (pre0 : 0 ≤ x2.toInt) (pre1 : x2.toInt ≤ 35) : q_mI l y_jStr_charAt prog_31_method_56_code 2 (.char) 4 0 0 D g [.ref (g (8 + 2 * 22)), .int x2] ws (fun r u => ws = u ∧ (0 ≤ r.toInt) ∧ (r.toInt ≤ 255) ∧ r = (F_jStr_charAt_22 x2)) := by
  intro sz
  refine q_into (by decide) (Nat.le_of_ble_eq_true rfl) ?_
  intro p e s m below meth c ls hsz C0 V hl
  have hx := C0.1
  have hb := C0.2.1
  replace pre0 : q_F (0 ≤ x2.toInt) := pre0
  replace pre1 : q_F (x2.toInt ≤ 35) := pre1
  have hl : lv_has ls 2 [(0, .ref (g (8 + 2 * 22))), (1, .int x2)] := hl
  refine lv_aload_n hx hb d_31_56_0 rfl (lv_at hl 0 rfl) ?_
  refine q_goi V (q_runVs (As := []) (rest := []) (d := 1) (mc := 0) (ms := 0) (i := 22) C0 V rfl LV_jStr_492 (T_jStr_isLatin1_22 l D g q ws   hI   _) rfl rfl rfl hl.1 rfl (Nat.le_of_ble_eq_true rfl) ⟨by decide, by decide⟩ ⟨Nat.le_of_ble_eq_true rfl, Nat.le_of_ble_eq_true rfl⟩ d_31_56_1) (fun a3 u1 H locs hp2 V => ?_)
  obtain ⟨rfl, b4, b5⟩ := hp2
  replace b4 : q_F (1 ≤ a3.toInt) := b4
  replace b5 : q_F (a3.toInt ≤ 1) := b5
  obtain rfl : a3 = (1 : Int32) := q_Ieq (x := a3.toInt) (y := 1) rfl (by decide) (by have t1 : 1 ≤ a3.toInt := b4; have t2 : a3.toInt ≤ 1 := b5; omega)
  refine lv_if_eq (tgt := 16) hx hb d_31_56_4 (by decide) (fun c7 => absurd c7 (by decide)) (fun c7 => ?_)
  refine lv_aload_n hx hb d_31_56_7 rfl (lv_at hl 0 rfl) ?_
  refine q_sval (i := 22) C0 V rfl rfl w_1018 d_31_56_8 ?_
  refine lv_iload_n hx hb d_31_56_11 rfl (lv_at hl 1 rfl) ?_
  refine q_goi V (q_runS (As := [.ref (g (9 + 2 * 22)), .int x2]) (rest := []) (d := 3) (mc := 0) (ms := 0) C0 V rfl LS_jStr_495 (X_jLat_charAt_22 l D g q ws  x2 hI  (by have t1 : 0 ≤ x2.toInt := pre0; omega) (by have t1 : x2.toInt ≤ 35 := pre1; omega) _) rfl hl.1 rfl (Nat.le_of_ble_eq_true rfl) ⟨by decide, by decide⟩ ⟨Nat.le_of_ble_eq_true rfl, Nat.le_of_ble_eq_true rfl⟩ d_31_56_12) (fun a10 u8 H locs hp9 V => ?_)
  obtain ⟨rfl, b11, b12, hE13⟩ := hp9
  have e14 : a10 = (F_jLat_charAt_22 x2) := hE13
  replace b11 : q_F (0 ≤ a10.toInt) := b11
  replace b12 : q_F (a10.toInt ≤ 255) := b12
  exact q_retn C0 V (n_chr (by have t1 : 0 ≤ a10.toInt := b11; omega) (by have t1 : a10.toInt ≤ 255 := b12; omega)) (⟨rfl, (show 0 ≤ a10.toInt from (by have t1 : 0 ≤ a10.toInt := b11; omega)), (show a10.toInt ≤ 255 from (by have t1 : a10.toInt ≤ 255 := b12; omega)), (show a10 = (F_jStr_charAt_22 x2) from (by rw [e14, F_jStr_charAt_22.eq_1]))⟩) d_31_56_15
def F_jStr_length_23 : Int32 := (3 : Int32)
set_option maxRecDepth 100000 in
set_option maxHeartbeats 4000000 in
theorem X_jStr_length_23 (l : Launch) (D : va_G) (g : Nat → ClassId) (q : Nat → Nat) (ws : va_W) (hI : q_I (nsh g q) q ws) : q_mI l y_jStr_length prog_31_method_54_code 1 (.int) 2 0 0 D g [.ref (g (8 + 2 * 23))] ws (fun r u => ws = u ∧ (3 ≤ r.toInt) ∧ (r.toInt ≤ 3) ∧ r = (F_jStr_length_23)) := by
  intro sz
  refine q_into (by decide) (Nat.le_of_ble_eq_true rfl) ?_
  intro p e s m below meth c ls hsz C0 V hl
  have hx := C0.1
  have hb := C0.2.1
  have hl : lv_has ls 1 [(0, .ref (g (8 + 2 * 23)))] := hl
  refine lv_aload_n hx hb d_31_54_0 rfl (lv_at hl 0 rfl) ?_
  refine q_sval (i := 23) C0 V rfl rfl w_1018 d_31_54_1 ?_
  refine q_slen (i := 23) (v := 3) C0 V rfl (by decide) d_31_54_4 ?_
  refine lv_aload_n hx hb d_31_54_5 rfl (lv_at hl 0 rfl) ?_
  refine q_goi V (q_runVs (As := []) (rest := [.int 3]) (d := 1) (mc := 0) (ms := 0) (i := 23) C0 V rfl LV_jStr_335 (T_jStr_coder_23 l D g q ws   hI   _) rfl rfl rfl hl.1 rfl (Nat.le_of_ble_eq_true rfl) ⟨by decide, by decide⟩ ⟨Nat.le_of_ble_eq_true rfl, Nat.le_of_ble_eq_true rfl⟩ d_31_54_6) (fun a3 u1 H locs hp2 V => ?_)
  obtain ⟨rfl, b4, b5⟩ := hp2
  replace b4 : q_F (0 ≤ a3.toInt) := b4
  replace b5 : q_F (a3.toInt ≤ 0) := b5
  obtain rfl : a3 = (0 : Int32) := q_Ieq (x := a3.toInt) (y := 0) rfl (by decide) (by have t1 : 0 ≤ a3.toInt := b4; have t2 : a3.toInt ≤ 0 := b5; omega)
  refine lv_ishr hx hb d_31_54_9 ?_
  refine q_ti (v := 3) (by decide) ?_
  exact q_reti C0 V (⟨rfl, (show 3 ≤ (3 : Int32).toInt from (by have z0 : (3 : Int32).toInt = 3 := rfl; omega)), (show (3 : Int32).toInt ≤ 3 from (by have z0 : (3 : Int32).toInt = 3 := rfl; omega)), (show (3 : Int32) = (F_jStr_length_23) from (by rw [F_jStr_length_23.eq_1]))⟩) d_31_54_10
def F_jLat_charAt_23 (x2 : Int32) : Int32 := (((((([78, 97, 78] : List Int32).getD x2.toNatClampNeg 0) : Int32) &&& 255 : Int32).toUInt32 % 65536).toInt32 : Int32)
set_option maxRecDepth 100000 in
set_option maxHeartbeats 4000000 in
theorem X_jLat_charAt_23 (l : Launch) (D : va_G) (g : Nat → ClassId) (q : Nat → Nat) (ws : va_W) (x2 : Int32) (hI : q_I (nsh g q) q ws) (pre0 : 0 ≤ x2.toInt) (pre1 : x2.toInt ≤ 2) : q_mI l y_jLat_charAt prog_33_method_2_code 2 (.char) 3 0 0 D g [.ref (g (9 + 2 * 23)), .int x2] ws (fun r u => ws = u ∧ (0 ≤ r.toInt) ∧ (r.toInt ≤ 255) ∧ r = (F_jLat_charAt_23 x2)) := by
  intro sz
  refine q_into (by decide) (Nat.le_of_ble_eq_true rfl) ?_
  intro p e s m below meth c ls hsz C0 V hl
  have hx := C0.1
  have hb := C0.2.1
  replace pre0 : q_F (0 ≤ x2.toInt) := pre0
  replace pre1 : q_F (x2.toInt ≤ 2) := pre1
  have hl : lv_has ls 2 [(0, .ref (g (9 + 2 * 23))), (1, .int x2)] := hl
  refine lv_iload_n hx hb d_33_2_0 rfl (lv_at hl 1 rfl) ?_
  refine lv_aload_n hx hb d_33_2_1 rfl (lv_at hl 0 rfl) ?_
  refine q_slen (i := 23) (v := 3) C0 V rfl (by decide) d_33_2_2 ?_
  refine q_gov V (q_runS (As := [.int x2, .int 3]) (rest := []) (d := 2) (mc := 0) (ms := 0) C0 V rfl LS_jLat_9 (T_jStr_checkIndex l D g q ws  x2 3 hI  (by have y0 : (3 : Int32).toInt = 3 := rfl; have t1 : 0 ≤ x2.toInt := pre0; omega) (by have y0 : (3 : Int32).toInt = 3 := rfl; have t1 : x2.toInt ≤ 2 := pre1; omega) _) rfl hl.1 rfl (Nat.le_of_ble_eq_true rfl) ⟨by decide, by decide⟩ ⟨Nat.le_of_ble_eq_true rfl, Nat.le_of_ble_eq_true rfl⟩ d_33_2_3) (fun u1 H locs hp2 V => ?_)
  obtain ⟨rfl, -⟩ := hp2
  refine lv_aload_n hx hb d_33_2_6 rfl (lv_at hl 0 rfl) ?_
  refine lv_iload_n hx hb d_33_2_7 rfl (lv_at hl 1 rfl) ?_
  refine q_sbal (i := 23) (v := (([78, 97, 78] : List Int32).getD x2.toNatClampNeg 0)) C0 V rfl (show vp_in x2 3 from q_ix (x := x2.toInt) rfl (by have t1 : 0 ≤ x2.toInt := pre0; omega) (by have t1 : 0 ≤ x2.toInt := pre0; have t2 : x2.toInt ≤ 2 := pre1; omega)) rfl d_33_2_8 ?_
  obtain ⟨a4, e5⟩ := q_nm ((([78, 97, 78] : List Int32).getD x2.toNatClampNeg 0) : Int32)
  refine q_ti (v := a4) e5 ?_
  refine lv_sipush (v := 255) hx hb d_33_2_9 (by decide) ?_
  refine lv_iand hx hb d_33_2_12 ?_
  obtain ⟨a6, e7⟩ := q_nm (a4 &&& 255 : Int32)
  refine q_ti (v := a6) e7 ?_
  have b8 : q_F (0 ≤ a6.toInt ∧ a6.toInt ≤ 255) := (by rw [← e7]; show 0 ≤ (a4 &&& 255 : Int32).toInt ∧ (a4 &&& 255 : Int32).toInt ≤ 255; exact s_and (by decide))
  refine lv_i2c hx hb d_33_2_13 rfl ?_
  obtain ⟨a9, e10⟩ := q_nm ((a6.toUInt32 % 65536).toInt32 : Int32)
  refine q_ti (v := a9) e10 ?_
  have b11 : q_F (a9.toInt = a6.toInt) := (by rw [← e10]; show ((a6.toUInt32 % 65536).toInt32 : Int32).toInt = a6.toInt; exact (n_i2c (x := a6)).2.2 (by have t1 : 0 ≤ a6.toInt ∧ a6.toInt ≤ 255 := b8; omega) (by have t1 : 0 ≤ a6.toInt ∧ a6.toInt ≤ 255 := b8; omega))
  exact q_retn C0 V (n_chr (by have t1 : 0 ≤ a6.toInt ∧ a6.toInt ≤ 255 := b8; have t2 : a9.toInt = a6.toInt := b11; omega) (by have t1 : 0 ≤ a6.toInt ∧ a6.toInt ≤ 255 := b8; have t2 : a9.toInt = a6.toInt := b11; omega)) (⟨rfl, (show 0 ≤ a9.toInt from (by have t1 : 0 ≤ a6.toInt ∧ a6.toInt ≤ 255 := b8; have t2 : a9.toInt = a6.toInt := b11; omega)), (show a9.toInt ≤ 255 from (by have t1 : 0 ≤ a6.toInt ∧ a6.toInt ≤ 255 := b8; have t2 : a9.toInt = a6.toInt := b11; omega)), (show a9 = (F_jLat_charAt_23 x2) from (by rw [← e10, ← e7, ← e5, F_jLat_charAt_23.eq_1]))⟩) d_33_2_14
def F_jStr_charAt_23 (x2 : Int32) : Int32 := ((F_jLat_charAt_23 x2) : Int32)
set_option maxRecDepth 100000 in
set_option maxHeartbeats 4000000 in
theorem X_jStr_charAt_23 (l : Launch) (D : va_G) (g : Nat → ClassId) (q : Nat → Nat) (ws : va_W) (x2 : Int32) (hI : q_I (nsh g q) q ws) (pre0 : 0 ≤ x2.toInt) (pre1 : x2.toInt ≤ 2) : q_mI l y_jStr_charAt prog_31_method_56_code 2 (.char) 4 0 0 D g [.ref (g (8 + 2 * 23)), .int x2] ws (fun r u => ws = u ∧ (0 ≤ r.toInt) ∧ (r.toInt ≤ 255) ∧ r = (F_jStr_charAt_23 x2)) := by
  intro sz
  refine q_into (by decide) (Nat.le_of_ble_eq_true rfl) ?_
  intro p e s m below meth c ls hsz C0 V hl
  have hx := C0.1
  have hb := C0.2.1
  replace pre0 : q_F (0 ≤ x2.toInt) := pre0
  replace pre1 : q_F (x2.toInt ≤ 2) := pre1
  have hl : lv_has ls 2 [(0, .ref (g (8 + 2 * 23))), (1, .int x2)] := hl
  refine lv_aload_n hx hb d_31_56_0 rfl (lv_at hl 0 rfl) ?_
  refine q_goi V (q_runVs (As := []) (rest := []) (d := 1) (mc := 0) (ms := 0) (i := 23) C0 V rfl LV_jStr_492 (T_jStr_isLatin1_23 l D g q ws   hI   _) rfl rfl rfl hl.1 rfl (Nat.le_of_ble_eq_true rfl) ⟨by decide, by decide⟩ ⟨Nat.le_of_ble_eq_true rfl, Nat.le_of_ble_eq_true rfl⟩ d_31_56_1) (fun a3 u1 H locs hp2 V => ?_)
  obtain ⟨rfl, b4, b5⟩ := hp2
  replace b4 : q_F (1 ≤ a3.toInt) := b4
  replace b5 : q_F (a3.toInt ≤ 1) := b5
  obtain rfl : a3 = (1 : Int32) := q_Ieq (x := a3.toInt) (y := 1) rfl (by decide) (by have t1 : 1 ≤ a3.toInt := b4; have t2 : a3.toInt ≤ 1 := b5; omega)
  refine lv_if_eq (tgt := 16) hx hb d_31_56_4 (by decide) (fun c7 => absurd c7 (by decide)) (fun c7 => ?_)
  refine lv_aload_n hx hb d_31_56_7 rfl (lv_at hl 0 rfl) ?_
  refine q_sval (i := 23) C0 V rfl rfl w_1018 d_31_56_8 ?_
  refine lv_iload_n hx hb d_31_56_11 rfl (lv_at hl 1 rfl) ?_
  refine q_goi V (q_runS (As := [.ref (g (9 + 2 * 23)), .int x2]) (rest := []) (d := 3) (mc := 0) (ms := 0) C0 V rfl LS_jStr_495 (X_jLat_charAt_23 l D g q ws  x2 hI  (by have t1 : 0 ≤ x2.toInt := pre0; omega) (by have t1 : x2.toInt ≤ 2 := pre1; omega) _) rfl hl.1 rfl (Nat.le_of_ble_eq_true rfl) ⟨by decide, by decide⟩ ⟨Nat.le_of_ble_eq_true rfl, Nat.le_of_ble_eq_true rfl⟩ d_31_56_12) (fun a10 u8 H locs hp9 V => ?_)
  obtain ⟨rfl, b11, b12, hE13⟩ := hp9
  have e14 : a10 = (F_jLat_charAt_23 x2) := hE13
  replace b11 : q_F (0 ≤ a10.toInt) := b11
  replace b12 : q_F (a10.toInt ≤ 255) := b12
  exact q_retn C0 V (n_chr (by have t1 : 0 ≤ a10.toInt := b11; omega) (by have t1 : a10.toInt ≤ 255 := b12; omega)) (⟨rfl, (show 0 ≤ a10.toInt from (by have t1 : 0 ≤ a10.toInt := b11; omega)), (show a10.toInt ≤ 255 from (by have t1 : a10.toInt ≤ 255 := b12; omega)), (show a10 = (F_jStr_charAt_23 x2) from (by rw [e14, F_jStr_charAt_23.eq_1]))⟩) d_31_56_15
def F_jStr_length_24 : Int32 := (8 : Int32)
set_option maxRecDepth 100000 in
set_option maxHeartbeats 4000000 in
theorem X_jStr_length_24 (l : Launch) (D : va_G) (g : Nat → ClassId) (q : Nat → Nat) (ws : va_W) (hI : q_I (nsh g q) q ws) : q_mI l y_jStr_length prog_31_method_54_code 1 (.int) 2 0 0 D g [.ref (g (8 + 2 * 24))] ws (fun r u => ws = u ∧ (8 ≤ r.toInt) ∧ (r.toInt ≤ 8) ∧ r = (F_jStr_length_24)) := by
  intro sz
  refine q_into (by decide) (Nat.le_of_ble_eq_true rfl) ?_
  intro p e s m below meth c ls hsz C0 V hl
  have hx := C0.1
  have hb := C0.2.1
  have hl : lv_has ls 1 [(0, .ref (g (8 + 2 * 24)))] := hl
  refine lv_aload_n hx hb d_31_54_0 rfl (lv_at hl 0 rfl) ?_
  refine q_sval (i := 24) C0 V rfl rfl w_1018 d_31_54_1 ?_
  refine q_slen (i := 24) (v := 8) C0 V rfl (by decide) d_31_54_4 ?_
  refine lv_aload_n hx hb d_31_54_5 rfl (lv_at hl 0 rfl) ?_
  refine q_goi V (q_runVs (As := []) (rest := [.int 8]) (d := 1) (mc := 0) (ms := 0) (i := 24) C0 V rfl LV_jStr_335 (T_jStr_coder_24 l D g q ws   hI   _) rfl rfl rfl hl.1 rfl (Nat.le_of_ble_eq_true rfl) ⟨by decide, by decide⟩ ⟨Nat.le_of_ble_eq_true rfl, Nat.le_of_ble_eq_true rfl⟩ d_31_54_6) (fun a3 u1 H locs hp2 V => ?_)
  obtain ⟨rfl, b4, b5⟩ := hp2
  replace b4 : q_F (0 ≤ a3.toInt) := b4
  replace b5 : q_F (a3.toInt ≤ 0) := b5
  obtain rfl : a3 = (0 : Int32) := q_Ieq (x := a3.toInt) (y := 0) rfl (by decide) (by have t1 : 0 ≤ a3.toInt := b4; have t2 : a3.toInt ≤ 0 := b5; omega)
  refine lv_ishr hx hb d_31_54_9 ?_
  refine q_ti (v := 8) (by decide) ?_
  exact q_reti C0 V (⟨rfl, (show 8 ≤ (8 : Int32).toInt from (by have z0 : (8 : Int32).toInt = 8 := rfl; omega)), (show (8 : Int32).toInt ≤ 8 from (by have z0 : (8 : Int32).toInt = 8 := rfl; omega)), (show (8 : Int32) = (F_jStr_length_24) from (by rw [F_jStr_length_24.eq_1]))⟩) d_31_54_10
def F_jLat_charAt_24 (x2 : Int32) : Int32 := (((((([73, 110, 102, 105, 110, 105, 116, 121] : List Int32).getD x2.toNatClampNeg 0) : Int32) &&& 255 : Int32).toUInt32 % 65536).toInt32 : Int32)
set_option maxRecDepth 100000 in
set_option maxHeartbeats 4000000 in
theorem X_jLat_charAt_24 (l : Launch) (D : va_G) (g : Nat → ClassId) (q : Nat → Nat) (ws : va_W) (x2 : Int32) (hI : q_I (nsh g q) q ws) (pre0 : 0 ≤ x2.toInt) (pre1 : x2.toInt ≤ 7) : q_mI l y_jLat_charAt prog_33_method_2_code 2 (.char) 3 0 0 D g [.ref (g (9 + 2 * 24)), .int x2] ws (fun r u => ws = u ∧ (0 ≤ r.toInt) ∧ (r.toInt ≤ 255) ∧ r = (F_jLat_charAt_24 x2)) := by
  intro sz
  refine q_into (by decide) (Nat.le_of_ble_eq_true rfl) ?_
  intro p e s m below meth c ls hsz C0 V hl
  have hx := C0.1
  have hb := C0.2.1
  replace pre0 : q_F (0 ≤ x2.toInt) := pre0
  replace pre1 : q_F (x2.toInt ≤ 7) := pre1
  have hl : lv_has ls 2 [(0, .ref (g (9 + 2 * 24))), (1, .int x2)] := hl
  refine lv_iload_n hx hb d_33_2_0 rfl (lv_at hl 1 rfl) ?_
  refine lv_aload_n hx hb d_33_2_1 rfl (lv_at hl 0 rfl) ?_
  refine q_slen (i := 24) (v := 8) C0 V rfl (by decide) d_33_2_2 ?_
  refine q_gov V (q_runS (As := [.int x2, .int 8]) (rest := []) (d := 2) (mc := 0) (ms := 0) C0 V rfl LS_jLat_9 (T_jStr_checkIndex l D g q ws  x2 8 hI  (by have y0 : (8 : Int32).toInt = 8 := rfl; have t1 : 0 ≤ x2.toInt := pre0; omega) (by have y0 : (8 : Int32).toInt = 8 := rfl; have t1 : x2.toInt ≤ 7 := pre1; omega) _) rfl hl.1 rfl (Nat.le_of_ble_eq_true rfl) ⟨by decide, by decide⟩ ⟨Nat.le_of_ble_eq_true rfl, Nat.le_of_ble_eq_true rfl⟩ d_33_2_3) (fun u1 H locs hp2 V => ?_)
  obtain ⟨rfl, -⟩ := hp2
  refine lv_aload_n hx hb d_33_2_6 rfl (lv_at hl 0 rfl) ?_
  refine lv_iload_n hx hb d_33_2_7 rfl (lv_at hl 1 rfl) ?_
  refine q_sbal (i := 24) (v := (([73, 110, 102, 105, 110, 105, 116, 121] : List Int32).getD x2.toNatClampNeg 0)) C0 V rfl (show vp_in x2 8 from q_ix (x := x2.toInt) rfl (by have t1 : 0 ≤ x2.toInt := pre0; omega) (by have t1 : 0 ≤ x2.toInt := pre0; have t2 : x2.toInt ≤ 7 := pre1; omega)) rfl d_33_2_8 ?_
  obtain ⟨a4, e5⟩ := q_nm ((([73, 110, 102, 105, 110, 105, 116, 121] : List Int32).getD x2.toNatClampNeg 0) : Int32)
  refine q_ti (v := a4) e5 ?_
  refine lv_sipush (v := 255) hx hb d_33_2_9 (by decide) ?_
  refine lv_iand hx hb d_33_2_12 ?_
  obtain ⟨a6, e7⟩ := q_nm (a4 &&& 255 : Int32)
  refine q_ti (v := a6) e7 ?_
  have b8 : q_F (0 ≤ a6.toInt ∧ a6.toInt ≤ 255) := (by rw [← e7]; show 0 ≤ (a4 &&& 255 : Int32).toInt ∧ (a4 &&& 255 : Int32).toInt ≤ 255; exact s_and (by decide))
  refine lv_i2c hx hb d_33_2_13 rfl ?_
  obtain ⟨a9, e10⟩ := q_nm ((a6.toUInt32 % 65536).toInt32 : Int32)
  refine q_ti (v := a9) e10 ?_
  have b11 : q_F (a9.toInt = a6.toInt) := (by rw [← e10]; show ((a6.toUInt32 % 65536).toInt32 : Int32).toInt = a6.toInt; exact (n_i2c (x := a6)).2.2 (by have t1 : 0 ≤ a6.toInt ∧ a6.toInt ≤ 255 := b8; omega) (by have t1 : 0 ≤ a6.toInt ∧ a6.toInt ≤ 255 := b8; omega))
  exact q_retn C0 V (n_chr (by have t1 : 0 ≤ a6.toInt ∧ a6.toInt ≤ 255 := b8; have t2 : a9.toInt = a6.toInt := b11; omega) (by have t1 : 0 ≤ a6.toInt ∧ a6.toInt ≤ 255 := b8; have t2 : a9.toInt = a6.toInt := b11; omega)) (⟨rfl, (show 0 ≤ a9.toInt from (by have t1 : 0 ≤ a6.toInt ∧ a6.toInt ≤ 255 := b8; have t2 : a9.toInt = a6.toInt := b11; omega)), (show a9.toInt ≤ 255 from (by have t1 : 0 ≤ a6.toInt ∧ a6.toInt ≤ 255 := b8; have t2 : a9.toInt = a6.toInt := b11; omega)), (show a9 = (F_jLat_charAt_24 x2) from (by rw [← e10, ← e7, ← e5, F_jLat_charAt_24.eq_1]))⟩) d_33_2_14
def F_jStr_charAt_24 (x2 : Int32) : Int32 := ((F_jLat_charAt_24 x2) : Int32)
set_option maxRecDepth 100000 in
set_option maxHeartbeats 4000000 in
theorem X_jStr_charAt_24 (l : Launch) (D : va_G) (g : Nat → ClassId) (q : Nat → Nat) (ws : va_W) (x2 : Int32) (hI : q_I (nsh g q) q ws) (pre0 : 0 ≤ x2.toInt) (pre1 : x2.toInt ≤ 7) : q_mI l y_jStr_charAt prog_31_method_56_code 2 (.char) 4 0 0 D g [.ref (g (8 + 2 * 24)), .int x2] ws (fun r u => ws = u ∧ (0 ≤ r.toInt) ∧ (r.toInt ≤ 255) ∧ r = (F_jStr_charAt_24 x2)) := by
  intro sz
  refine q_into (by decide) (Nat.le_of_ble_eq_true rfl) ?_
  intro p e s m below meth c ls hsz C0 V hl
  have hx := C0.1
  have hb := C0.2.1
  replace pre0 : q_F (0 ≤ x2.toInt) := pre0
  replace pre1 : q_F (x2.toInt ≤ 7) := pre1
  have hl : lv_has ls 2 [(0, .ref (g (8 + 2 * 24))), (1, .int x2)] := hl
  refine lv_aload_n hx hb d_31_56_0 rfl (lv_at hl 0 rfl) ?_
  refine q_goi V (q_runVs (As := []) (rest := []) (d := 1) (mc := 0) (ms := 0) (i := 24) C0 V rfl LV_jStr_492 (T_jStr_isLatin1_24 l D g q ws   hI   _) rfl rfl rfl hl.1 rfl (Nat.le_of_ble_eq_true rfl) ⟨by decide, by decide⟩ ⟨Nat.le_of_ble_eq_true rfl, Nat.le_of_ble_eq_true rfl⟩ d_31_56_1) (fun a3 u1 H locs hp2 V => ?_)
  obtain ⟨rfl, b4, b5⟩ := hp2
  replace b4 : q_F (1 ≤ a3.toInt) := b4
  replace b5 : q_F (a3.toInt ≤ 1) := b5
  obtain rfl : a3 = (1 : Int32) := q_Ieq (x := a3.toInt) (y := 1) rfl (by decide) (by have t1 : 1 ≤ a3.toInt := b4; have t2 : a3.toInt ≤ 1 := b5; omega)
  refine lv_if_eq (tgt := 16) hx hb d_31_56_4 (by decide) (fun c7 => absurd c7 (by decide)) (fun c7 => ?_)
  refine lv_aload_n hx hb d_31_56_7 rfl (lv_at hl 0 rfl) ?_
  refine q_sval (i := 24) C0 V rfl rfl w_1018 d_31_56_8 ?_
  refine lv_iload_n hx hb d_31_56_11 rfl (lv_at hl 1 rfl) ?_
  refine q_goi V (q_runS (As := [.ref (g (9 + 2 * 24)), .int x2]) (rest := []) (d := 3) (mc := 0) (ms := 0) C0 V rfl LS_jStr_495 (X_jLat_charAt_24 l D g q ws  x2 hI  (by have t1 : 0 ≤ x2.toInt := pre0; omega) (by have t1 : x2.toInt ≤ 7 := pre1; omega) _) rfl hl.1 rfl (Nat.le_of_ble_eq_true rfl) ⟨by decide, by decide⟩ ⟨Nat.le_of_ble_eq_true rfl, Nat.le_of_ble_eq_true rfl⟩ d_31_56_12) (fun a10 u8 H locs hp9 V => ?_)
  obtain ⟨rfl, b11, b12, hE13⟩ := hp9
  have e14 : a10 = (F_jLat_charAt_24 x2) := hE13
  replace b11 : q_F (0 ≤ a10.toInt) := b11
  replace b12 : q_F (a10.toInt ≤ 255) := b12
  exact q_retn C0 V (n_chr (by have t1 : 0 ≤ a10.toInt := b11; omega) (by have t1 : a10.toInt ≤ 255 := b12; omega)) (⟨rfl, (show 0 ≤ a10.toInt from (by have t1 : 0 ≤ a10.toInt := b11; omega)), (show a10.toInt ≤ 255 from (by have t1 : a10.toInt ≤ 255 := b12; omega)), (show a10 = (F_jStr_charAt_24 x2) from (by rw [e14, F_jStr_charAt_24.eq_1]))⟩) d_31_56_15
