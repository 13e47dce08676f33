theorem d_16_19_0 : decode prog_16_method_19_code 0 = .ok (.aload_n 0, 1) := by decide +kernel
theorem d_16_19_1 : decode prog_16_method_19_code 1 = .ok (.getfield 95, 3) := by decide +kernel
theorem d_16_19_4 : decode prog_16_method_19_code 4 = .ok (.lookupswitch 164 #[(37, 148), (66, 153), (67, 153), (69, 153), (71, 153), (83, 153), (88, 153), (98, 148), (99, 148), (100, 148), (101, 148), (102, 148), (103, 148), (110, 148), (111, 148), (115, 148), (120, 148)], 148) := by decide +kernel
theorem d_16_19_152 : decode prog_16_method_19_code 152 = .ok (.aload_n 0, 1) := by decide +kernel
theorem d_16_19_153 : decode prog_16_method_19_code 153 = .ok (.getfield 95, 3) := by decide +kernel
theorem d_16_19_156 : decode prog_16_method_19_code 156 = .ok (.ireturn, 1) := by decide +kernel
theorem d_16_19_157 : decode prog_16_method_19_code 157 = .ok (.aload_n 0, 1) := by decide +kernel
theorem d_16_19_158 : decode prog_16_method_19_code 158 = .ok (.getfield 95, 3) := by decide +kernel
theorem d_16_19_161 : decode prog_16_method_19_code 161 = .ok (.bipush 97, 2) := by decide +kernel
theorem d_16_19_163 : decode prog_16_method_19_code 163 = .ok (.iadd, 1) := by decide +kernel
theorem d_16_19_164 : decode prog_16_method_19_code 164 = .ok (.bipush 65, 2) := by decide +kernel
theorem d_16_19_166 : decode prog_16_method_19_code 166 = .ok (.isub, 1) := by decide +kernel
theorem d_16_19_167 : decode prog_16_method_19_code 167 = .ok (.ireturn, 1) := by decide +kernel
theorem d_16_19_168 : decode prog_16_method_19_code 168 = .ok (.iconst 0, 1) := by decide +kernel
theorem d_16_19_169 : decode prog_16_method_19_code 169 = .ok (.ireturn, 1) := by decide +kernel
def y_VR_small : MethodName := ⟨"NumberHouseModel$DirectiveRows", "small", "()I"⟩
def F_VR_small (t0_0 : Int32) (t0_1 : Int32) (t0_2 : Int32) (t0_3 : Int32) (t0_4 : Int32) (t0_5 : Int32) (t0_6 : Int32) (t0_7 : Int32) (t0_8 : Int32) (t0_9 : Int32) (t0_10 : Int32) (t0_11 : Int32) (t0_12 : Int32) (t0_13 : Int32) (t0_14 : Int32) (t0_15 : Int32) (t0_16 : Int32) (t0_17 : Int32) (t0_18 : Int32) (t0_19 : Int32) (t0_20 : Int32) (t0_21 : Int32) : Int32 := if t0_13 = (37 : Int32) then (t0_13) else (if t0_13 = (66 : Int32) then (((t0_13 + 97 : Int32) - 65 : Int32)) else (if t0_13 = (67 : Int32) then (((t0_13 + 97 : Int32) - 65 : Int32)) else (if t0_13 = (69 : Int32) then (((t0_13 + 97 : Int32) - 65 : Int32)) else (if t0_13 = (71 : Int32) then (((t0_13 + 97 : Int32) - 65 : Int32)) else (if t0_13 = (83 : Int32) then (((t0_13 + 97 : Int32) - 65 : Int32)) else (if t0_13 = (88 : Int32) then (((t0_13 + 97 : Int32) - 65 : Int32)) else (if t0_13 = (98 : Int32) then (t0_13) else (if t0_13 = (99 : Int32) then (t0_13) else (if t0_13 = (100 : Int32) then (t0_13) else (if t0_13 = (101 : Int32) then (t0_13) else (if t0_13 = (102 : Int32) then (t0_13) else (if t0_13 = (103 : Int32) then (t0_13) else (if t0_13 = (110 : Int32) then (t0_13) else (if t0_13 = (111 : Int32) then (t0_13) else (if t0_13 = (115 : Int32) then (t0_13) else (if t0_13 = (120 : Int32) then (t0_13) else ((0 : Int32))))))))))))))))))
set_option maxRecDepth 100000 in
set_option maxHeartbeats 4000000 in
theorem X_VR_small (l : Launch) (D : va_G) (g : Nat → ClassId) (q : Nat → Nat) (ws : va_W) (hI : q_I (msh g q) q ws) (t0_0 : Int32) (t0_1 : Int32) (t0_2 : Int32) (t0_3 : Int32) (t0_4 : Int32) (t0_5 : Int32) (t0_6 : Int32) (t0_7 : Int32) (t0_8 : Int32) (t0_9 : Int32) (t0_10 : Int32) (t0_11 : Int32) (t0_12 : Int32) (t0_13 : Int32) (t0_14 : Int32) (t0_15 : Int32) (t0_16 : Int32) (t0_17 : Int32) (t0_18 : Int32) (t0_19 : Int32) (t0_20 : Int32) (t0_21 : Int32) (hT0 : ws[157]? = (some (q 157, .inr (17, [.int t0_0, .ref (q 158), .int t0_1, .int t0_2, .ref (q 159), .ref (q 160), .ref (q 161), .ref (q 162), .ref (q 163), .int t0_3, .ref (q 164), .int t0_4, .int t0_5, .int t0_6, .int t0_7, .int t0_8, .int t0_9, .int t0_10, .int t0_11, .int t0_12, .int t0_13, .int t0_14, .int t0_15, .int t0_16, .ref (q 165), .int t0_17, .int t0_18, .int t0_19, .ref (q 166), .int t0_20, .int t0_21])) : Option (Nat × va_E))) : q_mI l y_VR_small prog_16_method_19_code 1 (.int) 1 0 0 D g [.ref (q 157)] ws (fun r u => ws = u ∧ (0 ≤ r.toInt) ∧ (r.toInt ≤ 120) ∧ r = (F_VR_small t0_0 t0_1 t0_2 t0_3 t0_4 t0_5 t0_6 t0_7 t0_8 t0_9 t0_10 t0_11 t0_12 t0_13 t0_14 t0_15 t0_16 t0_17 t0_18 t0_19 t0_20 t0_21)) := by
  intro sz
  refine q_into (by decide) (Nat.le_of_ble_eq_true rfl) ?_
  intro p e s m below meth c ls hsz C0 V hl
  have hx := C0.1
  have hb := C0.2.1
  have hZ9 := (n_w157 hI hT0).2.2.2
  obtain ⟨-, btt0_19⟩ := hZ9
  clear btt0_19
  have hl : lv_has ls 1 [(0, .ref (q 157))] := hl
  refine lv_aload_n hx hb d_16_19_0 rfl (lv_at hl 0 rfl) ?_
  refine q_get (ci := 17) (j := 20) (v := .int t0_13) C0 V i_VR rfl rfl hT0 (by decide) w_2224 rfl d_16_19_1 ?_
  by_cases c29 : t0_13 = 37
  ·
    have b30 : q_F (t0_13.toInt = 37) := (q_eqI c29)
    refine q_ti (v := 37) c29 ?_
    refine lv_lookup (tgt := 152) (off := 148) hx hb d_16_19_4 (by decide) (by decide) (by decide) ?_
    refine lv_aload_n hx hb d_16_19_152 rfl (lv_at hl 0 rfl) ?_
    refine q_get (ci := 17) (j := 20) (v := .int t0_13) C0 V i_VR rfl rfl hT0 (by decide) w_2224 rfl d_16_19_153 ?_
    exact q_reti C0 V (⟨rfl, (show 0 ≤ t0_13.toInt from (by first | with_reducible exact q_fe b30 | (have t1 : t0_13.toInt = 37 := b30; omega))), (show t0_13.toInt ≤ 120 from (by first | with_reducible exact q_fe b30 | (have t1 : t0_13.toInt = 37 := b30; omega))), (show t0_13 = (F_VR_small t0_0 t0_1 t0_2 t0_3 t0_4 t0_5 t0_6 t0_7 t0_8 t0_9 t0_10 t0_11 t0_12 t0_13 t0_14 t0_15 t0_16 t0_17 t0_18 t0_19 t0_20 t0_21) from (by rw [F_VR_small.eq_1, if_pos c29]))⟩) d_16_19_156
  by_cases c32 : t0_13 = 66
  ·
    have b33 : q_F (t0_13.toInt = 66) := (q_eqI c32)
    refine q_ti (v := 66) c32 ?_
    refine lv_lookup (tgt := 157) (off := 153) hx hb d_16_19_4 (by decide) (by decide) (by decide) ?_
    refine lv_aload_n hx hb d_16_19_157 rfl (lv_at hl 0 rfl) ?_
    refine q_get (ci := 17) (j := 20) (v := .int t0_13) C0 V i_VR rfl rfl hT0 (by decide) w_2224 rfl d_16_19_158 ?_
    refine lv_bipush (v := 97) hx hb d_16_19_161 (by decide) ?_
    refine lv_iadd hx hb d_16_19_163 ?_
    obtain ⟨a34, e35⟩ := q_nm (t0_13 + 97 : Int32)
    refine q_ti (v := a34) e35 ?_
    have b36 : q_F (a34.toInt = t0_13.toInt + 97) := (by rw [← e35]; show (t0_13 + 97 : Int32).toInt = t0_13.toInt + 97; exact q_addI (x := t0_13.toInt) (y := 97) rfl (by decide) (by first | with_reducible exact q_fe b33 | (have t1 : t0_13.toInt = 66 := b33; omega)) (by first | with_reducible exact q_fe b33 | (have t1 : t0_13.toInt = 66 := b33; omega)))
    refine lv_bipush (v := 65) hx hb d_16_19_164 (by decide) ?_
    refine lv_isub hx hb d_16_19_166 ?_
    obtain ⟨a37, e38⟩ := q_nm (a34 - 65 : Int32)
    refine q_ti (v := a37) e38 ?_
    have b39 : q_F (a37.toInt = a34.toInt - 65) := (by rw [← e38]; show (a34 - 65 : Int32).toInt = a34.toInt - 65; exact q_subI (x := a34.toInt) (y := 65) rfl (by decide) (by have t1 : a34.toInt = t0_13.toInt + 97 := b36; have _ := q_lo32 (x := t0_13); have _ := q_hi32 (x := t0_13); have _ := q_lo32 (x := a34); have _ := q_hi32 (x := a34); omega) (by have t1 : a34.toInt = t0_13.toInt + 97 := b36; have _ := q_lo32 (x := t0_13); have _ := q_hi32 (x := t0_13); have _ := q_lo32 (x := a34); have _ := q_hi32 (x := a34); omega))
    exact q_reti C0 V (⟨rfl, (show 0 ≤ a37.toInt from (by have t1 : t0_13.toInt = 66 := b33; have t2 : a34.toInt = t0_13.toInt + 97 := b36; have t3 : a37.toInt = a34.toInt - 65 := b39; omega)), (show a37.toInt ≤ 120 from (by have t1 : t0_13.toInt = 66 := b33; have t2 : a34.toInt = t0_13.toInt + 97 := b36; have t3 : a37.toInt = a34.toInt - 65 := b39; omega)), (show a37 = (F_VR_small t0_0 t0_1 t0_2 t0_3 t0_4 t0_5 t0_6 t0_7 t0_8 t0_9 t0_10 t0_11 t0_12 t0_13 t0_14 t0_15 t0_16 t0_17 t0_18 t0_19 t0_20 t0_21) from (by rw [← e38, ← e35, F_VR_small.eq_1, if_neg c29, if_pos c32]))⟩) d_16_19_167
  by_cases c41 : t0_13 = 67
  ·
    have b42 : q_F (t0_13.toInt = 67) := (q_eqI c41)
    refine q_ti (v := 67) c41 ?_
    refine lv_lookup (tgt := 157) (off := 153) hx hb d_16_19_4 (by decide) (by decide) (by decide) ?_
    refine lv_aload_n hx hb d_16_19_157 rfl (lv_at hl 0 rfl) ?_
    refine q_get (ci := 17) (j := 20) (v := .int t0_13) C0 V i_VR rfl rfl hT0 (by decide) w_2224 rfl d_16_19_158 ?_
    refine lv_bipush (v := 97) hx hb d_16_19_161 (by decide) ?_
    refine lv_iadd hx hb d_16_19_163 ?_
    obtain ⟨a43, e44⟩ := q_nm (t0_13 + 97 : Int32)
    refine q_ti (v := a43) e44 ?_
    have b45 : q_F (a43.toInt = t0_13.toInt + 97) := (by rw [← e44]; show (t0_13 + 97 : Int32).toInt = t0_13.toInt + 97; exact q_addI (x := t0_13.toInt) (y := 97) rfl (by decide) (by first | with_reducible exact q_fe b42 | (have t1 : t0_13.toInt = 67 := b42; omega)) (by first | with_reducible exact q_fe b42 | (have t1 : t0_13.toInt = 67 := b42; omega)))
    refine lv_bipush (v := 65) hx hb d_16_19_164 (by decide) ?_
    refine lv_isub hx hb d_16_19_166 ?_
    obtain ⟨a46, e47⟩ := q_nm (a43 - 65 : Int32)
    refine q_ti (v := a46) e47 ?_
    have b48 : q_F (a46.toInt = a43.toInt - 65) := (by rw [← e47]; show (a43 - 65 : Int32).toInt = a43.toInt - 65; exact q_subI (x := a43.toInt) (y := 65) rfl (by decide) (by have t1 : a43.toInt = t0_13.toInt + 97 := b45; have _ := q_lo32 (x := t0_13); have _ := q_hi32 (x := t0_13); have _ := q_lo32 (x := a43); have _ := q_hi32 (x := a43); omega) (by have t1 : a43.toInt = t0_13.toInt + 97 := b45; have _ := q_lo32 (x := t0_13); have _ := q_hi32 (x := t0_13); have _ := q_lo32 (x := a43); have _ := q_hi32 (x := a43); omega))
    exact q_reti C0 V (⟨rfl, (show 0 ≤ a46.toInt from (by have t1 : t0_13.toInt = 67 := b42; have t2 : a43.toInt = t0_13.toInt + 97 := b45; have t3 : a46.toInt = a43.toInt - 65 := b48; omega)), (show a46.toInt ≤ 120 from (by have t1 : t0_13.toInt = 67 := b42; have t2 : a43.toInt = t0_13.toInt + 97 := b45; have t3 : a46.toInt = a43.toInt - 65 := b48; omega)), (show a46 = (F_VR_small t0_0 t0_1 t0_2 t0_3 t0_4 t0_5 t0_6 t0_7 t0_8 t0_9 t0_10 t0_11 t0_12 t0_13 t0_14 t0_15 t0_16 t0_17 t0_18 t0_19 t0_20 t0_21) from (by rw [← e47, ← e44, F_VR_small.eq_1, if_neg c29, if_neg c32, if_pos c41]))⟩) d_16_19_167
  by_cases c50 : t0_13 = 69
  ·
    have b51 : q_F (t0_13.toInt = 69) := (q_eqI c50)
    refine q_ti (v := 69) c50 ?_
    refine lv_lookup (tgt := 157) (off := 153) hx hb d_16_19_4 (by decide) (by decide) (by decide) ?_
    refine lv_aload_n hx hb d_16_19_157 rfl (lv_at hl 0 rfl) ?_
    refine q_get (ci := 17) (j := 20) (v := .int t0_13) C0 V i_VR rfl rfl hT0 (by decide) w_2224 rfl d_16_19_158 ?_
    refine lv_bipush (v := 97) hx hb d_16_19_161 (by decide) ?_
    refine lv_iadd hx hb d_16_19_163 ?_
    obtain ⟨a52, e53⟩ := q_nm (t0_13 + 97 : Int32)
    refine q_ti (v := a52) e53 ?_
    have b54 : q_F (a52.toInt = t0_13.toInt + 97) := (by rw [← e53]; show (t0_13 + 97 : Int32).toInt = t0_13.toInt + 97; exact q_addI (x := t0_13.toInt) (y := 97) rfl (by decide) (by first | with_reducible exact q_fe b51 | (have t1 : t0_13.toInt = 69 := b51; omega)) (by first | with_reducible exact q_fe b51 | (have t1 : t0_13.toInt = 69 := b51; omega)))
    refine lv_bipush (v := 65) hx hb d_16_19_164 (by decide) ?_
    refine lv_isub hx hb d_16_19_166 ?_
    obtain ⟨a55, e56⟩ := q_nm (a52 - 65 : Int32)
    refine q_ti (v := a55) e56 ?_
    have b57 : q_F (a55.toInt = a52.toInt - 65) := (by rw [← e56]; show (a52 - 65 : Int32).toInt = a52.toInt - 65; exact q_subI (x := a52.toInt) (y := 65) rfl (by decide) (by have t1 : a52.toInt = t0_13.toInt + 97 := b54; have _ := q_lo32 (x := t0_13); have _ := q_hi32 (x := t0_13); have _ := q_lo32 (x := a52); have _ := q_hi32 (x := a52); omega) (by have t1 : a52.toInt = t0_13.toInt + 97 := b54; have _ := q_lo32 (x := t0_13); have _ := q_hi32 (x := t0_13); have _ := q_lo32 (x := a52); have _ := q_hi32 (x := a52); omega))
    exact q_reti C0 V (⟨rfl, (show 0 ≤ a55.toInt from (by have t1 : t0_13.toInt = 69 := b51; have t2 : a52.toInt = t0_13.toInt + 97 := b54; have t3 : a55.toInt = a52.toInt - 65 := b57; omega)), (show a55.toInt ≤ 120 from (by have t1 : t0_13.toInt = 69 := b51; have t2 : a52.toInt = t0_13.toInt + 97 := b54; have t3 : a55.toInt = a52.toInt - 65 := b57; omega)), (show a55 = (F_VR_small t0_0 t0_1 t0_2 t0_3 t0_4 t0_5 t0_6 t0_7 t0_8 t0_9 t0_10 t0_11 t0_12 t0_13 t0_14 t0_15 t0_16 t0_17 t0_18 t0_19 t0_20 t0_21) from (by rw [← e56, ← e53, F_VR_small.eq_1, if_neg c29, if_neg c32, if_neg c41, if_pos c50]))⟩) d_16_19_167
  by_cases c59 : t0_13 = 71
  ·
    have b60 : q_F (t0_13.toInt = 71) := (q_eqI c59)
    refine q_ti (v := 71) c59 ?_
    refine lv_lookup (tgt := 157) (off := 153) hx hb d_16_19_4 (by decide) (by decide) (by decide) ?_
    refine lv_aload_n hx hb d_16_19_157 rfl (lv_at hl 0 rfl) ?_
    refine q_get (ci := 17) (j := 20) (v := .int t0_13) C0 V i_VR rfl rfl hT0 (by decide) w_2224 rfl d_16_19_158 ?_
    refine lv_bipush (v := 97) hx hb d_16_19_161 (by decide) ?_
    refine lv_iadd hx hb d_16_19_163 ?_
    obtain ⟨a61, e62⟩ := q_nm (t0_13 + 97 : Int32)
    refine q_ti (v := a61) e62 ?_
    have b63 : q_F (a61.toInt = t0_13.toInt + 97) := (by rw [← e62]; show (t0_13 + 97 : Int32).toInt = t0_13.toInt + 97; exact q_addI (x := t0_13.toInt) (y := 97) rfl (by decide) (by first | with_reducible exact q_fe b60 | (have t1 : t0_13.toInt = 71 := b60; omega)) (by first | with_reducible exact q_fe b60 | (have t1 : t0_13.toInt = 71 := b60; omega)))
    refine lv_bipush (v := 65) hx hb d_16_19_164 (by decide) ?_
    refine lv_isub hx hb d_16_19_166 ?_
    obtain ⟨a64, e65⟩ := q_nm (a61 - 65 : Int32)
    refine q_ti (v := a64) e65 ?_
    have b66 : q_F (a64.toInt = a61.toInt - 65) := (by rw [← e65]; show (a61 - 65 : Int32).toInt = a61.toInt - 65; exact q_subI (x := a61.toInt) (y := 65) rfl (by decide) (by have t1 : a61.toInt = t0_13.toInt + 97 := b63; have _ := q_lo32 (x := t0_13); have _ := q_hi32 (x := t0_13); have _ := q_lo32 (x := a61); have _ := q_hi32 (x := a61); omega) (by have t1 : a61.toInt = t0_13.toInt + 97 := b63; have _ := q_lo32 (x := t0_13); have _ := q_hi32 (x := t0_13); have _ := q_lo32 (x := a61); have _ := q_hi32 (x := a61); omega))
    exact q_reti C0 V (⟨rfl, (show 0 ≤ a64.toInt from (by have t1 : t0_13.toInt = 71 := b60; have t2 : a61.toInt = t0_13.toInt + 97 := b63; have t3 : a64.toInt = a61.toInt - 65 := b66; omega)), (show a64.toInt ≤ 120 from (by have t1 : t0_13.toInt = 71 := b60; have t2 : a61.toInt = t0_13.toInt + 97 := b63; have t3 : a64.toInt = a61.toInt - 65 := b66; omega)), (show a64 = (F_VR_small t0_0 t0_1 t0_2 t0_3 t0_4 t0_5 t0_6 t0_7 t0_8 t0_9 t0_10 t0_11 t0_12 t0_13 t0_14 t0_15 t0_16 t0_17 t0_18 t0_19 t0_20 t0_21) from (by rw [← e65, ← e62, F_VR_small.eq_1, if_neg c29, if_neg c32, if_neg c41, if_neg c50, if_pos c59]))⟩) d_16_19_167
  by_cases c68 : t0_13 = 83
  ·
    have b69 : q_F (t0_13.toInt = 83) := (q_eqI c68)
    refine q_ti (v := 83) c68 ?_
    refine lv_lookup (tgt := 157) (off := 153) hx hb d_16_19_4 (by decide) (by decide) (by decide) ?_
    refine lv_aload_n hx hb d_16_19_157 rfl (lv_at hl 0 rfl) ?_
    refine q_get (ci := 17) (j := 20) (v := .int t0_13) C0 V i_VR rfl rfl hT0 (by decide) w_2224 rfl d_16_19_158 ?_
    refine lv_bipush (v := 97) hx hb d_16_19_161 (by decide) ?_
    refine lv_iadd hx hb d_16_19_163 ?_
    obtain ⟨a70, e71⟩ := q_nm (t0_13 + 97 : Int32)
    refine q_ti (v := a70) e71 ?_
    have b72 : q_F (a70.toInt = t0_13.toInt + 97) := (by rw [← e71]; show (t0_13 + 97 : Int32).toInt = t0_13.toInt + 97; exact q_addI (x := t0_13.toInt) (y := 97) rfl (by decide) (by first | with_reducible exact q_fe b69 | (have t1 : t0_13.toInt = 83 := b69; omega)) (by first | with_reducible exact q_fe b69 | (have t1 : t0_13.toInt = 83 := b69; omega)))
    refine lv_bipush (v := 65) hx hb d_16_19_164 (by decide) ?_
    refine lv_isub hx hb d_16_19_166 ?_
    obtain ⟨a73, e74⟩ := q_nm (a70 - 65 : Int32)
    refine q_ti (v := a73) e74 ?_
    have b75 : q_F (a73.toInt = a70.toInt - 65) := (by rw [← e74]; show (a70 - 65 : Int32).toInt = a70.toInt - 65; exact q_subI (x := a70.toInt) (y := 65) rfl (by decide) (by have t1 : a70.toInt = t0_13.toInt + 97 := b72; have _ := q_lo32 (x := t0_13); have _ := q_hi32 (x := t0_13); have _ := q_lo32 (x := a70); have _ := q_hi32 (x := a70); omega) (by have t1 : a70.toInt = t0_13.toInt + 97 := b72; have _ := q_lo32 (x := t0_13); have _ := q_hi32 (x := t0_13); have _ := q_lo32 (x := a70); have _ := q_hi32 (x := a70); omega))
    exact q_reti C0 V (⟨rfl, (show 0 ≤ a73.toInt from (by have t1 : t0_13.toInt = 83 := b69; have t2 : a70.toInt = t0_13.toInt + 97 := b72; have t3 : a73.toInt = a70.toInt - 65 := b75; omega)), (show a73.toInt ≤ 120 from (by have t1 : t0_13.toInt = 83 := b69; have t2 : a70.toInt = t0_13.toInt + 97 := b72; have t3 : a73.toInt = a70.toInt - 65 := b75; omega)), (show a73 = (F_VR_small t0_0 t0_1 t0_2 t0_3 t0_4 t0_5 t0_6 t0_7 t0_8 t0_9 t0_10 t0_11 t0_12 t0_13 t0_14 t0_15 t0_16 t0_17 t0_18 t0_19 t0_20 t0_21) from (by rw [← e74, ← e71, F_VR_small.eq_1, if_neg c29, if_neg c32, if_neg c41, if_neg c50, if_neg c59, if_pos c68]))⟩) d_16_19_167
  by_cases c77 : t0_13 = 88
  ·
    have b78 : q_F (t0_13.toInt = 88) := (q_eqI c77)
    refine q_ti (v := 88) c77 ?_
    refine lv_lookup (tgt := 157) (off := 153) hx hb d_16_19_4 (by decide) (by decide) (by decide) ?_
    refine lv_aload_n hx hb d_16_19_157 rfl (lv_at hl 0 rfl) ?_
    refine q_get (ci := 17) (j := 20) (v := .int t0_13) C0 V i_VR rfl rfl hT0 (by decide) w_2224 rfl d_16_19_158 ?_
    refine lv_bipush (v := 97) hx hb d_16_19_161 (by decide) ?_
    refine lv_iadd hx hb d_16_19_163 ?_
    obtain ⟨a79, e80⟩ := q_nm (t0_13 + 97 : Int32)
    refine q_ti (v := a79) e80 ?_
    have b81 : q_F (a79.toInt = t0_13.toInt + 97) := (by rw [← e80]; show (t0_13 + 97 : Int32).toInt = t0_13.toInt + 97; exact q_addI (x := t0_13.toInt) (y := 97) rfl (by decide) (by first | with_reducible exact q_fe b78 | (have t1 : t0_13.toInt = 88 := b78; omega)) (by first | with_reducible exact q_fe b78 | (have t1 : t0_13.toInt = 88 := b78; omega)))
    refine lv_bipush (v := 65) hx hb d_16_19_164 (by decide) ?_
    refine lv_isub hx hb d_16_19_166 ?_
    obtain ⟨a82, e83⟩ := q_nm (a79 - 65 : Int32)
    refine q_ti (v := a82) e83 ?_
    have b84 : q_F (a82.toInt = a79.toInt - 65) := (by rw [← e83]; show (a79 - 65 : Int32).toInt = a79.toInt - 65; exact q_subI (x := a79.toInt) (y := 65) rfl (by decide) (by have t1 : a79.toInt = t0_13.toInt + 97 := b81; have _ := q_lo32 (x := t0_13); have _ := q_hi32 (x := t0_13); have _ := q_lo32 (x := a79); have _ := q_hi32 (x := a79); omega) (by have t1 : a79.toInt = t0_13.toInt + 97 := b81; have _ := q_lo32 (x := t0_13); have _ := q_hi32 (x := t0_13); have _ := q_lo32 (x := a79); have _ := q_hi32 (x := a79); omega))
    exact q_reti C0 V (⟨rfl, (show 0 ≤ a82.toInt from (by have t1 : t0_13.toInt = 88 := b78; have t2 : a79.toInt = t0_13.toInt + 97 := b81; have t3 : a82.toInt = a79.toInt - 65 := b84; omega)), (show a82.toInt ≤ 120 from (by have t1 : t0_13.toInt = 88 := b78; have t2 : a79.toInt = t0_13.toInt + 97 := b81; have t3 : a82.toInt = a79.toInt - 65 := b84; omega)), (show a82 = (F_VR_small t0_0 t0_1 t0_2 t0_3 t0_4 t0_5 t0_6 t0_7 t0_8 t0_9 t0_10 t0_11 t0_12 t0_13 t0_14 t0_15 t0_16 t0_17 t0_18 t0_19 t0_20 t0_21) from (by rw [← e83, ← e80, F_VR_small.eq_1, if_neg c29, if_neg c32, if_neg c41, if_neg c50, if_neg c59, if_neg c68, if_pos c77]))⟩) d_16_19_167
  by_cases c86 : t0_13 = 98
  ·
    have b87 : q_F (t0_13.toInt = 98) := (q_eqI c86)
    refine q_ti (v := 98) c86 ?_
    refine lv_lookup (tgt := 152) (off := 148) hx hb d_16_19_4 (by decide) (by decide) (by decide) ?_
    refine lv_aload_n hx hb d_16_19_152 rfl (lv_at hl 0 rfl) ?_
    refine q_get (ci := 17) (j := 20) (v := .int t0_13) C0 V i_VR rfl rfl hT0 (by decide) w_2224 rfl d_16_19_153 ?_
    exact q_reti C0 V (⟨rfl, (show 0 ≤ t0_13.toInt from (by first | with_reducible exact q_fe b87 | (have t1 : t0_13.toInt = 98 := b87; omega))), (show t0_13.toInt ≤ 120 from (by first | with_reducible exact q_fe b87 | (have t1 : t0_13.toInt = 98 := b87; omega))), (show t0_13 = (F_VR_small t0_0 t0_1 t0_2 t0_3 t0_4 t0_5 t0_6 t0_7 t0_8 t0_9 t0_10 t0_11 t0_12 t0_13 t0_14 t0_15 t0_16 t0_17 t0_18 t0_19 t0_20 t0_21) from (by rw [F_VR_small.eq_1, if_neg c29, if_neg c32, if_neg c41, if_neg c50, if_neg c59, if_neg c68, if_neg c77, if_pos c86]))⟩) d_16_19_156
  by_cases c89 : t0_13 = 99
  ·
    have b90 : q_F (t0_13.toInt = 99) := (q_eqI c89)
    refine q_ti (v := 99) c89 ?_
    refine lv_lookup (tgt := 152) (off := 148) hx hb d_16_19_4 (by decide) (by decide) (by decide) ?_
    refine lv_aload_n hx hb d_16_19_152 rfl (lv_at hl 0 rfl) ?_
    refine q_get (ci := 17) (j := 20) (v := .int t0_13) C0 V i_VR rfl rfl hT0 (by decide) w_2224 rfl d_16_19_153 ?_
    exact q_reti C0 V (⟨rfl, (show 0 ≤ t0_13.toInt from (by first | with_reducible exact q_fe b90 | (have t1 : t0_13.toInt = 99 := b90; omega))), (show t0_13.toInt ≤ 120 from (by first | with_reducible exact q_fe b90 | (have t1 : t0_13.toInt = 99 := b90; omega))), (show t0_13 = (F_VR_small t0_0 t0_1 t0_2 t0_3 t0_4 t0_5 t0_6 t0_7 t0_8 t0_9 t0_10 t0_11 t0_12 t0_13 t0_14 t0_15 t0_16 t0_17 t0_18 t0_19 t0_20 t0_21) from (by rw [F_VR_small.eq_1, if_neg c29, if_neg c32, if_neg c41, if_neg c50, if_neg c59, if_neg c68, if_neg c77, if_neg c86, if_pos c89]))⟩) d_16_19_156
  by_cases c92 : t0_13 = 100
  ·
    have b93 : q_F (t0_13.toInt = 100) := (q_eqI c92)
    refine q_ti (v := 100) c92 ?_
    refine lv_lookup (tgt := 152) (off := 148) hx hb d_16_19_4 (by decide) (by decide) (by decide) ?_
    refine lv_aload_n hx hb d_16_19_152 rfl (lv_at hl 0 rfl) ?_
    refine q_get (ci := 17) (j := 20) (v := .int t0_13) C0 V i_VR rfl rfl hT0 (by decide) w_2224 rfl d_16_19_153 ?_
    exact q_reti C0 V (⟨rfl, (show 0 ≤ t0_13.toInt from (by first | with_reducible exact q_fe b93 | (have t1 : t0_13.toInt = 100 := b93; omega))), (show t0_13.toInt ≤ 120 from (by first | with_reducible exact q_fe b93 | (have t1 : t0_13.toInt = 100 := b93; omega))), (show t0_13 = (F_VR_small t0_0 t0_1 t0_2 t0_3 t0_4 t0_5 t0_6 t0_7 t0_8 t0_9 t0_10 t0_11 t0_12 t0_13 t0_14 t0_15 t0_16 t0_17 t0_18 t0_19 t0_20 t0_21) from (by rw [F_VR_small.eq_1, if_neg c29, if_neg c32, if_neg c41, if_neg c50, if_neg c59, if_neg c68, if_neg c77, if_neg c86, if_neg c89, if_pos c92]))⟩) d_16_19_156
  by_cases c95 : t0_13 = 101
  ·
    have b96 : q_F (t0_13.toInt = 101) := (q_eqI c95)
    refine q_ti (v := 101) c95 ?_
    refine lv_lookup (tgt := 152) (off := 148) hx hb d_16_19_4 (by decide) (by decide) (by decide) ?_
    refine lv_aload_n hx hb d_16_19_152 rfl (lv_at hl 0 rfl) ?_
    refine q_get (ci := 17) (j := 20) (v := .int t0_13) C0 V i_VR rfl rfl hT0 (by decide) w_2224 rfl d_16_19_153 ?_
    exact q_reti C0 V (⟨rfl, (show 0 ≤ t0_13.toInt from (by first | with_reducible exact q_fe b96 | (have t1 : t0_13.toInt = 101 := b96; omega))), (show t0_13.toInt ≤ 120 from (by first | with_reducible exact q_fe b96 | (have t1 : t0_13.toInt = 101 := b96; omega))), (show t0_13 = (F_VR_small t0_0 t0_1 t0_2 t0_3 t0_4 t0_5 t0_6 t0_7 t0_8 t0_9 t0_10 t0_11 t0_12 t0_13 t0_14 t0_15 t0_16 t0_17 t0_18 t0_19 t0_20 t0_21) from (by rw [F_VR_small.eq_1, if_neg c29, if_neg c32, if_neg c41, if_neg c50, if_neg c59, if_neg c68, if_neg c77, if_neg c86, if_neg c89, if_neg c92, if_pos c95]))⟩) d_16_19_156
  by_cases c98 : t0_13 = 102
  ·
    have b99 : q_F (t0_13.toInt = 102) := (q_eqI c98)
    refine q_ti (v := 102) c98 ?_
    refine lv_lookup (tgt := 152) (off := 148) hx hb d_16_19_4 (by decide) (by decide) (by decide) ?_
    refine lv_aload_n hx hb d_16_19_152 rfl (lv_at hl 0 rfl) ?_
    refine q_get (ci := 17) (j := 20) (v := .int t0_13) C0 V i_VR rfl rfl hT0 (by decide) w_2224 rfl d_16_19_153 ?_
    exact q_reti C0 V (⟨rfl, (show 0 ≤ t0_13.toInt from (by first | with_reducible exact q_fe b99 | (have t1 : t0_13.toInt = 102 := b99; omega))), (show t0_13.toInt ≤ 120 from (by first | with_reducible exact q_fe b99 | (have t1 : t0_13.toInt = 102 := b99; omega))), (show t0_13 = (F_VR_small t0_0 t0_1 t0_2 t0_3 t0_4 t0_5 t0_6 t0_7 t0_8 t0_9 t0_10 t0_11 t0_12 t0_13 t0_14 t0_15 t0_16 t0_17 t0_18 t0_19 t0_20 t0_21) from (by rw [F_VR_small.eq_1, if_neg c29, if_neg c32, if_neg c41, if_neg c50, if_neg c59, if_neg c68, if_neg c77, if_neg c86, if_neg c89, if_neg c92, if_neg c95, if_pos c98]))⟩) d_16_19_156
  by_cases c101 : t0_13 = 103
  ·
    have b102 : q_F (t0_13.toInt = 103) := (q_eqI c101)
    refine q_ti (v := 103) c101 ?_
    refine lv_lookup (tgt := 152) (off := 148) hx hb d_16_19_4 (by decide) (by decide) (by decide) ?_
    refine lv_aload_n hx hb d_16_19_152 rfl (lv_at hl 0 rfl) ?_
    refine q_get (ci := 17) (j := 20) (v := .int t0_13) C0 V i_VR rfl rfl hT0 (by decide) w_2224 rfl d_16_19_153 ?_
    exact q_reti C0 V (⟨rfl, (show 0 ≤ t0_13.toInt from (by first | with_reducible exact q_fe b102 | (have t1 : t0_13.toInt = 103 := b102; omega))), (show t0_13.toInt ≤ 120 from (by first | with_reducible exact q_fe b102 | (have t1 : t0_13.toInt = 103 := b102; omega))), (show t0_13 = (F_VR_small t0_0 t0_1 t0_2 t0_3 t0_4 t0_5 t0_6 t0_7 t0_8 t0_9 t0_10 t0_11 t0_12 t0_13 t0_14 t0_15 t0_16 t0_17 t0_18 t0_19 t0_20 t0_21) from (by rw [F_VR_small.eq_1, if_neg c29, if_neg c32, if_neg c41, if_neg c50, if_neg c59, if_neg c68, if_neg c77, if_neg c86, if_neg c89, if_neg c92, if_neg c95, if_neg c98, if_pos c101]))⟩) d_16_19_156
  by_cases c104 : t0_13 = 110
  ·
    have b105 : q_F (t0_13.toInt = 110) := (q_eqI c104)
    refine q_ti (v := 110) c104 ?_
    refine lv_lookup (tgt := 152) (off := 148) hx hb d_16_19_4 (by decide) (by decide) (by decide) ?_
    refine lv_aload_n hx hb d_16_19_152 rfl (lv_at hl 0 rfl) ?_
    refine q_get (ci := 17) (j := 20) (v := .int t0_13) C0 V i_VR rfl rfl hT0 (by decide) w_2224 rfl d_16_19_153 ?_
    exact q_reti C0 V (⟨rfl, (show 0 ≤ t0_13.toInt from (by first | with_reducible exact q_fe b105 | (have t1 : t0_13.toInt = 110 := b105; omega))), (show t0_13.toInt ≤ 120 from (by first | with_reducible exact q_fe b105 | (have t1 : t0_13.toInt = 110 := b105; omega))), (show t0_13 = (F_VR_small t0_0 t0_1 t0_2 t0_3 t0_4 t0_5 t0_6 t0_7 t0_8 t0_9 t0_10 t0_11 t0_12 t0_13 t0_14 t0_15 t0_16 t0_17 t0_18 t0_19 t0_20 t0_21) from (by rw [F_VR_small.eq_1, if_neg c29, if_neg c32, if_neg c41, if_neg c50, if_neg c59, if_neg c68, if_neg c77, if_neg c86, if_neg c89, if_neg c92, if_neg c95, if_neg c98, if_neg c101, if_pos c104]))⟩) d_16_19_156
  by_cases c107 : t0_13 = 111
  ·
    have b108 : q_F (t0_13.toInt = 111) := (q_eqI c107)
    refine q_ti (v := 111) c107 ?_
    refine lv_lookup (tgt := 152) (off := 148) hx hb d_16_19_4 (by decide) (by decide) (by decide) ?_
    refine lv_aload_n hx hb d_16_19_152 rfl (lv_at hl 0 rfl) ?_
    refine q_get (ci := 17) (j := 20) (v := .int t0_13) C0 V i_VR rfl rfl hT0 (by decide) w_2224 rfl d_16_19_153 ?_
    exact q_reti C0 V (⟨rfl, (show 0 ≤ t0_13.toInt from (by first | with_reducible exact q_fe b108 | (have t1 : t0_13.toInt = 111 := b108; omega))), (show t0_13.toInt ≤ 120 from (by first | with_reducible exact q_fe b108 | (have t1 : t0_13.toInt = 111 := b108; omega))), (show t0_13 = (F_VR_small t0_0 t0_1 t0_2 t0_3 t0_4 t0_5 t0_6 t0_7 t0_8 t0_9 t0_10 t0_11 t0_12 t0_13 t0_14 t0_15 t0_16 t0_17 t0_18 t0_19 t0_20 t0_21) from (by rw [F_VR_small.eq_1, if_neg c29, if_neg c32, if_neg c41, if_neg c50, if_neg c59, if_neg c68, if_neg c77, if_neg c86, if_neg c89, if_neg c92, if_neg c95, if_neg c98, if_neg c101, if_neg c104, if_pos c107]))⟩) d_16_19_156
  by_cases c110 : t0_13 = 115
  ·
    have b111 : q_F (t0_13.toInt = 115) := (q_eqI c110)
    refine q_ti (v := 115) c110 ?_
    refine lv_lookup (tgt := 152) (off := 148) hx hb d_16_19_4 (by decide) (by decide) (by decide) ?_
    refine lv_aload_n hx hb d_16_19_152 rfl (lv_at hl 0 rfl) ?_
    refine q_get (ci := 17) (j := 20) (v := .int t0_13) C0 V i_VR rfl rfl hT0 (by decide) w_2224 rfl d_16_19_153 ?_
    exact q_reti C0 V (⟨rfl, (show 0 ≤ t0_13.toInt from (by first | with_reducible exact q_fe b111 | (have t1 : t0_13.toInt = 115 := b111; omega))), (show t0_13.toInt ≤ 120 from (by first | with_reducible exact q_fe b111 | (have t1 : t0_13.toInt = 115 := b111; omega))), (show t0_13 = (F_VR_small t0_0 t0_1 t0_2 t0_3 t0_4 t0_5 t0_6 t0_7 t0_8 t0_9 t0_10 t0_11 t0_12 t0_13 t0_14 t0_15 t0_16 t0_17 t0_18 t0_19 t0_20 t0_21) from (by rw [F_VR_small.eq_1, if_neg c29, if_neg c32, if_neg c41, if_neg c50, if_neg c59, if_neg c68, if_neg c77, if_neg c86, if_neg c89, if_neg c92, if_neg c95, if_neg c98, if_neg c101, if_neg c104, if_neg c107, if_pos c110]))⟩) d_16_19_156
  by_cases c113 : t0_13 = 120
  ·
    have b114 : q_F (t0_13.toInt = 120) := (q_eqI c113)
    refine q_ti (v := 120) c113 ?_
    refine lv_lookup (tgt := 152) (off := 148) hx hb d_16_19_4 (by decide) (by decide) (by decide) ?_
    refine lv_aload_n hx hb d_16_19_152 rfl (lv_at hl 0 rfl) ?_
    refine q_get (ci := 17) (j := 20) (v := .int t0_13) C0 V i_VR rfl rfl hT0 (by decide) w_2224 rfl d_16_19_153 ?_
    exact q_reti C0 V (⟨rfl, (show 0 ≤ t0_13.toInt from (by first | with_reducible exact q_fe b114 | (have t1 : t0_13.toInt = 120 := b114; omega))), (show t0_13.toInt ≤ 120 from (by first | with_reducible exact q_fe b114 | (have t1 : t0_13.toInt = 120 := b114; omega))), (show t0_13 = (F_VR_small t0_0 t0_1 t0_2 t0_3 t0_4 t0_5 t0_6 t0_7 t0_8 t0_9 t0_10 t0_11 t0_12 t0_13 t0_14 t0_15 t0_16 t0_17 t0_18 t0_19 t0_20 t0_21) from (by rw [F_VR_small.eq_1, if_neg c29, if_neg c32, if_neg c41, if_neg c50, if_neg c59, if_neg c68, if_neg c77, if_neg c86, if_neg c89, if_neg c92, if_neg c95, if_neg c98, if_neg c101, if_neg c104, if_neg c107, if_neg c110, if_pos c113]))⟩) d_16_19_156
  refine lv_lookup (tgt := 168) (off := 164) hx hb d_16_19_4 (by decide) (by rw [lv_osw c29 (by decide), lv_osw c32 (by decide), lv_osw c41 (by decide), lv_osw c50 (by decide), lv_osw c59 (by decide), lv_osw c68 (by decide), lv_osw c77 (by decide), lv_osw c86 (by decide), lv_osw c89 (by decide), lv_osw c92 (by decide), lv_osw c95 (by decide), lv_osw c98 (by decide), lv_osw c101 (by decide), lv_osw c104 (by decide), lv_osw c107 (by decide), lv_osw c110 (by decide), lv_osw c113 (by decide)]; rfl) (by decide) ?_
  refine lv_iconst (v := 0) hx hb d_16_19_168 (by decide) ?_
  exact q_reti C0 V (⟨rfl, (show 0 ≤ (0 : Int32).toInt from (by have z22 : (0 : Int32).toInt = 0 := rfl; omega)), (show (0 : Int32).toInt ≤ 120 from (by have z22 : (0 : Int32).toInt = 0 := rfl; omega)), (show (0 : Int32) = (F_VR_small t0_0 t0_1 t0_2 t0_3 t0_4 t0_5 t0_6 t0_7 t0_8 t0_9 t0_10 t0_11 t0_12 t0_13 t0_14 t0_15 t0_16 t0_17 t0_18 t0_19 t0_20 t0_21) from (by rw [F_VR_small.eq_1, if_neg c29, if_neg c32, if_neg c41, if_neg c50, if_neg c59, if_neg c68, if_neg c77, if_neg c86, if_neg c89, if_neg c92, if_neg c95, if_neg c98, if_neg c101, if_neg c104, if_neg c107, if_neg c110, if_neg c113]))⟩) d_16_19_169
theorem d_16_21_0 : decode prog_16_method_21_code 0 = .ok (.iload_n 1, 1) := by decide +kernel
theorem d_16_21_1 : decode prog_16_method_21_code 1 = .ok (.bipush 100, 2) := by decide +kernel
theorem d_16_21_3 : decode prog_16_method_21_code 3 = .ok (.if_icmp .eq 15, 3) := by decide +kernel
theorem d_16_21_18 : decode prog_16_method_21_code 18 = .ok (.iconst 1, 1) := by decide +kernel
theorem d_16_21_19 : decode prog_16_method_21_code 19 = .ok (.goto 4, 3) := by decide +kernel
theorem d_16_21_23 : decode prog_16_method_21_code 23 = .ok (.ireturn, 1) := by decide +kernel
theorem d_16_21_6 : decode prog_16_method_21_code 6 = .ok (.iload_n 1, 1) := by decide +kernel
theorem d_16_21_7 : decode prog_16_method_21_code 7 = .ok (.bipush 111, 2) := by decide +kernel
theorem d_16_21_9 : decode prog_16_method_21_code 9 = .ok (.if_icmp .eq 9, 3) := by decide +kernel
theorem d_16_21_12 : decode prog_16_method_21_code 12 = .ok (.iload_n 1, 1) := by decide +kernel
theorem d_16_21_13 : decode prog_16_method_21_code 13 = .ok (.bipush 120, 2) := by decide +kernel
theorem d_16_21_15 : decode prog_16_method_21_code 15 = .ok (.if_icmp .ne 7, 3) := by decide +kernel
theorem d_16_21_22 : decode prog_16_method_21_code 22 = .ok (.iconst 0, 1) := by decide +kernel
def y_VR_isNumeric : MethodName := ⟨"NumberHouseModel$DirectiveRows", "isNumeric", "(I)Z"⟩
def F_VR_isNumeric (x2 : Int32) (t0_0 : Int32) (t0_1 : Int32) (t0_2 : Int32) (t0_3 : Int32) (t0_4 : Int32) (t0_5 : Int32) (t0_6 : Int32) (t0_7 : Int32) (t0_8 : Int32) (t0_9 : Int32) (t0_10 : Int32) (t0_11 : Int32) (t0_12 : Int32) (t0_13 : Int32) (t0_14 : Int32) (t0_15 : Int32) (t0_16 : Int32) (t0_17 : Int32) (t0_18 : Int32) (t0_19 : Int32) (t0_20 : Int32) (t0_21 : Int32) : Int32 := if x2 = (100 : Int32) then ((1 : Int32)) else (if x2 = (111 : Int32) then ((1 : Int32)) else (if x2 = (120 : Int32) then ((1 : Int32)) else ((0 : Int32))))
set_option maxRecDepth 100000 in
set_option maxHeartbeats 4000000 in
theorem X_VR_isNumeric (l : Launch) (D : va_G) (g : Nat → ClassId) (q : Nat → Nat) (ws : va_W) (x2 : Int32) (hI : q_I (msh g q) q ws) (t0_0 : Int32) (t0_1 : Int32) (t0_2 : Int32) (t0_3 : Int32) (t0_4 : Int32) (t0_5 : Int32) (t0_6 : Int32) (t0_7 : Int32) (t0_8 : Int32) (t0_9 : Int32) (t0_10 : Int32) (t0_11 : Int32) (t0_12 : Int32) (t0_13 : Int32) (t0_14 : Int32) (t0_15 : Int32) (t0_16 : Int32) (t0_17 : Int32) (t0_18 : Int32) (t0_19 : Int32) (t0_20 : Int32) (t0_21 : Int32) (hT0 : ws[157]? = (some (q 157, .inr (17, [.int t0_0, .ref (q 158), .int t0_1, .int t0_2, .ref (q 159), .ref (q 160), .ref (q 161), .ref (q 162), .ref (q 163), .int t0_3, .ref (q 164), .int t0_4, .int t0_5, .int t0_6, .int t0_7, .int t0_8, .int t0_9, .int t0_10, .int t0_11, .int t0_12, .int t0_13, .int t0_14, .int t0_15, .int t0_16, .ref (q 165), .int t0_17, .int t0_18, .int t0_19, .ref (q 166), .int t0_20, .int t0_21])) : Option (Nat × va_E))) : q_mI l y_VR_isNumeric prog_16_method_21_code 2 (.boolean) 1 0 0 D g [.ref (q 157), .int x2] ws (fun r u => ws = u ∧ (0 ≤ r.toInt) ∧ (r.toInt ≤ 1) ∧ r = (F_VR_isNumeric x2 t0_0 t0_1 t0_2 t0_3 t0_4 t0_5 t0_6 t0_7 t0_8 t0_9 t0_10 t0_11 t0_12 t0_13 t0_14 t0_15 t0_16 t0_17 t0_18 t0_19 t0_20 t0_21)) := by
  intro sz
  refine q_into (by decide) (Nat.le_of_ble_eq_true rfl) ?_
  intro p e s m below meth c ls hsz C0 V hl
  have hx := C0.1
  have hb := C0.2.1
  have hZ9 := (n_w157 hI hT0).2.2.2
  obtain ⟨-, btt0_19⟩ := hZ9
  clear btt0_19
  have hl : lv_has ls 2 [(0, .ref (q 157)), (1, .int x2)] := hl
  refine lv_iload_n hx hb d_16_21_0 rfl (lv_at hl 1 rfl) ?_
  refine lv_bipush (v := 100) hx hb d_16_21_1 (by decide) ?_
  refine lv_icmp_eq (tgt := 18) hx hb d_16_21_3 (by decide) (fun c29 => ?_) (fun c29 => ?_)
  ·
    refine lv_iconst (v := 1) hx hb d_16_21_18 (by decide) ?_
    refine lv_goto (tgt := 23) hx hb d_16_21_19 (by decide) ?_
    exact q_retz C0 V (by decide) (⟨rfl, (show 0 ≤ (1 : Int32).toInt from (by have z23 : (1 : Int32).toInt = 1 := rfl; omega)), (show (1 : Int32).toInt ≤ 1 from (by have z23 : (1 : Int32).toInt = 1 := rfl; omega)), (show (1 : Int32) = (F_VR_isNumeric x2 t0_0 t0_1 t0_2 t0_3 t0_4 t0_5 t0_6 t0_7 t0_8 t0_9 t0_10 t0_11 t0_12 t0_13 t0_14 t0_15 t0_16 t0_17 t0_18 t0_19 t0_20 t0_21) from (by rw [F_VR_isNumeric.eq_1, if_pos c29]))⟩) d_16_21_23
  ·
    refine lv_iload_n hx hb d_16_21_6 rfl (lv_at hl 1 rfl) ?_
    refine lv_bipush (v := 111) hx hb d_16_21_7 (by decide) ?_
    refine lv_icmp_eq (tgt := 18) hx hb d_16_21_9 (by decide) (fun c32 => ?_) (fun c32 => ?_)
    ·
      refine lv_iconst (v := 1) hx hb d_16_21_18 (by decide) ?_
      refine lv_goto (tgt := 23) hx hb d_16_21_19 (by decide) ?_
      exact q_retz C0 V (by decide) (⟨rfl, (show 0 ≤ (1 : Int32).toInt from (by have z23 : (1 : Int32).toInt = 1 := rfl; omega)), (show (1 : Int32).toInt ≤ 1 from (by have z23 : (1 : Int32).toInt = 1 := rfl; omega)), (show (1 : Int32) = (F_VR_isNumeric x2 t0_0 t0_1 t0_2 t0_3 t0_4 t0_5 t0_6 t0_7 t0_8 t0_9 t0_10 t0_11 t0_12 t0_13 t0_14 t0_15 t0_16 t0_17 t0_18 t0_19 t0_20 t0_21) from (by rw [F_VR_isNumeric.eq_1, if_neg c29, if_pos c32]))⟩) d_16_21_23
    ·
      refine lv_iload_n hx hb d_16_21_12 rfl (lv_at hl 1 rfl) ?_
      refine lv_bipush (v := 120) hx hb d_16_21_13 (by decide) ?_
      refine lv_icmp_ne (tgt := 22) hx hb d_16_21_15 (by decide) (fun c35 => ?_) (fun c35 => ?_)
      ·
        refine lv_iconst (v := 0) hx hb d_16_21_22 (by decide) ?_
        exact q_retz C0 V (by decide) (⟨rfl, (show 0 ≤ (0 : Int32).toInt from (by have z23 : (0 : Int32).toInt = 0 := rfl; omega)), (show (0 : Int32).toInt ≤ 1 from (by have z23 : (0 : Int32).toInt = 0 := rfl; omega)), (show (0 : Int32) = (F_VR_isNumeric x2 t0_0 t0_1 t0_2 t0_3 t0_4 t0_5 t0_6 t0_7 t0_8 t0_9 t0_10 t0_11 t0_12 t0_13 t0_14 t0_15 t0_16 t0_17 t0_18 t0_19 t0_20 t0_21) from (by rw [F_VR_isNumeric.eq_1, if_neg c29, if_neg c32, if_neg c35]))⟩) d_16_21_23
      ·
        refine lv_iconst (v := 1) hx hb d_16_21_18 (by decide) ?_
        refine lv_goto (tgt := 23) hx hb d_16_21_19 (by decide) ?_
        exact q_retz C0 V (by decide) (⟨rfl, (show 0 ≤ (1 : Int32).toInt from (by have z23 : (1 : Int32).toInt = 1 := rfl; omega)), (show (1 : Int32).toInt ≤ 1 from (by have z23 : (1 : Int32).toInt = 1 := rfl; omega)), (show (1 : Int32) = (F_VR_isNumeric x2 t0_0 t0_1 t0_2 t0_3 t0_4 t0_5 t0_6 t0_7 t0_8 t0_9 t0_10 t0_11 t0_12 t0_13 t0_14 t0_15 t0_16 t0_17 t0_18 t0_19 t0_20 t0_21) from (by rw [F_VR_isNumeric.eq_1, if_neg c29, if_neg c32, if_pos c35]))⟩) d_16_21_23
theorem d_16_20_0 : decode prog_16_method_20_code 0 = .ok (.iload_n 0, 1) := by decide +kernel
theorem d_16_20_1 : decode prog_16_method_20_code 1 = .ok (.lookupswitch 78 #[(100, 59), (101, 70), (102, 66), (103, 74), (111, 63), (120, 63)], 59) := by decide +kernel
theorem d_16_20_60 : decode prog_16_method_20_code 60 = .ok (.sipush 253, 3) := by decide +kernel
theorem d_16_20_63 : decode prog_16_method_20_code 63 = .ok (.ireturn, 1) := by decide +kernel
theorem d_16_20_71 : decode prog_16_method_20_code 71 = .ok (.sipush 239, 3) := by decide +kernel
theorem d_16_20_74 : decode prog_16_method_20_code 74 = .ok (.ireturn, 1) := by decide +kernel
theorem d_16_20_67 : decode prog_16_method_20_code 67 = .ok (.sipush 255, 3) := by decide +kernel
theorem d_16_20_70 : decode prog_16_method_20_code 70 = .ok (.ireturn, 1) := by decide +kernel
theorem d_16_20_75 : decode prog_16_method_20_code 75 = .ok (.sipush 253, 3) := by decide +kernel
theorem d_16_20_78 : decode prog_16_method_20_code 78 = .ok (.ireturn, 1) := by decide +kernel
theorem d_16_20_64 : decode prog_16_method_20_code 64 = .ok (.bipush 75, 2) := by decide +kernel
theorem d_16_20_66 : decode prog_16_method_20_code 66 = .ok (.ireturn, 1) := by decide +kernel
theorem d_16_20_79 : decode prog_16_method_20_code 79 = .ok (.bipush 65, 2) := by decide +kernel
theorem d_16_20_81 : decode prog_16_method_20_code 81 = .ok (.ireturn, 1) := by decide +kernel
def y_VR_allowed : MethodName := ⟨"NumberHouseModel$DirectiveRows", "allowed", "(I)I"⟩
def F_VR_allowed (x1 : Int32) : Int32 := if x1 = (100 : Int32) then ((253 : Int32)) else (if x1 = (101 : Int32) then ((239 : Int32)) else (if x1 = (102 : Int32) then ((255 : Int32)) else (if x1 = (103 : Int32) then ((253 : Int32)) else (if x1 = (111 : Int32) then ((75 : Int32)) else (if x1 = (120 : Int32) then ((75 : Int32)) else ((65 : Int32)))))))
set_option maxRecDepth 100000 in
set_option maxHeartbeats 4000000 in
theorem X_VR_allowed (l : Launch) (D : va_G) (g : Nat → ClassId) (q : Nat → Nat) (ws : va_W) (x1 : Int32) (hI : q_I (msh g q) q ws) : q_mI l y_VR_allowed prog_16_method_20_code 1 (.int) 1 0 0 D g [.int x1] ws (fun r u => ws = u ∧ (65 ≤ r.toInt) ∧ (r.toInt ≤ 255) ∧ r = (F_VR_allowed x1)) := by
  intro sz
  refine q_into (by decide) (Nat.le_of_ble_eq_true rfl) ?_
  intro p e s m below meth c ls hsz C0 V hl
  have hx := C0.1
  have hb := C0.2.1
  have hl : lv_has ls 1 [(0, .int x1)] := hl
  refine lv_iload_n hx hb d_16_20_0 rfl (lv_at hl 0 rfl) ?_
  by_cases c1 : x1 = 100
  ·
    refine q_ti (v := 100) c1 ?_
    refine lv_lookup (tgt := 60) (off := 59) hx hb d_16_20_1 (by decide) (by decide) (by decide) ?_
    refine lv_sipush (v := 253) hx hb d_16_20_60 (by decide) ?_
    exact q_reti C0 V (⟨rfl, (show 65 ≤ (253 : Int32).toInt from (by have z1 : (253 : Int32).toInt = 253 := rfl; omega)), (show (253 : Int32).toInt ≤ 255 from (by have z1 : (253 : Int32).toInt = 253 := rfl; omega)), (show (253 : Int32) = (F_VR_allowed x1) from (by rw [F_VR_allowed.eq_1, if_pos c1]))⟩) d_16_20_63
  by_cases c4 : x1 = 101
  ·
    refine q_ti (v := 101) c4 ?_
    refine lv_lookup (tgt := 71) (off := 70) hx hb d_16_20_1 (by decide) (by decide) (by decide) ?_
    refine lv_sipush (v := 239) hx hb d_16_20_71 (by decide) ?_
    exact q_reti C0 V (⟨rfl, (show 65 ≤ (239 : Int32).toInt from (by have z1 : (239 : Int32).toInt = 239 := rfl; omega)), (show (239 : Int32).toInt ≤ 255 from (by have z1 : (239 : Int32).toInt = 239 := rfl; omega)), (show (239 : Int32) = (F_VR_allowed x1) from (by rw [F_VR_allowed.eq_1, if_neg c1, if_pos c4]))⟩) d_16_20_74
  by_cases c7 : x1 = 102
  ·
    refine q_ti (v := 102) c7 ?_
    refine lv_lookup (tgt := 67) (off := 66) hx hb d_16_20_1 (by decide) (by decide) (by decide) ?_
    refine lv_sipush (v := 255) hx hb d_16_20_67 (by decide) ?_
    exact q_reti C0 V (⟨rfl, (show 65 ≤ (255 : Int32).toInt from (by have z1 : (255 : Int32).toInt = 255 := rfl; omega)), (show (255 : Int32).toInt ≤ 255 from (by have z1 : (255 : Int32).toInt = 255 := rfl; omega)), (show (255 : Int32) = (F_VR_allowed x1) from (by rw [F_VR_allowed.eq_1, if_neg c1, if_neg c4, if_pos c7]))⟩) d_16_20_70
  by_cases c10 : x1 = 103
  ·
    refine q_ti (v := 103) c10 ?_
    refine lv_lookup (tgt := 75) (off := 74) hx hb d_16_20_1 (by decide) (by decide) (by decide) ?_
    refine lv_sipush (v := 253) hx hb d_16_20_75 (by decide) ?_
    exact q_reti C0 V (⟨rfl, (show 65 ≤ (253 : Int32).toInt from (by have z1 : (253 : Int32).toInt = 253 := rfl; omega)), (show (253 : Int32).toInt ≤ 255 from (by have z1 : (253 : Int32).toInt = 253 := rfl; omega)), (show (253 : Int32) = (F_VR_allowed x1) from (by rw [F_VR_allowed.eq_1, if_neg c1, if_neg c4, if_neg c7, if_pos c10]))⟩) d_16_20_78
  by_cases c13 : x1 = 111
  ·
    refine q_ti (v := 111) c13 ?_
    refine lv_lookup (tgt := 64) (off := 63) hx hb d_16_20_1 (by decide) (by decide) (by decide) ?_
    refine lv_bipush (v := 75) hx hb d_16_20_64 (by decide) ?_
    exact q_reti C0 V (⟨rfl, (show 65 ≤ (75 : Int32).toInt from (by have z1 : (75 : Int32).toInt = 75 := rfl; omega)), (show (75 : Int32).toInt ≤ 255 from (by have z1 : (75 : Int32).toInt = 75 := rfl; omega)), (show (75 : Int32) = (F_VR_allowed x1) from (by rw [F_VR_allowed.eq_1, if_neg c1, if_neg c4, if_neg c7, if_neg c10, if_pos c13]))⟩) d_16_20_66
  by_cases c16 : x1 = 120
  ·
    refine q_ti (v := 120) c16 ?_
    refine lv_lookup (tgt := 64) (off := 63) hx hb d_16_20_1 (by decide) (by decide) (by decide) ?_
    refine lv_bipush (v := 75) hx hb d_16_20_64 (by decide) ?_
    exact q_reti C0 V (⟨rfl, (show 65 ≤ (75 : Int32).toInt from (by have z1 : (75 : Int32).toInt = 75 := rfl; omega)), (show (75 : Int32).toInt ≤ 255 from (by have z1 : (75 : Int32).toInt = 75 := rfl; omega)), (show (75 : Int32) = (F_VR_allowed x1) from (by rw [F_VR_allowed.eq_1, if_neg c1, if_neg c4, if_neg c7, if_neg c10, if_neg c13, if_pos c16]))⟩) d_16_20_66
  refine lv_lookup (tgt := 79) (off := 78) hx hb d_16_20_1 (by decide) (by rw [lv_osw c1 (by decide), lv_osw c4 (by decide), lv_osw c7 (by decide), lv_osw c10 (by decide), lv_osw c13 (by decide), lv_osw c16 (by decide)]; rfl) (by decide) ?_
  refine lv_bipush (v := 65) hx hb d_16_20_79 (by decide) ?_
  exact q_reti C0 V (⟨rfl, (show 65 ≤ (65 : Int32).toInt from (by have z1 : (65 : Int32).toInt = 65 := rfl; omega)), (show (65 : Int32).toInt ≤ 255 from (by have z1 : (65 : Int32).toInt = 65 := rfl; omega)), (show (65 : Int32) = (F_VR_allowed x1) from (by rw [F_VR_allowed.eq_1, if_neg c1, if_neg c4, if_neg c7, if_neg c10, if_neg c13, if_neg c16]))⟩) d_16_20_81
theorem d_16_23_0 : decode prog_16_method_23_code 0 = .ok (.aload_n 0, 1) := by decide +kernel
theorem d_16_23_1 : decode prog_16_method_23_code 1 = .ok (.bipush 60, 2) := by decide +kernel
theorem d_16_23_3 : decode prog_16_method_23_code 3 = .ok (.invokevirtual 91, 3) := by decide +kernel
theorem d_16_23_58 : decode prog_16_method_23_code 58 = .ok (.aload_n 0, 1) := by decide +kernel
theorem d_16_23_59 : decode prog_16_method_23_code 59 = .ok (.getfield 113, 3) := by decide +kernel
set_option maxRecDepth 100000 in
theorem w_2225 : (Cond.fieldLink "NumberHouseModel$DirectiveRows" (113 : Nat) "NumberHouseModel$DirectiveRows" "argument" "I") ∈ q_tbl := q_of10 65 rfl (by decide +kernel)
theorem d_16_23_62 : decode prog_16_method_23_code 62 = .ok (.ifCond .lt 14, 3) := by decide +kernel
theorem d_16_23_76 : decode prog_16_method_23_code 76 = .ok (.bipush 9, 2) := by decide +kernel
theorem d_16_23_78 : decode prog_16_method_23_code 78 = .ok (.ireturn, 1) := by decide +kernel
theorem d_16_23_65 : decode prog_16_method_23_code 65 = .ok (.aload_n 0, 1) := by decide +kernel
theorem d_16_23_66 : decode prog_16_method_23_code 66 = .ok (.getfield 113, 3) := by decide +kernel
theorem d_16_23_69 : decode prog_16_method_23_code 69 = .ok (.aload_n 0, 1) := by decide +kernel
theorem d_16_23_70 : decode prog_16_method_23_code 70 = .ok (.getfield 50, 3) := by decide +kernel
theorem d_16_23_73 : decode prog_16_method_23_code 73 = .ok (.if_icmp .lt 6, 3) := by decide +kernel
theorem d_16_23_79 : decode prog_16_method_23_code 79 = .ok (.aload_n 0, 1) := by decide +kernel
theorem d_16_23_80 : decode prog_16_method_23_code 80 = .ok (.aload_n 0, 1) := by decide +kernel
theorem d_16_23_81 : decode prog_16_method_23_code 81 = .ok (.getfield 113, 3) := by decide +kernel
theorem d_16_23_84 : decode prog_16_method_23_code 84 = .ok (.putfield 110, 3) := by decide +kernel
set_option maxRecDepth 100000 in
theorem w_2227 : (Cond.fieldLink "NumberHouseModel$DirectiveRows" (110 : Nat) "NumberHouseModel$DirectiveRows" "latest" "I") ∈ q_tbl := q_of10 67 rfl (by decide +kernel)
theorem d_16_23_87 : decode prog_16_method_23_code 87 = .ok (.aload_n 0, 1) := by decide +kernel
theorem d_16_23_88 : decode prog_16_method_23_code 88 = .ok (.getfield 13, 3) := by decide +kernel
theorem d_16_23_91 : decode prog_16_method_23_code 91 = .ok (.aload_n 0, 1) := by decide +kernel
theorem d_16_23_92 : decode prog_16_method_23_code 92 = .ok (.getfield 113, 3) := by decide +kernel
theorem d_16_23_95 : decode prog_16_method_23_code 95 = .ok (.iaload, 1) := by decide +kernel
theorem d_16_23_96 : decode prog_16_method_23_code 96 = .ok (.istore_n 2, 1) := by decide +kernel
theorem d_16_23_97 : decode prog_16_method_23_code 97 = .ok (.iload_n 2, 1) := by decide +kernel
theorem d_16_23_98 : decode prog_16_method_23_code 98 = .ok (.iconst 3, 1) := by decide +kernel
theorem d_16_23_121 : decode prog_16_method_23_code 121 = .ok (.istore_n 3, 1) := by decide +kernel
theorem d_16_23_122 : decode prog_16_method_23_code 122 = .ok (.iload_n 1, 1) := by decide +kernel
theorem d_16_23_123 : decode prog_16_method_23_code 123 = .ok (.bipush 99, 2) := by decide +kernel
theorem d_16_23_152 : decode prog_16_method_23_code 152 = .ok (.istore 4, 2) := by decide +kernel
theorem d_16_23_154 : decode prog_16_method_23_code 154 = .ok (.iload 4, 2) := by decide +kernel
theorem d_16_23_181 : decode prog_16_method_23_code 181 = .ok (.istore 4, 2) := by decide +kernel
theorem d_16_23_183 : decode prog_16_method_23_code 183 = .ok (.iload 4, 2) := by decide +kernel
theorem d_16_23_220 : decode prog_16_method_23_code 220 = .ok (.istore 4, 2) := by decide +kernel
theorem d_16_23_222 : decode prog_16_method_23_code 222 = .ok (.iload 4, 2) := by decide +kernel
theorem d_16_23_224 : decode prog_16_method_23_code 224 = .ok (.ifCond .eq 6, 3) := by decide +kernel
theorem d_16_23_230 : decode prog_16_method_23_code 230 = .ok (.iload_n 1, 1) := by decide +kernel
theorem d_16_23_231 : decode prog_16_method_23_code 231 = .ok (.bipush 99, 2) := by decide +kernel
theorem d_16_23_233 : decode prog_16_method_23_code 233 = .ok (.if_icmp .ne 43, 3) := by decide +kernel
theorem d_16_23_276 : decode prog_16_method_23_code 276 = .ok (.iconst 0, 1) := by decide +kernel
theorem d_16_23_277 : decode prog_16_method_23_code 277 = .ok (.ireturn, 1) := by decide +kernel
theorem d_16_23_236 : decode prog_16_method_23_code 236 = .ok (.iload_n 2, 1) := by decide +kernel
theorem d_16_23_237 : decode prog_16_method_23_code 237 = .ok (.iconst 3, 1) := by decide +kernel
theorem d_16_23_238 : decode prog_16_method_23_code 238 = .ok (.if_icmp .ne 38, 3) := by decide +kernel
theorem d_16_23_241 : decode prog_16_method_23_code 241 = .ok (.aload_n 0, 1) := by decide +kernel
theorem d_16_23_242 : decode prog_16_method_23_code 242 = .ok (.getfield 19, 3) := by decide +kernel
theorem d_16_23_245 : decode prog_16_method_23_code 245 = .ok (.aload_n 0, 1) := by decide +kernel
theorem d_16_23_246 : decode prog_16_method_23_code 246 = .ok (.getfield 113, 3) := by decide +kernel
theorem d_16_23_249 : decode prog_16_method_23_code 249 = .ok (.laload, 1) := by decide +kernel
theorem d_16_23_250 : decode prog_16_method_23_code 250 = .ok (.lconst 0, 1) := by decide +kernel
theorem d_16_23_251 : decode prog_16_method_23_code 251 = .ok (.lcmp, 1) := by decide +kernel
theorem d_16_23_252 : decode prog_16_method_23_code 252 = .ok (.ifCond .lt 19, 3) := by decide +kernel
theorem d_16_23_271 : decode prog_16_method_23_code 271 = .ok (.bipush 11, 2) := by decide +kernel
theorem d_16_23_273 : decode prog_16_method_23_code 273 = .ok (.goto 4, 3) := by decide +kernel
theorem d_16_23_255 : decode prog_16_method_23_code 255 = .ok (.aload_n 0, 1) := by decide +kernel
theorem d_16_23_256 : decode prog_16_method_23_code 256 = .ok (.getfield 19, 3) := by decide +kernel
theorem d_16_23_259 : decode prog_16_method_23_code 259 = .ok (.aload_n 0, 1) := by decide +kernel
theorem d_16_23_260 : decode prog_16_method_23_code 260 = .ok (.getfield 113, 3) := by decide +kernel
theorem d_16_23_263 : decode prog_16_method_23_code 263 = .ok (.laload, 1) := by decide +kernel
theorem d_16_23_264 : decode prog_16_method_23_code 264 = .ok (.ldc2_w 48, 3) := by decide +kernel
set_option maxRecDepth 100000 in
theorem w_3162 : (Cond.constantLong "NumberHouseModel$DirectiveRows" (48 : Nat) (255 : Int64)) ∈ q_tbl := q_of14 42 rfl (by decide +kernel)
theorem d_16_23_267 : decode prog_16_method_23_code 267 = .ok (.lcmp, 1) := by decide +kernel
theorem d_16_23_268 : decode prog_16_method_23_code 268 = .ok (.ifCond .le 8, 3) := by decide +kernel
theorem d_16_23_227 : decode prog_16_method_23_code 227 = .ok (.bipush 10, 2) := by decide +kernel
theorem d_16_23_229 : decode prog_16_method_23_code 229 = .ok (.ireturn, 1) := by decide +kernel
theorem d_16_23_215 : decode prog_16_method_23_code 215 = .ok (.iconst 1, 1) := by decide +kernel
theorem d_16_23_216 : decode prog_16_method_23_code 216 = .ok (.goto 4, 3) := by decide +kernel
theorem d_16_23_185 : decode prog_16_method_23_code 185 = .ok (.ifCond .ne 30, 3) := by decide +kernel
theorem d_16_23_188 : decode prog_16_method_23_code 188 = .ok (.iload_n 1, 1) := by decide +kernel
theorem d_16_23_189 : decode prog_16_method_23_code 189 = .ok (.bipush 102, 2) := by decide +kernel
theorem d_16_23_219 : decode prog_16_method_23_code 219 = .ok (.iconst 0, 1) := by decide +kernel
theorem d_16_23_206 : decode prog_16_method_23_code 206 = .ok (.iload_n 2, 1) := by decide +kernel
theorem d_16_23_207 : decode prog_16_method_23_code 207 = .ok (.iconst 5, 1) := by decide +kernel
theorem d_16_23_208 : decode prog_16_method_23_code 208 = .ok (.if_icmp .eq 11, 3) := by decide +kernel
theorem d_16_23_211 : decode prog_16_method_23_code 211 = .ok (.iload_n 2, 1) := by decide +kernel
theorem d_16_23_212 : decode prog_16_method_23_code 212 = .ok (.ifCond .eq 7, 3) := by decide +kernel
theorem d_16_23_191 : decode prog_16_method_23_code 191 = .ok (.if_icmp .eq 15, 3) := by decide +kernel
theorem d_16_23_194 : decode prog_16_method_23_code 194 = .ok (.iload_n 1, 1) := by decide +kernel
theorem d_16_23_195 : decode prog_16_method_23_code 195 = .ok (.bipush 101, 2) := by decide +kernel
theorem d_16_23_197 : decode prog_16_method_23_code 197 = .ok (.if_icmp .eq 9, 3) := by decide +kernel
theorem d_16_23_200 : decode prog_16_method_23_code 200 = .ok (.iload_n 1, 1) := by decide +kernel
theorem d_16_23_201 : decode prog_16_method_23_code 201 = .ok (.bipush 103, 2) := by decide +kernel
theorem d_16_23_203 : decode prog_16_method_23_code 203 = .ok (.if_icmp .ne 16, 3) := by decide +kernel
theorem d_16_23_176 : decode prog_16_method_23_code 176 = .ok (.iconst 1, 1) := by decide +kernel
theorem d_16_23_177 : decode prog_16_method_23_code 177 = .ok (.goto 4, 3) := by decide +kernel
theorem d_16_23_156 : decode prog_16_method_23_code 156 = .ok (.ifCond .ne 20, 3) := by decide +kernel
theorem d_16_23_159 : decode prog_16_method_23_code 159 = .ok (.aload_n 0, 1) := by decide +kernel
theorem d_16_23_160 : decode prog_16_method_23_code 160 = .ok (.iload_n 1, 1) := by decide +kernel
theorem d_16_23_161 : decode prog_16_method_23_code 161 = .ok (.invokevirtual 101, 3) := by decide +kernel
set_option maxRecDepth 100000 in
theorem w_3154 : (Cond.code ({ cls := "NumberHouseModel$DirectiveRows", name := "isNumeric", desc := "(I)Z" } : MethodName) prog_16_method_21_code (2 : Nat) (some .boolean)) ∈ q_tbl := q_of14 34 rfl (by decide +kernel)
set_option maxRecDepth 100000 in
theorem w_3151 : (Cond.methodLink "NumberHouseModel$DirectiveRows" (101 : Nat) ({ cls := "NumberHouseModel$DirectiveRows", name := "isNumeric", desc := "(I)Z" } : MethodName)) ∈ q_tbl := q_of14 31 rfl (by decide +kernel)
set_option maxRecDepth 100000 in
theorem w_3153 : (Cond.instanceMethod ({ cls := "NumberHouseModel$DirectiveRows", name := "isNumeric", desc := "(I)Z" } : MethodName)) ∈ q_tbl := q_of14 33 rfl (by decide +kernel)
theorem ws_159 : Cond.selects "NumberHouseModel$DirectiveRows" (⟨"NumberHouseModel$DirectiveRows", "isNumeric", "(I)Z"⟩ : MethodName) (⟨"NumberHouseModel$DirectiveRows", "isNumeric", "(I)Z"⟩ : MethodName) ∈ q_tbl := q_ofs 159 (by decide +kernel) (by decide +kernel)
theorem LV_VR_101 : q_LV "NumberHouseModel$DirectiveRows" 101 y_VR_isNumeric prog_16_method_21_code 2 (some .boolean) 1 := ⟨w_3154, w_19, w_3151, w_3153, ws_159, ⟨by decide, by decide, by decide +kernel⟩⟩
theorem d_16_23_180 : decode prog_16_method_23_code 180 = .ok (.iconst 0, 1) := by decide +kernel
theorem d_16_23_164 : decode prog_16_method_23_code 164 = .ok (.ifCond .eq 16, 3) := by decide +kernel
theorem d_16_23_167 : decode prog_16_method_23_code 167 = .ok (.iload_n 2, 1) := by decide +kernel
theorem d_16_23_168 : decode prog_16_method_23_code 168 = .ok (.iconst 3, 1) := by decide +kernel
theorem d_16_23_169 : decode prog_16_method_23_code 169 = .ok (.if_icmp .eq 11, 3) := by decide +kernel
theorem d_16_23_172 : decode prog_16_method_23_code 172 = .ok (.iload_n 2, 1) := by decide +kernel
theorem d_16_23_173 : decode prog_16_method_23_code 173 = .ok (.ifCond .eq 7, 3) := by decide +kernel
theorem d_16_23_151 : decode prog_16_method_23_code 151 = .ok (.iconst 0, 1) := by decide +kernel
theorem d_16_23_125 : decode prog_16_method_23_code 125 = .ok (.if_icmp .ne 26, 3) := by decide +kernel
theorem d_16_23_128 : decode prog_16_method_23_code 128 = .ok (.iload_n 2, 1) := by decide +kernel
theorem d_16_23_129 : decode prog_16_method_23_code 129 = .ok (.iconst 1, 1) := by decide +kernel
theorem d_16_23_147 : decode prog_16_method_23_code 147 = .ok (.iconst 1, 1) := by decide +kernel
theorem d_16_23_148 : decode prog_16_method_23_code 148 = .ok (.goto 4, 3) := by decide +kernel
theorem d_16_23_130 : decode prog_16_method_23_code 130 = .ok (.if_icmp .eq 17, 3) := by decide +kernel
theorem d_16_23_133 : decode prog_16_method_23_code 133 = .ok (.iload_n 2, 1) := by decide +kernel
theorem d_16_23_134 : decode prog_16_method_23_code 134 = .ok (.iconst 4, 1) := by decide +kernel
theorem d_16_23_135 : decode prog_16_method_23_code 135 = .ok (.if_icmp .eq 12, 3) := by decide +kernel
theorem d_16_23_138 : decode prog_16_method_23_code 138 = .ok (.iload_n 2, 1) := by decide +kernel
theorem d_16_23_139 : decode prog_16_method_23_code 139 = .ok (.iconst 5, 1) := by decide +kernel
theorem d_16_23_140 : decode prog_16_method_23_code 140 = .ok (.if_icmp .eq 7, 3) := by decide +kernel
theorem d_16_23_143 : decode prog_16_method_23_code 143 = .ok (.iload_n 3, 1) := by decide +kernel
theorem d_16_23_144 : decode prog_16_method_23_code 144 = .ok (.ifCond .eq 7, 3) := by decide +kernel
theorem d_16_23_120 : decode prog_16_method_23_code 120 = .ok (.iconst 0, 1) := by decide +kernel
theorem d_16_23_99 : decode prog_16_method_23_code 99 = .ok (.if_icmp .ne 21, 3) := by decide +kernel
theorem d_16_23_102 : decode prog_16_method_23_code 102 = .ok (.aload_n 0, 1) := by decide +kernel
theorem d_16_23_103 : decode prog_16_method_23_code 103 = .ok (.getfield 16, 3) := by decide +kernel
theorem d_16_23_106 : decode prog_16_method_23_code 106 = .ok (.aload_n 0, 1) := by decide +kernel
theorem d_16_23_107 : decode prog_16_method_23_code 107 = .ok (.getfield 113, 3) := by decide +kernel
theorem d_16_23_110 : decode prog_16_method_23_code 110 = .ok (.iaload, 1) := by decide +kernel
theorem d_16_23_111 : decode prog_16_method_23_code 111 = .ok (.bipush 64, 2) := by decide +kernel
theorem d_16_23_113 : decode prog_16_method_23_code 113 = .ok (.if_icmp .ne 7, 3) := by decide +kernel
theorem d_16_23_116 : decode prog_16_method_23_code 116 = .ok (.iconst 1, 1) := by decide +kernel
theorem d_16_23_117 : decode prog_16_method_23_code 117 = .ok (.goto 4, 3) := by decide +kernel
theorem d_16_23_6 : decode prog_16_method_23_code 6 = .ok (.ifCond .eq 14, 3) := by decide +kernel
theorem d_16_23_20 : decode prog_16_method_23_code 20 = .ok (.aload_n 0, 1) := by decide +kernel
theorem d_16_23_21 : decode prog_16_method_23_code 21 = .ok (.getfield 75, 3) := by decide +kernel
theorem d_16_23_24 : decode prog_16_method_23_code 24 = .ok (.ifCond .le 16, 3) := by decide +kernel
theorem d_16_23_40 : decode prog_16_method_23_code 40 = .ok (.aload_n 0, 1) := by decide +kernel
theorem d_16_23_41 : decode prog_16_method_23_code 41 = .ok (.aload_n 0, 1) := by decide +kernel
theorem d_16_23_42 : decode prog_16_method_23_code 42 = .ok (.getfield 116, 3) := by decide +kernel
set_option maxRecDepth 100000 in
theorem w_2226 : (Cond.fieldLink "NumberHouseModel$DirectiveRows" (116 : Nat) "NumberHouseModel$DirectiveRows" "next" "I") ∈ q_tbl := q_of10 66 rfl (by decide +kernel)
theorem d_16_23_45 : decode prog_16_method_23_code 45 = .ok (.putfield 113, 3) := by decide +kernel
theorem d_16_23_48 : decode prog_16_method_23_code 48 = .ok (.aload_n 0, 1) := by decide +kernel
theorem d_16_23_49 : decode prog_16_method_23_code 49 = .ok (.dup, 1) := by decide +kernel
theorem d_16_23_50 : decode prog_16_method_23_code 50 = .ok (.getfield 116, 3) := by decide +kernel
theorem d_16_23_53 : decode prog_16_method_23_code 53 = .ok (.iconst 1, 1) := by decide +kernel
theorem d_16_23_54 : decode prog_16_method_23_code 54 = .ok (.iadd, 1) := by decide +kernel
theorem d_16_23_55 : decode prog_16_method_23_code 55 = .ok (.putfield 116, 3) := by decide +kernel
theorem d_16_23_27 : decode prog_16_method_23_code 27 = .ok (.aload_n 0, 1) := by decide +kernel
theorem d_16_23_28 : decode prog_16_method_23_code 28 = .ok (.aload_n 0, 1) := by decide +kernel
theorem d_16_23_29 : decode prog_16_method_23_code 29 = .ok (.getfield 75, 3) := by decide +kernel
theorem d_16_23_32 : decode prog_16_method_23_code 32 = .ok (.iconst 1, 1) := by decide +kernel
theorem d_16_23_33 : decode prog_16_method_23_code 33 = .ok (.isub, 1) := by decide +kernel
theorem d_16_23_34 : decode prog_16_method_23_code 34 = .ok (.putfield 113, 3) := by decide +kernel
theorem d_16_23_37 : decode prog_16_method_23_code 37 = .ok (.goto 21, 3) := by decide +kernel
theorem d_16_23_9 : decode prog_16_method_23_code 9 = .ok (.aload_n 0, 1) := by decide +kernel
theorem d_16_23_10 : decode prog_16_method_23_code 10 = .ok (.aload_n 0, 1) := by decide +kernel
theorem d_16_23_11 : decode prog_16_method_23_code 11 = .ok (.getfield 110, 3) := by decide +kernel
theorem d_16_23_14 : decode prog_16_method_23_code 14 = .ok (.putfield 113, 3) := by decide +kernel
theorem d_16_23_17 : decode prog_16_method_23_code 17 = .ok (.goto 41, 3) := by decide +kernel
def y_VR_chosen : MethodName := ⟨"NumberHouseModel$DirectiveRows", "chosen", "(I)I"⟩
def F_VR_chosen_J220 (x2 : Int32) (t0_0 : Int32) (t0_1 : Int32) (t0_2 : Int32) (t0_3 : Int32) (t0_4 : Int32) (t0_5 : Int32) (t0_6 : Int32) (t0_7 : Int32) (t0_8 : Int32) (t0_9 : Int32) (t0_10 : Int32) (t0_11 : Int32) (t0_12 : Int32) (t0_13 : Int32) (t0_14 : Int32) (t0_15 : Int32) (t0_16 : Int32) (t0_17 : Int32) (t0_18 : Int32) (t0_19 : Int32) (t0_20 : Int32) (t0_21 : Int32) (t1_0 : (Nat → Int32)) (t2_0 : (Nat → Int32)) (t3_0 : (Nat → Int64)) (lx44 : Int32) (lx45 : Int32) (a64 : Int32) (lx66 : Int32) (lx79 : Int32) (lx92 : Int32) (lx105 : Int32) : Int32 × Int32 × Int32 × Int32 := if lx105 = (0 : Int32) then (if x2 = (99 : Int32) then (if a64 = (3 : Int32) then (if (lg_cmp (t3_0 lx44.toNatClampNeg : Int64) 0 : Int32) < (0 : Int32) then (((11 : Int32), lx44, lx45, lx44)) else (if (lg_cmp (t3_0 lx44.toNatClampNeg : Int64) 255 : Int32) ≤ (0 : Int32) then (((0 : Int32), lx44, lx45, lx44)) else (((11 : Int32), lx44, lx45, lx44)))) else (((0 : Int32), lx44, lx45, lx44))) else (((0 : Int32), lx44, lx45, lx44))) else (((10 : Int32), lx44, lx45, lx44))
def F_VR_chosen_J215 (x2 : Int32) (t0_0 : Int32) (t0_1 : Int32) (t0_2 : Int32) (t0_3 : Int32) (t0_4 : Int32) (t0_5 : Int32) (t0_6 : Int32) (t0_7 : Int32) (t0_8 : Int32) (t0_9 : Int32) (t0_10 : Int32) (t0_11 : Int32) (t0_12 : Int32) (t0_13 : Int32) (t0_14 : Int32) (t0_15 : Int32) (t0_16 : Int32) (t0_17 : Int32) (t0_18 : Int32) (t0_19 : Int32) (t0_20 : Int32) (t0_21 : Int32) (t1_0 : (Nat → Int32)) (t2_0 : (Nat → Int32)) (t3_0 : (Nat → Int64)) (lx44 : Int32) (lx45 : Int32) (a64 : Int32) (lx66 : Int32) (lx79 : Int32) (lx92 : Int32) : Int32 × Int32 × Int32 × Int32 := F_VR_chosen_J220 x2 t0_0 t0_1 t0_2 t0_3 t0_4 t0_5 t0_6 t0_7 t0_8 t0_9 t0_10 t0_11 t0_12 t0_13 t0_14 t0_15 t0_16 t0_17 t0_18 t0_19 t0_20 t0_21 t1_0 t2_0 t3_0 lx44 lx45 a64 lx66 lx79 lx92 1
def F_VR_chosen_J219 (x2 : Int32) (t0_0 : Int32) (t0_1 : Int32) (t0_2 : Int32) (t0_3 : Int32) (t0_4 : Int32) (t0_5 : Int32) (t0_6 : Int32) (t0_7 : Int32) (t0_8 : Int32) (t0_9 : Int32) (t0_10 : Int32) (t0_11 : Int32) (t0_12 : Int32) (t0_13 : Int32) (t0_14 : Int32) (t0_15 : Int32) (t0_16 : Int32) (t0_17 : Int32) (t0_18 : Int32) (t0_19 : Int32) (t0_20 : Int32) (t0_21 : Int32) (t1_0 : (Nat → Int32)) (t2_0 : (Nat → Int32)) (t3_0 : (Nat → Int64)) (lx44 : Int32) (lx45 : Int32) (a64 : Int32) (lx66 : Int32) (lx79 : Int32) (lx92 : Int32) : Int32 × Int32 × Int32 × Int32 := F_VR_chosen_J220 x2 t0_0 t0_1 t0_2 t0_3 t0_4 t0_5 t0_6 t0_7 t0_8 t0_9 t0_10 t0_11 t0_12 t0_13 t0_14 t0_15 t0_16 t0_17 t0_18 t0_19 t0_20 t0_21 t1_0 t2_0 t3_0 lx44 lx45 a64 lx66 lx79 lx92 0
def F_VR_chosen_J206 (x2 : Int32) (t0_0 : Int32) (t0_1 : Int32) (t0_2 : Int32) (t0_3 : Int32) (t0_4 : Int32) (t0_5 : Int32) (t0_6 : Int32) (t0_7 : Int32) (t0_8 : Int32) (t0_9 : Int32) (t0_10 : Int32) (t0_11 : Int32) (t0_12 : Int32) (t0_13 : Int32) (t0_14 : Int32) (t0_15 : Int32) (t0_16 : Int32) (t0_17 : Int32) (t0_18 : Int32) (t0_19 : Int32) (t0_20 : Int32) (t0_21 : Int32) (t1_0 : (Nat → Int32)) (t2_0 : (Nat → Int32)) (t3_0 : (Nat → Int64)) (lx44 : Int32) (lx45 : Int32) (a64 : Int32) (lx66 : Int32) (lx79 : Int32) (lx92 : Int32) : Int32 × Int32 × Int32 × Int32 := if a64 = (5 : Int32) then (F_VR_chosen_J219 x2 t0_0 t0_1 t0_2 t0_3 t0_4 t0_5 t0_6 t0_7 t0_8 t0_9 t0_10 t0_11 t0_12 t0_13 t0_14 t0_15 t0_16 t0_17 t0_18 t0_19 t0_20 t0_21 t1_0 t2_0 t3_0 lx44 lx45 a64 lx66 lx79 lx92) else (if a64 = (0 : Int32) then (F_VR_chosen_J219 x2 t0_0 t0_1 t0_2 t0_3 t0_4 t0_5 t0_6 t0_7 t0_8 t0_9 t0_10 t0_11 t0_12 t0_13 t0_14 t0_15 t0_16 t0_17 t0_18 t0_19 t0_20 t0_21 t1_0 t2_0 t3_0 lx44 lx45 a64 lx66 lx79 lx92) else (F_VR_chosen_J215 x2 t0_0 t0_1 t0_2 t0_3 t0_4 t0_5 t0_6 t0_7 t0_8 t0_9 t0_10 t0_11 t0_12 t0_13 t0_14 t0_15 t0_16 t0_17 t0_18 t0_19 t0_20 t0_21 t1_0 t2_0 t3_0 lx44 lx45 a64 lx66 lx79 lx92))
def F_VR_chosen_J181 (x2 : Int32) (t0_0 : Int32) (t0_1 : Int32) (t0_2 : Int32) (t0_3 : Int32) (t0_4 : Int32) (t0_5 : Int32) (t0_6 : Int32) (t0_7 : Int32) (t0_8 : Int32) (t0_9 : Int32) (t0_10 : Int32) (t0_11 : Int32) (t0_12 : Int32) (t0_13 : Int32) (t0_14 : Int32) (t0_15 : Int32) (t0_16 : Int32) (t0_17 : Int32) (t0_18 : Int32) (t0_19 : Int32) (t0_20 : Int32) (t0_21 : Int32) (t1_0 : (Nat → Int32)) (t2_0 : (Nat → Int32)) (t3_0 : (Nat → Int64)) (lx44 : Int32) (lx45 : Int32) (a64 : Int32) (lx66 : Int32) (lx79 : Int32) (lx92 : Int32) : Int32 × Int32 × Int32 × Int32 := if lx92 = (0 : Int32) then (if x2 = (102 : Int32) then (F_VR_chosen_J206 x2 t0_0 t0_1 t0_2 t0_3 t0_4 t0_5 t0_6 t0_7 t0_8 t0_9 t0_10 t0_11 t0_12 t0_13 t0_14 t0_15 t0_16 t0_17 t0_18 t0_19 t0_20 t0_21 t1_0 t2_0 t3_0 lx44 lx45 a64 lx66 lx79 lx92) else (if x2 = (101 : Int32) then (F_VR_chosen_J206 x2 t0_0 t0_1 t0_2 t0_3 t0_4 t0_5 t0_6 t0_7 t0_8 t0_9 t0_10 t0_11 t0_12 t0_13 t0_14 t0_15 t0_16 t0_17 t0_18 t0_19 t0_20 t0_21 t1_0 t2_0 t3_0 lx44 lx45 a64 lx66 lx79 lx92) else (if x2 = (103 : Int32) then (F_VR_chosen_J206 x2 t0_0 t0_1 t0_2 t0_3 t0_4 t0_5 t0_6 t0_7 t0_8 t0_9 t0_10 t0_11 t0_12 t0_13 t0_14 t0_15 t0_16 t0_17 t0_18 t0_19 t0_20 t0_21 t1_0 t2_0 t3_0 lx44 lx45 a64 lx66 lx79 lx92) else (F_VR_chosen_J219 x2 t0_0 t0_1 t0_2 t0_3 t0_4 t0_5 t0_6 t0_7 t0_8 t0_9 t0_10 t0_11 t0_12 t0_13 t0_14 t0_15 t0_16 t0_17 t0_18 t0_19 t0_20 t0_21 t1_0 t2_0 t3_0 lx44 lx45 a64 lx66 lx79 lx92)))) else (F_VR_chosen_J215 x2 t0_0 t0_1 t0_2 t0_3 t0_4 t0_5 t0_6 t0_7 t0_8 t0_9 t0_10 t0_11 t0_12 t0_13 t0_14 t0_15 t0_16 t0_17 t0_18 t0_19 t0_20 t0_21 t1_0 t2_0 t3_0 lx44 lx45 a64 lx66 lx79 lx92)
def F_VR_chosen_J176 (x2 : Int32) (t0_0 : Int32) (t0_1 : Int32) (t0_2 : Int32) (t0_3 : Int32) (t0_4 : Int32) (t0_5 : Int32) (t0_6 : Int32) (t0_7 : Int32) (t0_8 : Int32) (t0_9 : Int32) (t0_10 : Int32) (t0_11 : Int32) (t0_12 : Int32) (t0_13 : Int32) (t0_14 : Int32) (t0_15 : Int32) (t0_16 : Int32) (t0_17 : Int32) (t0_18 : Int32) (t0_19 : Int32) (t0_20 : Int32) (t0_21 : Int32) (t1_0 : (Nat → Int32)) (t2_0 : (Nat → Int32)) (t3_0 : (Nat → Int64)) (lx44 : Int32) (lx45 : Int32) (a64 : Int32) (lx66 : Int32) (lx79 : Int32) : Int32 × Int32 × Int32 × Int32 := F_VR_chosen_J181 x2 t0_0 t0_1 t0_2 t0_3 t0_4 t0_5 t0_6 t0_7 t0_8 t0_9 t0_10 t0_11 t0_12 t0_13 t0_14 t0_15 t0_16 t0_17 t0_18 t0_19 t0_20 t0_21 t1_0 t2_0 t3_0 lx44 lx45 a64 lx66 lx79 1
def F_VR_chosen_J180 (x2 : Int32) (t0_0 : Int32) (t0_1 : Int32) (t0_2 : Int32) (t0_3 : Int32) (t0_4 : Int32) (t0_5 : Int32) (t0_6 : Int32) (t0_7 : Int32) (t0_8 : Int32) (t0_9 : Int32) (t0_10 : Int32) (t0_11 : Int32) (t0_12 : Int32) (t0_13 : Int32) (t0_14 : Int32) (t0_15 : Int32) (t0_16 : Int32) (t0_17 : Int32) (t0_18 : Int32) (t0_19 : Int32) (t0_20 : Int32) (t0_21 : Int32) (t1_0 : (Nat → Int32)) (t2_0 : (Nat → Int32)) (t3_0 : (Nat → Int64)) (lx44 : Int32) (lx45 : Int32) (a64 : Int32) (lx66 : Int32) (lx79 : Int32) : Int32 × Int32 × Int32 × Int32 := F_VR_chosen_J181 x2 t0_0 t0_1 t0_2 t0_3 t0_4 t0_5 t0_6 t0_7 t0_8 t0_9 t0_10 t0_11 t0_12 t0_13 t0_14 t0_15 t0_16 t0_17 t0_18 t0_19 t0_20 t0_21 t1_0 t2_0 t3_0 lx44 lx45 a64 lx66 lx79 0
def F_VR_chosen_J152 (x2 : Int32) (t0_0 : Int32) (t0_1 : Int32) (t0_2 : Int32) (t0_3 : Int32) (t0_4 : Int32) (t0_5 : Int32) (t0_6 : Int32) (t0_7 : Int32) (t0_8 : Int32) (t0_9 : Int32) (t0_10 : Int32) (t0_11 : Int32) (t0_12 : Int32) (t0_13 : Int32) (t0_14 : Int32) (t0_15 : Int32) (t0_16 : Int32) (t0_17 : Int32) (t0_18 : Int32) (t0_19 : Int32) (t0_20 : Int32) (t0_21 : Int32) (t1_0 : (Nat → Int32)) (t2_0 : (Nat → Int32)) (t3_0 : (Nat → Int64)) (lx44 : Int32) (lx45 : Int32) (a64 : Int32) (lx66 : Int32) (lx79 : Int32) : Int32 × Int32 × Int32 × Int32 := if lx79 = (0 : Int32) then (if ((F_VR_isNumeric x2 t0_0 t0_1 t0_2 t0_3 t0_4 t0_5 t0_6 t0_7 t0_8 t0_9 t0_10 t0_11 t0_12 t0_13 lx44 lx45 lx44 t0_17 t0_18 t0_19 t0_20 t0_21) : Int32) = (0 : Int32) then (F_VR_chosen_J180 x2 t0_0 t0_1 t0_2 t0_3 t0_4 t0_5 t0_6 t0_7 t0_8 t0_9 t0_10 t0_11 t0_12 t0_13 t0_14 t0_15 t0_16 t0_17 t0_18 t0_19 t0_20 t0_21 t1_0 t2_0 t3_0 lx44 lx45 a64 lx66 lx79) else (if a64 = (3 : Int32) then (F_VR_chosen_J180 x2 t0_0 t0_1 t0_2 t0_3 t0_4 t0_5 t0_6 t0_7 t0_8 t0_9 t0_10 t0_11 t0_12 t0_13 t0_14 t0_15 t0_16 t0_17 t0_18 t0_19 t0_20 t0_21 t1_0 t2_0 t3_0 lx44 lx45 a64 lx66 lx79) else (if a64 = (0 : Int32) then (F_VR_chosen_J180 x2 t0_0 t0_1 t0_2 t0_3 t0_4 t0_5 t0_6 t0_7 t0_8 t0_9 t0_10 t0_11 t0_12 t0_13 t0_14 t0_15 t0_16 t0_17 t0_18 t0_19 t0_20 t0_21 t1_0 t2_0 t3_0 lx44 lx45 a64 lx66 lx79) else (F_VR_chosen_J176 x2 t0_0 t0_1 t0_2 t0_3 t0_4 t0_5 t0_6 t0_7 t0_8 t0_9 t0_10 t0_11 t0_12 t0_13 t0_14 t0_15 t0_16 t0_17 t0_18 t0_19 t0_20 t0_21 t1_0 t2_0 t3_0 lx44 lx45 a64 lx66 lx79)))) else (F_VR_chosen_J176 x2 t0_0 t0_1 t0_2 t0_3 t0_4 t0_5 t0_6 t0_7 t0_8 t0_9 t0_10 t0_11 t0_12 t0_13 t0_14 t0_15 t0_16 t0_17 t0_18 t0_19 t0_20 t0_21 t1_0 t2_0 t3_0 lx44 lx45 a64 lx66 lx79)
def F_VR_chosen_J151 (x2 : Int32) (t0_0 : Int32) (t0_1 : Int32) (t0_2 : Int32) (t0_3 : Int32) (t0_4 : Int32) (t0_5 : Int32) (t0_6 : Int32) (t0_7 : Int32) (t0_8 : Int32) (t0_9 : Int32) (t0_10 : Int32) (t0_11 : Int32) (t0_12 : Int32) (t0_13 : Int32) (t0_14 : Int32) (t0_15 : Int32) (t0_16 : Int32) (t0_17 : Int32) (t0_18 : Int32) (t0_19 : Int32) (t0_20 : Int32) (t0_21 : Int32) (t1_0 : (Nat → Int32)) (t2_0 : (Nat → Int32)) (t3_0 : (Nat → Int64)) (lx44 : Int32) (lx45 : Int32) (a64 : Int32) (lx66 : Int32) : Int32 × Int32 × Int32 × Int32 := F_VR_chosen_J152 x2 t0_0 t0_1 t0_2 t0_3 t0_4 t0_5 t0_6 t0_7 t0_8 t0_9 t0_10 t0_11 t0_12 t0_13 t0_14 t0_15 t0_16 t0_17 t0_18 t0_19 t0_20 t0_21 t1_0 t2_0 t3_0 lx44 lx45 a64 lx66 0
def F_VR_chosen_J147 (x2 : Int32) (t0_0 : Int32) (t0_1 : Int32) (t0_2 : Int32) (t0_3 : Int32) (t0_4 : Int32) (t0_5 : Int32) (t0_6 : Int32) (t0_7 : Int32) (t0_8 : Int32) (t0_9 : Int32) (t0_10 : Int32) (t0_11 : Int32) (t0_12 : Int32) (t0_13 : Int32) (t0_14 : Int32) (t0_15 : Int32) (t0_16 : Int32) (t0_17 : Int32) (t0_18 : Int32) (t0_19 : Int32) (t0_20 : Int32) (t0_21 : Int32) (t1_0 : (Nat → Int32)) (t2_0 : (Nat → Int32)) (t3_0 : (Nat → Int64)) (lx44 : Int32) (lx45 : Int32) (a64 : Int32) (lx66 : Int32) : Int32 × Int32 × Int32 × Int32 := F_VR_chosen_J152 x2 t0_0 t0_1 t0_2 t0_3 t0_4 t0_5 t0_6 t0_7 t0_8 t0_9 t0_10 t0_11 t0_12 t0_13 t0_14 t0_15 t0_16 t0_17 t0_18 t0_19 t0_20 t0_21 t1_0 t2_0 t3_0 lx44 lx45 a64 lx66 1
def F_VR_chosen_J121 (x2 : Int32) (t0_0 : Int32) (t0_1 : Int32) (t0_2 : Int32) (t0_3 : Int32) (t0_4 : Int32) (t0_5 : Int32) (t0_6 : Int32) (t0_7 : Int32) (t0_8 : Int32) (t0_9 : Int32) (t0_10 : Int32) (t0_11 : Int32) (t0_12 : Int32) (t0_13 : Int32) (t0_14 : Int32) (t0_15 : Int32) (t0_16 : Int32) (t0_17 : Int32) (t0_18 : Int32) (t0_19 : Int32) (t0_20 : Int32) (t0_21 : Int32) (t1_0 : (Nat → Int32)) (t2_0 : (Nat → Int32)) (t3_0 : (Nat → Int64)) (lx44 : Int32) (lx45 : Int32) (a64 : Int32) (lx66 : Int32) : Int32 × Int32 × Int32 × Int32 := if x2 = (99 : Int32) then (if a64 = (1 : Int32) then (F_VR_chosen_J147 x2 t0_0 t0_1 t0_2 t0_3 t0_4 t0_5 t0_6 t0_7 t0_8 t0_9 t0_10 t0_11 t0_12 t0_13 t0_14 t0_15 t0_16 t0_17 t0_18 t0_19 t0_20 t0_21 t1_0 t2_0 t3_0 lx44 lx45 a64 lx66) else (if a64 = (4 : Int32) then (F_VR_chosen_J147 x2 t0_0 t0_1 t0_2 t0_3 t0_4 t0_5 t0_6 t0_7 t0_8 t0_9 t0_10 t0_11 t0_12 t0_13 t0_14 t0_15 t0_16 t0_17 t0_18 t0_19 t0_20 t0_21 t1_0 t2_0 t3_0 lx44 lx45 a64 lx66) else (if a64 = (5 : Int32) then (F_VR_chosen_J147 x2 t0_0 t0_1 t0_2 t0_3 t0_4 t0_5 t0_6 t0_7 t0_8 t0_9 t0_10 t0_11 t0_12 t0_13 t0_14 t0_15 t0_16 t0_17 t0_18 t0_19 t0_20 t0_21 t1_0 t2_0 t3_0 lx44 lx45 a64 lx66) else (if lx66 = (0 : Int32) then (F_VR_chosen_J151 x2 t0_0 t0_1 t0_2 t0_3 t0_4 t0_5 t0_6 t0_7 t0_8 t0_9 t0_10 t0_11 t0_12 t0_13 t0_14 t0_15 t0_16 t0_17 t0_18 t0_19 t0_20 t0_21 t1_0 t2_0 t3_0 lx44 lx45 a64 lx66) else (F_VR_chosen_J147 x2 t0_0 t0_1 t0_2 t0_3 t0_4 t0_5 t0_6 t0_7 t0_8 t0_9 t0_10 t0_11 t0_12 t0_13 t0_14 t0_15 t0_16 t0_17 t0_18 t0_19 t0_20 t0_21 t1_0 t2_0 t3_0 lx44 lx45 a64 lx66))))) else (F_VR_chosen_J151 x2 t0_0 t0_1 t0_2 t0_3 t0_4 t0_5 t0_6 t0_7 t0_8 t0_9 t0_10 t0_11 t0_12 t0_13 t0_14 t0_15 t0_16 t0_17 t0_18 t0_19 t0_20 t0_21 t1_0 t2_0 t3_0 lx44 lx45 a64 lx66)
def F_VR_chosen_J120 (x2 : Int32) (t0_0 : Int32) (t0_1 : Int32) (t0_2 : Int32) (t0_3 : Int32) (t0_4 : Int32) (t0_5 : Int32) (t0_6 : Int32) (t0_7 : Int32) (t0_8 : Int32) (t0_9 : Int32) (t0_10 : Int32) (t0_11 : Int32) (t0_12 : Int32) (t0_13 : Int32) (t0_14 : Int32) (t0_15 : Int32) (t0_16 : Int32) (t0_17 : Int32) (t0_18 : Int32) (t0_19 : Int32) (t0_20 : Int32) (t0_21 : Int32) (t1_0 : (Nat → Int32)) (t2_0 : (Nat → Int32)) (t3_0 : (Nat → Int64)) (lx44 : Int32) (lx45 : Int32) (a64 : Int32) : Int32 × Int32 × Int32 × Int32 := F_VR_chosen_J121 x2 t0_0 t0_1 t0_2 t0_3 t0_4 t0_5 t0_6 t0_7 t0_8 t0_9 t0_10 t0_11 t0_12 t0_13 t0_14 t0_15 t0_16 t0_17 t0_18 t0_19 t0_20 t0_21 t1_0 t2_0 t3_0 lx44 lx45 a64 0
def F_VR_chosen_J58 (x2 : Int32) (t0_0 : Int32) (t0_1 : Int32) (t0_2 : Int32) (t0_3 : Int32) (t0_4 : Int32) (t0_5 : Int32) (t0_6 : Int32) (t0_7 : Int32) (t0_8 : Int32) (t0_9 : Int32) (t0_10 : Int32) (t0_11 : Int32) (t0_12 : Int32) (t0_13 : Int32) (t0_14 : Int32) (t0_15 : Int32) (t0_16 : Int32) (t0_17 : Int32) (t0_18 : Int32) (t0_19 : Int32) (t0_20 : Int32) (t0_21 : Int32) (t1_0 : (Nat → Int32)) (t2_0 : (Nat → Int32)) (t3_0 : (Nat → Int64)) (lx44 : Int32) (lx45 : Int32) : Int32 × Int32 × Int32 × Int32 := if lx44 < (0 : Int32) then (((9 : Int32), lx44, lx45, t0_16)) else (if lx44 < t0_2 then (if (t1_0 lx44.toNatClampNeg : Int32) = (3 : Int32) then (if (t2_0 lx44.toNatClampNeg : Int32) = (64 : Int32) then (F_VR_chosen_J121 x2 t0_0 t0_1 t0_2 t0_3 t0_4 t0_5 t0_6 t0_7 t0_8 t0_9 t0_10 t0_11 t0_12 t0_13 t0_14 t0_15 t0_16 t0_17 t0_18 t0_19 t0_20 t0_21 t1_0 t2_0 t3_0 lx44 lx45 (t1_0 lx44.toNatClampNeg : Int32) 1) else (F_VR_chosen_J120 x2 t0_0 t0_1 t0_2 t0_3 t0_4 t0_5 t0_6 t0_7 t0_8 t0_9 t0_10 t0_11 t0_12 t0_13 t0_14 t0_15 t0_16 t0_17 t0_18 t0_19 t0_20 t0_21 t1_0 t2_0 t3_0 lx44 lx45 (t1_0 lx44.toNatClampNeg : Int32))) else (F_VR_chosen_J120 x2 t0_0 t0_1 t0_2 t0_3 t0_4 t0_5 t0_6 t0_7 t0_8 t0_9 t0_10 t0_11 t0_12 t0_13 t0_14 t0_15 t0_16 t0_17 t0_18 t0_19 t0_20 t0_21 t1_0 t2_0 t3_0 lx44 lx45 (t1_0 lx44.toNatClampNeg : Int32))) else (((9 : Int32), lx44, lx45, t0_16)))
def F_VR_chosen (x2 : Int32) (t0_0 : Int32) (t0_1 : Int32) (t0_2 : Int32) (t0_3 : Int32) (t0_4 : Int32) (t0_5 : Int32) (t0_6 : Int32) (t0_7 : Int32) (t0_8 : Int32) (t0_9 : Int32) (t0_10 : Int32) (t0_11 : Int32) (t0_12 : Int32) (t0_13 : Int32) (t0_14 : Int32) (t0_15 : Int32) (t0_16 : Int32) (t0_17 : Int32) (t0_18 : Int32) (t0_19 : Int32) (t0_20 : Int32) (t0_21 : Int32) (t1_0 : (Nat → Int32)) (t2_0 : (Nat → Int32)) (t3_0 : (Nat → Int64)) : Int32 × Int32 × Int32 × Int32 := if ((F_VR_has (60 : Int32) t0_0 t0_1 t0_2 t0_3 t0_4 t0_5 t0_6 t0_7 t0_8 t0_9 t0_10 t0_11 t0_12 t0_13 t0_14 t0_15 t0_16 t0_17 t0_18 t0_19 t0_20 t0_21) : Int32) = (0 : Int32) then (if t0_8 ≤ (0 : Int32) then (F_VR_chosen_J58 x2 t0_0 t0_1 t0_2 t0_3 t0_4 t0_5 t0_6 t0_7 t0_8 t0_9 t0_10 t0_11 t0_12 t0_13 t0_14 t0_15 t0_16 t0_17 t0_18 t0_19 t0_20 t0_21 t1_0 t2_0 t3_0 t0_15 (t0_15 + 1 : Int32)) else (F_VR_chosen_J58 x2 t0_0 t0_1 t0_2 t0_3 t0_4 t0_5 t0_6 t0_7 t0_8 t0_9 t0_10 t0_11 t0_12 t0_13 t0_14 t0_15 t0_16 t0_17 t0_18 t0_19 t0_20 t0_21 t1_0 t2_0 t3_0 (t0_8 - 1 : Int32) t0_15)) else (F_VR_chosen_J58 x2 t0_0 t0_1 t0_2 t0_3 t0_4 t0_5 t0_6 t0_7 t0_8 t0_9 t0_10 t0_11 t0_12 t0_13 t0_14 t0_15 t0_16 t0_17 t0_18 t0_19 t0_20 t0_21 t1_0 t2_0 t3_0 t0_16 t0_15)
set_option maxRecDepth 100000 in
set_option maxHeartbeats 4000000 in
theorem X_VR_chosen (l : Launch) (D : va_G) (g : Nat → ClassId) (q : Nat → Nat) (ws : va_W) (x2 : Int32) (hI : q_I (msh g q) q ws) (t0_0 : Int32) (t0_1 : Int32) (t0_2 : Int32) (t0_3 : Int32) (t0_4 : Int32) (t0_5 : Int32) (t0_6 : Int32) (t0_7 : Int32) (t0_8 : Int32) (t0_9 : Int32) (t0_10 : Int32) (t0_11 : Int32) (t0_12 : Int32) (t0_13 : Int32) (t0_14 : Int32) (t0_15 : Int32) (t0_16 : Int32) (t0_17 : Int32) (t0_18 : Int32) (t0_19 : Int32) (t0_20 : Int32) (t0_21 : Int32) (hT0 : ws[157]? = (some (q 157, .inr (17, [.int t0_0, .ref (q 158), .int t0_1, .int t0_2, .ref (q 159), .ref (q 160), .ref (q 161), .ref (q 162), .ref (q 163), .int t0_3, .ref (q 164), .int t0_4, .int t0_5, .int t0_6, .int t0_7, .int t0_8, .int t0_9, .int t0_10, .int t0_11, .int t0_12, .int t0_13, .int t0_14, .int t0_15, .int t0_16, .ref (q 165), .int t0_17, .int t0_18, .int t0_19, .ref (q 166), .int t0_20, .int t0_21])) : Option (Nat × va_E))) (t1_0 : (Nat → Int32)) (hT1 : ws[159]? = (some (q 159, .inl (g 0, (9 : Int32).toNatClampNeg, .inl t1_0)) : Option (Nat × va_E))) (t2_0 : (Nat → Int32)) (hT2 : ws[160]? = (some (q 160, .inl (g 0, (9 : Int32).toNatClampNeg, .inl t2_0)) : Option (Nat × va_E))) (t3_0 : (Nat → Int64)) (hT3 : ws[161]? = (some (q 161, .inl (g 1, 9, .inr (.inl t3_0))) : Option (Nat × va_E))) : q_mI l y_VR_chosen prog_16_method_23_code 5 (.int) 3 0 0 D g [.ref (q 157), .int x2] ws (fun r u => q_I (msh g q) q u ∧ q_un ws u [157] ∧ ∃ (u0_14 : Int32) (u0_15 : Int32) (u0_16 : Int32), u[157]? = (some (q 157, .inr (17, [.int t0_0, .ref (q 158), .int t0_1, .int t0_2, .ref (q 159), .ref (q 160), .ref (q 161), .ref (q 162), .ref (q 163), .int t0_3, .ref (q 164), .int t0_4, .int t0_5, .int t0_6, .int t0_7, .int t0_8, .int t0_9, .int t0_10, .int t0_11, .int t0_12, .int t0_13, .int u0_14, .int u0_15, .int u0_16, .ref (q 165), .int t0_17, .int t0_18, .int t0_19, .ref (q 166), .int t0_20, .int t0_21])) : Option (Nat × va_E)) ∧ (0 ≤ r.toInt) ∧ (r.toInt ≤ 11) ∧ (r.toInt ≤ t0_2.toInt + 10) ∧ (r, u0_14, u0_15, u0_16) = (F_VR_chosen x2 t0_0 t0_1 t0_2 t0_3 t0_4 t0_5 t0_6 t0_7 t0_8 t0_9 t0_10 t0_11 t0_12 t0_13 t0_14 t0_15 t0_16 t0_17 t0_18 t0_19 t0_20 t0_21 t1_0 t2_0 t3_0)) := by
  intro sz
  refine q_into (by decide) (Nat.le_of_ble_eq_true rfl) ?_
  intro p e s m below meth c ls hsz C0 V hl
  have hx := C0.1
  have hb := C0.2.1
  obtain ⟨btt0_1, hZ9⟩ := n_w157 hI hT0
  obtain ⟨btt0_2, hZ9⟩ := hZ9
  obtain ⟨btt0_3, hZ9⟩ := hZ9
  obtain ⟨btt0_10, btt0_19⟩ := hZ9
  replace btt0_1 : q_F (0 ≤ t0_1.toInt ∧ t0_1.toInt ≤ 256) := btt0_1
  replace btt0_2 : q_F (0 ≤ t0_2.toInt ∧ t0_2.toInt ≤ 9) := btt0_2
  replace btt0_3 : q_F (0 ≤ t0_3.toInt ∧ t0_3.toInt ≤ 4096) := btt0_3
  replace btt0_10 : q_F (0 ≤ t0_10.toInt ∧ t0_10.toInt ≤ 1) := btt0_10
  replace btt0_19 : q_F (0 ≤ t0_19.toInt ∧ t0_19.toInt ≤ 1) := btt0_19
  have hF : q_un ws ws [157] := q_u0
  have hl : lv_has ls 5 [(0, .ref (q 157)), (1, .int x2)] := hl
  refine lv_aload_n hx hb d_16_23_0 rfl (lv_at hl 0 rfl) ?_
  refine lv_bipush (v := 60) hx hb d_16_23_1 (by decide) ?_
  refine q_goi V (q_runV (As := [.int 60]) (rest := []) (d := 2) (mc := 0) (ms := 0) (ci := 17) C0 V rfl LV_VR_91 (X_VR_has l D g q ws  60 hI t0_0 t0_1 t0_2 t0_3 t0_4 t0_5 t0_6 t0_7 t0_8 t0_9 t0_10 t0_11 t0_12 t0_13 t0_14 t0_15 t0_16 t0_17 t0_18 t0_19 t0_20 t0_21 hT0  _) rfl rfl hT0 rfl hl.1 rfl (Nat.le_of_ble_eq_true rfl) ⟨by decide, by decide⟩ ⟨Nat.le_of_ble_eq_true rfl, Nat.le_of_ble_eq_true rfl⟩ d_16_23_3) (fun a39 u37 H locs hp38 V => ?_)
  obtain ⟨rfl, b40, b41, hE42⟩ := hp38
  have e43 : a39 = (F_VR_has (60 : Int32) t0_0 t0_1 t0_2 t0_3 t0_4 t0_5 t0_6 t0_7 t0_8 t0_9 t0_10 t0_11 t0_12 t0_13 t0_14 t0_15 t0_16 t0_17 t0_18 t0_19 t0_20 t0_21) := hE42
  clear b40
  clear b41
  refine q_join (X := Int32 × Int32) (fun z H locs ls w51 => q_Wd D g (va_A ws sz) s w51 H locs ∧ lv_has ls 5 [(0, .ref (q 157)), (1, .int x2)] ∧ q_I (msh g q) q w51 ∧ q_un ws w51 [157] ∧ w51[157]? = (some (q 157, .inr (17, [.int t0_0, .ref (q 158), .int t0_1, .int t0_2, .ref (q 159), .ref (q 160), .ref (q 161), .ref (q 162), .ref (q 163), .int t0_3, .ref (q 164), .int t0_4, .int t0_5, .int t0_6, .int t0_7, .int t0_8, .int t0_9, .int t0_10, .int t0_11, .int t0_12, .int t0_13, .int z.1, .int z.2, .int t0_16, .ref (q 165), .int t0_17, .int t0_18, .int t0_19, .ref (q 166), .int t0_20, .int t0_21])) : Option (Nat × va_E)) ∧ w51[159]? = (some (q 159, .inl (g 0, (9 : Int32).toNatClampNeg, .inl t1_0)) : Option (Nat × va_E)) ∧ w51[160]? = (some (q 160, .inl (g 0, (9 : Int32).toNatClampNeg, .inl t2_0)) : Option (Nat × va_E)) ∧ w51[161]? = (some (q 161, .inl (g 1, 9, .inr (.inl t3_0))) : Option (Nat × va_E)) ∧ F_VR_chosen_J58 x2 t0_0 t0_1 t0_2 t0_3 t0_4 t0_5 t0_6 t0_7 t0_8 t0_9 t0_10 t0_11 t0_12 t0_13 t0_14 t0_15 t0_16 t0_17 t0_18 t0_19 t0_20 t0_21 t1_0 t2_0 t3_0 z.1 z.2 = (F_VR_chosen x2 t0_0 t0_1 t0_2 t0_3 t0_4 t0_5 t0_6 t0_7 t0_8 t0_9 t0_10 t0_11 t0_12 t0_13 t0_14 t0_15 t0_16 t0_17 t0_18 t0_19 t0_20 t0_21 t1_0 t2_0 t3_0)) (fun z => []) 58 0 0 ?_ ?_
  ·
    rintro ⟨lx44, lx45⟩ H locs ls w51 ⟨V, hl, hI, hF, hO46, hA47, hA48, hA49, hR52⟩
    replace hl : lv_has ls 5 [(0, .ref (q 157)), (1, .int x2)] := hl
    replace hO46 : w51[157]? = (some (q 157, .inr (17, [.int t0_0, .ref (q 158), .int t0_1, .int t0_2, .ref (q 159), .ref (q 160), .ref (q 161), .ref (q 162), .ref (q 163), .int t0_3, .ref (q 164), .int t0_4, .int t0_5, .int t0_6, .int t0_7, .int t0_8, .int t0_9, .int t0_10, .int t0_11, .int t0_12, .int t0_13, .int lx44, .int lx45, .int t0_16, .ref (q 165), .int t0_17, .int t0_18, .int t0_19, .ref (q 166), .int t0_20, .int t0_21])) : Option (Nat × va_E)) := hO46
    replace hA47 : w51[159]? = (some (q 159, .inl (g 0, (9 : Int32).toNatClampNeg, .inl t1_0)) : Option (Nat × va_E)) := hA47
    replace hA48 : w51[160]? = (some (q 160, .inl (g 0, (9 : Int32).toNatClampNeg, .inl t2_0)) : Option (Nat × va_E)) := hA48
    replace hA49 : w51[161]? = (some (q 161, .inl (g 1, 9, .inr (.inl t3_0))) : Option (Nat × va_E)) := hA49
    refine lv_aload_n hx hb d_16_23_58 rfl (lv_at hl 0 rfl) ?_
    refine q_get (ci := 17) (j := 21) (v := .int lx44) C0 V i_VR rfl rfl hO46 (by decide) w_2225 rfl d_16_23_59 ?_
    refine lv_if_lt (tgt := 76) hx hb d_16_23_62 (by decide) (fun c57 => ?_) (fun c57 => ?_)
    ·
      refine lv_bipush (v := 9) hx hb d_16_23_76 (by decide) ?_
      exact q_reti C0 V (⟨hI, hF, lx44, lx45, t0_16, hO46, (show 0 ≤ (9 : Int32).toInt from (by have z26 : (9 : Int32).toInt = 9 := rfl; omega)), (show (9 : Int32).toInt ≤ 11 from (by have z26 : (9 : Int32).toInt = 9 := rfl; omega)), (show (9 : Int32).toInt ≤ t0_2.toInt + 10 from (by have z26 : (9 : Int32).toInt = 9 := rfl; have t1 : 0 ≤ t0_2.toInt ∧ t0_2.toInt ≤ 9 := btt0_2; omega)), (show ((9 : Int32), lx44, lx45, t0_16) = (F_VR_chosen x2 t0_0 t0_1 t0_2 t0_3 t0_4 t0_5 t0_6 t0_7 t0_8 t0_9 t0_10 t0_11 t0_12 t0_13 t0_14 t0_15 t0_16 t0_17 t0_18 t0_19 t0_20 t0_21 t1_0 t2_0 t3_0) from Eq.trans (by rw [F_VR_chosen_J58.eq_1, if_pos c57]) hR52)⟩) d_16_23_78
    ·
      have b59 : q_F (0 ≤ lx44.toInt) := (q_nltI c57)
      refine lv_aload_n hx hb d_16_23_65 rfl (lv_at hl 0 rfl) ?_
      refine q_get (ci := 17) (j := 21) (v := .int lx44) C0 V i_VR rfl rfl hO46 (by decide) w_2225 rfl d_16_23_66 ?_
      refine lv_aload_n hx hb d_16_23_69 rfl (lv_at hl 0 rfl) ?_
      refine q_get (ci := 17) (j := 3) (v := .int t0_2) C0 V i_VR rfl rfl hO46 (by decide) w_2203 rfl d_16_23_70 ?_
      refine lv_icmp_lt (tgt := 79) hx hb d_16_23_73 (by decide) (fun c60 => ?_) (fun c60 => ?_)
      ·
        have b61 : q_F (lx44.toInt < t0_2.toInt) := (q_ltI c60)
        refine lv_aload_n hx hb d_16_23_79 rfl (lv_at hl 0 rfl) ?_
        refine lv_aload_n hx hb d_16_23_80 rfl (lv_at hl 0 rfl) ?_
        refine q_get (ci := 17) (j := 21) (v := .int lx44) C0 V i_VR rfl rfl hO46 (by decide) w_2225 rfl d_16_23_81 ?_
        refine q_put (ci := 17) (j := 23) (v := .int lx44) (ty := .int) C0 V i_VR o_VR n_VR rfl rfl hO46 (by decide) w_2227 rfl rfl rfl rfl (Nat.le_of_ble_eq_true rfl) d_16_23_84 (fun H locs w62 hu63 hO46 V => ?_)
        replace hO46 : w62[157]? = (some (q 157, .inr (17, [.int t0_0, .ref (q 158), .int t0_1, .int t0_2, .ref (q 159), .ref (q 160), .ref (q 161), .ref (q 162), .ref (q 163), .int t0_3, .ref (q 164), .int t0_4, .int t0_5, .int t0_6, .int t0_7, .int t0_8, .int t0_9, .int t0_10, .int t0_11, .int t0_12, .int t0_13, .int lx44, .int lx45, .int lx44, .ref (q 165), .int t0_17, .int t0_18, .int t0_19, .ref (q 166), .int t0_20, .int t0_21])) : Option (Nat × va_E)) := hO46
        replace hI := n_p157 hI hu63 hO46 (by first | with_reducible exact q_fe btt0_1 | exact ⟨(by have t1 : 0 ≤ t0_1.toInt ∧ t0_1.toInt ≤ 256 := btt0_1; omega), (by have t1 : 0 ≤ t0_1.toInt ∧ t0_1.toInt ≤ 256 := btt0_1; omega)⟩) (by first | with_reducible exact q_fe btt0_2 | exact ⟨(by have t1 : 0 ≤ t0_2.toInt ∧ t0_2.toInt ≤ 9 := btt0_2; omega), (by have t1 : 0 ≤ t0_2.toInt ∧ t0_2.toInt ≤ 9 := btt0_2; omega)⟩) (by first | with_reducible exact q_fe btt0_3 | exact ⟨(by have t1 : 0 ≤ t0_3.toInt ∧ t0_3.toInt ≤ 4096 := btt0_3; omega), (by have t1 : 0 ≤ t0_3.toInt ∧ t0_3.toInt ≤ 4096 := btt0_3; omega)⟩) (by first | with_reducible exact q_fe btt0_10 | exact ⟨(by have t1 : 0 ≤ t0_10.toInt ∧ t0_10.toInt ≤ 1 := btt0_10; omega), (by have t1 : 0 ≤ t0_10.toInt ∧ t0_10.toInt ≤ 1 := btt0_10; omega)⟩) (by first | with_reducible exact q_fe btt0_19 | exact ⟨(by have t1 : 0 ≤ t0_19.toInt ∧ t0_19.toInt ≤ 1 := btt0_19; omega), (by have t1 : 0 ≤ t0_19.toInt ∧ t0_19.toInt ≤ 1 := btt0_19; omega)⟩)
        replace hA47 := (hu63 _ (by decide)).trans hA47
        replace hA48 := (hu63 _ (by decide)).trans hA48
        replace hA49 := (hu63 _ (by decide)).trans hA49
        replace hF := q_us hF hu63 (by simp)
        refine lv_aload_n hx hb d_16_23_87 rfl (lv_at hl 0 rfl) ?_
        refine q_get (ci := 17) (j := 4) (v := .ref (q 159)) C0 V i_VR rfl rfl hO46 (by decide) w_2205 rfl d_16_23_88 ?_
        refine lv_aload_n hx hb d_16_23_91 rfl (lv_at hl 0 rfl) ?_
        refine q_get (ci := 17) (j := 21) (v := .int lx44) C0 V i_VR rfl rfl hO46 (by decide) w_2225 rfl d_16_23_92 ?_
        refine q_iald C0 V hA47 (q_ix (x := lx44.toInt) rfl (by first | with_reducible exact q_fe b59 | (have t1 : 0 ≤ lx44.toInt := b59; omega)) (by have t1 : 0 ≤ lx44.toInt := b59; have t2 : 0 ≤ t0_2.toInt ∧ t0_2.toInt ≤ 9 := btt0_2; have t3 : lx44.toInt < t0_2.toInt := b61; have e9 : (((9 : Int32).toNatClampNeg : Nat) : Int) = 9 := (by decide); omega)) d_16_23_95 ?_
        obtain ⟨a64, e65⟩ := q_nm (t1_0 lx44.toNatClampNeg : Int32)
        refine q_ti (v := a64) e65 ?_
        refine lv_istore_n (lv' := [(2, .int a64), (0, .ref (q 157)), (1, .int x2)]) hx hb d_16_23_96 rfl hl (by decide) rfl (fun ls hl => ?_)
        refine lv_iload_n hx hb d_16_23_97 rfl (lv_at hl 0 rfl) ?_
        refine lv_iconst (v := 3) hx hb d_16_23_98 (by decide) ?_
        refine q_join (X := Int32) (fun z H locs ls _ => q_F (0 ≤ z.toInt) ∧ q_F (z.toInt ≤ 1) ∧ q_Wd D g (va_A ws sz) s w62 H locs ∧ lv_has ls 5 [(2, .int a64), (0, .ref (q 157)), (1, .int x2)] ∧ F_VR_chosen_J121 x2 t0_0 t0_1 t0_2 t0_3 t0_4 t0_5 t0_6 t0_7 t0_8 t0_9 t0_10 t0_11 t0_12 t0_13 t0_14 t0_15 t0_16 t0_17 t0_18 t0_19 t0_20 t0_21 t1_0 t2_0 t3_0 lx44 lx45 a64 z = (F_VR_chosen x2 t0_0 t0_1 t0_2 t0_3 t0_4 t0_5 t0_6 t0_7 t0_8 t0_9 t0_10 t0_11 t0_12 t0_13 t0_14 t0_15 t0_16 t0_17 t0_18 t0_19 t0_20 t0_21 t1_0 t2_0 t3_0)) (fun z => [.int z]) 121 0 0 ?_ ?_
        ·
          rintro lx66 H locs ls _ ⟨i72, i73, V, hl, hR74⟩
          clear i72
          clear i73
          replace hl : lv_has ls 5 [(2, .int a64), (0, .ref (q 157)), (1, .int x2)] := hl
          refine lv_istore_n (lv' := [(3, .int lx66), (2, .int a64), (0, .ref (q 157)), (1, .int x2)]) hx hb d_16_23_121 rfl hl (by decide) rfl (fun ls hl => ?_)
          refine lv_iload_n hx hb d_16_23_122 rfl (lv_at hl 3 rfl) ?_
          refine lv_bipush (v := 99) hx hb d_16_23_123 (by decide) ?_
          refine q_join (X := Int32) (fun z H locs ls _ => q_F (0 ≤ z.toInt) ∧ q_F (z.toInt ≤ 1) ∧ q_Wd D g (va_A ws sz) s w62 H locs ∧ lv_has ls 5 [(2, .int a64), (0, .ref (q 157)), (1, .int x2)] ∧ F_VR_chosen_J152 x2 t0_0 t0_1 t0_2 t0_3 t0_4 t0_5 t0_6 t0_7 t0_8 t0_9 t0_10 t0_11 t0_12 t0_13 t0_14 t0_15 t0_16 t0_17 t0_18 t0_19 t0_20 t0_21 t1_0 t2_0 t3_0 lx44 lx45 a64 lx66 z = (F_VR_chosen x2 t0_0 t0_1 t0_2 t0_3 t0_4 t0_5 t0_6 t0_7 t0_8 t0_9 t0_10 t0_11 t0_12 t0_13 t0_14 t0_15 t0_16 t0_17 t0_18 t0_19 t0_20 t0_21 t1_0 t2_0 t3_0)) (fun z => [.int z]) 152 0 0 ?_ ?_
          ·
            rintro lx79 H locs ls _ ⟨i85, i86, V, hl, hR87⟩
            clear i85
            replace i86 : q_F (lx79.toInt ≤ 1) := i86
            replace hl : lv_has ls 5 [(2, .int a64), (0, .ref (q 157)), (1, .int x2)] := hl
            refine lv_istore (lv' := [(4, .int lx79), (2, .int a64), (0, .ref (q 157)), (1, .int x2)]) hx hb d_16_23_152 hl (by decide) rfl (fun ls hl => ?_)
            refine lv_iload hx hb d_16_23_154 (lv_at hl 0 rfl) ?_
            refine q_join (X := Int32) (fun z H locs ls _ => q_F (z.toInt ≤ 1) ∧ q_F (lx79.toInt ≤ z.toInt) ∧ q_Wd D g (va_A ws sz) s w62 H locs ∧ lv_has ls 5 [(2, .int a64), (0, .ref (q 157)), (1, .int x2)] ∧ F_VR_chosen_J181 x2 t0_0 t0_1 t0_2 t0_3 t0_4 t0_5 t0_6 t0_7 t0_8 t0_9 t0_10 t0_11 t0_12 t0_13 t0_14 t0_15 t0_16 t0_17 t0_18 t0_19 t0_20 t0_21 t1_0 t2_0 t3_0 lx44 lx45 a64 lx66 lx79 z = (F_VR_chosen x2 t0_0 t0_1 t0_2 t0_3 t0_4 t0_5 t0_6 t0_7 t0_8 t0_9 t0_10 t0_11 t0_12 t0_13 t0_14 t0_15 t0_16 t0_17 t0_18 t0_19 t0_20 t0_21 t1_0 t2_0 t3_0)) (fun z => [.int z]) 181 0 0 ?_ ?_
            ·
              rintro lx92 H locs ls _ ⟨i98, i99, V, hl, hR100⟩
              replace i98 : q_F (lx92.toInt ≤ 1) := i98
              clear i99
              replace hl : lv_has ls 5 [(2, .int a64), (0, .ref (q 157)), (1, .int x2)] := hl
              refine lv_istore (lv' := [(4, .int lx92), (2, .int a64), (0, .ref (q 157)), (1, .int x2)]) hx hb d_16_23_181 hl (by decide) rfl (fun ls hl => ?_)
              refine lv_iload hx hb d_16_23_183 (lv_at hl 0 rfl) ?_
              refine q_join (X := Int32) (fun z H locs ls _ => q_F (z.toInt ≤ 1) ∧ q_F (lx92.toInt ≤ z.toInt) ∧ q_Wd D g (va_A ws sz) s w62 H locs ∧ lv_has ls 5 [(2, .int a64), (0, .ref (q 157)), (1, .int x2)] ∧ F_VR_chosen_J220 x2 t0_0 t0_1 t0_2 t0_3 t0_4 t0_5 t0_6 t0_7 t0_8 t0_9 t0_10 t0_11 t0_12 t0_13 t0_14 t0_15 t0_16 t0_17 t0_18 t0_19 t0_20 t0_21 t1_0 t2_0 t3_0 lx44 lx45 a64 lx66 lx79 lx92 z = (F_VR_chosen x2 t0_0 t0_1 t0_2 t0_3 t0_4 t0_5 t0_6 t0_7 t0_8 t0_9 t0_10 t0_11 t0_12 t0_13 t0_14 t0_15 t0_16 t0_17 t0_18 t0_19 t0_20 t0_21 t1_0 t2_0 t3_0)) (fun z => [.int z]) 220 0 0 ?_ ?_
              ·
                rintro lx105 H locs ls _ ⟨i111, i112, V, hl, hR113⟩
                clear i111
                clear i112
                replace hl : lv_has ls 5 [(2, .int a64), (0, .ref (q 157)), (1, .int x2)] := hl
                refine lv_istore (lv' := [(4, .int lx105), (2, .int a64), (0, .ref (q 157)), (1, .int x2)]) hx hb d_16_23_220 hl (by decide) rfl (fun ls hl => ?_)
                refine lv_iload hx hb d_16_23_222 (lv_at hl 0 rfl) ?_
                refine lv_if_eq (tgt := 230) hx hb d_16_23_224 (by decide) (fun c118 => ?_) (fun c118 => ?_)
                ·
                  refine lv_iload_n hx hb d_16_23_230 rfl (lv_at hl 3 rfl) ?_
                  refine lv_bipush (v := 99) hx hb d_16_23_231 (by decide) ?_
                  refine lv_icmp_ne (tgt := 276) hx hb d_16_23_233 (by decide) (fun c120 => ?_) (fun c120 => ?_)
                  ·
                    refine lv_iconst (v := 0) hx hb d_16_23_276 (by decide) ?_
                    exact q_reti C0 V (⟨hI, hF, lx44, lx45, lx44, hO46, (show 0 ≤ (0 : Int32).toInt from (by have z26 : (0 : Int32).toInt = 0 := rfl; omega)), (show (0 : Int32).toInt ≤ 11 from (by have z26 : (0 : Int32).toInt = 0 := rfl; omega)), (show (0 : Int32).toInt ≤ t0_2.toInt + 10 from (by have z26 : (0 : Int32).toInt = 0 := rfl; have t1 : 0 ≤ t0_2.toInt ∧ t0_2.toInt ≤ 9 := btt0_2; omega)), (show ((0 : Int32), lx44, lx45, lx44) = (F_VR_chosen x2 t0_0 t0_1 t0_2 t0_3 t0_4 t0_5 t0_6 t0_7 t0_8 t0_9 t0_10 t0_11 t0_12 t0_13 t0_14 t0_15 t0_16 t0_17 t0_18 t0_19 t0_20 t0_21 t1_0 t2_0 t3_0) from Eq.trans (by rw [F_VR_chosen_J220.eq_1, if_pos c118, if_neg c120]) hR113)⟩) d_16_23_277
                  ·
                    refine lv_iload_n hx hb d_16_23_236 rfl (lv_at hl 1 rfl) ?_
                    refine lv_iconst (v := 3) hx hb d_16_23_237 (by decide) ?_
                    refine lv_icmp_ne (tgt := 276) hx hb d_16_23_238 (by decide) (fun c123 => ?_) (fun c123 => ?_)
                    ·
                      refine lv_iconst (v := 0) hx hb d_16_23_276 (by decide) ?_
                      exact q_reti C0 V (⟨hI, hF, lx44, lx45, lx44, hO46, (show 0 ≤ (0 : Int32).toInt from (by have z26 : (0 : Int32).toInt = 0 := rfl; omega)), (show (0 : Int32).toInt ≤ 11 from (by have z26 : (0 : Int32).toInt = 0 := rfl; omega)), (show (0 : Int32).toInt ≤ t0_2.toInt + 10 from (by have z26 : (0 : Int32).toInt = 0 := rfl; have t1 : 0 ≤ t0_2.toInt ∧ t0_2.toInt ≤ 9 := btt0_2; omega)), (show ((0 : Int32), lx44, lx45, lx44) = (F_VR_chosen x2 t0_0 t0_1 t0_2 t0_3 t0_4 t0_5 t0_6 t0_7 t0_8 t0_9 t0_10 t0_11 t0_12 t0_13 t0_14 t0_15 t0_16 t0_17 t0_18 t0_19 t0_20 t0_21 t1_0 t2_0 t3_0) from Eq.trans (by rw [F_VR_chosen_J220.eq_1, if_pos c118, if_pos c120, if_neg c123]) hR113)⟩) d_16_23_277
                    ·
                      refine lv_aload_n hx hb d_16_23_241 rfl (lv_at hl 2 rfl) ?_
                      refine q_get (ci := 17) (j := 6) (v := .ref (q 161)) C0 V i_VR rfl rfl hO46 (by decide) w_2207 rfl d_16_23_242 ?_
                      refine lv_aload_n hx hb d_16_23_245 rfl (lv_at hl 2 rfl) ?_
                      refine q_get (ci := 17) (j := 21) (v := .int lx44) C0 V i_VR rfl rfl hO46 (by decide) w_2225 rfl d_16_23_246 ?_
                      refine q_lald C0 V hA49 (q_ix (x := lx44.toInt) rfl (by first | with_reducible exact q_fe b59 | (have t1 : 0 ≤ lx44.toInt := b59; omega)) (by have t1 : 0 ≤ lx44.toInt := b59; have t2 : 0 ≤ t0_2.toInt ∧ t0_2.toInt ≤ 9 := btt0_2; have t3 : lx44.toInt < t0_2.toInt := b61; omega)) d_16_23_249 ?_
                      obtain ⟨j126, e127⟩ := q_nm (t3_0 lx44.toNatClampNeg : Int64)
                      refine q_tl (v := j126) e127 ?_
                      refine lv_lconst (v := 0) hx hb d_16_23_250 (by decide) ?_
                      refine W.lcmp hx hb d_16_23_251 ?_
                      obtain ⟨a128, e129⟩ := q_nm (lg_cmp j126 0 : Int32)
                      refine q_ti (v := a128) e129 ?_
                      refine lv_if_lt (tgt := 271) hx hb d_16_23_252 (by decide) (fun c131 => ?_) (fun c131 => ?_)
                      ·
                        refine lv_bipush (v := 11) hx hb d_16_23_271 (by decide) ?_
                        refine lv_goto (tgt := 277) hx hb d_16_23_273 (by decide) ?_
                        exact q_reti C0 V (⟨hI, hF, lx44, lx45, lx44, hO46, (show 0 ≤ (11 : Int32).toInt from (by have z26 : (11 : Int32).toInt = 11 := rfl; omega)), (show (11 : Int32).toInt ≤ 11 from (by have z26 : (11 : Int32).toInt = 11 := rfl; omega)), (show (11 : Int32).toInt ≤ t0_2.toInt + 10 from (by have z26 : (11 : Int32).toInt = 11 := rfl; have t1 : 0 ≤ lx44.toInt := b59; have t2 : lx44.toInt < t0_2.toInt := b61; omega)), (show ((11 : Int32), lx44, lx45, lx44) = (F_VR_chosen x2 t0_0 t0_1 t0_2 t0_3 t0_4 t0_5 t0_6 t0_7 t0_8 t0_9 t0_10 t0_11 t0_12 t0_13 t0_14 t0_15 t0_16 t0_17 t0_18 t0_19 t0_20 t0_21 t1_0 t2_0 t3_0) from Eq.trans (by have c131x := c131; rw [← e129, ← e127] at c131x; rw [F_VR_chosen_J220.eq_1, if_pos c118, if_pos c120, if_pos c123, if_pos c131x]) hR113)⟩) d_16_23_277
                      ·
                        refine lv_aload_n hx hb d_16_23_255 rfl (lv_at hl 2 rfl) ?_
                        refine q_get (ci := 17) (j := 6) (v := .ref (q 161)) C0 V i_VR rfl rfl hO46 (by decide) w_2207 rfl d_16_23_256 ?_
                        refine lv_aload_n hx hb d_16_23_259 rfl (lv_at hl 2 rfl) ?_
                        refine q_get (ci := 17) (j := 21) (v := .int lx44) C0 V i_VR rfl rfl hO46 (by decide) w_2225 rfl d_16_23_260 ?_
                        refine q_lald C0 V hA49 (q_ix (x := lx44.toInt) rfl (by first | with_reducible exact q_fe b59 | (have t1 : 0 ≤ lx44.toInt := b59; omega)) (by have t1 : 0 ≤ lx44.toInt := b59; have t2 : 0 ≤ t0_2.toInt ∧ t0_2.toInt ≤ 9 := btt0_2; have t3 : lx44.toInt < t0_2.toInt := b61; omega)) d_16_23_263 ?_
                        obtain ⟨j134, e135⟩ := q_nm (t3_0 lx44.toNatClampNeg : Int64)
                        refine q_tl (v := j134) e135 ?_
                        refine q_ldc2 C0 rfl w_3162 d_16_23_264 ?_
                        refine W.lcmp hx hb d_16_23_267 ?_
                        obtain ⟨a136, e137⟩ := q_nm (lg_cmp j134 255 : Int32)
                        refine q_ti (v := a136) e137 ?_
                        refine lv_if_le (tgt := 276) hx hb d_16_23_268 (by decide) (fun c139 => ?_) (fun c139 => ?_)
                        ·
                          refine lv_iconst (v := 0) hx hb d_16_23_276 (by decide) ?_
                          exact q_reti C0 V (⟨hI, hF, lx44, lx45, lx44, hO46, (show 0 ≤ (0 : Int32).toInt from (by have z26 : (0 : Int32).toInt = 0 := rfl; omega)), (show (0 : Int32).toInt ≤ 11 from (by have z26 : (0 : Int32).toInt = 0 := rfl; omega)), (show (0 : Int32).toInt ≤ t0_2.toInt + 10 from (by have z26 : (0 : Int32).toInt = 0 := rfl; have t1 : 0 ≤ t0_2.toInt ∧ t0_2.toInt ≤ 9 := btt0_2; omega)), (show ((0 : Int32), lx44, lx45, lx44) = (F_VR_chosen x2 t0_0 t0_1 t0_2 t0_3 t0_4 t0_5 t0_6 t0_7 t0_8 t0_9 t0_10 t0_11 t0_12 t0_13 t0_14 t0_15 t0_16 t0_17 t0_18 t0_19 t0_20 t0_21 t1_0 t2_0 t3_0) from Eq.trans (by have c131x := c131; rw [← e129, ← e127] at c131x; have c139x := c139; rw [← e137, ← e135] at c139x; rw [F_VR_chosen_J220.eq_1, if_pos c118, if_pos c120, if_pos c123, if_neg c131x, if_pos c139x]) hR113)⟩) d_16_23_277
                        ·
                          refine lv_bipush (v := 11) hx hb d_16_23_271 (by decide) ?_
                          refine lv_goto (tgt := 277) hx hb d_16_23_273 (by decide) ?_
                          exact q_reti C0 V (⟨hI, hF, lx44, lx45, lx44, hO46, (show 0 ≤ (11 : Int32).toInt from (by have z26 : (11 : Int32).toInt = 11 := rfl; omega)), (show (11 : Int32).toInt ≤ 11 from (by have z26 : (11 : Int32).toInt = 11 := rfl; omega)), (show (11 : Int32).toInt ≤ t0_2.toInt + 10 from (by have z26 : (11 : Int32).toInt = 11 := rfl; have t1 : 0 ≤ lx44.toInt := b59; have t2 : lx44.toInt < t0_2.toInt := b61; omega)), (show ((11 : Int32), lx44, lx45, lx44) = (F_VR_chosen x2 t0_0 t0_1 t0_2 t0_3 t0_4 t0_5 t0_6 t0_7 t0_8 t0_9 t0_10 t0_11 t0_12 t0_13 t0_14 t0_15 t0_16 t0_17 t0_18 t0_19 t0_20 t0_21 t1_0 t2_0 t3_0) from Eq.trans (by have c131x := c131; rw [← e129, ← e127] at c131x; have c139x := c139; rw [← e137, ← e135] at c139x; rw [F_VR_chosen_J220.eq_1, if_pos c118, if_pos c120, if_pos c123, if_neg c131x, if_neg c139x]) hR113)⟩) d_16_23_277
                ·
                  refine lv_bipush (v := 10) hx hb d_16_23_227 (by decide) ?_
                  exact q_reti C0 V (⟨hI, hF, lx44, lx45, lx44, hO46, (show 0 ≤ (10 : Int32).toInt from (by have z26 : (10 : Int32).toInt = 10 := rfl; omega)), (show (10 : Int32).toInt ≤ 11 from (by have z26 : (10 : Int32).toInt = 10 := rfl; omega)), (show (10 : Int32).toInt ≤ t0_2.toInt + 10 from (by have z26 : (10 : Int32).toInt = 10 := rfl; have t1 : 0 ≤ t0_2.toInt ∧ t0_2.toInt ≤ 9 := btt0_2; omega)), (show ((10 : Int32), lx44, lx45, lx44) = (F_VR_chosen x2 t0_0 t0_1 t0_2 t0_3 t0_4 t0_5 t0_6 t0_7 t0_8 t0_9 t0_10 t0_11 t0_12 t0_13 t0_14 t0_15 t0_16 t0_17 t0_18 t0_19 t0_20 t0_21 t1_0 t2_0 t3_0) from Eq.trans (by rw [F_VR_chosen_J220.eq_1, if_neg c118]) hR113)⟩) d_16_23_229
              ·
                intro J110
                refine q_join (X := Unit) (fun z H locs ls _ => q_Wd D g (va_A ws sz) s w62 H locs ∧ lv_has ls 5 [(2, .int a64), (0, .ref (q 157)), (1, .int x2)] ∧ F_VR_chosen_J215 x2 t0_0 t0_1 t0_2 t0_3 t0_4 t0_5 t0_6 t0_7 t0_8 t0_9 t0_10 t0_11 t0_12 t0_13 t0_14 t0_15 t0_16 t0_17 t0_18 t0_19 t0_20 t0_21 t1_0 t2_0 t3_0 lx44 lx45 a64 lx66 lx79 lx92 = (F_VR_chosen x2 t0_0 t0_1 t0_2 t0_3 t0_4 t0_5 t0_6 t0_7 t0_8 t0_9 t0_10 t0_11 t0_12 t0_13 t0_14 t0_15 t0_16 t0_17 t0_18 t0_19 t0_20 t0_21 t1_0 t2_0 t3_0)) (fun z => []) 215 0 0 ?_ ?_
                ·
                  rintro _ H locs ls _ ⟨V, hl, hR148⟩
                  replace hl : lv_has ls 5 [(2, .int a64), (0, .ref (q 157)), (1, .int x2)] := hl
                  refine lv_iconst (v := 1) hx hb d_16_23_215 (by decide) ?_
                  refine lv_goto (tgt := 220) hx hb d_16_23_216 (by decide) ?_
                  exact J110 ((1 : Int32)) _ _ _ w62 ⟨(show q_F (1 ≤ 1) from (show 1 ≤ 1 from by omega)), (show q_F (lx92.toInt ≤ 1) from (show lx92.toInt ≤ 1 from by have t1 : lx92.toInt ≤ 1 := i98; omega)), V, q_lw hl (q_lw1 0 rfl (q_lw1 1 rfl (q_lw1 2 rfl q_lw0))), (show F_VR_chosen_J220 x2 t0_0 t0_1 t0_2 t0_3 t0_4 t0_5 t0_6 t0_7 t0_8 t0_9 t0_10 t0_11 t0_12 t0_13 t0_14 t0_15 t0_16 t0_17 t0_18 t0_19 t0_20 t0_21 t1_0 t2_0 t3_0 lx44 lx45 a64 lx66 lx79 lx92 1 = (F_VR_chosen x2 t0_0 t0_1 t0_2 t0_3 t0_4 t0_5 t0_6 t0_7 t0_8 t0_9 t0_10 t0_11 t0_12 t0_13 t0_14 t0_15 t0_16 t0_17 t0_18 t0_19 t0_20 t0_21 t1_0 t2_0 t3_0) from Eq.trans (by rw [F_VR_chosen_J215.eq_1]) hR148)⟩
                ·
                  intro J147
                  refine lv_if_ne (tgt := 215) hx hb d_16_23_185 (by decide) (fun c153 => ?_) (fun c153 => ?_)
                  ·
                    exact J147 (()) _ _ _ w62 ⟨V, q_lw hl (q_lw1 1 rfl (q_lw1 2 rfl (q_lw1 3 rfl q_lw0))), (show F_VR_chosen_J215 x2 t0_0 t0_1 t0_2 t0_3 t0_4 t0_5 t0_6 t0_7 t0_8 t0_9 t0_10 t0_11 t0_12 t0_13 t0_14 t0_15 t0_16 t0_17 t0_18 t0_19 t0_20 t0_21 t1_0 t2_0 t3_0 lx44 lx45 a64 lx66 lx79 lx92 = (F_VR_chosen x2 t0_0 t0_1 t0_2 t0_3 t0_4 t0_5 t0_6 t0_7 t0_8 t0_9 t0_10 t0_11 t0_12 t0_13 t0_14 t0_15 t0_16 t0_17 t0_18 t0_19 t0_20 t0_21 t1_0 t2_0 t3_0) from Eq.trans (by rw [F_VR_chosen_J181.eq_1, if_neg c153]) hR100)⟩
                  ·
                    have b155 : q_F (lx92.toInt = 0) := (q_eqI c153)
                    refine lv_iload_n hx hb d_16_23_188 rfl (lv_at hl 3 rfl) ?_
                    refine lv_bipush (v := 102) hx hb d_16_23_189 (by decide) ?_
                    refine q_join (X := Unit) (fun z H locs ls _ => q_Wd D g (va_A ws sz) s w62 H locs ∧ lv_has ls 5 [(2, .int a64), (0, .ref (q 157)), (1, .int x2)] ∧ F_VR_chosen_J219 x2 t0_0 t0_1 t0_2 t0_3 t0_4 t0_5 t0_6 t0_7 t0_8 t0_9 t0_10 t0_11 t0_12 t0_13 t0_14 t0_15 t0_16 t0_17 t0_18 t0_19 t0_20 t0_21 t1_0 t2_0 t3_0 lx44 lx45 a64 lx66 lx79 lx92 = (F_VR_chosen x2 t0_0 t0_1 t0_2 t0_3 t0_4 t0_5 t0_6 t0_7 t0_8 t0_9 t0_10 t0_11 t0_12 t0_13 t0_14 t0_15 t0_16 t0_17 t0_18 t0_19 t0_20 t0_21 t1_0 t2_0 t3_0)) (fun z => []) 219 0 0 ?_ ?_
                    ·
                      rintro _ H locs ls _ ⟨V, hl, hR161⟩
                      replace hl : lv_has ls 5 [(2, .int a64), (0, .ref (q 157)), (1, .int x2)] := hl
                      refine lv_iconst (v := 0) hx hb d_16_23_219 (by decide) ?_
                      exact J110 ((0 : Int32)) _ _ _ w62 ⟨(show q_F (0 ≤ 1) from (show 0 ≤ 1 from by omega)), (show q_F (lx92.toInt ≤ 0) from (show lx92.toInt ≤ 0 from by have t1 : lx92.toInt = 0 := b155; omega)), V, q_lw hl (q_lw1 0 rfl (q_lw1 1 rfl (q_lw1 2 rfl q_lw0))), (show F_VR_chosen_J220 x2 t0_0 t0_1 t0_2 t0_3 t0_4 t0_5 t0_6 t0_7 t0_8 t0_9 t0_10 t0_11 t0_12 t0_13 t0_14 t0_15 t0_16 t0_17 t0_18 t0_19 t0_20 t0_21 t1_0 t2_0 t3_0 lx44 lx45 a64 lx66 lx79 lx92 0 = (F_VR_chosen x2 t0_0 t0_1 t0_2 t0_3 t0_4 t0_5 t0_6 t0_7 t0_8 t0_9 t0_10 t0_11 t0_12 t0_13 t0_14 t0_15 t0_16 t0_17 t0_18 t0_19 t0_20 t0_21 t1_0 t2_0 t3_0) from Eq.trans (by rw [F_VR_chosen_J219.eq_1]) hR161)⟩
                    ·
                      intro J160
                      refine q_join (X := Unit) (fun z H locs ls _ => q_Wd D g (va_A ws sz) s w62 H locs ∧ lv_has ls 5 [(2, .int a64), (0, .ref (q 157)), (1, .int x2)] ∧ F_VR_chosen_J206 x2 t0_0 t0_1 t0_2 t0_3 t0_4 t0_5 t0_6 t0_7 t0_8 t0_9 t0_10 t0_11 t0_12 t0_13 t0_14 t0_15 t0_16 t0_17 t0_18 t0_19 t0_20 t0_21 t1_0 t2_0 t3_0 lx44 lx45 a64 lx66 lx79 lx92 = (F_VR_chosen x2 t0_0 t0_1 t0_2 t0_3 t0_4 t0_5 t0_6 t0_7 t0_8 t0_9 t0_10 t0_11 t0_12 t0_13 t0_14 t0_15 t0_16 t0_17 t0_18 t0_19 t0_20 t0_21 t1_0 t2_0 t3_0)) (fun z => []) 206 0 0 ?_ ?_
                      ·
                        rintro _ H locs ls _ ⟨V, hl, hR171⟩
                        replace hl : lv_has ls 5 [(2, .int a64), (0, .ref (q 157)), (1, .int x2)] := hl
                        refine lv_iload_n hx hb d_16_23_206 rfl (lv_at hl 0 rfl) ?_
                        refine lv_iconst (v := 5) hx hb d_16_23_207 (by decide) ?_
                        refine lv_icmp_eq (tgt := 219) hx hb d_16_23_208 (by decide) (fun c176 => ?_) (fun c176 => ?_)
                        ·
                          exact J160 (()) _ _ _ w62 ⟨V, q_lw hl (q_lw1 0 rfl (q_lw1 1 rfl (q_lw1 2 rfl q_lw0))), (show F_VR_chosen_J219 x2 t0_0 t0_1 t0_2 t0_3 t0_4 t0_5 t0_6 t0_7 t0_8 t0_9 t0_10 t0_11 t0_12 t0_13 t0_14 t0_15 t0_16 t0_17 t0_18 t0_19 t0_20 t0_21 t1_0 t2_0 t3_0 lx44 lx45 a64 lx66 lx79 lx92 = (F_VR_chosen x2 t0_0 t0_1 t0_2 t0_3 t0_4 t0_5 t0_6 t0_7 t0_8 t0_9 t0_10 t0_11 t0_12 t0_13 t0_14 t0_15 t0_16 t0_17 t0_18 t0_19 t0_20 t0_21 t1_0 t2_0 t3_0) from Eq.trans (by rw [F_VR_chosen_J206.eq_1, if_pos c176]) hR171)⟩
                        ·
                          refine lv_iload_n hx hb d_16_23_211 rfl (lv_at hl 0 rfl) ?_
                          refine lv_if_eq (tgt := 219) hx hb d_16_23_212 (by decide) (fun c179 => ?_) (fun c179 => ?_)
                          ·
                            exact J160 (()) _ _ _ w62 ⟨V, q_lw hl (q_lw1 0 rfl (q_lw1 1 rfl (q_lw1 2 rfl q_lw0))), (show F_VR_chosen_J219 x2 t0_0 t0_1 t0_2 t0_3 t0_4 t0_5 t0_6 t0_7 t0_8 t0_9 t0_10 t0_11 t0_12 t0_13 t0_14 t0_15 t0_16 t0_17 t0_18 t0_19 t0_20 t0_21 t1_0 t2_0 t3_0 lx44 lx45 a64 lx66 lx79 lx92 = (F_VR_chosen x2 t0_0 t0_1 t0_2 t0_3 t0_4 t0_5 t0_6 t0_7 t0_8 t0_9 t0_10 t0_11 t0_12 t0_13 t0_14 t0_15 t0_16 t0_17 t0_18 t0_19 t0_20 t0_21 t1_0 t2_0 t3_0) from Eq.trans (by rw [F_VR_chosen_J206.eq_1, if_neg c176, if_pos c179]) hR171)⟩
                          ·
                            exact J147 (()) _ _ _ w62 ⟨V, q_lw hl (q_lw1 0 rfl (q_lw1 1 rfl (q_lw1 2 rfl q_lw0))), (show F_VR_chosen_J215 x2 t0_0 t0_1 t0_2 t0_3 t0_4 t0_5 t0_6 t0_7 t0_8 t0_9 t0_10 t0_11 t0_12 t0_13 t0_14 t0_15 t0_16 t0_17 t0_18 t0_19 t0_20 t0_21 t1_0 t2_0 t3_0 lx44 lx45 a64 lx66 lx79 lx92 = (F_VR_chosen x2 t0_0 t0_1 t0_2 t0_3 t0_4 t0_5 t0_6 t0_7 t0_8 t0_9 t0_10 t0_11 t0_12 t0_13 t0_14 t0_15 t0_16 t0_17 t0_18 t0_19 t0_20 t0_21 t1_0 t2_0 t3_0) from Eq.trans (by rw [F_VR_chosen_J206.eq_1, if_neg c176, if_neg c179]) hR171)⟩
                      ·
                        intro J170
                        refine lv_icmp_eq (tgt := 206) hx hb d_16_23_191 (by decide) (fun c182 => ?_) (fun c182 => ?_)
                        ·
                          exact J170 (()) _ _ _ w62 ⟨V, q_lw hl (q_lw1 1 rfl (q_lw1 2 rfl (q_lw1 3 rfl q_lw0))), (show F_VR_chosen_J206 x2 t0_0 t0_1 t0_2 t0_3 t0_4 t0_5 t0_6 t0_7 t0_8 t0_9 t0_10 t0_11 t0_12 t0_13 t0_14 t0_15 t0_16 t0_17 t0_18 t0_19 t0_20 t0_21 t1_0 t2_0 t3_0 lx44 lx45 a64 lx66 lx79 lx92 = (F_VR_chosen x2 t0_0 t0_1 t0_2 t0_3 t0_4 t0_5 t0_6 t0_7 t0_8 t0_9 t0_10 t0_11 t0_12 t0_13 t0_14 t0_15 t0_16 t0_17 t0_18 t0_19 t0_20 t0_21 t1_0 t2_0 t3_0) from Eq.trans (by rw [F_VR_chosen_J181.eq_1, if_pos c153, if_pos c182]) hR100)⟩
                        ·
                          refine lv_iload_n hx hb d_16_23_194 rfl (lv_at hl 3 rfl) ?_
                          refine lv_bipush (v := 101) hx hb d_16_23_195 (by decide) ?_
                          refine lv_icmp_eq (tgt := 206) hx hb d_16_23_197 (by decide) (fun c185 => ?_) (fun c185 => ?_)
                          ·
                            exact J170 (()) _ _ _ w62 ⟨V, q_lw hl (q_lw1 1 rfl (q_lw1 2 rfl (q_lw1 3 rfl q_lw0))), (show F_VR_chosen_J206 x2 t0_0 t0_1 t0_2 t0_3 t0_4 t0_5 t0_6 t0_7 t0_8 t0_9 t0_10 t0_11 t0_12 t0_13 t0_14 t0_15 t0_16 t0_17 t0_18 t0_19 t0_20 t0_21 t1_0 t2_0 t3_0 lx44 lx45 a64 lx66 lx79 lx92 = (F_VR_chosen x2 t0_0 t0_1 t0_2 t0_3 t0_4 t0_5 t0_6 t0_7 t0_8 t0_9 t0_10 t0_11 t0_12 t0_13 t0_14 t0_15 t0_16 t0_17 t0_18 t0_19 t0_20 t0_21 t1_0 t2_0 t3_0) from Eq.trans (by rw [F_VR_chosen_J181.eq_1, if_pos c153, if_neg c182, if_pos c185]) hR100)⟩
                          ·
                            refine lv_iload_n hx hb d_16_23_200 rfl (lv_at hl 3 rfl) ?_
                            refine lv_bipush (v := 103) hx hb d_16_23_201 (by decide) ?_
                            refine lv_icmp_ne (tgt := 219) hx hb d_16_23_203 (by decide) (fun c188 => ?_) (fun c188 => ?_)
                            ·
                              exact J160 (()) _ _ _ w62 ⟨V, q_lw hl (q_lw1 1 rfl (q_lw1 2 rfl (q_lw1 3 rfl q_lw0))), (show F_VR_chosen_J219 x2 t0_0 t0_1 t0_2 t0_3 t0_4 t0_5 t0_6 t0_7 t0_8 t0_9 t0_10 t0_11 t0_12 t0_13 t0_14 t0_15 t0_16 t0_17 t0_18 t0_19 t0_20 t0_21 t1_0 t2_0 t3_0 lx44 lx45 a64 lx66 lx79 lx92 = (F_VR_chosen x2 t0_0 t0_1 t0_2 t0_3 t0_4 t0_5 t0_6 t0_7 t0_8 t0_9 t0_10 t0_11 t0_12 t0_13 t0_14 t0_15 t0_16 t0_17 t0_18 t0_19 t0_20 t0_21 t1_0 t2_0 t3_0) from Eq.trans (by rw [F_VR_chosen_J181.eq_1, if_pos c153, if_neg c182, if_neg c185, if_neg c188]) hR100)⟩
                            ·
                              exact J170 (()) _ _ _ w62 ⟨V, q_lw hl (q_lw1 1 rfl (q_lw1 2 rfl (q_lw1 3 rfl q_lw0))), (show F_VR_chosen_J206 x2 t0_0 t0_1 t0_2 t0_3 t0_4 t0_5 t0_6 t0_7 t0_8 t0_9 t0_10 t0_11 t0_12 t0_13 t0_14 t0_15 t0_16 t0_17 t0_18 t0_19 t0_20 t0_21 t1_0 t2_0 t3_0 lx44 lx45 a64 lx66 lx79 lx92 = (F_VR_chosen x2 t0_0 t0_1 t0_2 t0_3 t0_4 t0_5 t0_6 t0_7 t0_8 t0_9 t0_10 t0_11 t0_12 t0_13 t0_14 t0_15 t0_16 t0_17 t0_18 t0_19 t0_20 t0_21 t1_0 t2_0 t3_0) from Eq.trans (by rw [F_VR_chosen_J181.eq_1, if_pos c153, if_neg c182, if_neg c185, if_pos c188]) hR100)⟩
            ·
              intro J97
              refine q_join (X := Unit) (fun z H locs ls _ => q_Wd D g (va_A ws sz) s w62 H locs ∧ lv_has ls 5 [(2, .int a64), (0, .ref (q 157)), (1, .int x2)] ∧ F_VR_chosen_J176 x2 t0_0 t0_1 t0_2 t0_3 t0_4 t0_5 t0_6 t0_7 t0_8 t0_9 t0_10 t0_11 t0_12 t0_13 t0_14 t0_15 t0_16 t0_17 t0_18 t0_19 t0_20 t0_21 t1_0 t2_0 t3_0 lx44 lx45 a64 lx66 lx79 = (F_VR_chosen x2 t0_0 t0_1 t0_2 t0_3 t0_4 t0_5 t0_6 t0_7 t0_8 t0_9 t0_10 t0_11 t0_12 t0_13 t0_14 t0_15 t0_16 t0_17 t0_18 t0_19 t0_20 t0_21 t1_0 t2_0 t3_0)) (fun z => []) 176 0 0 ?_ ?_
              ·
                rintro _ H locs ls _ ⟨V, hl, hR196⟩
                replace hl : lv_has ls 5 [(2, .int a64), (0, .ref (q 157)), (1, .int x2)] := hl
                refine lv_iconst (v := 1) hx hb d_16_23_176 (by decide) ?_
                refine lv_goto (tgt := 181) hx hb d_16_23_177 (by decide) ?_
                exact J97 ((1 : Int32)) _ _ _ w62 ⟨(show q_F (1 ≤ 1) from (show 1 ≤ 1 from by omega)), (show q_F (lx79.toInt ≤ 1) from (show lx79.toInt ≤ 1 from by have t1 : lx79.toInt ≤ 1 := i86; omega)), V, q_lw hl (q_lw1 0 rfl (q_lw1 1 rfl (q_lw1 2 rfl q_lw0))), (show F_VR_chosen_J181 x2 t0_0 t0_1 t0_2 t0_3 t0_4 t0_5 t0_6 t0_7 t0_8 t0_9 t0_10 t0_11 t0_12 t0_13 t0_14 t0_15 t0_16 t0_17 t0_18 t0_19 t0_20 t0_21 t1_0 t2_0 t3_0 lx44 lx45 a64 lx66 lx79 1 = (F_VR_chosen x2 t0_0 t0_1 t0_2 t0_3 t0_4 t0_5 t0_6 t0_7 t0_8 t0_9 t0_10 t0_11 t0_12 t0_13 t0_14 t0_15 t0_16 t0_17 t0_18 t0_19 t0_20 t0_21 t1_0 t2_0 t3_0) from Eq.trans (by rw [F_VR_chosen_J176.eq_1]) hR196)⟩
              ·
                intro J195
                refine lv_if_ne (tgt := 176) hx hb d_16_23_156 (by decide) (fun c201 => ?_) (fun c201 => ?_)
                ·
                  exact J195 (()) _ _ _ w62 ⟨V, q_lw hl (q_lw1 1 rfl (q_lw1 2 rfl (q_lw1 3 rfl q_lw0))), (show F_VR_chosen_J176 x2 t0_0 t0_1 t0_2 t0_3 t0_4 t0_5 t0_6 t0_7 t0_8 t0_9 t0_10 t0_11 t0_12 t0_13 t0_14 t0_15 t0_16 t0_17 t0_18 t0_19 t0_20 t0_21 t1_0 t2_0 t3_0 lx44 lx45 a64 lx66 lx79 = (F_VR_chosen x2 t0_0 t0_1 t0_2 t0_3 t0_4 t0_5 t0_6 t0_7 t0_8 t0_9 t0_10 t0_11 t0_12 t0_13 t0_14 t0_15 t0_16 t0_17 t0_18 t0_19 t0_20 t0_21 t1_0 t2_0 t3_0) from Eq.trans (by rw [F_VR_chosen_J152.eq_1, if_neg c201]) hR87)⟩
                ·
                  have b203 : q_F (lx79.toInt = 0) := (q_eqI c201)
                  refine lv_aload_n hx hb d_16_23_159 rfl (lv_at hl 2 rfl) ?_
                  refine lv_iload_n hx hb d_16_23_160 rfl (lv_at hl 3 rfl) ?_
                  refine q_goi V (q_runV (As := [.int x2]) (rest := []) (d := 1) (mc := 0) (ms := 0) (ci := 17) C0 V rfl LV_VR_101 (X_VR_isNumeric l D g q w62  x2 hI t0_0 t0_1 t0_2 t0_3 t0_4 t0_5 t0_6 t0_7 t0_8 t0_9 t0_10 t0_11 t0_12 t0_13 lx44 lx45 lx44 t0_17 t0_18 t0_19 t0_20 t0_21 hO46  _) rfl rfl hO46 rfl hl.1 rfl (Nat.le_of_ble_eq_true rfl) ⟨by decide, by decide⟩ ⟨Nat.le_of_ble_eq_true rfl, Nat.le_of_ble_eq_true rfl⟩ d_16_23_161) (fun a206 u204 H locs hp205 V => ?_)
                  obtain ⟨rfl, b207, b208, hE209⟩ := hp205
                  have e210 : a206 = (F_VR_isNumeric x2 t0_0 t0_1 t0_2 t0_3 t0_4 t0_5 t0_6 t0_7 t0_8 t0_9 t0_10 t0_11 t0_12 t0_13 lx44 lx45 lx44 t0_17 t0_18 t0_19 t0_20 t0_21) := hE209
                  clear b207
                  clear b208
                  refine q_join (X := Unit) (fun z H locs ls _ => q_Wd D g (va_A ws sz) s w62 H locs ∧ lv_has ls 5 [(2, .int a64), (0, .ref (q 157)), (1, .int x2)] ∧ F_VR_chosen_J180 x2 t0_0 t0_1 t0_2 t0_3 t0_4 t0_5 t0_6 t0_7 t0_8 t0_9 t0_10 t0_11 t0_12 t0_13 t0_14 t0_15 t0_16 t0_17 t0_18 t0_19 t0_20 t0_21 t1_0 t2_0 t3_0 lx44 lx45 a64 lx66 lx79 = (F_VR_chosen x2 t0_0 t0_1 t0_2 t0_3 t0_4 t0_5 t0_6 t0_7 t0_8 t0_9 t0_10 t0_11 t0_12 t0_13 t0_14 t0_15 t0_16 t0_17 t0_18 t0_19 t0_20 t0_21 t1_0 t2_0 t3_0)) (fun z => []) 180 0 0 ?_ ?_
                  ·
                    rintro _ H locs ls _ ⟨V, hl, hR216⟩
                    replace hl : lv_has ls 5 [(2, .int a64), (0, .ref (q 157)), (1, .int x2)] := hl
                    refine lv_iconst (v := 0) hx hb d_16_23_180 (by decide) ?_
                    exact J97 ((0 : Int32)) _ _ _ w62 ⟨(show q_F (0 ≤ 1) from (show 0 ≤ 1 from by omega)), (show q_F (lx79.toInt ≤ 0) from (show lx79.toInt ≤ 0 from by have t1 : lx79.toInt = 0 := b203; omega)), V, q_lw hl (q_lw1 0 rfl (q_lw1 1 rfl (q_lw1 2 rfl q_lw0))), (show F_VR_chosen_J181 x2 t0_0 t0_1 t0_2 t0_3 t0_4 t0_5 t0_6 t0_7 t0_8 t0_9 t0_10 t0_11 t0_12 t0_13 t0_14 t0_15 t0_16 t0_17 t0_18 t0_19 t0_20 t0_21 t1_0 t2_0 t3_0 lx44 lx45 a64 lx66 lx79 0 = (F_VR_chosen x2 t0_0 t0_1 t0_2 t0_3 t0_4 t0_5 t0_6 t0_7 t0_8 t0_9 t0_10 t0_11 t0_12 t0_13 t0_14 t0_15 t0_16 t0_17 t0_18 t0_19 t0_20 t0_21 t1_0 t2_0 t3_0) from Eq.trans (by rw [F_VR_chosen_J180.eq_1]) hR216)⟩
                  ·
                    intro J215
                    refine lv_if_eq (tgt := 180) hx hb d_16_23_164 (by decide) (fun c221 => ?_) (fun c221 => ?_)
                    ·
                      exact J215 (()) _ _ _ w62 ⟨V, q_lw hl (q_lw1 1 rfl (q_lw1 2 rfl (q_lw1 3 rfl q_lw0))), (show F_VR_chosen_J180 x2 t0_0 t0_1 t0_2 t0_3 t0_4 t0_5 t0_6 t0_7 t0_8 t0_9 t0_10 t0_11 t0_12 t0_13 t0_14 t0_15 t0_16 t0_17 t0_18 t0_19 t0_20 t0_21 t1_0 t2_0 t3_0 lx44 lx45 a64 lx66 lx79 = (F_VR_chosen x2 t0_0 t0_1 t0_2 t0_3 t0_4 t0_5 t0_6 t0_7 t0_8 t0_9 t0_10 t0_11 t0_12 t0_13 t0_14 t0_15 t0_16 t0_17 t0_18 t0_19 t0_20 t0_21 t1_0 t2_0 t3_0) from Eq.trans (by have c221x := c221; rw [e210] at c221x; rw [F_VR_chosen_J152.eq_1, if_pos c201, if_pos c221x]) hR87)⟩
                    ·
                      refine lv_iload_n hx hb d_16_23_167 rfl (lv_at hl 1 rfl) ?_
                      refine lv_iconst (v := 3) hx hb d_16_23_168 (by decide) ?_
                      refine lv_icmp_eq (tgt := 180) hx hb d_16_23_169 (by decide) (fun c224 => ?_) (fun c224 => ?_)
                      ·
                        exact J215 (()) _ _ _ w62 ⟨V, q_lw hl (q_lw1 1 rfl (q_lw1 2 rfl (q_lw1 3 rfl q_lw0))), (show F_VR_chosen_J180 x2 t0_0 t0_1 t0_2 t0_3 t0_4 t0_5 t0_6 t0_7 t0_8 t0_9 t0_10 t0_11 t0_12 t0_13 t0_14 t0_15 t0_16 t0_17 t0_18 t0_19 t0_20 t0_21 t1_0 t2_0 t3_0 lx44 lx45 a64 lx66 lx79 = (F_VR_chosen x2 t0_0 t0_1 t0_2 t0_3 t0_4 t0_5 t0_6 t0_7 t0_8 t0_9 t0_10 t0_11 t0_12 t0_13 t0_14 t0_15 t0_16 t0_17 t0_18 t0_19 t0_20 t0_21 t1_0 t2_0 t3_0) from Eq.trans (by have c221x := c221; rw [e210] at c221x; rw [F_VR_chosen_J152.eq_1, if_pos c201, if_neg c221x, if_pos c224]) hR87)⟩
                      ·
                        refine lv_iload_n hx hb d_16_23_172 rfl (lv_at hl 1 rfl) ?_
                        refine lv_if_eq (tgt := 180) hx hb d_16_23_173 (by decide) (fun c227 => ?_) (fun c227 => ?_)
                        ·
                          exact J215 (()) _ _ _ w62 ⟨V, q_lw hl (q_lw1 1 rfl (q_lw1 2 rfl (q_lw1 3 rfl q_lw0))), (show F_VR_chosen_J180 x2 t0_0 t0_1 t0_2 t0_3 t0_4 t0_5 t0_6 t0_7 t0_8 t0_9 t0_10 t0_11 t0_12 t0_13 t0_14 t0_15 t0_16 t0_17 t0_18 t0_19 t0_20 t0_21 t1_0 t2_0 t3_0 lx44 lx45 a64 lx66 lx79 = (F_VR_chosen x2 t0_0 t0_1 t0_2 t0_3 t0_4 t0_5 t0_6 t0_7 t0_8 t0_9 t0_10 t0_11 t0_12 t0_13 t0_14 t0_15 t0_16 t0_17 t0_18 t0_19 t0_20 t0_21 t1_0 t2_0 t3_0) from Eq.trans (by have c221x := c221; rw [e210] at c221x; rw [F_VR_chosen_J152.eq_1, if_pos c201, if_neg c221x, if_neg c224, if_pos c227]) hR87)⟩
                        ·
                          exact J195 (()) _ _ _ w62 ⟨V, q_lw hl (q_lw1 1 rfl (q_lw1 2 rfl (q_lw1 3 rfl q_lw0))), (show F_VR_chosen_J176 x2 t0_0 t0_1 t0_2 t0_3 t0_4 t0_5 t0_6 t0_7 t0_8 t0_9 t0_10 t0_11 t0_12 t0_13 t0_14 t0_15 t0_16 t0_17 t0_18 t0_19 t0_20 t0_21 t1_0 t2_0 t3_0 lx44 lx45 a64 lx66 lx79 = (F_VR_chosen x2 t0_0 t0_1 t0_2 t0_3 t0_4 t0_5 t0_6 t0_7 t0_8 t0_9 t0_10 t0_11 t0_12 t0_13 t0_14 t0_15 t0_16 t0_17 t0_18 t0_19 t0_20 t0_21 t1_0 t2_0 t3_0) from Eq.trans (by have c221x := c221; rw [e210] at c221x; rw [F_VR_chosen_J152.eq_1, if_pos c201, if_neg c221x, if_neg c224, if_neg c227]) hR87)⟩
          ·
            intro J84
            refine q_join (X := Unit) (fun z H locs ls _ => q_Wd D g (va_A ws sz) s w62 H locs ∧ lv_has ls 5 [(2, .int a64), (0, .ref (q 157)), (1, .int x2)] ∧ F_VR_chosen_J151 x2 t0_0 t0_1 t0_2 t0_3 t0_4 t0_5 t0_6 t0_7 t0_8 t0_9 t0_10 t0_11 t0_12 t0_13 t0_14 t0_15 t0_16 t0_17 t0_18 t0_19 t0_20 t0_21 t1_0 t2_0 t3_0 lx44 lx45 a64 lx66 = (F_VR_chosen x2 t0_0 t0_1 t0_2 t0_3 t0_4 t0_5 t0_6 t0_7 t0_8 t0_9 t0_10 t0_11 t0_12 t0_13 t0_14 t0_15 t0_16 t0_17 t0_18 t0_19 t0_20 t0_21 t1_0 t2_0 t3_0)) (fun z => []) 151 0 0 ?_ ?_
            ·
              rintro _ H locs ls _ ⟨V, hl, hR235⟩
              replace hl : lv_has ls 5 [(2, .int a64), (0, .ref (q 157)), (1, .int x2)] := hl
              refine lv_iconst (v := 0) hx hb d_16_23_151 (by decide) ?_
              exact J84 ((0 : Int32)) _ _ _ w62 ⟨(show q_F (0 ≤ 0) from (show 0 ≤ 0 from by omega)), (show q_F (0 ≤ 1) from (show 0 ≤ 1 from by omega)), V, q_lw hl (q_lw1 0 rfl (q_lw1 1 rfl (q_lw1 2 rfl q_lw0))), (show F_VR_chosen_J152 x2 t0_0 t0_1 t0_2 t0_3 t0_4 t0_5 t0_6 t0_7 t0_8 t0_9 t0_10 t0_11 t0_12 t0_13 t0_14 t0_15 t0_16 t0_17 t0_18 t0_19 t0_20 t0_21 t1_0 t2_0 t3_0 lx44 lx45 a64 lx66 0 = (F_VR_chosen x2 t0_0 t0_1 t0_2 t0_3 t0_4 t0_5 t0_6 t0_7 t0_8 t0_9 t0_10 t0_11 t0_12 t0_13 t0_14 t0_15 t0_16 t0_17 t0_18 t0_19 t0_20 t0_21 t1_0 t2_0 t3_0) from Eq.trans (by rw [F_VR_chosen_J151.eq_1]) hR235)⟩
            ·
              intro J234
              refine lv_icmp_ne (tgt := 151) hx hb d_16_23_125 (by decide) (fun c240 => ?_) (fun c240 => ?_)
              ·
                exact J234 (()) _ _ _ w62 ⟨V, q_lw hl (q_lw1 1 rfl (q_lw1 2 rfl (q_lw1 3 rfl q_lw0))), (show F_VR_chosen_J151 x2 t0_0 t0_1 t0_2 t0_3 t0_4 t0_5 t0_6 t0_7 t0_8 t0_9 t0_10 t0_11 t0_12 t0_13 t0_14 t0_15 t0_16 t0_17 t0_18 t0_19 t0_20 t0_21 t1_0 t2_0 t3_0 lx44 lx45 a64 lx66 = (F_VR_chosen x2 t0_0 t0_1 t0_2 t0_3 t0_4 t0_5 t0_6 t0_7 t0_8 t0_9 t0_10 t0_11 t0_12 t0_13 t0_14 t0_15 t0_16 t0_17 t0_18 t0_19 t0_20 t0_21 t1_0 t2_0 t3_0) from Eq.trans (by rw [F_VR_chosen_J121.eq_1, if_neg c240]) hR74)⟩
              ·
                refine lv_iload_n hx hb d_16_23_128 rfl (lv_at hl 1 rfl) ?_
                refine lv_iconst (v := 1) hx hb d_16_23_129 (by decide) ?_
                refine q_join (X := Unit) (fun z H locs ls _ => q_Wd D g (va_A ws sz) s w62 H locs ∧ lv_has ls 5 [(2, .int a64), (0, .ref (q 157)), (1, .int x2)] ∧ F_VR_chosen_J147 x2 t0_0 t0_1 t0_2 t0_3 t0_4 t0_5 t0_6 t0_7 t0_8 t0_9 t0_10 t0_11 t0_12 t0_13 t0_14 t0_15 t0_16 t0_17 t0_18 t0_19 t0_20 t0_21 t1_0 t2_0 t3_0 lx44 lx45 a64 lx66 = (F_VR_chosen x2 t0_0 t0_1 t0_2 t0_3 t0_4 t0_5 t0_6 t0_7 t0_8 t0_9 t0_10 t0_11 t0_12 t0_13 t0_14 t0_15 t0_16 t0_17 t0_18 t0_19 t0_20 t0_21 t1_0 t2_0 t3_0)) (fun z => []) 147 0 0 ?_ ?_
                ·
                  rintro _ H locs ls _ ⟨V, hl, hR248⟩
                  replace hl : lv_has ls 5 [(2, .int a64), (0, .ref (q 157)), (1, .int x2)] := hl
                  refine lv_iconst (v := 1) hx hb d_16_23_147 (by decide) ?_
                  refine lv_goto (tgt := 152) hx hb d_16_23_148 (by decide) ?_
                  exact J84 ((1 : Int32)) _ _ _ w62 ⟨(show q_F (0 ≤ 1) from (show 0 ≤ 1 from by omega)), (show q_F (1 ≤ 1) from (show 1 ≤ 1 from by omega)), V, q_lw hl (q_lw1 0 rfl (q_lw1 1 rfl (q_lw1 2 rfl q_lw0))), (show F_VR_chosen_J152 x2 t0_0 t0_1 t0_2 t0_3 t0_4 t0_5 t0_6 t0_7 t0_8 t0_9 t0_10 t0_11 t0_12 t0_13 t0_14 t0_15 t0_16 t0_17 t0_18 t0_19 t0_20 t0_21 t1_0 t2_0 t3_0 lx44 lx45 a64 lx66 1 = (F_VR_chosen x2 t0_0 t0_1 t0_2 t0_3 t0_4 t0_5 t0_6 t0_7 t0_8 t0_9 t0_10 t0_11 t0_12 t0_13 t0_14 t0_15 t0_16 t0_17 t0_18 t0_19 t0_20 t0_21 t1_0 t2_0 t3_0) from Eq.trans (by rw [F_VR_chosen_J147.eq_1]) hR248)⟩
                ·
                  intro J247
                  refine lv_icmp_eq (tgt := 147) hx hb d_16_23_130 (by decide) (fun c253 => ?_) (fun c253 => ?_)
                  ·
                    exact J247 (()) _ _ _ w62 ⟨V, q_lw hl (q_lw1 1 rfl (q_lw1 2 rfl (q_lw1 3 rfl q_lw0))), (show F_VR_chosen_J147 x2 t0_0 t0_1 t0_2 t0_3 t0_4 t0_5 t0_6 t0_7 t0_8 t0_9 t0_10 t0_11 t0_12 t0_13 t0_14 t0_15 t0_16 t0_17 t0_18 t0_19 t0_20 t0_21 t1_0 t2_0 t3_0 lx44 lx45 a64 lx66 = (F_VR_chosen x2 t0_0 t0_1 t0_2 t0_3 t0_4 t0_5 t0_6 t0_7 t0_8 t0_9 t0_10 t0_11 t0_12 t0_13 t0_14 t0_15 t0_16 t0_17 t0_18 t0_19 t0_20 t0_21 t1_0 t2_0 t3_0) from Eq.trans (by rw [F_VR_chosen_J121.eq_1, if_pos c240, if_pos c253]) hR74)⟩
                  ·
                    refine lv_iload_n hx hb d_16_23_133 rfl (lv_at hl 1 rfl) ?_
                    refine lv_iconst (v := 4) hx hb d_16_23_134 (by decide) ?_
                    refine lv_icmp_eq (tgt := 147) hx hb d_16_23_135 (by decide) (fun c256 => ?_) (fun c256 => ?_)
                    ·
                      exact J247 (()) _ _ _ w62 ⟨V, q_lw hl (q_lw1 1 rfl (q_lw1 2 rfl (q_lw1 3 rfl q_lw0))), (show F_VR_chosen_J147 x2 t0_0 t0_1 t0_2 t0_3 t0_4 t0_5 t0_6 t0_7 t0_8 t0_9 t0_10 t0_11 t0_12 t0_13 t0_14 t0_15 t0_16 t0_17 t0_18 t0_19 t0_20 t0_21 t1_0 t2_0 t3_0 lx44 lx45 a64 lx66 = (F_VR_chosen x2 t0_0 t0_1 t0_2 t0_3 t0_4 t0_5 t0_6 t0_7 t0_8 t0_9 t0_10 t0_11 t0_12 t0_13 t0_14 t0_15 t0_16 t0_17 t0_18 t0_19 t0_20 t0_21 t1_0 t2_0 t3_0) from Eq.trans (by rw [F_VR_chosen_J121.eq_1, if_pos c240, if_neg c253, if_pos c256]) hR74)⟩
                    ·
                      refine lv_iload_n hx hb d_16_23_138 rfl (lv_at hl 1 rfl) ?_
                      refine lv_iconst (v := 5) hx hb d_16_23_139 (by decide) ?_
                      refine lv_icmp_eq (tgt := 147) hx hb d_16_23_140 (by decide) (fun c259 => ?_) (fun c259 => ?_)
                      ·
                        exact J247 (()) _ _ _ w62 ⟨V, q_lw hl (q_lw1 1 rfl (q_lw1 2 rfl (q_lw1 3 rfl q_lw0))), (show F_VR_chosen_J147 x2 t0_0 t0_1 t0_2 t0_3 t0_4 t0_5 t0_6 t0_7 t0_8 t0_9 t0_10 t0_11 t0_12 t0_13 t0_14 t0_15 t0_16 t0_17 t0_18 t0_19 t0_20 t0_21 t1_0 t2_0 t3_0 lx44 lx45 a64 lx66 = (F_VR_chosen x2 t0_0 t0_1 t0_2 t0_3 t0_4 t0_5 t0_6 t0_7 t0_8 t0_9 t0_10 t0_11 t0_12 t0_13 t0_14 t0_15 t0_16 t0_17 t0_18 t0_19 t0_20 t0_21 t1_0 t2_0 t3_0) from Eq.trans (by rw [F_VR_chosen_J121.eq_1, if_pos c240, if_neg c253, if_neg c256, if_pos c259]) hR74)⟩
                      ·
                        refine lv_iload_n hx hb d_16_23_143 rfl (lv_at hl 0 rfl) ?_
                        refine lv_if_eq (tgt := 151) hx hb d_16_23_144 (by decide) (fun c262 => ?_) (fun c262 => ?_)
                        ·
                          exact J234 (()) _ _ _ w62 ⟨V, q_lw hl (q_lw1 1 rfl (q_lw1 2 rfl (q_lw1 3 rfl q_lw0))), (show F_VR_chosen_J151 x2 t0_0 t0_1 t0_2 t0_3 t0_4 t0_5 t0_6 t0_7 t0_8 t0_9 t0_10 t0_11 t0_12 t0_13 t0_14 t0_15 t0_16 t0_17 t0_18 t0_19 t0_20 t0_21 t1_0 t2_0 t3_0 lx44 lx45 a64 lx66 = (F_VR_chosen x2 t0_0 t0_1 t0_2 t0_3 t0_4 t0_5 t0_6 t0_7 t0_8 t0_9 t0_10 t0_11 t0_12 t0_13 t0_14 t0_15 t0_16 t0_17 t0_18 t0_19 t0_20 t0_21 t1_0 t2_0 t3_0) from Eq.trans (by rw [F_VR_chosen_J121.eq_1, if_pos c240, if_neg c253, if_neg c256, if_neg c259, if_pos c262]) hR74)⟩
                        ·
                          exact J247 (()) _ _ _ w62 ⟨V, q_lw hl (q_lw1 1 rfl (q_lw1 2 rfl (q_lw1 3 rfl q_lw0))), (show F_VR_chosen_J147 x2 t0_0 t0_1 t0_2 t0_3 t0_4 t0_5 t0_6 t0_7 t0_8 t0_9 t0_10 t0_11 t0_12 t0_13 t0_14 t0_15 t0_16 t0_17 t0_18 t0_19 t0_20 t0_21 t1_0 t2_0 t3_0 lx44 lx45 a64 lx66 = (F_VR_chosen x2 t0_0 t0_1 t0_2 t0_3 t0_4 t0_5 t0_6 t0_7 t0_8 t0_9 t0_10 t0_11 t0_12 t0_13 t0_14 t0_15 t0_16 t0_17 t0_18 t0_19 t0_20 t0_21 t1_0 t2_0 t3_0) from Eq.trans (by rw [F_VR_chosen_J121.eq_1, if_pos c240, if_neg c253, if_neg c256, if_neg c259, if_neg c262]) hR74)⟩
        ·
          intro J71
          refine q_join (X := Unit) (fun z H locs ls _ => q_Wd D g (va_A ws sz) s w62 H locs ∧ lv_has ls 5 [(2, .int a64), (0, .ref (q 157)), (1, .int x2)] ∧ F_VR_chosen_J120 x2 t0_0 t0_1 t0_2 t0_3 t0_4 t0_5 t0_6 t0_7 t0_8 t0_9 t0_10 t0_11 t0_12 t0_13 t0_14 t0_15 t0_16 t0_17 t0_18 t0_19 t0_20 t0_21 t1_0 t2_0 t3_0 lx44 lx45 a64 = (F_VR_chosen x2 t0_0 t0_1 t0_2 t0_3 t0_4 t0_5 t0_6 t0_7 t0_8 t0_9 t0_10 t0_11 t0_12 t0_13 t0_14 t0_15 t0_16 t0_17 t0_18 t0_19 t0_20 t0_21 t1_0 t2_0 t3_0)) (fun z => []) 120 0 0 ?_ ?_
          ·
            rintro _ H locs ls _ ⟨V, hl, hR270⟩
            replace hl : lv_has ls 5 [(2, .int a64), (0, .ref (q 157)), (1, .int x2)] := hl
            refine lv_iconst (v := 0) hx hb d_16_23_120 (by decide) ?_
            exact J71 ((0 : Int32)) _ _ _ w62 ⟨(show q_F (0 ≤ 0) from (show 0 ≤ 0 from by omega)), (show q_F (0 ≤ 1) from (show 0 ≤ 1 from by omega)), V, q_lw hl (q_lw1 0 rfl (q_lw1 1 rfl (q_lw1 2 rfl q_lw0))), (show F_VR_chosen_J121 x2 t0_0 t0_1 t0_2 t0_3 t0_4 t0_5 t0_6 t0_7 t0_8 t0_9 t0_10 t0_11 t0_12 t0_13 t0_14 t0_15 t0_16 t0_17 t0_18 t0_19 t0_20 t0_21 t1_0 t2_0 t3_0 lx44 lx45 a64 0 = (F_VR_chosen x2 t0_0 t0_1 t0_2 t0_3 t0_4 t0_5 t0_6 t0_7 t0_8 t0_9 t0_10 t0_11 t0_12 t0_13 t0_14 t0_15 t0_16 t0_17 t0_18 t0_19 t0_20 t0_21 t1_0 t2_0 t3_0) from Eq.trans (by rw [F_VR_chosen_J120.eq_1]) hR270)⟩
          ·
            intro J269
            refine lv_icmp_ne (tgt := 120) hx hb d_16_23_99 (by decide) (fun c275 => ?_) (fun c275 => ?_)
            ·
              exact J269 (()) _ _ _ w62 ⟨V, q_lw hl (q_lw1 0 rfl (q_lw1 1 rfl (q_lw1 2 rfl q_lw0))), (show F_VR_chosen_J120 x2 t0_0 t0_1 t0_2 t0_3 t0_4 t0_5 t0_6 t0_7 t0_8 t0_9 t0_10 t0_11 t0_12 t0_13 t0_14 t0_15 t0_16 t0_17 t0_18 t0_19 t0_20 t0_21 t1_0 t2_0 t3_0 lx44 lx45 a64 = (F_VR_chosen x2 t0_0 t0_1 t0_2 t0_3 t0_4 t0_5 t0_6 t0_7 t0_8 t0_9 t0_10 t0_11 t0_12 t0_13 t0_14 t0_15 t0_16 t0_17 t0_18 t0_19 t0_20 t0_21 t1_0 t2_0 t3_0) from Eq.trans (by have c275x := c275; rw [← e65] at c275x; rw [← e65, F_VR_chosen_J58.eq_1, if_neg c57, if_pos c60, if_neg c275x]) hR52)⟩
            ·
              refine lv_aload_n hx hb d_16_23_102 rfl (lv_at hl 1 rfl) ?_
              refine q_get (ci := 17) (j := 5) (v := .ref (q 160)) C0 V i_VR rfl rfl hO46 (by decide) w_2206 rfl d_16_23_103 ?_
              refine lv_aload_n hx hb d_16_23_106 rfl (lv_at hl 1 rfl) ?_
              refine q_get (ci := 17) (j := 21) (v := .int lx44) C0 V i_VR rfl rfl hO46 (by decide) w_2225 rfl d_16_23_107 ?_
              refine q_iald C0 V hA48 (q_ix (x := lx44.toInt) rfl (by first | with_reducible exact q_fe b59 | (have t1 : 0 ≤ lx44.toInt := b59; omega)) (by have t1 : 0 ≤ lx44.toInt := b59; have t2 : 0 ≤ t0_2.toInt ∧ t0_2.toInt ≤ 9 := btt0_2; have t3 : lx44.toInt < t0_2.toInt := b61; have e9 : (((9 : Int32).toNatClampNeg : Nat) : Int) = 9 := (by decide); omega)) d_16_23_110 ?_
              obtain ⟨a278, e279⟩ := q_nm (t2_0 lx44.toNatClampNeg : Int32)
              refine q_ti (v := a278) e279 ?_
              refine lv_bipush (v := 64) hx hb d_16_23_111 (by decide) ?_
              refine lv_icmp_ne (tgt := 120) hx hb d_16_23_113 (by decide) (fun c280 => ?_) (fun c280 => ?_)
              ·
                exact J269 (()) _ _ _ w62 ⟨V, q_lw hl (q_lw1 0 rfl (q_lw1 1 rfl (q_lw1 2 rfl q_lw0))), (show F_VR_chosen_J120 x2 t0_0 t0_1 t0_2 t0_3 t0_4 t0_5 t0_6 t0_7 t0_8 t0_9 t0_10 t0_11 t0_12 t0_13 t0_14 t0_15 t0_16 t0_17 t0_18 t0_19 t0_20 t0_21 t1_0 t2_0 t3_0 lx44 lx45 a64 = (F_VR_chosen x2 t0_0 t0_1 t0_2 t0_3 t0_4 t0_5 t0_6 t0_7 t0_8 t0_9 t0_10 t0_11 t0_12 t0_13 t0_14 t0_15 t0_16 t0_17 t0_18 t0_19 t0_20 t0_21 t1_0 t2_0 t3_0) from Eq.trans (by have c275x := c275; rw [← e65] at c275x; have c280x := c280; rw [← e279] at c280x; rw [← e65, F_VR_chosen_J58.eq_1, if_neg c57, if_pos c60, if_pos c275x, if_neg c280x]) hR52)⟩
              ·
                refine lv_iconst (v := 1) hx hb d_16_23_116 (by decide) ?_
                refine lv_goto (tgt := 121) hx hb d_16_23_117 (by decide) ?_
                exact J71 ((1 : Int32)) _ _ _ w62 ⟨(show q_F (0 ≤ 1) from (show 0 ≤ 1 from by omega)), (show q_F (1 ≤ 1) from (show 1 ≤ 1 from by omega)), V, q_lw hl (q_lw1 0 rfl (q_lw1 1 rfl (q_lw1 2 rfl q_lw0))), (show F_VR_chosen_J121 x2 t0_0 t0_1 t0_2 t0_3 t0_4 t0_5 t0_6 t0_7 t0_8 t0_9 t0_10 t0_11 t0_12 t0_13 t0_14 t0_15 t0_16 t0_17 t0_18 t0_19 t0_20 t0_21 t1_0 t2_0 t3_0 lx44 lx45 a64 1 = (F_VR_chosen x2 t0_0 t0_1 t0_2 t0_3 t0_4 t0_5 t0_6 t0_7 t0_8 t0_9 t0_10 t0_11 t0_12 t0_13 t0_14 t0_15 t0_16 t0_17 t0_18 t0_19 t0_20 t0_21 t1_0 t2_0 t3_0) from Eq.trans (by have c275x := c275; rw [← e65] at c275x; have c280x := c280; rw [← e279] at c280x; rw [← e65, F_VR_chosen_J58.eq_1, if_neg c57, if_pos c60, if_pos c275x, if_pos c280x]) hR52)⟩
      ·
        refine lv_bipush (v := 9) hx hb d_16_23_76 (by decide) ?_
        exact q_reti C0 V (⟨hI, hF, lx44, lx45, t0_16, hO46, (show 0 ≤ (9 : Int32).toInt from (by have z26 : (9 : Int32).toInt = 9 := rfl; omega)), (show (9 : Int32).toInt ≤ 11 from (by have z26 : (9 : Int32).toInt = 9 := rfl; omega)), (show (9 : Int32).toInt ≤ t0_2.toInt + 10 from (by have z26 : (9 : Int32).toInt = 9 := rfl; have t1 : 0 ≤ t0_2.toInt ∧ t0_2.toInt ≤ 9 := btt0_2; omega)), (show ((9 : Int32), lx44, lx45, t0_16) = (F_VR_chosen x2 t0_0 t0_1 t0_2 t0_3 t0_4 t0_5 t0_6 t0_7 t0_8 t0_9 t0_10 t0_11 t0_12 t0_13 t0_14 t0_15 t0_16 t0_17 t0_18 t0_19 t0_20 t0_21 t1_0 t2_0 t3_0) from Eq.trans (by rw [F_VR_chosen_J58.eq_1, if_neg c57, if_neg c60]) hR52)⟩) d_16_23_78
  ·
    intro J50
    refine lv_if_eq (tgt := 20) hx hb d_16_23_6 (by decide) (fun c284 => ?_) (fun c284 => ?_)
    ·
      refine lv_aload_n hx hb d_16_23_20 rfl (lv_at hl 0 rfl) ?_
      refine q_get (ci := 17) (j := 15) (v := .int t0_8) C0 V i_VR rfl rfl hT0 (by decide) w_2219 rfl d_16_23_21 ?_
      refine lv_if_le (tgt := 40) hx hb d_16_23_24 (by decide) (fun c286 => ?_) (fun c286 => ?_)
      ·
        refine lv_aload_n hx hb d_16_23_40 rfl (lv_at hl 0 rfl) ?_
        refine lv_aload_n hx hb d_16_23_41 rfl (lv_at hl 0 rfl) ?_
        refine q_get (ci := 17) (j := 22) (v := .int t0_15) C0 V i_VR rfl rfl hT0 (by decide) w_2226 rfl d_16_23_42 ?_
        refine q_put (ci := 17) (j := 21) (v := .int t0_15) (ty := .int) C0 V i_VR o_VR n_VR rfl rfl hT0 (by decide) w_2225 rfl rfl rfl rfl (Nat.le_of_ble_eq_true rfl) d_16_23_45 (fun H locs w288 hu289 hT0 V => ?_)
        replace hT0 : w288[157]? = (some (q 157, .inr (17, [.int t0_0, .ref (q 158), .int t0_1, .int t0_2, .ref (q 159), .ref (q 160), .ref (q 161), .ref (q 162), .ref (q 163), .int t0_3, .ref (q 164), .int t0_4, .int t0_5, .int t0_6, .int t0_7, .int t0_8, .int t0_9, .int t0_10, .int t0_11, .int t0_12, .int t0_13, .int t0_15, .int t0_15, .int t0_16, .ref (q 165), .int t0_17, .int t0_18, .int t0_19, .ref (q 166), .int t0_20, .int t0_21])) : Option (Nat × va_E)) := hT0
        replace hI := n_p157 hI hu289 hT0 (by first | with_reducible exact q_fe btt0_1 | exact ⟨(by have t1 : 0 ≤ t0_1.toInt ∧ t0_1.toInt ≤ 256 := btt0_1; omega), (by have t1 : 0 ≤ t0_1.toInt ∧ t0_1.toInt ≤ 256 := btt0_1; omega)⟩) (by first | with_reducible exact q_fe btt0_2 | exact ⟨(by have t1 : 0 ≤ t0_2.toInt ∧ t0_2.toInt ≤ 9 := btt0_2; omega), (by have t1 : 0 ≤ t0_2.toInt ∧ t0_2.toInt ≤ 9 := btt0_2; omega)⟩) (by first | with_reducible exact q_fe btt0_3 | exact ⟨(by have t1 : 0 ≤ t0_3.toInt ∧ t0_3.toInt ≤ 4096 := btt0_3; omega), (by have t1 : 0 ≤ t0_3.toInt ∧ t0_3.toInt ≤ 4096 := btt0_3; omega)⟩) (by first | with_reducible exact q_fe btt0_10 | exact ⟨(by have t1 : 0 ≤ t0_10.toInt ∧ t0_10.toInt ≤ 1 := btt0_10; omega), (by have t1 : 0 ≤ t0_10.toInt ∧ t0_10.toInt ≤ 1 := btt0_10; omega)⟩) (by first | with_reducible exact q_fe btt0_19 | exact ⟨(by have t1 : 0 ≤ t0_19.toInt ∧ t0_19.toInt ≤ 1 := btt0_19; omega), (by have t1 : 0 ≤ t0_19.toInt ∧ t0_19.toInt ≤ 1 := btt0_19; omega)⟩)
        replace hT1 := (hu289 _ (by decide)).trans hT1
        replace hT2 := (hu289 _ (by decide)).trans hT2
        replace hT3 := (hu289 _ (by decide)).trans hT3
        replace hF := q_us hF hu289 (by simp)
        refine lv_aload_n hx hb d_16_23_48 rfl (lv_at hl 0 rfl) ?_
        refine lv_dup hx hb d_16_23_49 rfl ?_
        refine q_get (ci := 17) (j := 22) (v := .int t0_15) C0 V i_VR rfl rfl hT0 (by decide) w_2226 rfl d_16_23_50 ?_
        refine lv_iconst (v := 1) hx hb d_16_23_53 (by decide) ?_
        refine lv_iadd hx hb d_16_23_54 ?_
        obtain ⟨a290, e291⟩ := q_nm (t0_15 + 1 : Int32)
        refine q_ti (v := a290) e291 ?_
        refine q_put (ci := 17) (j := 22) (v := .int a290) (ty := .int) C0 V i_VR o_VR n_VR rfl rfl hT0 (by decide) w_2226 rfl rfl rfl rfl (Nat.le_of_ble_eq_true rfl) d_16_23_55 (fun H locs w292 hu293 hT0 V => ?_)
        replace hT0 : w292[157]? = (some (q 157, .inr (17, [.int t0_0, .ref (q 158), .int t0_1, .int t0_2, .ref (q 159), .ref (q 160), .ref (q 161), .ref (q 162), .ref (q 163), .int t0_3, .ref (q 164), .int t0_4, .int t0_5, .int t0_6, .int t0_7, .int t0_8, .int t0_9, .int t0_10, .int t0_11, .int t0_12, .int t0_13, .int t0_15, .int a290, .int t0_16, .ref (q 165), .int t0_17, .int t0_18, .int t0_19, .ref (q 166), .int t0_20, .int t0_21])) : Option (Nat × va_E)) := hT0
        replace hI := n_p157 hI hu293 hT0 (by first | with_reducible exact q_fe btt0_1 | exact ⟨(by have t1 : 0 ≤ t0_1.toInt ∧ t0_1.toInt ≤ 256 := btt0_1; omega), (by have t1 : 0 ≤ t0_1.toInt ∧ t0_1.toInt ≤ 256 := btt0_1; omega)⟩) (by first | with_reducible exact q_fe btt0_2 | exact ⟨(by have t1 : 0 ≤ t0_2.toInt ∧ t0_2.toInt ≤ 9 := btt0_2; omega), (by have t1 : 0 ≤ t0_2.toInt ∧ t0_2.toInt ≤ 9 := btt0_2; omega)⟩) (by first | with_reducible exact q_fe btt0_3 | exact ⟨(by have t1 : 0 ≤ t0_3.toInt ∧ t0_3.toInt ≤ 4096 := btt0_3; omega), (by have t1 : 0 ≤ t0_3.toInt ∧ t0_3.toInt ≤ 4096 := btt0_3; omega)⟩) (by first | with_reducible exact q_fe btt0_10 | exact ⟨(by have t1 : 0 ≤ t0_10.toInt ∧ t0_10.toInt ≤ 1 := btt0_10; omega), (by have t1 : 0 ≤ t0_10.toInt ∧ t0_10.toInt ≤ 1 := btt0_10; omega)⟩) (by first | with_reducible exact q_fe btt0_19 | exact ⟨(by have t1 : 0 ≤ t0_19.toInt ∧ t0_19.toInt ≤ 1 := btt0_19; omega), (by have t1 : 0 ≤ t0_19.toInt ∧ t0_19.toInt ≤ 1 := btt0_19; omega)⟩)
        replace hT1 := (hu293 _ (by decide)).trans hT1
        replace hT2 := (hu293 _ (by decide)).trans hT2
        replace hT3 := (hu293 _ (by decide)).trans hT3
        replace hF := q_us hF hu293 (by simp)
        exact J50 ((t0_15 : Int32), (a290 : Int32)) _ _ _ _ ⟨V, q_lw hl (q_lw1 0 rfl (q_lw1 1 rfl q_lw0)), hI, hF, hT0, hT1, hT2, hT3, (show F_VR_chosen_J58 x2 t0_0 t0_1 t0_2 t0_3 t0_4 t0_5 t0_6 t0_7 t0_8 t0_9 t0_10 t0_11 t0_12 t0_13 t0_14 t0_15 t0_16 t0_17 t0_18 t0_19 t0_20 t0_21 t1_0 t2_0 t3_0 t0_15 a290 = (F_VR_chosen x2 t0_0 t0_1 t0_2 t0_3 t0_4 t0_5 t0_6 t0_7 t0_8 t0_9 t0_10 t0_11 t0_12 t0_13 t0_14 t0_15 t0_16 t0_17 t0_18 t0_19 t0_20 t0_21 t1_0 t2_0 t3_0) from (by have c284x := c284; rw [e43] at c284x; rw [← e291, F_VR_chosen.eq_1, if_pos c284x, if_pos c286]))⟩
      ·
        refine lv_aload_n hx hb d_16_23_27 rfl (lv_at hl 0 rfl) ?_
        refine lv_aload_n hx hb d_16_23_28 rfl (lv_at hl 0 rfl) ?_
        refine q_get (ci := 17) (j := 15) (v := .int t0_8) C0 V i_VR rfl rfl hT0 (by decide) w_2219 rfl d_16_23_29 ?_
        refine lv_iconst (v := 1) hx hb d_16_23_32 (by decide) ?_
        refine lv_isub hx hb d_16_23_33 ?_
        obtain ⟨a295, e296⟩ := q_nm (t0_8 - 1 : Int32)
        refine q_ti (v := a295) e296 ?_
        refine q_put (ci := 17) (j := 21) (v := .int a295) (ty := .int) C0 V i_VR o_VR n_VR rfl rfl hT0 (by decide) w_2225 rfl rfl rfl rfl (Nat.le_of_ble_eq_true rfl) d_16_23_34 (fun H locs w298 hu299 hT0 V => ?_)
        replace hT0 : w298[157]? = (some (q 157, .inr (17, [.int t0_0, .ref (q 158), .int t0_1, .int t0_2, .ref (q 159), .ref (q 160), .ref (q 161), .ref (q 162), .ref (q 163), .int t0_3, .ref (q 164), .int t0_4, .int t0_5, .int t0_6, .int t0_7, .int t0_8, .int t0_9, .int t0_10, .int t0_11, .int t0_12, .int t0_13, .int a295, .int t0_15, .int t0_16, .ref (q 165), .int t0_17, .int t0_18, .int t0_19, .ref (q 166), .int t0_20, .int t0_21])) : Option (Nat × va_E)) := hT0
        replace hI := n_p157 hI hu299 hT0 (by first | with_reducible exact q_fe btt0_1 | exact ⟨(by have t1 : 0 ≤ t0_1.toInt ∧ t0_1.toInt ≤ 256 := btt0_1; omega), (by have t1 : 0 ≤ t0_1.toInt ∧ t0_1.toInt ≤ 256 := btt0_1; omega)⟩) (by first | with_reducible exact q_fe btt0_2 | exact ⟨(by have t1 : 0 ≤ t0_2.toInt ∧ t0_2.toInt ≤ 9 := btt0_2; omega), (by have t1 : 0 ≤ t0_2.toInt ∧ t0_2.toInt ≤ 9 := btt0_2; omega)⟩) (by first | with_reducible exact q_fe btt0_3 | exact ⟨(by have t1 : 0 ≤ t0_3.toInt ∧ t0_3.toInt ≤ 4096 := btt0_3; omega), (by have t1 : 0 ≤ t0_3.toInt ∧ t0_3.toInt ≤ 4096 := btt0_3; omega)⟩) (by first | with_reducible exact q_fe btt0_10 | exact ⟨(by have t1 : 0 ≤ t0_10.toInt ∧ t0_10.toInt ≤ 1 := btt0_10; omega), (by have t1 : 0 ≤ t0_10.toInt ∧ t0_10.toInt ≤ 1 := btt0_10; omega)⟩) (by first | with_reducible exact q_fe btt0_19 | exact ⟨(by have t1 : 0 ≤ t0_19.toInt ∧ t0_19.toInt ≤ 1 := btt0_19; omega), (by have t1 : 0 ≤ t0_19.toInt ∧ t0_19.toInt ≤ 1 := btt0_19; omega)⟩)
        replace hT1 := (hu299 _ (by decide)).trans hT1
        replace hT2 := (hu299 _ (by decide)).trans hT2
        replace hT3 := (hu299 _ (by decide)).trans hT3
        replace hF := q_us hF hu299 (by simp)
        refine lv_goto (tgt := 58) hx hb d_16_23_37 (by decide) ?_
        exact J50 ((a295 : Int32), (t0_15 : Int32)) _ _ _ _ ⟨V, q_lw hl (q_lw1 0 rfl (q_lw1 1 rfl q_lw0)), hI, hF, hT0, hT1, hT2, hT3, (show F_VR_chosen_J58 x2 t0_0 t0_1 t0_2 t0_3 t0_4 t0_5 t0_6 t0_7 t0_8 t0_9 t0_10 t0_11 t0_12 t0_13 t0_14 t0_15 t0_16 t0_17 t0_18 t0_19 t0_20 t0_21 t1_0 t2_0 t3_0 a295 t0_15 = (F_VR_chosen x2 t0_0 t0_1 t0_2 t0_3 t0_4 t0_5 t0_6 t0_7 t0_8 t0_9 t0_10 t0_11 t0_12 t0_13 t0_14 t0_15 t0_16 t0_17 t0_18 t0_19 t0_20 t0_21 t1_0 t2_0 t3_0) from (by have c284x := c284; rw [e43] at c284x; rw [← e296, F_VR_chosen.eq_1, if_pos c284x, if_neg c286]))⟩
    ·
      refine lv_aload_n hx hb d_16_23_9 rfl (lv_at hl 0 rfl) ?_
      refine lv_aload_n hx hb d_16_23_10 rfl (lv_at hl 0 rfl) ?_
      refine q_get (ci := 17) (j := 23) (v := .int t0_16) C0 V i_VR rfl rfl hT0 (by decide) w_2227 rfl d_16_23_11 ?_
      refine q_put (ci := 17) (j := 21) (v := .int t0_16) (ty := .int) C0 V i_VR o_VR n_VR rfl rfl hT0 (by decide) w_2225 rfl rfl rfl rfl (Nat.le_of_ble_eq_true rfl) d_16_23_14 (fun H locs w301 hu302 hT0 V => ?_)
      replace hT0 : w301[157]? = (some (q 157, .inr (17, [.int t0_0, .ref (q 158), .int t0_1, .int t0_2, .ref (q 159), .ref (q 160), .ref (q 161), .ref (q 162), .ref (q 163), .int t0_3, .ref (q 164), .int t0_4, .int t0_5, .int t0_6, .int t0_7, .int t0_8, .int t0_9, .int t0_10, .int t0_11, .int t0_12, .int t0_13, .int t0_16, .int t0_15, .int t0_16, .ref (q 165), .int t0_17, .int t0_18, .int t0_19, .ref (q 166), .int t0_20, .int t0_21])) : Option (Nat × va_E)) := hT0
      replace hI := n_p157 hI hu302 hT0 (by first | with_reducible exact q_fe btt0_1 | exact ⟨(by have t1 : 0 ≤ t0_1.toInt ∧ t0_1.toInt ≤ 256 := btt0_1; omega), (by have t1 : 0 ≤ t0_1.toInt ∧ t0_1.toInt ≤ 256 := btt0_1; omega)⟩) (by first | with_reducible exact q_fe btt0_2 | exact ⟨(by have t1 : 0 ≤ t0_2.toInt ∧ t0_2.toInt ≤ 9 := btt0_2; omega), (by have t1 : 0 ≤ t0_2.toInt ∧ t0_2.toInt ≤ 9 := btt0_2; omega)⟩) (by first | with_reducible exact q_fe btt0_3 | exact ⟨(by have t1 : 0 ≤ t0_3.toInt ∧ t0_3.toInt ≤ 4096 := btt0_3; omega), (by have t1 : 0 ≤ t0_3.toInt ∧ t0_3.toInt ≤ 4096 := btt0_3; omega)⟩) (by first | with_reducible exact q_fe btt0_10 | exact ⟨(by have t1 : 0 ≤ t0_10.toInt ∧ t0_10.toInt ≤ 1 := btt0_10; omega), (by have t1 : 0 ≤ t0_10.toInt ∧ t0_10.toInt ≤ 1 := btt0_10; omega)⟩) (by first | with_reducible exact q_fe btt0_19 | exact ⟨(by have t1 : 0 ≤ t0_19.toInt ∧ t0_19.toInt ≤ 1 := btt0_19; omega), (by have t1 : 0 ≤ t0_19.toInt ∧ t0_19.toInt ≤ 1 := btt0_19; omega)⟩)
      replace hT1 := (hu302 _ (by decide)).trans hT1
      replace hT2 := (hu302 _ (by decide)).trans hT2
      replace hT3 := (hu302 _ (by decide)).trans hT3
      replace hF := q_us hF hu302 (by simp)
      refine lv_goto (tgt := 58) hx hb d_16_23_17 (by decide) ?_
      exact J50 ((t0_16 : Int32), (t0_15 : Int32)) _ _ _ _ ⟨V, q_lw hl (q_lw1 0 rfl (q_lw1 1 rfl q_lw0)), hI, hF, hT0, hT1, hT2, hT3, (show F_VR_chosen_J58 x2 t0_0 t0_1 t0_2 t0_3 t0_4 t0_5 t0_6 t0_7 t0_8 t0_9 t0_10 t0_11 t0_12 t0_13 t0_14 t0_15 t0_16 t0_17 t0_18 t0_19 t0_20 t0_21 t1_0 t2_0 t3_0 t0_16 t0_15 = (F_VR_chosen x2 t0_0 t0_1 t0_2 t0_3 t0_4 t0_5 t0_6 t0_7 t0_8 t0_9 t0_10 t0_11 t0_12 t0_13 t0_14 t0_15 t0_16 t0_17 t0_18 t0_19 t0_20 t0_21 t1_0 t2_0 t3_0) from (by have c284x := c284; rw [e43] at c284x; rw [F_VR_chosen.eq_1, if_neg c284x]))⟩

