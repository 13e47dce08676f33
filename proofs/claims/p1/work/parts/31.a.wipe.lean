/-! the reference on a fresh object: wipe -/
theorem d_14_4_0 : decode prog_14_method_4_code 0 = .ok (.aload_n 0, 1) := by decide +kernel
theorem d_14_4_1 : decode prog_14_method_4_code 1 = .ok (.iconst 0, 1) := by decide +kernel
theorem d_14_4_2 : decode prog_14_method_4_code 2 = .ok (.putfield 58, 3) := by decide +kernel
theorem w_2298 : (Cond.fieldLink "NumberHouseModel" (58 : Nat) "NumberHouseModel" "thrown" "I") ∈ q_tbl := q_of 2298 (by decide +kernel) (by decide +kernel)
theorem d_14_4_5 : decode prog_14_method_4_code 5 = .ok (.aload_n 0, 1) := by decide +kernel
theorem d_14_4_6 : decode prog_14_method_4_code 6 = .ok (.getfield 62, 3) := by decide +kernel
theorem w_2300 : (Cond.fieldLink "NumberHouseModel" (62 : Nat) "NumberHouseModel" "length" "I") ∈ q_tbl := q_of 2300 (by decide +kernel) (by decide +kernel)
theorem d_14_4_9 : decode prog_14_method_4_code 9 = .ok (.istore_n 1, 1) := by decide +kernel
theorem d_14_4_10 : decode prog_14_method_4_code 10 = .ok (.aload_n 0, 1) := by decide +kernel
theorem d_14_4_11 : decode prog_14_method_4_code 11 = .ok (.iconst 0, 1) := by decide +kernel
theorem d_14_4_12 : decode prog_14_method_4_code 12 = .ok (.putfield 62, 3) := by decide +kernel
theorem d_14_4_15 : decode prog_14_method_4_code 15 = .ok (.iload_n 1, 1) := by decide +kernel
theorem d_14_4_16 : decode prog_14_method_4_code 16 = .ok (.ireturn, 1) := by decide +kernel
def y_NM_wipe : MethodName := ⟨"NumberHouseModel", "wipe", "()I"⟩
set_option maxRecDepth 100000 in
set_option maxHeartbeats 4000000 in
/-- wipe on a fresh object -/
theorem c_NM_wipe (l : Launch) (D : va_G) (g : Nat → ClassId) (ws : va_W) ( qO0 qA1 qA2 qO3 qO4 qO5 qO6 qO7 qA8 qA9 : Nat) (hO0 : ws[116]? = (some (qO0, .inr (12, [.int 0, .ref qA1, .int 0, .ref qA2, .int 0, .ref qO3, .ref qO4, .ref qO5, .ref qO6, .ref qO7, .ref qA8, .ref qA9])) : Option (Nat × va_E))) : q_mI l y_NM_wipe prog_14_method_4_code 2 (.int) 1 0 0 D g [.ref qO0] ws (fun r u => ∃ (t0 z2 z4 : Int32), u[116]? = (some (qO0, .inr (12, [.int t0, .ref qA1, .int z2, .ref qA2, .int z4, .ref qO3, .ref qO4, .ref qO5, .ref qO6, .ref qO7, .ref qA8, .ref qA9])) : Option (Nat × va_E)) ∧ ((t0.toInt = 0 ∧ r.toInt = 0)) ∧ q_ge 169 ws u) := by
  intro sz
  refine q_into (by decide) (Nat.le_of_ble_eq_true rfl) ?_
  intro p e s m below meth c ls hsz C0 V hl
  have hx := C0.1
  have hb := C0.2.1
  have hl : lv_has ls 2 [(0, .ref qO0)] := hl
  have hF : q_ge 169 ws ws := q_g0
  refine lv_aload_n hx hb d_14_4_0 rfl (lv_at hl 0 rfl) ?_
  refine lv_iconst (v := 0) hx hb d_14_4_1 (by decide) ?_
  refine q_put (ci := 12) (j := 0) (v := .int 0) (ty := .int) C0 V i_NM o_NM n_NM rfl rfl hO0 (by decide) w_2298 rfl rfl rfl rfl (Nat.le_of_ble_eq_true rfl) d_14_4_2 (fun H locs w1 hu2 hO0 V => ?_)
  replace hO0 : w1[116]? = (some (qO0, .inr (12, [.int 0, .ref qA1, .int 0, .ref qA2, .int 0, .ref qO3, .ref qO4, .ref qO5, .ref qO6, .ref qO7, .ref qA8, .ref qA9])) : Option (Nat × va_E)) := hO0
  replace hF := q_gs hF hu2 (Nat.le_of_ble_eq_true rfl)
  refine lv_aload_n hx hb d_14_4_5 rfl (lv_at hl 0 rfl) ?_
  refine q_get (ci := 12) (j := 2) (v := .int 0) C0 V i_NM rfl rfl hO0 (by decide) w_2300 rfl d_14_4_6 ?_
  refine lv_istore_n (lv' := [(1, .int 0), (0, .ref qO0)]) hx hb d_14_4_9 rfl hl (by decide) rfl (fun ls hl => ?_)
  refine lv_aload_n hx hb d_14_4_10 rfl (lv_at hl 1 rfl) ?_
  refine lv_iconst (v := 0) hx hb d_14_4_11 (by decide) ?_
  refine q_put (ci := 12) (j := 2) (v := .int 0) (ty := .int) C0 V i_NM o_NM n_NM rfl rfl hO0 (by decide) w_2300 rfl rfl rfl rfl (Nat.le_of_ble_eq_true rfl) d_14_4_12 (fun H locs w3 hu4 hO0 V => ?_)
  replace hO0 : w3[116]? = (some (qO0, .inr (12, [.int 0, .ref qA1, .int 0, .ref qA2, .int 0, .ref qO3, .ref qO4, .ref qO5, .ref qO6, .ref qO7, .ref qA8, .ref qA9])) : Option (Nat × va_E)) := hO0
  replace hF := q_gs hF hu4 (Nat.le_of_ble_eq_true rfl)
  refine lv_iload_n hx hb d_14_4_15 rfl (lv_at hl 0 rfl) ?_
  exact q_reti C0 V (⟨0, 0, 0, hO0, (show ((0 : Int32).toInt = 0 ∧ (0 : Int32).toInt = 0) from by have e0 : (0 : Int32).toInt = 0 := (by decide); have e1 : (0 : Int32).toInt = 0 := (by decide); omega), hF⟩) d_14_4_16
