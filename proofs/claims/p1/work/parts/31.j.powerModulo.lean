/-! the reference on a fresh object: powerModulo -/
theorem d_19_35_0 : decode prog_19_method_35_code 0 = .ok (.aload_n 0, 1) := by decide +kernel
theorem d_19_35_1 : decode prog_19_method_35_code 1 = .ok (.iload_n 1, 1) := by decide +kernel
theorem d_19_35_2 : decode prog_19_method_35_code 2 = .ok (.invokestatic 91, 3) := by decide +kernel
theorem d_19_35_5 : decode prog_19_method_35_code 5 = .ok (.ifCond .ne 25, 3) := by decide +kernel
theorem d_19_35_8 : decode prog_19_method_35_code 8 = .ok (.iload_n 2, 1) := by decide +kernel
theorem d_19_35_9 : decode prog_19_method_35_code 9 = .ok (.invokestatic 91, 3) := by decide +kernel
theorem d_19_35_12 : decode prog_19_method_35_code 12 = .ok (.ifCond .ne 18, 3) := by decide +kernel
theorem d_19_35_15 : decode prog_19_method_35_code 15 = .ok (.iload_n 3, 1) := by decide +kernel
theorem d_19_35_16 : decode prog_19_method_35_code 16 = .ok (.invokestatic 91, 3) := by decide +kernel
theorem d_19_35_19 : decode prog_19_method_35_code 19 = .ok (.ifCond .ne 11, 3) := by decide +kernel
theorem d_19_35_22 : decode prog_19_method_35_code 22 = .ok (.iload 4, 2) := by decide +kernel
theorem d_19_35_24 : decode prog_19_method_35_code 24 = .ok (.invokestatic 91, 3) := by decide +kernel
theorem d_19_35_27 : decode prog_19_method_35_code 27 = .ok (.ifCond .eq 7, 3) := by decide +kernel
theorem d_19_35_34 : decode prog_19_method_35_code 34 = .ok (.aload_n 0, 1) := by decide +kernel
theorem d_19_35_35 : decode prog_19_method_35_code 35 = .ok (.iload_n 3, 1) := by decide +kernel
theorem d_19_35_36 : decode prog_19_method_35_code 36 = .ok (.invokevirtual 125, 3) := by decide +kernel
theorem d_19_35_39 : decode prog_19_method_35_code 39 = .ok (.ifCond .ne 7, 3) := by decide +kernel
theorem d_19_35_42 : decode prog_19_method_35_code 42 = .ok (.iconst 2, 1) := by decide +kernel
theorem d_19_35_43 : decode prog_19_method_35_code 43 = .ok (.goto 4, 3) := by decide +kernel
theorem d_19_35_47 : decode prog_19_method_35_code 47 = .ok (.putfield 53, 3) := by decide +kernel
theorem d_19_35_50 : decode prog_19_method_35_code 50 = .ok (.aload_n 0, 1) := by decide +kernel
theorem d_19_35_51 : decode prog_19_method_35_code 51 = .ok (.getfield 53, 3) := by decide +kernel
theorem d_19_35_54 : decode prog_19_method_35_code 54 = .ok (.ifCond .le 4, 3) := by decide +kernel
theorem d_19_35_57 : decode prog_19_method_35_code 57 = .ok (.return_, 1) := by decide +kernel
def y_WR_powerModulo : MethodName := ⟨"NumberHouseModel$WholeRows", "powerModulo", "(IIII)V"⟩
set_option maxRecDepth 100000 in
set_option maxHeartbeats 4000000 in
theorem c_WR_powerModulo (l : Launch) (D : va_G) (g : Nat → ClassId) (ws : va_W) (kO0 kA2 kA3 qO0 qA1 qA2 qA3 qA4 qA5 qA6 qA7 qA8 qA9 qA10 qA11 qA12 qA13 qA14 : Nat) (x1 : Int32) (x2 : Int32) (x3 : Int32) (x4 : Int32) (hO0 : ws[kO0]? = (some (qO0, .inr (13, [.int 0, .int 0, .ref qA1, .int 0, .ref qA2, .ref qA3, .ref qA4, .int 0, .ref qA5, .ref qA6, .ref qA7, .ref qA8, .ref qA9, .ref qA10, .ref qA11, .ref qA12, .int 0, .int 0, .ref qA13, .ref qA14, .int 0])) : Option (Nat × va_E))) (hA2 : ws[kA2]? = (some (qA2, .inl (g 0, 1408, .inl (fun _ => 0))) : Option (Nat × va_E))) (hA3 : ws[kA3]? = (some (qA3, .inl (g 3, 11, .inl (fun _ => 0))) : Option (Nat × va_E))) (x1lo : 0 ≤ x1) (x1hi : x1 ≤ 9) (x2lo : 0 ≤ x2) (x2hi : x2 ≤ 9) (x3lo : 0 ≤ x3) (x3hi : x3 ≤ 9) (x4lo : 0 ≤ x4) (x4hi : x4 ≤ 9) : q_mV l y_WR_powerModulo prog_19_method_35_code 7 3 0 0 D g [.ref qO0, .int x1, .int x2, .int x3, .int x4] ws (fun u => q_un ws u [kO0] ∧ u[kO0]? = (some (qO0, .inr (13, [.int 2, .int 0, .ref qA1, .int 0, .ref qA2, .ref qA3, .ref qA4, .int 0, .ref qA5, .ref qA6, .ref qA7, .ref qA8, .ref qA9, .ref qA10, .ref qA11, .ref qA12, .int 0, .int 0, .ref qA13, .ref qA14, .int 0])) : Option (Nat × va_E))) := by
  intro sz
  refine q_into (by decide) (Nat.le_of_ble_eq_true rfl) ?_
  intro p e s m below meth c ls hsz C0 V hl
  have hx := C0.1
  have hb := C0.2.1
  have hl : lv_has ls 7 [(0, .ref qO0), (1, .int x1), (2, .int x2), (3, .int x3), (4, .int x4)] := hl
  have n_A2_O0 := q_df hA2 hO0
  have n_A3_O0 := q_df hA3 hO0
  have hF : q_un ws ws [kO0] := q_u0
  refine lv_aload_n hx hb d_19_35_0 rfl (lv_at hl 0 rfl) ?_
  refine lv_iload_n hx hb d_19_35_1 rfl (lv_at hl 1 rfl) ?_
  refine q_goi V (q_runS (As := [.int x1]) (rest := [.ref qO0]) (d := 1) (mc := 0) (ms := 0) C0 V rfl LS_WR_91 (c_WR_no l D g ws x1 x1lo x1hi _) rfl hl.1 rfl (Nat.le_of_ble_eq_true rfl) ⟨by decide, by decide⟩ ⟨Nat.le_of_ble_eq_true rfl, Nat.le_of_ble_eq_true rfl⟩ d_19_35_2) (fun v3 u2 H locs hp1 V => ?_)
  obtain ⟨rfl, rfl⟩ := hp1
  refine lv_if_ne (tgt := 30) hx hb d_19_35_5 (by decide) (fun c5 => absurd (by decide) c5) (fun c5 => ?_)
  refine lv_iload_n hx hb d_19_35_8 rfl (lv_at hl 2 rfl) ?_
  refine q_goi V (q_runS (As := [.int x2]) (rest := [.ref qO0]) (d := 1) (mc := 0) (ms := 0) C0 V rfl LS_WR_91 (c_WR_no l D g ws x2 x2lo x2hi _) rfl hl.1 rfl (Nat.le_of_ble_eq_true rfl) ⟨by decide, by decide⟩ ⟨Nat.le_of_ble_eq_true rfl, Nat.le_of_ble_eq_true rfl⟩ d_19_35_9) (fun v8 u7 H locs hp6 V => ?_)
  obtain ⟨rfl, rfl⟩ := hp6
  refine lv_if_ne (tgt := 30) hx hb d_19_35_12 (by decide) (fun c10 => absurd (by decide) c10) (fun c10 => ?_)
  refine lv_iload_n hx hb d_19_35_15 rfl (lv_at hl 3 rfl) ?_
  refine q_goi V (q_runS (As := [.int x3]) (rest := [.ref qO0]) (d := 1) (mc := 0) (ms := 0) C0 V rfl LS_WR_91 (c_WR_no l D g ws x3 x3lo x3hi _) rfl hl.1 rfl (Nat.le_of_ble_eq_true rfl) ⟨by decide, by decide⟩ ⟨Nat.le_of_ble_eq_true rfl, Nat.le_of_ble_eq_true rfl⟩ d_19_35_16) (fun v13 u12 H locs hp11 V => ?_)
  obtain ⟨rfl, rfl⟩ := hp11
  refine lv_if_ne (tgt := 30) hx hb d_19_35_19 (by decide) (fun c15 => absurd (by decide) c15) (fun c15 => ?_)
  refine lv_iload hx hb d_19_35_22 (lv_at hl 4 rfl) ?_
  refine q_goi V (q_runS (As := [.int x4]) (rest := [.ref qO0]) (d := 1) (mc := 0) (ms := 0) C0 V rfl LS_WR_91 (c_WR_no l D g ws x4 x4lo x4hi _) rfl hl.1 rfl (Nat.le_of_ble_eq_true rfl) ⟨by decide, by decide⟩ ⟨Nat.le_of_ble_eq_true rfl, Nat.le_of_ble_eq_true rfl⟩ d_19_35_24) (fun v18 u17 H locs hp16 V => ?_)
  obtain ⟨rfl, rfl⟩ := hp16
  refine lv_if_eq (tgt := 34) hx hb d_19_35_27 (by decide) (fun c20 => ?_) (fun c20 => absurd (by decide) c20)
  refine lv_aload_n hx hb d_19_35_34 rfl (lv_at hl 0 rfl) ?_
  refine lv_iload_n hx hb d_19_35_35 rfl (lv_at hl 3 rfl) ?_
  refine q_goi V (q_runV (As := [.int x3]) (rest := [.ref qO0]) (d := 2) (mc := 0) (ms := 0) (ci := 13) C0 V rfl LV_WR_125 (c_WR_isAbove0 l D g ws kO0 kA2 kA3 qO0 qA1 qA2 qA3 qA4 qA5 qA6 qA7 qA8 qA9 qA10 qA11 qA12 qA13 qA14 x3 hO0 hA2 hA3 x3lo x3hi _) rfl rfl hO0 rfl hl.1 rfl (Nat.le_of_ble_eq_true rfl) ⟨by decide, by decide⟩ ⟨Nat.le_of_ble_eq_true rfl, Nat.le_of_ble_eq_true rfl⟩ d_19_35_36) (fun v23 u22 H locs hp21 V => ?_)
  obtain ⟨rfl, rfl⟩ := hp21
  refine lv_if_ne (tgt := 46) hx hb d_19_35_39 (by decide) (fun c25 => absurd (by decide) c25) (fun c25 => ?_)
  refine lv_iconst (v := 2) hx hb d_19_35_42 (by decide) ?_
  refine lv_goto (tgt := 47) hx hb d_19_35_43 (by decide) ?_
  refine q_put (ci := 13) (j := 0) (v := .int 2) (ty := .int) C0 V i_WR o_WR n_WR rfl rfl hO0 (by decide) w_1921 rfl rfl rfl rfl (Nat.le_of_ble_eq_true rfl) d_19_35_47 (fun H locs w26 hu27 hO0 V => ?_)
  replace hO0 : w26[kO0]? = (some (qO0, .inr (13, [.int 2, .int 0, .ref qA1, .int 0, .ref qA2, .ref qA3, .ref qA4, .int 0, .ref qA5, .ref qA6, .ref qA7, .ref qA8, .ref qA9, .ref qA10, .ref qA11, .ref qA12, .int 0, .int 0, .ref qA13, .ref qA14, .int 0])) : Option (Nat × va_E)) := hO0
  replace hF := q_us hF hu27 (.head _)
  refine lv_aload_n hx hb d_19_35_50 rfl (lv_at hl 0 rfl) ?_
  refine q_get (ci := 13) (j := 0) (v := .int 2) C0 V i_WR rfl rfl hO0 (by decide) w_1921 rfl d_19_35_51 ?_
  refine lv_if_le (tgt := 58) hx hb d_19_35_54 (by decide) (fun c28 => absurd c28 (by decide)) (fun c28 => ?_)
  exact q_retv C0 V (⟨hF, hO0⟩) d_19_35_57
theorem d_14_22_0 : decode prog_14_method_22_code 0 = .ok (.aload_n 0, 1) := by decide +kernel
theorem d_14_22_1 : decode prog_14_method_22_code 1 = .ok (.iload_n 1, 1) := by decide +kernel
theorem d_14_22_2 : decode prog_14_method_22_code 2 = .ok (.invokestatic 70, 3) := by decide +kernel
theorem d_14_22_5 : decode prog_14_method_22_code 5 = .ok (.ifCond .ne 25, 3) := by decide +kernel
theorem d_14_22_30 : decode prog_14_method_22_code 30 = .ok (.iconst 1, 1) := by decide +kernel
theorem d_14_22_31 : decode prog_14_method_22_code 31 = .ok (.goto 4, 3) := by decide +kernel
theorem d_14_22_35 : decode prog_14_method_22_code 35 = .ok (.putfield 58, 3) := by decide +kernel
theorem d_14_22_38 : decode prog_14_method_22_code 38 = .ok (.aload_n 0, 1) := by decide +kernel
theorem d_14_22_39 : decode prog_14_method_22_code 39 = .ok (.getfield 58, 3) := by decide +kernel
theorem d_14_22_42 : decode prog_14_method_22_code 42 = .ok (.ifCond .ne 26, 3) := by decide +kernel
theorem d_14_22_68 : decode prog_14_method_22_code 68 = .ok (.return_, 1) := by decide +kernel
theorem d_14_22_8 : decode prog_14_method_22_code 8 = .ok (.iload_n 2, 1) := by decide +kernel
theorem d_14_22_9 : decode prog_14_method_22_code 9 = .ok (.invokestatic 70, 3) := by decide +kernel
theorem d_14_22_12 : decode prog_14_method_22_code 12 = .ok (.ifCond .ne 18, 3) := by decide +kernel
theorem d_14_22_15 : decode prog_14_method_22_code 15 = .ok (.iload_n 3, 1) := by decide +kernel
theorem d_14_22_16 : decode prog_14_method_22_code 16 = .ok (.invokestatic 70, 3) := by decide +kernel
theorem d_14_22_19 : decode prog_14_method_22_code 19 = .ok (.ifCond .ne 11, 3) := by decide +kernel
theorem d_14_22_22 : decode prog_14_method_22_code 22 = .ok (.iload 4, 2) := by decide +kernel
theorem d_14_22_24 : decode prog_14_method_22_code 24 = .ok (.invokestatic 70, 3) := by decide +kernel
theorem d_14_22_27 : decode prog_14_method_22_code 27 = .ok (.ifCond .eq 7, 3) := by decide +kernel
theorem d_14_22_34 : decode prog_14_method_22_code 34 = .ok (.iconst 0, 1) := by decide +kernel
theorem d_14_22_45 : decode prog_14_method_22_code 45 = .ok (.aload_n 0, 1) := by decide +kernel
theorem d_14_22_46 : decode prog_14_method_22_code 46 = .ok (.getfield 19, 3) := by decide +kernel
theorem d_14_22_49 : decode prog_14_method_22_code 49 = .ok (.iload_n 1, 1) := by decide +kernel
theorem d_14_22_50 : decode prog_14_method_22_code 50 = .ok (.iload_n 2, 1) := by decide +kernel
theorem d_14_22_51 : decode prog_14_method_22_code 51 = .ok (.iload_n 3, 1) := by decide +kernel
theorem d_14_22_52 : decode prog_14_method_22_code 52 = .ok (.iload 4, 2) := by decide +kernel
theorem d_14_22_54 : decode prog_14_method_22_code 54 = .ok (.invokevirtual 200, 3) := by decide +kernel
theorem w_2772 : (Cond.code ({ cls := "NumberHouseModel$WholeRows", name := "powerModulo", desc := "(IIII)V" } : MethodName) prog_19_method_35_code (7 : Nat) (none : Option ClassFile.FieldType)) ∈ q_tbl := q_of 2772 (by decide +kernel) (by decide +kernel)
theorem w_2769 : (Cond.methodLink "NumberHouseModel" (200 : Nat) ({ cls := "NumberHouseModel$WholeRows", name := "powerModulo", desc := "(IIII)V" } : MethodName)) ∈ q_tbl := q_of 2769 (by decide +kernel) (by decide +kernel)
theorem w_2770 : (Cond.instanceMethod ({ cls := "NumberHouseModel$WholeRows", name := "powerModulo", desc := "(IIII)V" } : MethodName)) ∈ q_tbl := q_of 2770 (by decide +kernel) (by decide +kernel)
theorem w_2771 : (Cond.selects "NumberHouseModel$WholeRows" ({ cls := "NumberHouseModel$WholeRows", name := "powerModulo", desc := "(IIII)V" } : MethodName) ({ cls := "NumberHouseModel$WholeRows", name := "powerModulo", desc := "(IIII)V" } : MethodName)) ∈ q_tbl := q_of 2771 (by decide +kernel) (by decide +kernel)
theorem LV_NM_200 : q_LV "NumberHouseModel" 200 y_WR_powerModulo prog_19_method_35_code 7 none 4 := ⟨w_2772, w_15, w_2769, w_2770, w_2771, ⟨by decide, by decide, by decide +kernel⟩⟩
theorem d_14_22_57 : decode prog_14_method_22_code 57 = .ok (.aload_n 0, 1) := by decide +kernel
theorem d_14_22_58 : decode prog_14_method_22_code 58 = .ok (.aload_n 0, 1) := by decide +kernel
theorem d_14_22_59 : decode prog_14_method_22_code 59 = .ok (.getfield 19, 3) := by decide +kernel
theorem d_14_22_62 : decode prog_14_method_22_code 62 = .ok (.getfield 99, 3) := by decide +kernel
theorem d_14_22_65 : decode prog_14_method_22_code 65 = .ok (.putfield 58, 3) := by decide +kernel
def y_NM_powerModulo : MethodName := ⟨"NumberHouseModel", "powerModulo", "(IIII)V"⟩
set_option maxRecDepth 100000 in
set_option maxHeartbeats 4000000 in
/-- powerModulo on a fresh object -/
theorem c_NM_powerModulo (l : Launch) (D : va_G) (g : Nat → ClassId) (ws : va_W) ( qO0 qA1 qA2 qO3 qO4 qO5 qO6 qO7 qA8 qA9 qA10 qA11 qA12 qA13 qA14 qA15 qA16 qA17 qA18 qA19 qA20 qA21 qA22 qA23 : Nat) (x1 : Int32) (x2 : Int32) (x3 : Int32) (x4 : Int32) (hO0 : ws[116]? = (some (qO0, .inr (12, [.int 0, .ref qA1, .int 0, .ref qA2, .int 0, .ref qO3, .ref qO4, .ref qO5, .ref qO6, .ref qO7, .ref qA8, .ref qA9])) : Option (Nat × va_E))) (hO3 : ws[119]? = (some (qO3, .inr (13, [.int 0, .int 0, .ref qA10, .int 0, .ref qA11, .ref qA12, .ref qA13, .int 0, .ref qA14, .ref qA15, .ref qA16, .ref qA17, .ref qA18, .ref qA19, .ref qA20, .ref qA21, .int 0, .int 0, .ref qA22, .ref qA23, .int 0])) : Option (Nat × va_E))) (hA11 : ws[121]? = (some (qA11, .inl (g 0, 1408, .inl (fun _ => 0))) : Option (Nat × va_E))) (hA12 : ws[122]? = (some (qA12, .inl (g 3, 11, .inl (fun _ => 0))) : Option (Nat × va_E))) : q_mV l y_NM_powerModulo prog_14_method_22_code 5 4 0 0 D g [.ref qO0, .int x1, .int x2, .int x3, .int x4] ws (fun u => ∃ (t0 z2 z4 : Int32), u[116]? = (some (qO0, .inr (12, [.int t0, .ref qA1, .int z2, .ref qA2, .int z4, .ref qO3, .ref qO4, .ref qO5, .ref qO6, .ref qO7, .ref qA8, .ref qA9])) : Option (Nat × va_E)) ∧ ((t0.toInt = 0 ∧ ((0 ≤ x1.toInt ∧ x1.toInt ≤ 9) ∧ (0 ≤ x2.toInt ∧ x2.toInt ≤ 9) ∧ (0 ≤ x3.toInt ∧ x3.toInt ≤ 9) ∧ (0 ≤ x4.toInt ∧ x4.toInt ≤ 9)) ∧ ¬ (0 ≤ x1.toInt)) ∨ (t0.toInt = 1 ∧ ¬ ((0 ≤ x1.toInt ∧ x1.toInt ≤ 9) ∧ (0 ≤ x2.toInt ∧ x2.toInt ≤ 9) ∧ (0 ≤ x3.toInt ∧ x3.toInt ≤ 9) ∧ (0 ≤ x4.toInt ∧ x4.toInt ≤ 9))) ∨ (t0.toInt = 2 ∧ ((0 ≤ x1.toInt ∧ x1.toInt ≤ 9) ∧ (0 ≤ x2.toInt ∧ x2.toInt ≤ 9) ∧ (0 ≤ x3.toInt ∧ x3.toInt ≤ 9) ∧ (0 ≤ x4.toInt ∧ x4.toInt ≤ 9)) ∧ 0 ≤ x1.toInt)) ∧ q_ge 169 ws u) := by
  intro sz
  refine q_into (by decide) (Nat.le_of_ble_eq_true rfl) ?_
  intro p e s m below meth c ls hsz C0 V hl
  have hx := C0.1
  have hb := C0.2.1
  have hl : lv_has ls 5 [(0, .ref qO0), (1, .int x1), (2, .int x2), (3, .int x3), (4, .int x4)] := hl
  have hF : q_ge 169 ws ws := q_g0
  refine lv_aload_n hx hb d_14_22_0 rfl (lv_at hl 0 rfl) ?_
  refine lv_iload_n hx hb d_14_22_1 rfl (lv_at hl 1 rfl) ?_
  refine q_goi V (q_runS (As := [.int x1]) (rest := [.ref qO0]) (d := 1) (mc := 0) (ms := 0) C0 V rfl LS_NM_70 (c_NM_no_IZ l D g ws x1 _) rfl hl.1 rfl (Nat.le_of_ble_eq_true rfl) ⟨by decide, by decide⟩ ⟨Nat.le_of_ble_eq_true rfl, Nat.le_of_ble_eq_true rfl⟩ d_14_22_2) (fun v3 u2 H locs hp1 V => ?_)
  rcases hp1 with ⟨c4, rfl, rfl⟩ | ⟨c6, c7, rfl, rfl⟩ | ⟨c9, c10, rfl, rfl⟩
  ·
    refine lv_if_ne (tgt := 30) hx hb d_14_22_5 (by decide) (fun c12 => ?_) (fun c12 => absurd c12 (by decide))
    refine lv_iconst (v := 1) hx hb d_14_22_30 (by decide) ?_
    refine lv_goto (tgt := 35) hx hb d_14_22_31 (by decide) ?_
    refine q_put (ci := 12) (j := 0) (v := .int 1) (ty := .int) C0 V i_NM o_NM n_NM rfl rfl hO0 (by decide) w_2298 rfl rfl rfl rfl (Nat.le_of_ble_eq_true rfl) d_14_22_35 (fun H locs w13 hu14 hO0 V => ?_)
    replace hO0 : w13[116]? = (some (qO0, .inr (12, [.int 1, .ref qA1, .int 0, .ref qA2, .int 0, .ref qO3, .ref qO4, .ref qO5, .ref qO6, .ref qO7, .ref qA8, .ref qA9])) : Option (Nat × va_E)) := hO0
    replace hF := q_gs hF hu14 (Nat.le_of_ble_eq_true rfl)
    refine lv_aload_n hx hb d_14_22_38 rfl (lv_at hl 0 rfl) ?_
    refine q_get (ci := 12) (j := 0) (v := .int 1) C0 V i_NM rfl rfl hO0 (by decide) w_2298 rfl d_14_22_39 ?_
    refine lv_if_ne (tgt := 68) hx hb d_14_22_42 (by decide) (fun c15 => ?_) (fun c15 => absurd c15 (by decide))
    exact q_retv C0 V (⟨1, 0, 0, hO0, (show ((1 : Int32).toInt = 0 ∧ ((0 ≤ x1.toInt ∧ x1.toInt ≤ 9) ∧ (0 ≤ x2.toInt ∧ x2.toInt ≤ 9) ∧ (0 ≤ x3.toInt ∧ x3.toInt ≤ 9) ∧ (0 ≤ x4.toInt ∧ x4.toInt ≤ 9)) ∧ ¬ (0 ≤ x1.toInt)) ∨ ((1 : Int32).toInt = 1 ∧ ¬ ((0 ≤ x1.toInt ∧ x1.toInt ≤ 9) ∧ (0 ≤ x2.toInt ∧ x2.toInt ≤ 9) ∧ (0 ≤ x3.toInt ∧ x3.toInt ≤ 9) ∧ (0 ≤ x4.toInt ∧ x4.toInt ≤ 9))) ∨ ((1 : Int32).toInt = 2 ∧ ((0 ≤ x1.toInt ∧ x1.toInt ≤ 9) ∧ (0 ≤ x2.toInt ∧ x2.toInt ≤ 9) ∧ (0 ≤ x3.toInt ∧ x3.toInt ≤ 9) ∧ (0 ≤ x4.toInt ∧ x4.toInt ≤ 9)) ∧ 0 ≤ x1.toInt) from by have t1 : x1.toInt < 0 := q_ltI c4; have e0 : (1 : Int32).toInt = 1 := (by decide); omega), hF⟩) d_14_22_68
  ·
    refine lv_if_ne (tgt := 30) hx hb d_14_22_5 (by decide) (fun c16 => absurd (by decide) c16) (fun c16 => ?_)
    refine lv_iload_n hx hb d_14_22_8 rfl (lv_at hl 2 rfl) ?_
    refine q_goi V (q_runS (As := [.int x2]) (rest := [.ref qO0]) (d := 1) (mc := 0) (ms := 0) C0 V rfl LS_NM_70 (c_NM_no_IZ l D g ws x2 _) rfl hl.1 rfl (Nat.le_of_ble_eq_true rfl) ⟨by decide, by decide⟩ ⟨Nat.le_of_ble_eq_true rfl, Nat.le_of_ble_eq_true rfl⟩ d_14_22_9) (fun v19 u18 H locs hp17 V => ?_)
    rcases hp17 with ⟨c20, rfl, rfl⟩ | ⟨c22, c23, rfl, rfl⟩ | ⟨c25, c26, rfl, rfl⟩
    ·
      refine lv_if_ne (tgt := 30) hx hb d_14_22_12 (by decide) (fun c28 => ?_) (fun c28 => absurd c28 (by decide))
      refine lv_iconst (v := 1) hx hb d_14_22_30 (by decide) ?_
      refine lv_goto (tgt := 35) hx hb d_14_22_31 (by decide) ?_
      refine q_put (ci := 12) (j := 0) (v := .int 1) (ty := .int) C0 V i_NM o_NM n_NM rfl rfl hO0 (by decide) w_2298 rfl rfl rfl rfl (Nat.le_of_ble_eq_true rfl) d_14_22_35 (fun H locs w29 hu30 hO0 V => ?_)
      replace hO0 : w29[116]? = (some (qO0, .inr (12, [.int 1, .ref qA1, .int 0, .ref qA2, .int 0, .ref qO3, .ref qO4, .ref qO5, .ref qO6, .ref qO7, .ref qA8, .ref qA9])) : Option (Nat × va_E)) := hO0
      replace hF := q_gs hF hu30 (Nat.le_of_ble_eq_true rfl)
      refine lv_aload_n hx hb d_14_22_38 rfl (lv_at hl 0 rfl) ?_
      refine q_get (ci := 12) (j := 0) (v := .int 1) C0 V i_NM rfl rfl hO0 (by decide) w_2298 rfl d_14_22_39 ?_
      refine lv_if_ne (tgt := 68) hx hb d_14_22_42 (by decide) (fun c31 => ?_) (fun c31 => absurd c31 (by decide))
      exact q_retv C0 V (⟨1, 0, 0, hO0, (show ((1 : Int32).toInt = 0 ∧ ((0 ≤ x1.toInt ∧ x1.toInt ≤ 9) ∧ (0 ≤ x2.toInt ∧ x2.toInt ≤ 9) ∧ (0 ≤ x3.toInt ∧ x3.toInt ≤ 9) ∧ (0 ≤ x4.toInt ∧ x4.toInt ≤ 9)) ∧ ¬ (0 ≤ x1.toInt)) ∨ ((1 : Int32).toInt = 1 ∧ ¬ ((0 ≤ x1.toInt ∧ x1.toInt ≤ 9) ∧ (0 ≤ x2.toInt ∧ x2.toInt ≤ 9) ∧ (0 ≤ x3.toInt ∧ x3.toInt ≤ 9) ∧ (0 ≤ x4.toInt ∧ x4.toInt ≤ 9))) ∨ ((1 : Int32).toInt = 2 ∧ ((0 ≤ x1.toInt ∧ x1.toInt ≤ 9) ∧ (0 ≤ x2.toInt ∧ x2.toInt ≤ 9) ∧ (0 ≤ x3.toInt ∧ x3.toInt ≤ 9) ∧ (0 ≤ x4.toInt ∧ x4.toInt ≤ 9)) ∧ 0 ≤ x1.toInt) from by have t1 : 0 ≤ x1.toInt := q_nltI c6; have t2 : x1.toInt ≤ 9 := q_leI c7; have t3 : x2.toInt < 0 := q_ltI c20; have e0 : (1 : Int32).toInt = 1 := (by decide); omega), hF⟩) d_14_22_68
    ·
      refine lv_if_ne (tgt := 30) hx hb d_14_22_12 (by decide) (fun c32 => absurd (by decide) c32) (fun c32 => ?_)
      refine lv_iload_n hx hb d_14_22_15 rfl (lv_at hl 3 rfl) ?_
      refine q_goi V (q_runS (As := [.int x3]) (rest := [.ref qO0]) (d := 1) (mc := 0) (ms := 0) C0 V rfl LS_NM_70 (c_NM_no_IZ l D g ws x3 _) rfl hl.1 rfl (Nat.le_of_ble_eq_true rfl) ⟨by decide, by decide⟩ ⟨Nat.le_of_ble_eq_true rfl, Nat.le_of_ble_eq_true rfl⟩ d_14_22_16) (fun v35 u34 H locs hp33 V => ?_)
      rcases hp33 with ⟨c36, rfl, rfl⟩ | ⟨c38, c39, rfl, rfl⟩ | ⟨c41, c42, rfl, rfl⟩
      ·
        refine lv_if_ne (tgt := 30) hx hb d_14_22_19 (by decide) (fun c44 => ?_) (fun c44 => absurd c44 (by decide))
        refine lv_iconst (v := 1) hx hb d_14_22_30 (by decide) ?_
        refine lv_goto (tgt := 35) hx hb d_14_22_31 (by decide) ?_
        refine q_put (ci := 12) (j := 0) (v := .int 1) (ty := .int) C0 V i_NM o_NM n_NM rfl rfl hO0 (by decide) w_2298 rfl rfl rfl rfl (Nat.le_of_ble_eq_true rfl) d_14_22_35 (fun H locs w45 hu46 hO0 V => ?_)
        replace hO0 : w45[116]? = (some (qO0, .inr (12, [.int 1, .ref qA1, .int 0, .ref qA2, .int 0, .ref qO3, .ref qO4, .ref qO5, .ref qO6, .ref qO7, .ref qA8, .ref qA9])) : Option (Nat × va_E)) := hO0
        replace hF := q_gs hF hu46 (Nat.le_of_ble_eq_true rfl)
        refine lv_aload_n hx hb d_14_22_38 rfl (lv_at hl 0 rfl) ?_
        refine q_get (ci := 12) (j := 0) (v := .int 1) C0 V i_NM rfl rfl hO0 (by decide) w_2298 rfl d_14_22_39 ?_
        refine lv_if_ne (tgt := 68) hx hb d_14_22_42 (by decide) (fun c47 => ?_) (fun c47 => absurd c47 (by decide))
        exact q_retv C0 V (⟨1, 0, 0, hO0, (show ((1 : Int32).toInt = 0 ∧ ((0 ≤ x1.toInt ∧ x1.toInt ≤ 9) ∧ (0 ≤ x2.toInt ∧ x2.toInt ≤ 9) ∧ (0 ≤ x3.toInt ∧ x3.toInt ≤ 9) ∧ (0 ≤ x4.toInt ∧ x4.toInt ≤ 9)) ∧ ¬ (0 ≤ x1.toInt)) ∨ ((1 : Int32).toInt = 1 ∧ ¬ ((0 ≤ x1.toInt ∧ x1.toInt ≤ 9) ∧ (0 ≤ x2.toInt ∧ x2.toInt ≤ 9) ∧ (0 ≤ x3.toInt ∧ x3.toInt ≤ 9) ∧ (0 ≤ x4.toInt ∧ x4.toInt ≤ 9))) ∨ ((1 : Int32).toInt = 2 ∧ ((0 ≤ x1.toInt ∧ x1.toInt ≤ 9) ∧ (0 ≤ x2.toInt ∧ x2.toInt ≤ 9) ∧ (0 ≤ x3.toInt ∧ x3.toInt ≤ 9) ∧ (0 ≤ x4.toInt ∧ x4.toInt ≤ 9)) ∧ 0 ≤ x1.toInt) from by have t1 : 0 ≤ x1.toInt := q_nltI c6; have t2 : x1.toInt ≤ 9 := q_leI c7; have t3 : 0 ≤ x2.toInt := q_nltI c22; have t4 : x2.toInt ≤ 9 := q_leI c23; have t5 : x3.toInt < 0 := q_ltI c36; have e0 : (1 : Int32).toInt = 1 := (by decide); omega), hF⟩) d_14_22_68
      ·
        refine lv_if_ne (tgt := 30) hx hb d_14_22_19 (by decide) (fun c48 => absurd (by decide) c48) (fun c48 => ?_)
        refine lv_iload hx hb d_14_22_22 (lv_at hl 4 rfl) ?_
        refine q_goi V (q_runS (As := [.int x4]) (rest := [.ref qO0]) (d := 1) (mc := 0) (ms := 0) C0 V rfl LS_NM_70 (c_NM_no_IZ l D g ws x4 _) rfl hl.1 rfl (Nat.le_of_ble_eq_true rfl) ⟨by decide, by decide⟩ ⟨Nat.le_of_ble_eq_true rfl, Nat.le_of_ble_eq_true rfl⟩ d_14_22_24) (fun v51 u50 H locs hp49 V => ?_)
        rcases hp49 with ⟨c52, rfl, rfl⟩ | ⟨c54, c55, rfl, rfl⟩ | ⟨c57, c58, rfl, rfl⟩
        ·
          refine lv_if_eq (tgt := 34) hx hb d_14_22_27 (by decide) (fun c60 => absurd c60 (by decide)) (fun c60 => ?_)
          refine lv_iconst (v := 1) hx hb d_14_22_30 (by decide) ?_
          refine lv_goto (tgt := 35) hx hb d_14_22_31 (by decide) ?_
          refine q_put (ci := 12) (j := 0) (v := .int 1) (ty := .int) C0 V i_NM o_NM n_NM rfl rfl hO0 (by decide) w_2298 rfl rfl rfl rfl (Nat.le_of_ble_eq_true rfl) d_14_22_35 (fun H locs w61 hu62 hO0 V => ?_)
          replace hO0 : w61[116]? = (some (qO0, .inr (12, [.int 1, .ref qA1, .int 0, .ref qA2, .int 0, .ref qO3, .ref qO4, .ref qO5, .ref qO6, .ref qO7, .ref qA8, .ref qA9])) : Option (Nat × va_E)) := hO0
          replace hF := q_gs hF hu62 (Nat.le_of_ble_eq_true rfl)
          refine lv_aload_n hx hb d_14_22_38 rfl (lv_at hl 0 rfl) ?_
          refine q_get (ci := 12) (j := 0) (v := .int 1) C0 V i_NM rfl rfl hO0 (by decide) w_2298 rfl d_14_22_39 ?_
          refine lv_if_ne (tgt := 68) hx hb d_14_22_42 (by decide) (fun c63 => ?_) (fun c63 => absurd c63 (by decide))
          exact q_retv C0 V (⟨1, 0, 0, hO0, (show ((1 : Int32).toInt = 0 ∧ ((0 ≤ x1.toInt ∧ x1.toInt ≤ 9) ∧ (0 ≤ x2.toInt ∧ x2.toInt ≤ 9) ∧ (0 ≤ x3.toInt ∧ x3.toInt ≤ 9) ∧ (0 ≤ x4.toInt ∧ x4.toInt ≤ 9)) ∧ ¬ (0 ≤ x1.toInt)) ∨ ((1 : Int32).toInt = 1 ∧ ¬ ((0 ≤ x1.toInt ∧ x1.toInt ≤ 9) ∧ (0 ≤ x2.toInt ∧ x2.toInt ≤ 9) ∧ (0 ≤ x3.toInt ∧ x3.toInt ≤ 9) ∧ (0 ≤ x4.toInt ∧ x4.toInt ≤ 9))) ∨ ((1 : Int32).toInt = 2 ∧ ((0 ≤ x1.toInt ∧ x1.toInt ≤ 9) ∧ (0 ≤ x2.toInt ∧ x2.toInt ≤ 9) ∧ (0 ≤ x3.toInt ∧ x3.toInt ≤ 9) ∧ (0 ≤ x4.toInt ∧ x4.toInt ≤ 9)) ∧ 0 ≤ x1.toInt) from by have t1 : 0 ≤ x1.toInt := q_nltI c6; have t2 : x1.toInt ≤ 9 := q_leI c7; have t3 : 0 ≤ x2.toInt := q_nltI c22; have t4 : x2.toInt ≤ 9 := q_leI c23; have t5 : 0 ≤ x3.toInt := q_nltI c38; have t6 : x3.toInt ≤ 9 := q_leI c39; have t7 : x4.toInt < 0 := q_ltI c52; have e0 : (1 : Int32).toInt = 1 := (by decide); omega), hF⟩) d_14_22_68
        ·
          refine lv_if_eq (tgt := 34) hx hb d_14_22_27 (by decide) (fun c64 => ?_) (fun c64 => absurd (by decide) c64)
          refine lv_iconst (v := 0) hx hb d_14_22_34 (by decide) ?_
          refine q_put (ci := 12) (j := 0) (v := .int 0) (ty := .int) C0 V i_NM o_NM n_NM rfl rfl hO0 (by decide) w_2298 rfl rfl rfl rfl (Nat.le_of_ble_eq_true rfl) d_14_22_35 (fun H locs w65 hu66 hO0 V => ?_)
          replace hO0 : w65[116]? = (some (qO0, .inr (12, [.int 0, .ref qA1, .int 0, .ref qA2, .int 0, .ref qO3, .ref qO4, .ref qO5, .ref qO6, .ref qO7, .ref qA8, .ref qA9])) : Option (Nat × va_E)) := hO0
          replace hF := q_gs hF hu66 (Nat.le_of_ble_eq_true rfl)
          refine lv_aload_n hx hb d_14_22_38 rfl (lv_at hl 0 rfl) ?_
          refine q_get (ci := 12) (j := 0) (v := .int 0) C0 V i_NM rfl rfl hO0 (by decide) w_2298 rfl d_14_22_39 ?_
          refine lv_if_ne (tgt := 68) hx hb d_14_22_42 (by decide) (fun c67 => absurd (by decide) c67) (fun c67 => ?_)
          refine lv_aload_n hx hb d_14_22_45 rfl (lv_at hl 0 rfl) ?_
          refine q_get (ci := 12) (j := 5) (v := .ref qO3) C0 V i_NM rfl rfl hO0 (by decide) w_2303 rfl d_14_22_46 ?_
          refine lv_iload_n hx hb d_14_22_49 rfl (lv_at hl 1 rfl) ?_
          refine lv_iload_n hx hb d_14_22_50 rfl (lv_at hl 2 rfl) ?_
          refine lv_iload_n hx hb d_14_22_51 rfl (lv_at hl 3 rfl) ?_
          refine lv_iload hx hb d_14_22_52 (lv_at hl 4 rfl) ?_
          replace hO3 := (hu66 _ (q_pd 119 116 rfl)).trans (hO3)
          replace hA11 := (hu66 _ (q_pd 121 116 rfl)).trans (hA11)
          replace hA12 := (hu66 _ (q_pd 122 116 rfl)).trans (hA12)
          refine q_gov V (q_runV (As := [.int x1, .int x2, .int x3, .int x4]) (rest := []) (d := 3) (mc := 0) (ms := 0) (ci := 13) C0 V rfl LV_NM_200 (c_WR_powerModulo l D g w65 119 121 122 qO3 qA10 qA11 qA12 qA13 qA14 qA15 qA16 qA17 qA18 qA19 qA20 qA21 qA22 qA23 x1 x2 x3 x4 hO3 hA11 hA12 (q_Ile (x := 0) (y := x1.toInt) (by decide) rfl (by have t1 : 0 ≤ x1.toInt := q_nltI c6; have t2 : x1.toInt ≤ 9 := q_leI c7; omega)) c7 (q_Ile (x := 0) (y := x2.toInt) (by decide) rfl (by have t1 : 0 ≤ x2.toInt := q_nltI c22; have t2 : x2.toInt ≤ 9 := q_leI c23; omega)) c23 (q_Ile (x := 0) (y := x3.toInt) (by decide) rfl (by have t1 : 0 ≤ x3.toInt := q_nltI c38; have t2 : x3.toInt ≤ 9 := q_leI c39; omega)) c39 (q_Ile (x := 0) (y := x4.toInt) (by decide) rfl (by have t1 : 0 ≤ x4.toInt := q_nltI c54; have t2 : x4.toInt ≤ 9 := q_leI c55; omega)) c55 _) rfl rfl hO3 rfl hl.1 rfl (Nat.le_of_ble_eq_true rfl) ⟨by decide, by decide⟩ ⟨Nat.le_of_ble_eq_true rfl, Nat.le_of_ble_eq_true rfl⟩ d_14_22_54) (fun u69 H locs hp68 V => ?_)
          obtain ⟨hg70, hO3⟩ := hp68
          replace hF := q_gc hF hg70 (q_al (Nat.le_of_ble_eq_true rfl) (fun _ h => absurd h List.not_mem_nil))
          refine lv_aload_n hx hb d_14_22_57 rfl (lv_at hl 0 rfl) ?_
          refine lv_aload_n hx hb d_14_22_58 rfl (lv_at hl 0 rfl) ?_
          replace hO0 := (hg70 _ (q_nc (q_pd 116 119 rfl) List.not_mem_nil)).trans (hO0)
          refine q_get (ci := 12) (j := 5) (v := .ref qO3) C0 V i_NM rfl rfl hO0 (by decide) w_2303 rfl d_14_22_59 ?_
          refine q_getN (ci := 13) (j := 0) (v := .int 2) C0 V i_WR rfl rfl hO3 (by decide) wo_1922 rfl d_14_22_62 ?_
          refine q_put (ci := 12) (j := 0) (v := .int 2) (ty := .int) C0 V i_NM o_NM n_NM rfl rfl hO0 (by decide) w_2298 rfl rfl rfl rfl (Nat.le_of_ble_eq_true rfl) d_14_22_65 (fun H locs w71 hu72 hO0 V => ?_)
          replace hO0 : w71[116]? = (some (qO0, .inr (12, [.int 2, .ref qA1, .int 0, .ref qA2, .int 0, .ref qO3, .ref qO4, .ref qO5, .ref qO6, .ref qO7, .ref qA8, .ref qA9])) : Option (Nat × va_E)) := hO0
          replace hF := q_gs hF hu72 (Nat.le_of_ble_eq_true rfl)
          exact q_retv C0 V (⟨2, 0, 0, hO0, (show ((2 : Int32).toInt = 0 ∧ ((0 ≤ x1.toInt ∧ x1.toInt ≤ 9) ∧ (0 ≤ x2.toInt ∧ x2.toInt ≤ 9) ∧ (0 ≤ x3.toInt ∧ x3.toInt ≤ 9) ∧ (0 ≤ x4.toInt ∧ x4.toInt ≤ 9)) ∧ ¬ (0 ≤ x1.toInt)) ∨ ((2 : Int32).toInt = 1 ∧ ¬ ((0 ≤ x1.toInt ∧ x1.toInt ≤ 9) ∧ (0 ≤ x2.toInt ∧ x2.toInt ≤ 9) ∧ (0 ≤ x3.toInt ∧ x3.toInt ≤ 9) ∧ (0 ≤ x4.toInt ∧ x4.toInt ≤ 9))) ∨ ((2 : Int32).toInt = 2 ∧ ((0 ≤ x1.toInt ∧ x1.toInt ≤ 9) ∧ (0 ≤ x2.toInt ∧ x2.toInt ≤ 9) ∧ (0 ≤ x3.toInt ∧ x3.toInt ≤ 9) ∧ (0 ≤ x4.toInt ∧ x4.toInt ≤ 9)) ∧ 0 ≤ x1.toInt) from by have t1 : 0 ≤ x1.toInt := q_nltI c6; have t2 : x1.toInt ≤ 9 := q_leI c7; have t3 : 0 ≤ x2.toInt := q_nltI c22; have t4 : x2.toInt ≤ 9 := q_leI c23; have t5 : 0 ≤ x3.toInt := q_nltI c38; have t6 : x3.toInt ≤ 9 := q_leI c39; have t7 : 0 ≤ x4.toInt := q_nltI c54; have t8 : x4.toInt ≤ 9 := q_leI c55; have e0 : (2 : Int32).toInt = 2 := (by decide); omega), hF⟩) d_14_22_68
        ·
          refine lv_if_eq (tgt := 34) hx hb d_14_22_27 (by decide) (fun c73 => absurd c73 (by decide)) (fun c73 => ?_)
          refine lv_iconst (v := 1) hx hb d_14_22_30 (by decide) ?_
          refine lv_goto (tgt := 35) hx hb d_14_22_31 (by decide) ?_
          refine q_put (ci := 12) (j := 0) (v := .int 1) (ty := .int) C0 V i_NM o_NM n_NM rfl rfl hO0 (by decide) w_2298 rfl rfl rfl rfl (Nat.le_of_ble_eq_true rfl) d_14_22_35 (fun H locs w74 hu75 hO0 V => ?_)
          replace hO0 : w74[116]? = (some (qO0, .inr (12, [.int 1, .ref qA1, .int 0, .ref qA2, .int 0, .ref qO3, .ref qO4, .ref qO5, .ref qO6, .ref qO7, .ref qA8, .ref qA9])) : Option (Nat × va_E)) := hO0
          replace hF := q_gs hF hu75 (Nat.le_of_ble_eq_true rfl)
          refine lv_aload_n hx hb d_14_22_38 rfl (lv_at hl 0 rfl) ?_
          refine q_get (ci := 12) (j := 0) (v := .int 1) C0 V i_NM rfl rfl hO0 (by decide) w_2298 rfl d_14_22_39 ?_
          refine lv_if_ne (tgt := 68) hx hb d_14_22_42 (by decide) (fun c76 => ?_) (fun c76 => absurd c76 (by decide))
          exact q_retv C0 V (⟨1, 0, 0, hO0, (show ((1 : Int32).toInt = 0 ∧ ((0 ≤ x1.toInt ∧ x1.toInt ≤ 9) ∧ (0 ≤ x2.toInt ∧ x2.toInt ≤ 9) ∧ (0 ≤ x3.toInt ∧ x3.toInt ≤ 9) ∧ (0 ≤ x4.toInt ∧ x4.toInt ≤ 9)) ∧ ¬ (0 ≤ x1.toInt)) ∨ ((1 : Int32).toInt = 1 ∧ ¬ ((0 ≤ x1.toInt ∧ x1.toInt ≤ 9) ∧ (0 ≤ x2.toInt ∧ x2.toInt ≤ 9) ∧ (0 ≤ x3.toInt ∧ x3.toInt ≤ 9) ∧ (0 ≤ x4.toInt ∧ x4.toInt ≤ 9))) ∨ ((1 : Int32).toInt = 2 ∧ ((0 ≤ x1.toInt ∧ x1.toInt ≤ 9) ∧ (0 ≤ x2.toInt ∧ x2.toInt ≤ 9) ∧ (0 ≤ x3.toInt ∧ x3.toInt ≤ 9) ∧ (0 ≤ x4.toInt ∧ x4.toInt ≤ 9)) ∧ 0 ≤ x1.toInt) from by have t1 : 0 ≤ x1.toInt := q_nltI c6; have t2 : x1.toInt ≤ 9 := q_leI c7; have t3 : 0 ≤ x2.toInt := q_nltI c22; have t4 : x2.toInt ≤ 9 := q_leI c23; have t5 : 0 ≤ x3.toInt := q_nltI c38; have t6 : x3.toInt ≤ 9 := q_leI c39; have t7 : 0 ≤ x4.toInt := q_nltI c57; have t8 : 9 < x4.toInt := q_nleI c58; have e0 : (1 : Int32).toInt = 1 := (by decide); omega), hF⟩) d_14_22_68
      ·
        refine lv_if_ne (tgt := 30) hx hb d_14_22_19 (by decide) (fun c77 => ?_) (fun c77 => absurd c77 (by decide))
        refine lv_iconst (v := 1) hx hb d_14_22_30 (by decide) ?_
        refine lv_goto (tgt := 35) hx hb d_14_22_31 (by decide) ?_
        refine q_put (ci := 12) (j := 0) (v := .int 1) (ty := .int) C0 V i_NM o_NM n_NM rfl rfl hO0 (by decide) w_2298 rfl rfl rfl rfl (Nat.le_of_ble_eq_true rfl) d_14_22_35 (fun H locs w78 hu79 hO0 V => ?_)
        replace hO0 : w78[116]? = (some (qO0, .inr (12, [.int 1, .ref qA1, .int 0, .ref qA2, .int 0, .ref qO3, .ref qO4, .ref qO5, .ref qO6, .ref qO7, .ref qA8, .ref qA9])) : Option (Nat × va_E)) := hO0
        replace hF := q_gs hF hu79 (Nat.le_of_ble_eq_true rfl)
        refine lv_aload_n hx hb d_14_22_38 rfl (lv_at hl 0 rfl) ?_
        refine q_get (ci := 12) (j := 0) (v := .int 1) C0 V i_NM rfl rfl hO0 (by decide) w_2298 rfl d_14_22_39 ?_
        refine lv_if_ne (tgt := 68) hx hb d_14_22_42 (by decide) (fun c80 => ?_) (fun c80 => absurd c80 (by decide))
        exact q_retv C0 V (⟨1, 0, 0, hO0, (show ((1 : Int32).toInt = 0 ∧ ((0 ≤ x1.toInt ∧ x1.toInt ≤ 9) ∧ (0 ≤ x2.toInt ∧ x2.toInt ≤ 9) ∧ (0 ≤ x3.toInt ∧ x3.toInt ≤ 9) ∧ (0 ≤ x4.toInt ∧ x4.toInt ≤ 9)) ∧ ¬ (0 ≤ x1.toInt)) ∨ ((1 : Int32).toInt = 1 ∧ ¬ ((0 ≤ x1.toInt ∧ x1.toInt ≤ 9) ∧ (0 ≤ x2.toInt ∧ x2.toInt ≤ 9) ∧ (0 ≤ x3.toInt ∧ x3.toInt ≤ 9) ∧ (0 ≤ x4.toInt ∧ x4.toInt ≤ 9))) ∨ ((1 : Int32).toInt = 2 ∧ ((0 ≤ x1.toInt ∧ x1.toInt ≤ 9) ∧ (0 ≤ x2.toInt ∧ x2.toInt ≤ 9) ∧ (0 ≤ x3.toInt ∧ x3.toInt ≤ 9) ∧ (0 ≤ x4.toInt ∧ x4.toInt ≤ 9)) ∧ 0 ≤ x1.toInt) from by have t1 : 0 ≤ x1.toInt := q_nltI c6; have t2 : x1.toInt ≤ 9 := q_leI c7; have t3 : 0 ≤ x2.toInt := q_nltI c22; have t4 : x2.toInt ≤ 9 := q_leI c23; have t5 : 0 ≤ x3.toInt := q_nltI c41; have t6 : 9 < x3.toInt := q_nleI c42; have e0 : (1 : Int32).toInt = 1 := (by decide); omega), hF⟩) d_14_22_68
    ·
      refine lv_if_ne (tgt := 30) hx hb d_14_22_12 (by decide) (fun c81 => ?_) (fun c81 => absurd c81 (by decide))
      refine lv_iconst (v := 1) hx hb d_14_22_30 (by decide) ?_
      refine lv_goto (tgt := 35) hx hb d_14_22_31 (by decide) ?_
      refine q_put (ci := 12) (j := 0) (v := .int 1) (ty := .int) C0 V i_NM o_NM n_NM rfl rfl hO0 (by decide) w_2298 rfl rfl rfl rfl (Nat.le_of_ble_eq_true rfl) d_14_22_35 (fun H locs w82 hu83 hO0 V => ?_)
      replace hO0 : w82[116]? = (some (qO0, .inr (12, [.int 1, .ref qA1, .int 0, .ref qA2, .int 0, .ref qO3, .ref qO4, .ref qO5, .ref qO6, .ref qO7, .ref qA8, .ref qA9])) : Option (Nat × va_E)) := hO0
      replace hF := q_gs hF hu83 (Nat.le_of_ble_eq_true rfl)
      refine lv_aload_n hx hb d_14_22_38 rfl (lv_at hl 0 rfl) ?_
      refine q_get (ci := 12) (j := 0) (v := .int 1) C0 V i_NM rfl rfl hO0 (by decide) w_2298 rfl d_14_22_39 ?_
      refine lv_if_ne (tgt := 68) hx hb d_14_22_42 (by decide) (fun c84 => ?_) (fun c84 => absurd c84 (by decide))
      exact q_retv C0 V (⟨1, 0, 0, hO0, (show ((1 : Int32).toInt = 0 ∧ ((0 ≤ x1.toInt ∧ x1.toInt ≤ 9) ∧ (0 ≤ x2.toInt ∧ x2.toInt ≤ 9) ∧ (0 ≤ x3.toInt ∧ x3.toInt ≤ 9) ∧ (0 ≤ x4.toInt ∧ x4.toInt ≤ 9)) ∧ ¬ (0 ≤ x1.toInt)) ∨ ((1 : Int32).toInt = 1 ∧ ¬ ((0 ≤ x1.toInt ∧ x1.toInt ≤ 9) ∧ (0 ≤ x2.toInt ∧ x2.toInt ≤ 9) ∧ (0 ≤ x3.toInt ∧ x3.toInt ≤ 9) ∧ (0 ≤ x4.toInt ∧ x4.toInt ≤ 9))) ∨ ((1 : Int32).toInt = 2 ∧ ((0 ≤ x1.toInt ∧ x1.toInt ≤ 9) ∧ (0 ≤ x2.toInt ∧ x2.toInt ≤ 9) ∧ (0 ≤ x3.toInt ∧ x3.toInt ≤ 9) ∧ (0 ≤ x4.toInt ∧ x4.toInt ≤ 9)) ∧ 0 ≤ x1.toInt) from by have t1 : 0 ≤ x1.toInt := q_nltI c6; have t2 : x1.toInt ≤ 9 := q_leI c7; have t3 : 0 ≤ x2.toInt := q_nltI c25; have t4 : 9 < x2.toInt := q_nleI c26; have e0 : (1 : Int32).toInt = 1 := (by decide); omega), hF⟩) d_14_22_68
  ·
    refine lv_if_ne (tgt := 30) hx hb d_14_22_5 (by decide) (fun c85 => ?_) (fun c85 => absurd c85 (by decide))
    refine lv_iconst (v := 1) hx hb d_14_22_30 (by decide) ?_
    refine lv_goto (tgt := 35) hx hb d_14_22_31 (by decide) ?_
    refine q_put (ci := 12) (j := 0) (v := .int 1) (ty := .int) C0 V i_NM o_NM n_NM rfl rfl hO0 (by decide) w_2298 rfl rfl rfl rfl (Nat.le_of_ble_eq_true rfl) d_14_22_35 (fun H locs w86 hu87 hO0 V => ?_)
    replace hO0 : w86[116]? = (some (qO0, .inr (12, [.int 1, .ref qA1, .int 0, .ref qA2, .int 0, .ref qO3, .ref qO4, .ref qO5, .ref qO6, .ref qO7, .ref qA8, .ref qA9])) : Option (Nat × va_E)) := hO0
    replace hF := q_gs hF hu87 (Nat.le_of_ble_eq_true rfl)
    refine lv_aload_n hx hb d_14_22_38 rfl (lv_at hl 0 rfl) ?_
    refine q_get (ci := 12) (j := 0) (v := .int 1) C0 V i_NM rfl rfl hO0 (by decide) w_2298 rfl d_14_22_39 ?_
    refine lv_if_ne (tgt := 68) hx hb d_14_22_42 (by decide) (fun c88 => ?_) (fun c88 => absurd c88 (by decide))
    exact q_retv C0 V (⟨1, 0, 0, hO0, (show ((1 : Int32).toInt = 0 ∧ ((0 ≤ x1.toInt ∧ x1.toInt ≤ 9) ∧ (0 ≤ x2.toInt ∧ x2.toInt ≤ 9) ∧ (0 ≤ x3.toInt ∧ x3.toInt ≤ 9) ∧ (0 ≤ x4.toInt ∧ x4.toInt ≤ 9)) ∧ ¬ (0 ≤ x1.toInt)) ∨ ((1 : Int32).toInt = 1 ∧ ¬ ((0 ≤ x1.toInt ∧ x1.toInt ≤ 9) ∧ (0 ≤ x2.toInt ∧ x2.toInt ≤ 9) ∧ (0 ≤ x3.toInt ∧ x3.toInt ≤ 9) ∧ (0 ≤ x4.toInt ∧ x4.toInt ≤ 9))) ∨ ((1 : Int32).toInt = 2 ∧ ((0 ≤ x1.toInt ∧ x1.toInt ≤ 9) ∧ (0 ≤ x2.toInt ∧ x2.toInt ≤ 9) ∧ (0 ≤ x3.toInt ∧ x3.toInt ≤ 9) ∧ (0 ≤ x4.toInt ∧ x4.toInt ≤ 9)) ∧ 0 ≤ x1.toInt) from by have t1 : 0 ≤ x1.toInt := q_nltI c9; have t2 : 9 < x1.toInt := q_nleI c10; have e0 : (1 : Int32).toInt = 1 := (by decide); omega), hF⟩) d_14_22_68
