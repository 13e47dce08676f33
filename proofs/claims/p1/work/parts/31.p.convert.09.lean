set_option maxRecDepth 100000 in
set_option maxHeartbeats 4000000 in
theorem c_TR_scan (l : Launch) (D : va_G) (g : Nat → ClassId) (ws : va_W) (kO0 kA1 kA2 qO0 qA1 qA2 qA3 : Nat) (hO0 : ws[kO0]? = (some (qO0, .inr (16, [.int 0, .ref qA1, .int 1, .int 0, .int 0, .int 0, .ref qA2, .int 0, .int 0, .long 0, .ref qA3, .int 0, .int 0, .long 0, .long 0, .int 0, .int 0])) : Option (Nat × va_E))) (hA1 : ws[kA1]? = (some (qA1, .inl (g 0, 4100, .inl (upd (fun _ => 0) 0 48))) : Option (Nat × va_E))) (hA2 : ws[kA2]? = (some (qA2, .inl (g 0, 4100, .inl (fun _ => 0))) : Option (Nat × va_E))) (n_A1_A2 : kA1 ≠ kA2) : q_mI l y_TR_scan prog_18_method_16_code 2 (.boolean) 4 0 0 D g [.ref qO0] ws (fun r u => 1 = r ∧ q_un ws u [kO0, kA2] ∧ u[kO0]? = (some (qO0, .inr (16, [.int 0, .ref qA1, .int 1, .int 0, .int 1, .int 0, .ref qA2, .int 1, .int 1, .long 0, .ref qA3, .int 0, .int 0, .long 0, .long 0, .int 0, .int 0])) : Option (Nat × va_E)) ∧ u[kA2]? = (some (qA2, .inl (g 0, 4100, .inl (fun _ => 0))) : Option (Nat × va_E))) := by
  intro sz
  refine q_into (by decide) (Nat.le_of_ble_eq_true rfl) ?_
  intro p e s m below meth c ls hsz C0 V hl
  have hx := C0.1
  have hb := C0.2.1
  have hl : lv_has ls 2 [(0, .ref qO0)] := hl
  have n_A1_O0 := q_df hA1 hO0
  have n_A2_O0 := q_df hA2 hO0
  have hF : q_un ws ws [kO0, kA2] := q_u0
  refine lv_aload_n hx hb d_18_16_0 rfl (lv_at hl 0 rfl) ?_
  refine lv_iconst (v := 0) hx hb d_18_16_1 (by decide) ?_
  refine q_put (ci := 16) (j := 4) (v := .int 0) (ty := .int) C0 V i_TR o_TR n_TR rfl rfl hO0 (by decide) w_2144 rfl rfl rfl rfl (Nat.le_of_ble_eq_true rfl) d_18_16_2 (fun H locs w1 hu2 hO0 V => ?_)
  replace hO0 : w1[kO0]? = (some (qO0, .inr (16, [.int 0, .ref qA1, .int 1, .int 0, .int 0, .int 0, .ref qA2, .int 0, .int 0, .long 0, .ref qA3, .int 0, .int 0, .long 0, .long 0, .int 0, .int 0])) : Option (Nat × va_E)) := hO0
  replace hF := q_us hF hu2 (.head _)
  refine lv_aload_n hx hb d_18_16_5 rfl (lv_at hl 0 rfl) ?_
  replace hA1 := (hu2 _ n_A1_O0).trans (hA1)
  refine q_gov V (q_runV (As := []) (rest := []) (d := 1) (mc := 0) (ms := 0) (ci := 16) C0 V rfl LV_TR_74 (c_TR_blanks l D g w1 kO0 kA1 qO0 qA1 qA2 qA3 hO0 hA1 _) rfl rfl hO0 rfl hl.1 rfl (Nat.le_of_ble_eq_true rfl) ⟨by decide, by decide⟩ ⟨Nat.le_of_ble_eq_true rfl, Nat.le_of_ble_eq_true rfl⟩ d_18_16_6) (fun u4 H locs hp3 V => ?_)
  obtain rfl := hp3
  refine lv_aload_n hx hb d_18_16_9 rfl (lv_at hl 0 rfl) ?_
  refine lv_aload_n hx hb d_18_16_10 rfl (lv_at hl 0 rfl) ?_
  refine q_goi V (q_runV (As := []) (rest := [.ref qO0]) (d := 1) (mc := 0) (ms := 0) (ci := 16) C0 V rfl LV_TR_35 (c_TR_here l D g w1 kO0 kA1 qO0 qA1 qA2 qA3 hO0 hA1 _) rfl rfl hO0 rfl hl.1 rfl (Nat.le_of_ble_eq_true rfl) ⟨by decide, by decide⟩ ⟨Nat.le_of_ble_eq_true rfl, Nat.le_of_ble_eq_true rfl⟩ d_18_16_11) (fun v8 u7 H locs hp6 V => ?_)
  obtain ⟨rfl, rfl⟩ := hp6
  refine lv_bipush (v := 45) hx hb d_18_16_14 (by decide) ?_
  refine lv_icmp_ne (tgt := 23) hx hb d_18_16_16 (by decide) (fun c10 => ?_) (fun c10 => absurd c10 (by decide))
  refine lv_iconst (v := 0) hx hb d_18_16_23 (by decide) ?_
  refine q_put (ci := 16) (j := 5) (v := .int 0) (ty := .boolean) C0 V i_TR o_TR n_TR rfl rfl hO0 (by decide) w_2145 rfl rfl rfl rfl (Nat.le_of_ble_eq_true rfl) d_18_16_24 (fun H locs w11 hu12 hO0 V => ?_)
  replace hO0 : w11[kO0]? = (some (qO0, .inr (16, [.int 0, .ref qA1, .int 1, .int 0, .int 0, .int 0, .ref qA2, .int 0, .int 0, .long 0, .ref qA3, .int 0, .int 0, .long 0, .long 0, .int 0, .int 0])) : Option (Nat × va_E)) := hO0
  replace hF := q_us hF hu12 (.head _)
  refine lv_aload_n hx hb d_18_16_27 rfl (lv_at hl 0 rfl) ?_
  refine q_get (ci := 16) (j := 5) (v := .int 0) C0 V i_TR rfl rfl hO0 (by decide) w_2145 rfl d_18_16_28 ?_
  refine lv_if_ne (tgt := 43) hx hb d_18_16_31 (by decide) (fun c13 => absurd (by decide) c13) (fun c13 => ?_)
  refine lv_aload_n hx hb d_18_16_34 rfl (lv_at hl 0 rfl) ?_
  replace hA1 := (hu12 _ n_A1_O0).trans (hA1)
  refine q_goi V (q_runV (As := []) (rest := []) (d := 1) (mc := 0) (ms := 0) (ci := 16) C0 V rfl LV_TR_35 (c_TR_here l D g w11 kO0 kA1 qO0 qA1 qA2 qA3 hO0 hA1 _) rfl rfl hO0 rfl hl.1 rfl (Nat.le_of_ble_eq_true rfl) ⟨by decide, by decide⟩ ⟨Nat.le_of_ble_eq_true rfl, Nat.le_of_ble_eq_true rfl⟩ d_18_16_35) (fun v16 u15 H locs hp14 V => ?_)
  obtain ⟨rfl, rfl⟩ := hp14
  refine lv_bipush (v := 43) hx hb d_18_16_38 (by decide) ?_
  refine lv_icmp_ne (tgt := 53) hx hb d_18_16_40 (by decide) (fun c18 => ?_) (fun c18 => absurd c18 (by decide))
  refine lv_aload_n hx hb d_18_16_53 rfl (lv_at hl 0 rfl) ?_
  refine q_goi V (q_runV (As := []) (rest := []) (d := 1) (mc := 0) (ms := 0) (ci := 16) C0 V rfl LV_TR_35 (c_TR_here l D g w11 kO0 kA1 qO0 qA1 qA2 qA3 hO0 hA1 _) rfl rfl hO0 rfl hl.1 rfl (Nat.le_of_ble_eq_true rfl) ⟨by decide, by decide⟩ ⟨Nat.le_of_ble_eq_true rfl, Nat.le_of_ble_eq_true rfl⟩ d_18_16_54) (fun v21 u20 H locs hp19 V => ?_)
  obtain ⟨rfl, rfl⟩ := hp19
  refine lv_bipush (v := 78) hx hb d_18_16_57 (by decide) ?_
  refine lv_icmp_ne (tgt := 78) hx hb d_18_16_59 (by decide) (fun c23 => ?_) (fun c23 => absurd c23 (by decide))
  refine lv_aload_n hx hb d_18_16_78 rfl (lv_at hl 0 rfl) ?_
  refine q_goi V (q_runV (As := []) (rest := []) (d := 1) (mc := 0) (ms := 0) (ci := 16) C0 V rfl LV_TR_35 (c_TR_here l D g w11 kO0 kA1 qO0 qA1 qA2 qA3 hO0 hA1 _) rfl rfl hO0 rfl hl.1 rfl (Nat.le_of_ble_eq_true rfl) ⟨by decide, by decide⟩ ⟨Nat.le_of_ble_eq_true rfl, Nat.le_of_ble_eq_true rfl⟩ d_18_16_79) (fun v26 u25 H locs hp24 V => ?_)
  obtain ⟨rfl, rfl⟩ := hp24
  refine lv_bipush (v := 73) hx hb d_18_16_82 (by decide) ?_
  refine lv_icmp_ne (tgt := 103) hx hb d_18_16_84 (by decide) (fun c28 => ?_) (fun c28 => absurd c28 (by decide))
  refine lv_aload_n hx hb d_18_16_103 rfl (lv_at hl 0 rfl) ?_
  replace hA2 := (hu12 _ n_A2_O0).trans ((hu2 _ n_A2_O0).trans (hA2))
  refine q_goi V (q_runV (As := []) (rest := []) (d := 3) (mc := 0) (ms := 0) (ci := 16) C0 V rfl LV_TR_89 (c_TR_number l D g w11 kO0 kA1 kA2 qO0 qA1 qA2 qA3 hO0 hA1 hA2 n_A1_A2 _) rfl rfl hO0 rfl hl.1 rfl (Nat.le_of_ble_eq_true rfl) ⟨by decide, by decide⟩ ⟨Nat.le_of_ble_eq_true rfl, Nat.le_of_ble_eq_true rfl⟩ d_18_16_104) (fun v31 u30 H locs hp29 V => ?_)
  obtain ⟨rfl, hg32, hO0, hA2⟩ := hp29
  replace hF := q_uc hF hg32 (q_sc (.head _) (q_sc (.tail _ (.head _)) (fun _ h => absurd h List.not_mem_nil)))
  refine lv_istore_n (lv' := [(1, .int 1), (0, .ref qO0)]) hx hb d_18_16_107 rfl hl (by decide) rfl (fun ls hl => ?_)
  refine lv_iload_n hx hb d_18_16_108 rfl (lv_at hl 0 rfl) ?_
  refine lv_if_eq (tgt := 116) hx hb d_18_16_109 (by decide) (fun c33 => absurd c33 (by decide)) (fun c33 => ?_)
  refine lv_aload_n hx hb d_18_16_112 rfl (lv_at hl 1 rfl) ?_
  refine q_gov V (q_runV (As := []) (rest := []) (d := 1) (mc := 0) (ms := 0) (ci := 16) C0 V rfl LV_TR_74 (c_TR_blanks_2 l D g u30 kO0 qO0 qA1 qA2 qA3 hO0 _) rfl rfl hO0 rfl hl.1 rfl (Nat.le_of_ble_eq_true rfl) ⟨by decide, by decide⟩ ⟨Nat.le_of_ble_eq_true rfl, Nat.le_of_ble_eq_true rfl⟩ d_18_16_113) (fun u35 H locs hp34 V => ?_)
  obtain rfl := hp34
  refine lv_iload_n hx hb d_18_16_116 rfl (lv_at hl 0 rfl) ?_
  refine lv_if_eq (tgt := 135) hx hb d_18_16_117 (by decide) (fun c37 => absurd c37 (by decide)) (fun c37 => ?_)
  refine lv_aload_n hx hb d_18_16_120 rfl (lv_at hl 1 rfl) ?_
  refine q_get (ci := 16) (j := 4) (v := .int 1) C0 V i_TR rfl rfl hO0 (by decide) w_2144 rfl d_18_16_121 ?_
  refine lv_aload_n hx hb d_18_16_124 rfl (lv_at hl 1 rfl) ?_
  refine q_get (ci := 16) (j := 2) (v := .int 1) C0 V i_TR rfl rfl hO0 (by decide) w_2141 rfl d_18_16_125 ?_
  refine lv_icmp_ne (tgt := 135) hx hb d_18_16_128 (by decide) (fun c38 => absurd (by decide) c38) (fun c38 => ?_)
  refine lv_iconst (v := 1) hx hb d_18_16_131 (by decide) ?_
  refine lv_goto (tgt := 136) hx hb d_18_16_132 (by decide) ?_
  exact q_retz C0 V (rfl) (⟨rfl, hF, hO0, hA2⟩) d_18_16_136
theorem d_18_26_0 : decode prog_18_method_26_code 0 = .ok (.iconst 0, 1) := by decide +kernel
theorem d_18_26_1 : decode prog_18_method_26_code 1 = .ok (.istore_n 3, 1) := by decide +kernel
theorem d_18_26_2 : decode prog_18_method_26_code 2 = .ok (.iload_n 3, 1) := by decide +kernel
theorem d_18_26_3 : decode prog_18_method_26_code 3 = .ok (.aload_n 0, 1) := by decide +kernel
theorem d_18_26_4 : decode prog_18_method_26_code 4 = .ok (.getfield 39, 3) := by decide +kernel
theorem d_18_26_7 : decode prog_18_method_26_code 7 = .ok (.if_icmp .ge 18, 3) := by decide +kernel
theorem d_18_26_10 : decode prog_18_method_26_code 10 = .ok (.aload_n 0, 1) := by decide +kernel
theorem d_18_26_11 : decode prog_18_method_26_code 11 = .ok (.getfield 13, 3) := by decide +kernel
theorem d_18_26_14 : decode prog_18_method_26_code 14 = .ok (.iload_n 3, 1) := by decide +kernel
theorem d_18_26_15 : decode prog_18_method_26_code 15 = .ok (.iaload, 1) := by decide +kernel
theorem d_18_26_16 : decode prog_18_method_26_code 16 = .ok (.ifCond .ne 9, 3) := by decide +kernel
theorem d_18_26_19 : decode prog_18_method_26_code 19 = .ok (.iinc 3 1, 3) := by decide +kernel
theorem d_18_26_22 : decode prog_18_method_26_code 22 = .ok (.goto (-20), 3) := by decide +kernel
theorem d_18_26_25 : decode prog_18_method_26_code 25 = .ok (.iload_n 3, 1) := by decide +kernel
theorem d_18_26_26 : decode prog_18_method_26_code 26 = .ok (.aload_n 0, 1) := by decide +kernel
theorem d_18_26_27 : decode prog_18_method_26_code 27 = .ok (.getfield 39, 3) := by decide +kernel
theorem d_18_26_30 : decode prog_18_method_26_code 30 = .ok (.if_icmp .ne 27, 3) := by decide +kernel
theorem d_18_26_33 : decode prog_18_method_26_code 33 = .ok (.aload_n 0, 1) := by decide +kernel
theorem d_18_26_34 : decode prog_18_method_26_code 34 = .ok (.iconst 0, 1) := by decide +kernel
theorem d_18_26_35 : decode prog_18_method_26_code 35 = .ok (.putfield 109, 3) := by decide +kernel
theorem w_2156 : (Cond.fieldLink "NumberHouseModel$TextRows" (109 : Nat) "NumberHouseModel$TextRows" "huge" "Z") ∈ q_tbl := q_of 2156 (by decide +kernel) (by decide +kernel)
theorem d_18_26_38 : decode prog_18_method_26_code 38 = .ok (.aload_n 0, 1) := by decide +kernel
theorem d_18_26_39 : decode prog_18_method_26_code 39 = .ok (.lconst 0, 1) := by decide +kernel
theorem d_18_26_40 : decode prog_18_method_26_code 40 = .ok (.putfield 114, 3) := by decide +kernel
theorem w_2153 : (Cond.fieldLink "NumberHouseModel$TextRows" (114 : Nat) "NumberHouseModel$TextRows" "whole" "J") ∈ q_tbl := q_of 2153 (by decide +kernel) (by decide +kernel)
theorem d_18_26_43 : decode prog_18_method_26_code 43 = .ok (.aload_n 0, 1) := by decide +kernel
theorem d_18_26_44 : decode prog_18_method_26_code 44 = .ok (.iload_n 2, 1) := by decide +kernel
theorem d_18_26_45 : decode prog_18_method_26_code 45 = .ok (.i2l, 1) := by decide +kernel
theorem d_18_26_46 : decode prog_18_method_26_code 46 = .ok (.putfield 117, 3) := by decide +kernel
theorem w_2154 : (Cond.fieldLink "NumberHouseModel$TextRows" (117 : Nat) "NumberHouseModel$TextRows" "scale" "J") ∈ q_tbl := q_of 2154 (by decide +kernel) (by decide +kernel)
theorem d_18_26_49 : decode prog_18_method_26_code 49 = .ok (.aload_n 0, 1) := by decide +kernel
theorem d_18_26_50 : decode prog_18_method_26_code 50 = .ok (.iconst 0, 1) := by decide +kernel
theorem d_18_26_51 : decode prog_18_method_26_code 51 = .ok (.putfield 120, 3) := by decide +kernel
theorem w_2155 : (Cond.fieldLink "NumberHouseModel$TextRows" (120 : Nat) "NumberHouseModel$TextRows" "rest" "I") ∈ q_tbl := q_of 2155 (by decide +kernel) (by decide +kernel)
theorem d_18_26_54 : decode prog_18_method_26_code 54 = .ok (.goto 27, 3) := by decide +kernel
theorem d_18_26_81 : decode prog_18_method_26_code 81 = .ok (.return_, 1) := by decide +kernel
def y_TR_find : MethodName := ⟨"NumberHouseModel$TextRows", "find", "(II)V"⟩
set_option maxRecDepth 100000 in
set_option maxHeartbeats 4000000 in
theorem c_TR_find (l : Launch) (D : va_G) (g : Nat → ClassId) (ws : va_W) (kO0 kA2 qO0 qA1 qA2 qA3 : Nat) (hO0 : ws[kO0]? = (some (qO0, .inr (16, [.int 0, .ref qA1, .int 1, .int 0, .int 1, .int 0, .ref qA2, .int 1, .int 1, .long 0, .ref qA3, .int 0, .int 0, .long 0, .long 0, .int 0, .int 0])) : Option (Nat × va_E))) (hA2 : ws[kA2]? = (some (qA2, .inl (g 0, 4100, .inl (fun _ => 0))) : Option (Nat × va_E))) : q_mV l y_TR_find prog_18_method_26_code 4 1 0 0 D g [.ref qO0, .int 24, .int (-149)] ws (fun u => q_un ws u [kO0] ∧ u[kO0]? = (some (qO0, .inr (16, [.int 0, .ref qA1, .int 1, .int 0, .int 1, .int 0, .ref qA2, .int 1, .int 1, .long 0, .ref qA3, .int 0, .int 0, .long 0, .long (-149), .int 0, .int 0])) : Option (Nat × va_E))) := by
  intro sz
  refine q_into (by decide) (Nat.le_of_ble_eq_true rfl) ?_
  intro p e s m below meth c ls hsz C0 V hl
  have hx := C0.1
  have hb := C0.2.1
  have hl : lv_has ls 4 [(0, .ref qO0), (1, .int 24), (2, .int (-149))] := hl
  have n_A2_O0 := q_df hA2 hO0
  have hF : q_un ws ws [kO0] := q_u0
  refine lv_iconst (v := 0) hx hb d_18_26_0 (by decide) ?_
  refine lv_istore_n (lv' := [(3, .int 0), (0, .ref qO0), (1, .int 24), (2, .int (-149))]) hx hb d_18_26_1 rfl hl (by decide) rfl (fun ls hl => ?_)
  refine lv_iload_n hx hb d_18_26_2 rfl (lv_at hl 0 rfl) ?_
  refine lv_aload_n hx hb d_18_26_3 rfl (lv_at hl 1 rfl) ?_
  refine q_get (ci := 16) (j := 7) (v := .int 1) C0 V i_TR rfl rfl hO0 (by decide) w_2147 rfl d_18_26_4 ?_
  refine lv_icmp_ge (tgt := 25) hx hb d_18_26_7 (by decide) (fun c1 => absurd c1 (by decide)) (fun c1 => ?_)
  refine lv_aload_n hx hb d_18_26_10 rfl (lv_at hl 1 rfl) ?_
  refine q_get (ci := 16) (j := 6) (v := .ref qA2) C0 V i_TR rfl rfl hO0 (by decide) w_2146 rfl d_18_26_11 ?_
  refine lv_iload_n hx hb d_18_26_14 rfl (lv_at hl 0 rfl) ?_
  refine q_iald C0 V hA2 (by unfold vp_in; decide) d_18_26_15 ?_
  refine q_ti (v := 0) (by first | rfl | decide | simp [upd, vp_updL, sb_cl0]) ?_
  refine lv_if_ne (tgt := 25) hx hb d_18_26_16 (by decide) (fun c2 => absurd (by decide) c2) (fun c2 => ?_)
  refine lv_iinc (v := 1) (lv' := [(3, .int 1), (0, .ref qO0), (1, .int 24), (2, .int (-149))]) hx hb d_18_26_19 hl (k := 0) rfl (by decide) (by decide) rfl (fun ls hl => ?_)
  refine lv_goto (tgt := 2) hx hb d_18_26_22 (by decide) ?_
  refine lv_iload_n hx hb d_18_26_2 rfl (lv_at hl 0 rfl) ?_
  refine lv_aload_n hx hb d_18_26_3 rfl (lv_at hl 1 rfl) ?_
  refine q_get (ci := 16) (j := 7) (v := .int 1) C0 V i_TR rfl rfl hO0 (by decide) w_2147 rfl d_18_26_4 ?_
  refine lv_icmp_ge (tgt := 25) hx hb d_18_26_7 (by decide) (fun c3 => ?_) (fun c3 => absurd (by decide) c3)
  refine lv_iload_n hx hb d_18_26_25 rfl (lv_at hl 0 rfl) ?_
  refine lv_aload_n hx hb d_18_26_26 rfl (lv_at hl 1 rfl) ?_
  refine q_get (ci := 16) (j := 7) (v := .int 1) C0 V i_TR rfl rfl hO0 (by decide) w_2147 rfl d_18_26_27 ?_
  refine lv_icmp_ne (tgt := 57) hx hb d_18_26_30 (by decide) (fun c4 => absurd (by decide) c4) (fun c4 => ?_)
  refine lv_aload_n hx hb d_18_26_33 rfl (lv_at hl 1 rfl) ?_
  refine lv_iconst (v := 0) hx hb d_18_26_34 (by decide) ?_
  refine q_put (ci := 16) (j := 16) (v := .int 0) (ty := .boolean) C0 V i_TR o_TR n_TR rfl rfl hO0 (by decide) w_2156 rfl rfl rfl rfl (Nat.le_of_ble_eq_true rfl) d_18_26_35 (fun H locs w5 hu6 hO0 V => ?_)
  replace hO0 : w5[kO0]? = (some (qO0, .inr (16, [.int 0, .ref qA1, .int 1, .int 0, .int 1, .int 0, .ref qA2, .int 1, .int 1, .long 0, .ref qA3, .int 0, .int 0, .long 0, .long 0, .int 0, .int 0])) : Option (Nat × va_E)) := hO0
  replace hF := q_us hF hu6 (.head _)
  refine lv_aload_n hx hb d_18_26_38 rfl (lv_at hl 1 rfl) ?_
  refine lv_lconst (v := 0) hx hb d_18_26_39 (by decide) ?_
  refine q_put (ci := 16) (j := 13) (v := .long 0) (ty := .long) C0 V i_TR o_TR n_TR rfl rfl hO0 (by decide) w_2153 rfl rfl rfl rfl (Nat.le_of_ble_eq_true rfl) d_18_26_40 (fun H locs w7 hu8 hO0 V => ?_)
  replace hO0 : w7[kO0]? = (some (qO0, .inr (16, [.int 0, .ref qA1, .int 1, .int 0, .int 1, .int 0, .ref qA2, .int 1, .int 1, .long 0, .ref qA3, .int 0, .int 0, .long 0, .long 0, .int 0, .int 0])) : Option (Nat × va_E)) := hO0
  replace hF := q_us hF hu8 (.head _)
  refine lv_aload_n hx hb d_18_26_43 rfl (lv_at hl 1 rfl) ?_
  refine lv_iload_n hx hb d_18_26_44 rfl (lv_at hl 3 rfl) ?_
  refine lv_i2l hx hb d_18_26_45 rfl ?_
  refine q_tl (v := (-149)) (by decide) ?_
  refine q_put (ci := 16) (j := 14) (v := .long (-149)) (ty := .long) C0 V i_TR o_TR n_TR rfl rfl hO0 (by decide) w_2154 rfl rfl rfl rfl (Nat.le_of_ble_eq_true rfl) d_18_26_46 (fun H locs w9 hu10 hO0 V => ?_)
  replace hO0 : w9[kO0]? = (some (qO0, .inr (16, [.int 0, .ref qA1, .int 1, .int 0, .int 1, .int 0, .ref qA2, .int 1, .int 1, .long 0, .ref qA3, .int 0, .int 0, .long 0, .long (-149), .int 0, .int 0])) : Option (Nat × va_E)) := hO0
  replace hF := q_us hF hu10 (.head _)
  refine lv_aload_n hx hb d_18_26_49 rfl (lv_at hl 1 rfl) ?_
  refine lv_iconst (v := 0) hx hb d_18_26_50 (by decide) ?_
  refine q_put (ci := 16) (j := 15) (v := .int 0) (ty := .int) C0 V i_TR o_TR n_TR rfl rfl hO0 (by decide) w_2155 rfl rfl rfl rfl (Nat.le_of_ble_eq_true rfl) d_18_26_51 (fun H locs w11 hu12 hO0 V => ?_)
  replace hO0 : w11[kO0]? = (some (qO0, .inr (16, [.int 0, .ref qA1, .int 1, .int 0, .int 1, .int 0, .ref qA2, .int 1, .int 1, .long 0, .ref qA3, .int 0, .int 0, .long 0, .long (-149), .int 0, .int 0])) : Option (Nat × va_E)) := hO0
  replace hF := q_us hF hu12 (.head _)
  refine lv_goto (tgt := 81) hx hb d_18_26_54 (by decide) ?_
  exact q_retv C0 V (⟨hF, hO0⟩) d_18_26_81
theorem d_18_27_0 : decode prog_18_method_27_code 0 = .ok (.aload_n 0, 1) := by decide +kernel
theorem d_18_27_1 : decode prog_18_method_27_code 1 = .ok (.getfield 120, 3) := by decide +kernel
theorem d_18_27_4 : decode prog_18_method_27_code 4 = .ok (.iconst 3, 1) := by decide +kernel
theorem d_18_27_5 : decode prog_18_method_27_code 5 = .ok (.if_icmp .eq 24, 3) := by decide +kernel
theorem d_18_27_8 : decode prog_18_method_27_code 8 = .ok (.aload_n 0, 1) := by decide +kernel
theorem d_18_27_9 : decode prog_18_method_27_code 9 = .ok (.getfield 120, 3) := by decide +kernel
theorem d_18_27_12 : decode prog_18_method_27_code 12 = .ok (.iconst 2, 1) := by decide +kernel
theorem d_18_27_13 : decode prog_18_method_27_code 13 = .ok (.if_icmp .ne 20, 3) := by decide +kernel
theorem d_18_27_33 : decode prog_18_method_27_code 33 = .ok (.iconst 0, 1) := by decide +kernel
theorem d_18_27_34 : decode prog_18_method_27_code 34 = .ok (.ireturn, 1) := by decide +kernel
def y_TR_goesUp : MethodName := ⟨"NumberHouseModel$TextRows", "goesUp", "()Z"⟩
set_option maxRecDepth 100000 in
set_option maxHeartbeats 4000000 in
theorem c_TR_goesUp (l : Launch) (D : va_G) (g : Nat → ClassId) (ws : va_W) (kO0 qO0 qA1 qA2 qA3 : Nat) (hO0 : ws[kO0]? = (some (qO0, .inr (16, [.int 0, .ref qA1, .int 1, .int 0, .int 1, .int 0, .ref qA2, .int 1, .int 1, .long 0, .ref qA3, .int 0, .int 0, .long 0, .long (-149), .int 0, .int 0])) : Option (Nat × va_E))) : q_mI l y_TR_goesUp prog_18_method_27_code 1 (.boolean) 1 0 0 D g [.ref qO0] ws (fun r u => 0 = r ∧ ws = u) := by
  intro sz
  refine q_into (by decide) (Nat.le_of_ble_eq_true rfl) ?_
  intro p e s m below meth c ls hsz C0 V hl
  have hx := C0.1
  have hb := C0.2.1
  have hl : lv_has ls 1 [(0, .ref qO0)] := hl
  refine lv_aload_n hx hb d_18_27_0 rfl (lv_at hl 0 rfl) ?_
  refine q_get (ci := 16) (j := 15) (v := .int 0) C0 V i_TR rfl rfl hO0 (by decide) w_2155 rfl d_18_27_1 ?_
  refine lv_iconst (v := 3) hx hb d_18_27_4 (by decide) ?_
  refine lv_icmp_eq (tgt := 29) hx hb d_18_27_5 (by decide) (fun c1 => absurd c1 (by decide)) (fun c1 => ?_)
  refine lv_aload_n hx hb d_18_27_8 rfl (lv_at hl 0 rfl) ?_
  refine q_get (ci := 16) (j := 15) (v := .int 0) C0 V i_TR rfl rfl hO0 (by decide) w_2155 rfl d_18_27_9 ?_
  refine lv_iconst (v := 2) hx hb d_18_27_12 (by decide) ?_
  refine lv_icmp_ne (tgt := 33) hx hb d_18_27_13 (by decide) (fun c2 => ?_) (fun c2 => absurd c2 (by decide))
  refine lv_iconst (v := 0) hx hb d_18_27_33 (by decide) ?_
  exact q_retz C0 V (rfl) (⟨rfl, rfl⟩) d_18_27_34
theorem d_18_28_0 : decode prog_18_method_28_code 0 = .ok (.iload_n 3, 1) := by decide +kernel
theorem d_18_28_1 : decode prog_18_method_28_code 1 = .ok (.bipush 53, 2) := by decide +kernel
theorem d_18_28_3 : decode prog_18_method_28_code 3 = .ok (.if_icmp .ne 9, 3) := by decide +kernel
theorem d_18_28_12 : decode prog_18_method_28_code 12 = .ok (.ldc2_w 23, 3) := by decide +kernel
theorem w_2440 : (Cond.constantLong "NumberHouseModel$TextRows" (23 : Nat) (255 : Int64)) ∈ q_tbl := q_of 2440 (by decide +kernel) (by decide +kernel)
theorem d_18_28_15 : decode prog_18_method_28_code 15 = .ok (.iload_n 3, 1) := by decide +kernel
theorem d_18_28_16 : decode prog_18_method_28_code 16 = .ok (.iconst 1, 1) := by decide +kernel
theorem d_18_28_17 : decode prog_18_method_28_code 17 = .ok (.isub, 1) := by decide +kernel
theorem d_18_28_18 : decode prog_18_method_28_code 18 = .ok (.lshl, 1) := by decide +kernel
theorem d_18_28_19 : decode prog_18_method_28_code 19 = .ok (.lstore 5, 2) := by decide +kernel
theorem d_18_28_21 : decode prog_18_method_28_code 21 = .ok (.lload_n 1, 1) := by decide +kernel
theorem d_18_28_22 : decode prog_18_method_28_code 22 = .ok (.lconst 1, 1) := by decide +kernel
theorem d_18_28_23 : decode prog_18_method_28_code 23 = .ok (.iload_n 3, 1) := by decide +kernel
theorem d_18_28_24 : decode prog_18_method_28_code 24 = .ok (.iconst 1, 1) := by decide +kernel
theorem d_18_28_25 : decode prog_18_method_28_code 25 = .ok (.isub, 1) := by decide +kernel
theorem d_18_28_26 : decode prog_18_method_28_code 26 = .ok (.lshl, 1) := by decide +kernel
theorem d_18_28_27 : decode prog_18_method_28_code 27 = .ok (.lcmp, 1) := by decide +kernel
theorem d_18_28_28 : decode prog_18_method_28_code 28 = .ok (.ifCond .ge 5, 3) := by decide +kernel
theorem d_18_28_31 : decode prog_18_method_28_code 31 = .ok (.lload_n 1, 1) := by decide +kernel
theorem d_18_28_32 : decode prog_18_method_28_code 32 = .ok (.lreturn, 1) := by decide +kernel
def y_TR_pack : MethodName := ⟨"NumberHouseModel$TextRows", "pack", "(JII)J"⟩
set_option maxRecDepth 100000 in
set_option maxHeartbeats 4000000 in
theorem c_TR_pack (l : Launch) (D : va_G) (g : Nat → ClassId) (ws : va_W) ( qO0 : Nat) : q_mL l y_TR_pack prog_18_method_28_code 11 1 0 0 D g [.ref qO0, .long 0, .int 24, .int (-149)] ws (fun r u => 0 = r ∧ ws = u) := by
  intro sz
  refine q_into (by decide) (Nat.le_of_ble_eq_true rfl) ?_
  intro p e s m below meth c ls hsz C0 V hl
  have hx := C0.1
  have hb := C0.2.1
  have hl : lv_has ls 11 [(0, .ref qO0), (1, .long 0), (3, .int 24), (4, .int (-149))] := hl
  refine lv_iload_n hx hb d_18_28_0 rfl (lv_at hl 2 rfl) ?_
  refine lv_bipush (v := 53) hx hb d_18_28_1 (by decide) ?_
  refine lv_icmp_ne (tgt := 12) hx hb d_18_28_3 (by decide) (fun c1 => ?_) (fun c1 => absurd c1 (by decide))
  refine q_ldc2 C0 rfl w_2440 d_18_28_12 ?_
  refine lv_iload_n hx hb d_18_28_15 rfl (lv_at hl 2 rfl) ?_
  refine lv_iconst (v := 1) hx hb d_18_28_16 (by decide) ?_
  refine lv_isub hx hb d_18_28_17 ?_
  refine q_ti (v := 23) (by decide) ?_
  refine lv_lshl hx hb d_18_28_18 rfl ?_
  refine q_tl (v := 2139095040) (by decide) ?_
  refine lv_lstore (lv' := [(5, .long 2139095040), (0, .ref qO0), (1, .long 0), (3, .int 24), (4, .int (-149))]) hx hb d_18_28_19 hl (by decide) rfl (fun ls hl => ?_)
  refine lv_lload_n hx hb d_18_28_21 rfl (lv_at hl 2 rfl) ?_
  refine lv_lconst (v := 1) hx hb d_18_28_22 (by decide) ?_
  refine lv_iload_n hx hb d_18_28_23 rfl (lv_at hl 3 rfl) ?_
  refine lv_iconst (v := 1) hx hb d_18_28_24 (by decide) ?_
  refine lv_isub hx hb d_18_28_25 ?_
  refine q_ti (v := 23) (by decide) ?_
  refine lv_lshl hx hb d_18_28_26 rfl ?_
  refine q_tl (v := 8388608) (by decide) ?_
  refine W.lcmp hx hb d_18_28_27 ?_
  refine q_ti (v := (-1)) (by decide) ?_
  refine lv_if_ge (tgt := 33) hx hb d_18_28_28 (by decide) (fun c2 => absurd c2 (by decide)) (fun c2 => ?_)
  refine lv_lload_n hx hb d_18_28_31 rfl (lv_at hl 2 rfl) ?_
  exact q_retl C0 V (⟨rfl, rfl⟩) d_18_28_32
theorem d_18_29_0 : decode prog_18_method_29_code 0 = .ok (.aload_n 0, 1) := by decide +kernel
theorem d_18_29_1 : decode prog_18_method_29_code 1 = .ok (.getfield 59, 3) := by decide +kernel
theorem d_18_29_4 : decode prog_18_method_29_code 4 = .ok (.iconst 1, 1) := by decide +kernel
theorem d_18_29_5 : decode prog_18_method_29_code 5 = .ok (.if_icmp .le 41, 3) := by decide +kernel
theorem d_18_29_46 : decode prog_18_method_29_code 46 = .ok (.aload_n 0, 1) := by decide +kernel
theorem d_18_29_47 : decode prog_18_method_29_code 47 = .ok (.iload_n 1, 1) := by decide +kernel
theorem d_18_29_48 : decode prog_18_method_29_code 48 = .ok (.iload_n 2, 1) := by decide +kernel
theorem d_18_29_49 : decode prog_18_method_29_code 49 = .ok (.invokevirtual 162, 3) := by decide +kernel
theorem w_2475 : (Cond.code ({ cls := "NumberHouseModel$TextRows", name := "find", desc := "(II)V" } : MethodName) prog_18_method_26_code (4 : Nat) (none : Option ClassFile.FieldType)) ∈ q_tbl := q_of 2475 (by decide +kernel) (by decide +kernel)
theorem w_2472 : (Cond.methodLink "NumberHouseModel$TextRows" (162 : Nat) ({ cls := "NumberHouseModel$TextRows", name := "find", desc := "(II)V" } : MethodName)) ∈ q_tbl := q_of 2472 (by decide +kernel) (by decide +kernel)
theorem w_2474 : (Cond.instanceMethod ({ cls := "NumberHouseModel$TextRows", name := "find", desc := "(II)V" } : MethodName)) ∈ q_tbl := q_of 2474 (by decide +kernel) (by decide +kernel)
theorem ws_74 : Cond.selects "NumberHouseModel$TextRows" (⟨"NumberHouseModel$TextRows", "find", "(II)V"⟩ : MethodName) (⟨"NumberHouseModel$TextRows", "find", "(II)V"⟩ : MethodName) ∈ q_tbl := q_ofs 74 (by decide +kernel) (by decide +kernel)
theorem LV_TR_162 : q_LV "NumberHouseModel$TextRows" 162 y_TR_find prog_18_method_26_code 4 none 2 := ⟨w_2475, w_18, w_2472, w_2474, ws_74, ⟨by decide, by decide, by decide +kernel⟩⟩
theorem d_18_29_52 : decode prog_18_method_29_code 52 = .ok (.aload_n 0, 1) := by decide +kernel
theorem d_18_29_53 : decode prog_18_method_29_code 53 = .ok (.getfield 109, 3) := by decide +kernel
theorem d_18_29_56 : decode prog_18_method_29_code 56 = .ok (.ifCond .eq 23, 3) := by decide +kernel
theorem d_18_29_79 : decode prog_18_method_29_code 79 = .ok (.aload_n 0, 1) := by decide +kernel
theorem d_18_29_80 : decode prog_18_method_29_code 80 = .ok (.aload_n 0, 1) := by decide +kernel
theorem d_18_29_81 : decode prog_18_method_29_code 81 = .ok (.invokevirtual 165, 3) := by decide +kernel
theorem w_2519 : (Cond.code ({ cls := "NumberHouseModel$TextRows", name := "goesUp", desc := "()Z" } : MethodName) prog_18_method_27_code (1 : Nat) (some .boolean)) ∈ q_tbl := q_of 2519 (by decide +kernel) (by decide +kernel)
theorem w_2516 : (Cond.methodLink "NumberHouseModel$TextRows" (165 : Nat) ({ cls := "NumberHouseModel$TextRows", name := "goesUp", desc := "()Z" } : MethodName)) ∈ q_tbl := q_of 2516 (by decide +kernel) (by decide +kernel)
theorem w_2518 : (Cond.instanceMethod ({ cls := "NumberHouseModel$TextRows", name := "goesUp", desc := "()Z" } : MethodName)) ∈ q_tbl := q_of 2518 (by decide +kernel) (by decide +kernel)
theorem ws_82 : Cond.selects "NumberHouseModel$TextRows" (⟨"NumberHouseModel$TextRows", "goesUp", "()Z"⟩ : MethodName) (⟨"NumberHouseModel$TextRows", "goesUp", "()Z"⟩ : MethodName) ∈ q_tbl := q_ofs 82 (by decide +kernel) (by decide +kernel)
theorem LV_TR_165 : q_LV "NumberHouseModel$TextRows" 165 y_TR_goesUp prog_18_method_27_code 1 (some .boolean) 0 := ⟨w_2519, w_18, w_2516, w_2518, ws_82, ⟨by decide, by decide, by decide +kernel⟩⟩
theorem d_18_29_84 : decode prog_18_method_29_code 84 = .ok (.ifCond .eq 12, 3) := by decide +kernel
theorem d_18_29_96 : decode prog_18_method_29_code 96 = .ok (.aload_n 0, 1) := by decide +kernel
theorem d_18_29_97 : decode prog_18_method_29_code 97 = .ok (.getfield 114, 3) := by decide +kernel
theorem d_18_29_100 : decode prog_18_method_29_code 100 = .ok (.iload_n 1, 1) := by decide +kernel
theorem d_18_29_101 : decode prog_18_method_29_code 101 = .ok (.iload_n 2, 1) := by decide +kernel
theorem d_18_29_102 : decode prog_18_method_29_code 102 = .ok (.invokevirtual 168, 3) := by decide +kernel
theorem w_2523 : (Cond.code ({ cls := "NumberHouseModel$TextRows", name := "pack", desc := "(JII)J" } : MethodName) prog_18_method_28_code (11 : Nat) (some .long)) ∈ q_tbl := q_of 2523 (by decide +kernel) (by decide +kernel)
theorem w_2520 : (Cond.methodLink "NumberHouseModel$TextRows" (168 : Nat) ({ cls := "NumberHouseModel$TextRows", name := "pack", desc := "(JII)J" } : MethodName)) ∈ q_tbl := q_of 2520 (by decide +kernel) (by decide +kernel)
theorem w_2522 : (Cond.instanceMethod ({ cls := "NumberHouseModel$TextRows", name := "pack", desc := "(JII)J" } : MethodName)) ∈ q_tbl := q_of 2522 (by decide +kernel) (by decide +kernel)
theorem ws_83 : Cond.selects "NumberHouseModel$TextRows" (⟨"NumberHouseModel$TextRows", "pack", "(JII)J"⟩ : MethodName) (⟨"NumberHouseModel$TextRows", "pack", "(JII)J"⟩ : MethodName) ∈ q_tbl := q_ofs 83 (by decide +kernel) (by decide +kernel)
theorem LV_TR_168 : q_LV "NumberHouseModel$TextRows" 168 y_TR_pack prog_18_method_28_code 11 (some .long) 3 := ⟨w_2523, w_18, w_2520, w_2522, ws_83, ⟨by decide, by decide, by decide +kernel⟩⟩
theorem d_18_29_105 : decode prog_18_method_29_code 105 = .ok (.lreturn, 1) := by decide +kernel
def y_TR_sizeRead : MethodName := ⟨"NumberHouseModel$TextRows", "sizeRead", "(II)J"⟩
set_option maxRecDepth 100000 in
set_option maxHeartbeats 4000000 in
theorem c_TR_sizeRead (l : Launch) (D : va_G) (g : Nat → ClassId) (ws : va_W) (kO0 kA2 qO0 qA1 qA2 qA3 : Nat) (hO0 : ws[kO0]? = (some (qO0, .inr (16, [.int 0, .ref qA1, .int 1, .int 0, .int 1, .int 0, .ref qA2, .int 1, .int 1, .long 0, .ref qA3, .int 0, .int 0, .long 0, .long 0, .int 0, .int 0])) : Option (Nat × va_E))) (hA2 : ws[kA2]? = (some (qA2, .inl (g 0, 4100, .inl (fun _ => 0))) : Option (Nat × va_E))) : q_mL l y_TR_sizeRead prog_18_method_29_code 3 2 0 0 D g [.ref qO0, .int 24, .int (-149)] ws (fun r u => 0 = r ∧ q_un ws u [kO0] ∧ u[kO0]? = (some (qO0, .inr (16, [.int 0, .ref qA1, .int 1, .int 0, .int 1, .int 0, .ref qA2, .int 1, .int 1, .long 0, .ref qA3, .int 0, .int 0, .long 0, .long (-149), .int 0, .int 0])) : Option (Nat × va_E))) := by
  intro sz
  refine q_into (by decide) (Nat.le_of_ble_eq_true rfl) ?_
  intro p e s m below meth c ls hsz C0 V hl
  have hx := C0.1
  have hb := C0.2.1
  have hl : lv_has ls 3 [(0, .ref qO0), (1, .int 24), (2, .int (-149))] := hl
  have n_A2_O0 := q_df hA2 hO0
  have hF : q_un ws ws [kO0] := q_u0
  refine lv_aload_n hx hb d_18_29_0 rfl (lv_at hl 0 rfl) ?_
  refine q_get (ci := 16) (j := 3) (v := .int 0) C0 V i_TR rfl rfl hO0 (by decide) w_2143 rfl d_18_29_1 ?_
  refine lv_iconst (v := 1) hx hb d_18_29_4 (by decide) ?_
  refine lv_icmp_le (tgt := 46) hx hb d_18_29_5 (by decide) (fun c1 => ?_) (fun c1 => absurd (by decide) c1)
  refine lv_aload_n hx hb d_18_29_46 rfl (lv_at hl 0 rfl) ?_
  refine lv_iload_n hx hb d_18_29_47 rfl (lv_at hl 1 rfl) ?_
  refine lv_iload_n hx hb d_18_29_48 rfl (lv_at hl 2 rfl) ?_
  refine q_gov V (q_runV (As := [.int 24, .int (-149)]) (rest := []) (d := 1) (mc := 0) (ms := 0) (ci := 16) C0 V rfl LV_TR_162 (c_TR_find l D g ws kO0 kA2 qO0 qA1 qA2 qA3 hO0 hA2 _) rfl rfl hO0 rfl hl.1 rfl (Nat.le_of_ble_eq_true rfl) ⟨by decide, by decide⟩ ⟨Nat.le_of_ble_eq_true rfl, Nat.le_of_ble_eq_true rfl⟩ d_18_29_49) (fun u3 H locs hp2 V => ?_)
  obtain ⟨hg4, hO0⟩ := hp2
  replace hF := q_uc hF hg4 (q_sc (.head _) (fun _ h => absurd h List.not_mem_nil))
  refine lv_aload_n hx hb d_18_29_52 rfl (lv_at hl 0 rfl) ?_
  refine q_get (ci := 16) (j := 16) (v := .int 0) C0 V i_TR rfl rfl hO0 (by decide) w_2156 rfl d_18_29_53 ?_
  refine lv_if_eq (tgt := 79) hx hb d_18_29_56 (by decide) (fun c5 => ?_) (fun c5 => absurd (by decide) c5)
  refine lv_aload_n hx hb d_18_29_79 rfl (lv_at hl 0 rfl) ?_
  refine lv_aload_n hx hb d_18_29_80 rfl (lv_at hl 0 rfl) ?_
  refine q_goi V (q_runV (As := []) (rest := [.ref qO0]) (d := 1) (mc := 0) (ms := 0) (ci := 16) C0 V rfl LV_TR_165 (c_TR_goesUp l D g u3 kO0 qO0 qA1 qA2 qA3 hO0 _) rfl rfl hO0 rfl hl.1 rfl (Nat.le_of_ble_eq_true rfl) ⟨by decide, by decide⟩ ⟨Nat.le_of_ble_eq_true rfl, Nat.le_of_ble_eq_true rfl⟩ d_18_29_81) (fun v8 u7 H locs hp6 V => ?_)
  obtain ⟨rfl, rfl⟩ := hp6
  refine lv_if_eq (tgt := 96) hx hb d_18_29_84 (by decide) (fun c10 => ?_) (fun c10 => absurd (by decide) c10)
  refine lv_aload_n hx hb d_18_29_96 rfl (lv_at hl 0 rfl) ?_
  refine q_get (ci := 16) (j := 13) (v := .long 0) C0 V i_TR rfl rfl hO0 (by decide) w_2153 rfl d_18_29_97 ?_
  refine lv_iload_n hx hb d_18_29_100 rfl (lv_at hl 1 rfl) ?_
  refine lv_iload_n hx hb d_18_29_101 rfl (lv_at hl 2 rfl) ?_
  refine q_gol V (q_runV (As := [.long 0, .int 24, .int (-149)]) (rest := []) (d := 1) (mc := 0) (ms := 0) (ci := 16) C0 V rfl LV_TR_168 (c_TR_pack l D g u3 qO0 _) rfl rfl hO0 rfl hl.1 rfl (Nat.le_of_ble_eq_true rfl) ⟨by decide, by decide⟩ ⟨Nat.le_of_ble_eq_true rfl, Nat.le_of_ble_eq_true rfl⟩ d_18_29_102) (fun v13 u12 H locs hp11 V => ?_)
  obtain ⟨rfl, rfl⟩ := hp11
  exact q_retl C0 V (⟨rfl, hF, hO0⟩) d_18_29_105
theorem d_18_31_0 : decode prog_18_method_31_code 0 = .ok (.aload_n 0, 1) := by decide +kernel
theorem d_18_31_1 : decode prog_18_method_31_code 1 = .ok (.aload_n 0, 1) := by decide +kernel
theorem d_18_31_2 : decode prog_18_method_31_code 2 = .ok (.invokevirtual 92, 3) := by decide +kernel
theorem w_2426 : (Cond.code ({ cls := "NumberHouseModel$TextRows", name := "scan", desc := "()Z" } : MethodName) prog_18_method_16_code (2 : Nat) (some .boolean)) ∈ q_tbl := q_of 2426 (by decide +kernel) (by decide +kernel)
theorem w_2423 : (Cond.methodLink "NumberHouseModel$TextRows" (92 : Nat) ({ cls := "NumberHouseModel$TextRows", name := "scan", desc := "()Z" } : MethodName)) ∈ q_tbl := q_of 2423 (by decide +kernel) (by decide +kernel)
theorem w_2425 : (Cond.instanceMethod ({ cls := "NumberHouseModel$TextRows", name := "scan", desc := "()Z" } : MethodName)) ∈ q_tbl := q_of 2425 (by decide +kernel) (by decide +kernel)
theorem ws_65 : Cond.selects "NumberHouseModel$TextRows" (⟨"NumberHouseModel$TextRows", "scan", "()Z"⟩ : MethodName) (⟨"NumberHouseModel$TextRows", "scan", "()Z"⟩ : MethodName) ∈ q_tbl := q_ofs 65 (by decide +kernel) (by decide +kernel)
theorem LV_TR_92 : q_LV "NumberHouseModel$TextRows" 92 y_TR_scan prog_18_method_16_code 2 (some .boolean) 0 := ⟨w_2426, w_18, w_2423, w_2425, ws_65, ⟨by decide, by decide, by decide +kernel⟩⟩
theorem d_18_31_5 : decode prog_18_method_31_code 5 = .ok (.ifCond .eq 7, 3) := by decide +kernel
theorem d_18_31_8 : decode prog_18_method_31_code 8 = .ok (.iconst 0, 1) := by decide +kernel
theorem d_18_31_9 : decode prog_18_method_31_code 9 = .ok (.goto 4, 3) := by decide +kernel
theorem d_18_31_13 : decode prog_18_method_31_code 13 = .ok (.putfield 19, 3) := by decide +kernel
theorem w_2138 : (Cond.fieldLink "NumberHouseModel$TextRows" (19 : Nat) "NumberHouseModel$TextRows" "thrown" "I") ∈ q_tbl := q_of 2138 (by decide +kernel) (by decide +kernel)
theorem d_18_31_16 : decode prog_18_method_31_code 16 = .ok (.aload_n 0, 1) := by decide +kernel
theorem d_18_31_17 : decode prog_18_method_31_code 17 = .ok (.getfield 19, 3) := by decide +kernel
theorem d_18_31_20 : decode prog_18_method_31_code 20 = .ok (.ifCond .le 5, 3) := by decide +kernel
theorem d_18_31_25 : decode prog_18_method_31_code 25 = .ok (.aload_n 0, 1) := by decide +kernel
theorem d_18_31_26 : decode prog_18_method_31_code 26 = .ok (.bipush 24, 2) := by decide +kernel
theorem d_18_31_28 : decode prog_18_method_31_code 28 = .ok (.sipush (-149), 3) := by decide +kernel
theorem d_18_31_31 : decode prog_18_method_31_code 31 = .ok (.invokevirtual 172, 3) := by decide +kernel
theorem w_2470 : (Cond.code ({ cls := "NumberHouseModel$TextRows", name := "sizeRead", desc := "(II)J" } : MethodName) prog_18_method_29_code (3 : Nat) (some .long)) ∈ q_tbl := q_of 2470 (by decide +kernel) (by decide +kernel)
theorem w_2467 : (Cond.methodLink "NumberHouseModel$TextRows" (172 : Nat) ({ cls := "NumberHouseModel$TextRows", name := "sizeRead", desc := "(II)J" } : MethodName)) ∈ q_tbl := q_of 2467 (by decide +kernel) (by decide +kernel)
theorem w_2469 : (Cond.instanceMethod ({ cls := "NumberHouseModel$TextRows", name := "sizeRead", desc := "(II)J" } : MethodName)) ∈ q_tbl := q_of 2469 (by decide +kernel) (by decide +kernel)
theorem ws_73 : Cond.selects "NumberHouseModel$TextRows" (⟨"NumberHouseModel$TextRows", "sizeRead", "(II)J"⟩ : MethodName) (⟨"NumberHouseModel$TextRows", "sizeRead", "(II)J"⟩ : MethodName) ∈ q_tbl := q_ofs 73 (by decide +kernel) (by decide +kernel)
theorem LV_TR_172 : q_LV "NumberHouseModel$TextRows" 172 y_TR_sizeRead prog_18_method_29_code 3 (some .long) 2 := ⟨w_2470, w_18, w_2467, w_2469, ws_73, ⟨by decide, by decide, by decide +kernel⟩⟩
theorem d_18_31_34 : decode prog_18_method_31_code 34 = .ok (.l2i, 1) := by decide +kernel
theorem d_18_31_35 : decode prog_18_method_31_code 35 = .ok (.istore_n 1, 1) := by decide +kernel
theorem d_18_31_36 : decode prog_18_method_31_code 36 = .ok (.aload_n 0, 1) := by decide +kernel
theorem d_18_31_37 : decode prog_18_method_31_code 37 = .ok (.getfield 77, 3) := by decide +kernel
theorem d_18_31_40 : decode prog_18_method_31_code 40 = .ok (.ifCond .eq 18, 3) := by decide +kernel
theorem d_18_31_58 : decode prog_18_method_31_code 58 = .ok (.iload_n 1, 1) := by decide +kernel
theorem d_18_31_59 : decode prog_18_method_31_code 59 = .ok (.ireturn, 1) := by decide +kernel
def y_TR_floatBits : MethodName := ⟨"NumberHouseModel$TextRows", "floatBits", "()I"⟩
set_option maxRecDepth 100000 in
set_option maxHeartbeats 4000000 in
theorem c_TR_floatBits (l : Launch) (D : va_G) (g : Nat → ClassId) (ws : va_W) (kO0 kA1 kA2 qO0 qA1 qA2 qA3 : Nat) (hO0 : ws[kO0]? = (some (qO0, .inr (16, [.int 0, .ref qA1, .int 1, .int 0, .int 0, .int 0, .ref qA2, .int 0, .int 0, .long 0, .ref qA3, .int 0, .int 0, .long 0, .long 0, .int 0, .int 0])) : Option (Nat × va_E))) (hA1 : ws[kA1]? = (some (qA1, .inl (g 0, 4100, .inl (upd (fun _ => 0) 0 48))) : Option (Nat × va_E))) (hA2 : ws[kA2]? = (some (qA2, .inl (g 0, 4100, .inl (fun _ => 0))) : Option (Nat × va_E))) (n_A1_A2 : kA1 ≠ kA2) : q_mI l y_TR_floatBits prog_18_method_31_code 2 (.int) 5 0 0 D g [.ref qO0] ws (fun r u => 0 = r ∧ q_un ws u [kO0, kA2] ∧ u[kO0]? = (some (qO0, .inr (16, [.int 0, .ref qA1, .int 1, .int 0, .int 1, .int 0, .ref qA2, .int 1, .int 1, .long 0, .ref qA3, .int 0, .int 0, .long 0, .long (-149), .int 0, .int 0])) : Option (Nat × va_E)) ∧ u[kA2]? = (some (qA2, .inl (g 0, 4100, .inl (fun _ => 0))) : Option (Nat × va_E))) := by
  intro sz
  refine q_into (by decide) (Nat.le_of_ble_eq_true rfl) ?_
  intro p e s m below meth c ls hsz C0 V hl
  have hx := C0.1
  have hb := C0.2.1
  have hl : lv_has ls 2 [(0, .ref qO0)] := hl
  have n_A1_O0 := q_df hA1 hO0
  have n_A2_O0 := q_df hA2 hO0
  have hF : q_un ws ws [kO0, kA2] := q_u0
  refine lv_aload_n hx hb d_18_31_0 rfl (lv_at hl 0 rfl) ?_
  refine lv_aload_n hx hb d_18_31_1 rfl (lv_at hl 0 rfl) ?_
  refine q_goi V (q_runV (As := []) (rest := [.ref qO0]) (d := 4) (mc := 0) (ms := 0) (ci := 16) C0 V rfl LV_TR_92 (c_TR_scan l D g ws kO0 kA1 kA2 qO0 qA1 qA2 qA3 hO0 hA1 hA2 n_A1_A2 _) rfl rfl hO0 rfl hl.1 rfl (Nat.le_of_ble_eq_true rfl) ⟨by decide, by decide⟩ ⟨Nat.le_of_ble_eq_true rfl, Nat.le_of_ble_eq_true rfl⟩ d_18_31_2) (fun v3 u2 H locs hp1 V => ?_)
  obtain ⟨rfl, hg4, hO0, hA2⟩ := hp1
  replace hF := q_uc hF hg4 (q_sc (.head _) (q_sc (.tail _ (.head _)) (fun _ h => absurd h List.not_mem_nil)))
  refine lv_if_eq (tgt := 12) hx hb d_18_31_5 (by decide) (fun c5 => absurd c5 (by decide)) (fun c5 => ?_)
  refine lv_iconst (v := 0) hx hb d_18_31_8 (by decide) ?_
  refine lv_goto (tgt := 13) hx hb d_18_31_9 (by decide) ?_
  refine q_put (ci := 16) (j := 0) (v := .int 0) (ty := .int) C0 V i_TR o_TR n_TR rfl rfl hO0 (by decide) w_2138 rfl rfl rfl rfl (Nat.le_of_ble_eq_true rfl) d_18_31_13 (fun H locs w6 hu7 hO0 V => ?_)
  replace hO0 : w6[kO0]? = (some (qO0, .inr (16, [.int 0, .ref qA1, .int 1, .int 0, .int 1, .int 0, .ref qA2, .int 1, .int 1, .long 0, .ref qA3, .int 0, .int 0, .long 0, .long 0, .int 0, .int 0])) : Option (Nat × va_E)) := hO0
  replace hF := q_us hF hu7 (.head _)
  refine lv_aload_n hx hb d_18_31_16 rfl (lv_at hl 0 rfl) ?_
  refine q_get (ci := 16) (j := 0) (v := .int 0) C0 V i_TR rfl rfl hO0 (by decide) w_2138 rfl d_18_31_17 ?_
  refine lv_if_le (tgt := 25) hx hb d_18_31_20 (by decide) (fun c8 => ?_) (fun c8 => absurd (by decide) c8)
  refine lv_aload_n hx hb d_18_31_25 rfl (lv_at hl 0 rfl) ?_
  refine lv_bipush (v := 24) hx hb d_18_31_26 (by decide) ?_
  refine lv_sipush (v := (-149)) hx hb d_18_31_28 (by decide) ?_
  replace hA2 := (hu7 _ n_A2_O0).trans (hA2)
  refine q_gol V (q_runV (As := [.int 24, .int (-149)]) (rest := []) (d := 2) (mc := 0) (ms := 0) (ci := 16) C0 V rfl LV_TR_172 (c_TR_sizeRead l D g w6 kO0 kA2 qO0 qA1 qA2 qA3 hO0 hA2 _) rfl rfl hO0 rfl hl.1 rfl (Nat.le_of_ble_eq_true rfl) ⟨by decide, by decide⟩ ⟨Nat.le_of_ble_eq_true rfl, Nat.le_of_ble_eq_true rfl⟩ d_18_31_31) (fun v11 u10 H locs hp9 V => ?_)
  obtain ⟨rfl, hg12, hO0⟩ := hp9
  replace hF := q_uc hF hg12 (q_sc (.head _) (fun _ h => absurd h List.not_mem_nil))
  refine lv_l2i hx hb d_18_31_34 rfl ?_
  refine q_ti (v := 0) (by decide) ?_
  refine lv_istore_n (lv' := [(1, .int 0), (0, .ref qO0)]) hx hb d_18_31_35 rfl hl (by decide) rfl (fun ls hl => ?_)
  refine lv_aload_n hx hb d_18_31_36 rfl (lv_at hl 1 rfl) ?_
  refine q_get (ci := 16) (j := 5) (v := .int 0) C0 V i_TR rfl rfl hO0 (by decide) w_2145 rfl d_18_31_37 ?_
  refine lv_if_eq (tgt := 58) hx hb d_18_31_40 (by decide) (fun c13 => ?_) (fun c13 => absurd (by decide) c13)
  refine lv_iload_n hx hb d_18_31_58 rfl (lv_at hl 0 rfl) ?_
  replace hA2 := (hg12 _ (q_nc n_A2_O0 List.not_mem_nil)).trans (hA2)
  exact q_reti C0 V (⟨rfl, hF, hO0, hA2⟩) d_18_31_59
theorem d_14_12_0 : decode prog_14_method_12_code 0 = .ok (.aload_n 0, 1) := by decide +kernel
theorem d_14_12_1 : decode prog_14_method_12_code 1 = .ok (.getfield 51, 3) := by decide +kernel
theorem d_14_12_4 : decode prog_14_method_12_code 4 = .ok (.iload_n 1, 1) := by decide +kernel
theorem d_14_12_5 : decode prog_14_method_12_code 5 = .ok (.iconst 3, 1) := by decide +kernel
theorem d_14_12_6 : decode prog_14_method_12_code 6 = .ok (.if_icmp .ne 10, 3) := by decide +kernel
theorem d_14_12_9 : decode prog_14_method_12_code 9 = .ok (.bipush 10, 2) := by decide +kernel
theorem d_14_12_11 : decode prog_14_method_12_code 11 = .ok (.iload_n 2, 1) := by decide +kernel
theorem d_14_12_12 : decode prog_14_method_12_code 12 = .ok (.iadd, 1) := by decide +kernel
theorem d_14_12_13 : decode prog_14_method_12_code 13 = .ok (.goto 4, 3) := by decide +kernel
theorem d_14_12_17 : decode prog_14_method_12_code 17 = .ok (.lload_n 3, 1) := by decide +kernel
theorem d_14_12_18 : decode prog_14_method_12_code 18 = .ok (.lastore, 1) := by decide +kernel
theorem d_14_12_19 : decode prog_14_method_12_code 19 = .ok (.return_, 1) := by decide +kernel
def y_NM_setBits : MethodName := ⟨"NumberHouseModel", "setBits", "(IIJ)V"⟩
set_option maxRecDepth 100000 in
set_option maxHeartbeats 4000000 in
theorem c_NM_setBits (l : Launch) (D : va_G) (g : Nat → ClassId) (ws : va_W) ( qO0 qA1 qA2 qO3 qO4 qO5 qO6 qO7 qA8 qA9 : Nat) (x1 : Int32) (hO0 : ws[116]? = (some (qO0, .inr (12, [.int 0, .ref qA1, .int 0, .ref qA2, .int 0, .ref qO3, .ref qO4, .ref qO5, .ref qO6, .ref qO7, .ref qA8, .ref qA9])) : Option (Nat × va_E))) (hA8 : ws[167]? = (some (qA8, .inl (g 1, 20, .inr (.inl (fun _ => 0)))) : Option (Nat × va_E))) (x1lo : 0 ≤ x1) (x1hi : x1 ≤ 9) : q_mV l y_NM_setBits prog_14_method_12_code 5 1 0 0 D g [.ref qO0, .int 3, .int x1, .long 0] ws (fun u => q_un ws u [167] ∧ u[167]? = (some (qA8, .inl (g 1, 20, .inr (.inl (fun _ => 0)))) : Option (Nat × va_E))) := by
  intro sz
  refine q_into (by decide) (Nat.le_of_ble_eq_true rfl) ?_
  intro p e s m below meth c ls hsz C0 V hl
  have hx := C0.1
  have hb := C0.2.1
  have hl : lv_has ls 5 [(0, .ref qO0), (1, .int 3), (2, .int x1), (3, .long 0)] := hl
  have hF : q_un ws ws [167] := q_u0
  refine lv_aload_n hx hb d_14_12_0 rfl (lv_at hl 0 rfl) ?_
  refine q_get (ci := 12) (j := 10) (v := .ref qA8) C0 V i_NM rfl rfl hO0 (by decide) w_2308 rfl d_14_12_1 ?_
  refine lv_iload_n hx hb d_14_12_4 rfl (lv_at hl 1 rfl) ?_
  refine lv_iconst (v := 3) hx hb d_14_12_5 (by decide) ?_
  refine lv_icmp_ne (tgt := 16) hx hb d_14_12_6 (by decide) (fun c1 => absurd (by decide) c1) (fun c1 => ?_)
  refine lv_bipush (v := 10) hx hb d_14_12_9 (by decide) ?_
  refine lv_iload_n hx hb d_14_12_11 rfl (lv_at hl 2 rfl) ?_
  refine lv_iadd hx hb d_14_12_12 ?_
  refine lv_goto (tgt := 17) hx hb d_14_12_13 (by decide) ?_
  refine lv_lload_n hx hb d_14_12_17 rfl (lv_at hl 3 rfl) ?_
  refine q_last C0 V hA8 (q_ix (x := (10 + x1.toInt)) (q_addI (x := 10) (y := x1.toInt) (by decide) rfl (by have t1 : 0 ≤ x1.toInt := q_leI x1lo; have t2 : x1.toInt ≤ 9 := q_leI x1hi; omega) (by have t1 : 0 ≤ x1.toInt := q_leI x1lo; have t2 : x1.toInt ≤ 9 := q_leI x1hi; omega)) (by have t1 : 0 ≤ x1.toInt := q_leI x1lo; have t2 : x1.toInt ≤ 9 := q_leI x1hi; omega) (by have t1 : 0 ≤ x1.toInt := q_leI x1lo; have t2 : x1.toInt ≤ 9 := q_leI x1hi; omega)) d_14_12_18 (fun H locs w2 hu3 hA8 V => ?_)
  replace hA8 := q_re (y := (qA8, .inl (g 1, 20, .inr (.inl (fun _ => 0))))) hA8 (q_eL q_updL0)
  replace hA8 : w2[167]? = (some (qA8, .inl (g 1, 20, .inr (.inl (fun _ => 0)))) : Option (Nat × va_E)) := hA8
  replace hF := q_us hF hu3 (.head _)
  exact q_retv C0 V (⟨hF, hA8⟩) d_14_12_19
set_option maxRecDepth 100000 in
set_option maxHeartbeats 4000000 in
theorem c_TR_find_2 (l : Launch) (D : va_G) (g : Nat → ClassId) (ws : va_W) (kO0 kA2 qO0 qA1 qA2 qA3 : Nat) (hO0 : ws[kO0]? = (some (qO0, .inr (16, [.int 0, .ref qA1, .int 1, .int 0, .int 1, .int 0, .ref qA2, .int 1, .int 1, .long 0, .ref qA3, .int 0, .int 0, .long 0, .long 0, .int 0, .int 0])) : Option (Nat × va_E))) (hA2 : ws[kA2]? = (some (qA2, .inl (g 0, 4100, .inl (fun _ => 0))) : Option (Nat × va_E))) : q_mV l y_TR_find prog_18_method_26_code 4 1 0 0 D g [.ref qO0, .int 53, .int (-1074)] ws (fun u => q_un ws u [kO0] ∧ u[kO0]? = (some (qO0, .inr (16, [.int 0, .ref qA1, .int 1, .int 0, .int 1, .int 0, .ref qA2, .int 1, .int 1, .long 0, .ref qA3, .int 0, .int 0, .long 0, .long (-1074), .int 0, .int 0])) : Option (Nat × va_E))) := by
  intro sz
  refine q_into (by decide) (Nat.le_of_ble_eq_true rfl) ?_
  intro p e s m below meth c ls hsz C0 V hl
  have hx := C0.1
  have hb := C0.2.1
  have hl : lv_has ls 4 [(0, .ref qO0), (1, .int 53), (2, .int (-1074))] := hl
  have n_A2_O0 := q_df hA2 hO0
  have hF : q_un ws ws [kO0] := q_u0
  refine lv_iconst (v := 0) hx hb d_18_26_0 (by decide) ?_
  refine lv_istore_n (lv' := [(3, .int 0), (0, .ref qO0), (1, .int 53), (2, .int (-1074))]) hx hb d_18_26_1 rfl hl (by decide) rfl (fun ls hl => ?_)
  refine lv_iload_n hx hb d_18_26_2 rfl (lv_at hl 0 rfl) ?_
  refine lv_aload_n hx hb d_18_26_3 rfl (lv_at hl 1 rfl) ?_
  refine q_get (ci := 16) (j := 7) (v := .int 1) C0 V i_TR rfl rfl hO0 (by decide) w_2147 rfl d_18_26_4 ?_
  refine lv_icmp_ge (tgt := 25) hx hb d_18_26_7 (by decide) (fun c1 => absurd c1 (by decide)) (fun c1 => ?_)
  refine lv_aload_n hx hb d_18_26_10 rfl (lv_at hl 1 rfl) ?_
  refine q_get (ci := 16) (j := 6) (v := .ref qA2) C0 V i_TR rfl rfl hO0 (by decide) w_2146 rfl d_18_26_11 ?_
  refine lv_iload_n hx hb d_18_26_14 rfl (lv_at hl 0 rfl) ?_
  refine q_iald C0 V hA2 (by unfold vp_in; decide) d_18_26_15 ?_
  refine q_ti (v := 0) (by first | rfl | decide | simp [upd, vp_updL, sb_cl0]) ?_
  refine lv_if_ne (tgt := 25) hx hb d_18_26_16 (by decide) (fun c2 => absurd (by decide) c2) (fun c2 => ?_)
  refine lv_iinc (v := 1) (lv' := [(3, .int 1), (0, .ref qO0), (1, .int 53), (2, .int (-1074))]) hx hb d_18_26_19 hl (k := 0) rfl (by decide) (by decide) rfl (fun ls hl => ?_)
  refine lv_goto (tgt := 2) hx hb d_18_26_22 (by decide) ?_
  refine lv_iload_n hx hb d_18_26_2 rfl (lv_at hl 0 rfl) ?_
  refine lv_aload_n hx hb d_18_26_3 rfl (lv_at hl 1 rfl) ?_
  refine q_get (ci := 16) (j := 7) (v := .int 1) C0 V i_TR rfl rfl hO0 (by decide) w_2147 rfl d_18_26_4 ?_
  refine lv_icmp_ge (tgt := 25) hx hb d_18_26_7 (by decide) (fun c3 => ?_) (fun c3 => absurd (by decide) c3)
  refine lv_iload_n hx hb d_18_26_25 rfl (lv_at hl 0 rfl) ?_
  refine lv_aload_n hx hb d_18_26_26 rfl (lv_at hl 1 rfl) ?_
  refine q_get (ci := 16) (j := 7) (v := .int 1) C0 V i_TR rfl rfl hO0 (by decide) w_2147 rfl d_18_26_27 ?_
  refine lv_icmp_ne (tgt := 57) hx hb d_18_26_30 (by decide) (fun c4 => absurd (by decide) c4) (fun c4 => ?_)
  refine lv_aload_n hx hb d_18_26_33 rfl (lv_at hl 1 rfl) ?_
  refine lv_iconst (v := 0) hx hb d_18_26_34 (by decide) ?_
  refine q_put (ci := 16) (j := 16) (v := .int 0) (ty := .boolean) C0 V i_TR o_TR n_TR rfl rfl hO0 (by decide) w_2156 rfl rfl rfl rfl (Nat.le_of_ble_eq_true rfl) d_18_26_35 (fun H locs w5 hu6 hO0 V => ?_)
  replace hO0 : w5[kO0]? = (some (qO0, .inr (16, [.int 0, .ref qA1, .int 1, .int 0, .int 1, .int 0, .ref qA2, .int 1, .int 1, .long 0, .ref qA3, .int 0, .int 0, .long 0, .long 0, .int 0, .int 0])) : Option (Nat × va_E)) := hO0
  replace hF := q_us hF hu6 (.head _)
  refine lv_aload_n hx hb d_18_26_38 rfl (lv_at hl 1 rfl) ?_
  refine lv_lconst (v := 0) hx hb d_18_26_39 (by decide) ?_
  refine q_put (ci := 16) (j := 13) (v := .long 0) (ty := .long) C0 V i_TR o_TR n_TR rfl rfl hO0 (by decide) w_2153 rfl rfl rfl rfl (Nat.le_of_ble_eq_true rfl) d_18_26_40 (fun H locs w7 hu8 hO0 V => ?_)
  replace hO0 : w7[kO0]? = (some (qO0, .inr (16, [.int 0, .ref qA1, .int 1, .int 0, .int 1, .int 0, .ref qA2, .int 1, .int 1, .long 0, .ref qA3, .int 0, .int 0, .long 0, .long 0, .int 0, .int 0])) : Option (Nat × va_E)) := hO0
  replace hF := q_us hF hu8 (.head _)
  refine lv_aload_n hx hb d_18_26_43 rfl (lv_at hl 1 rfl) ?_
  refine lv_iload_n hx hb d_18_26_44 rfl (lv_at hl 3 rfl) ?_
  refine lv_i2l hx hb d_18_26_45 rfl ?_
  refine q_tl (v := (-1074)) (by decide) ?_
  refine q_put (ci := 16) (j := 14) (v := .long (-1074)) (ty := .long) C0 V i_TR o_TR n_TR rfl rfl hO0 (by decide) w_2154 rfl rfl rfl rfl (Nat.le_of_ble_eq_true rfl) d_18_26_46 (fun H locs w9 hu10 hO0 V => ?_)
  replace hO0 : w9[kO0]? = (some (qO0, .inr (16, [.int 0, .ref qA1, .int 1, .int 0, .int 1, .int 0, .ref qA2, .int 1, .int 1, .long 0, .ref qA3, .int 0, .int 0, .long 0, .long (-1074), .int 0, .int 0])) : Option (Nat × va_E)) := hO0
  replace hF := q_us hF hu10 (.head _)
  refine lv_aload_n hx hb d_18_26_49 rfl (lv_at hl 1 rfl) ?_
  refine lv_iconst (v := 0) hx hb d_18_26_50 (by decide) ?_
  refine q_put (ci := 16) (j := 15) (v := .int 0) (ty := .int) C0 V i_TR o_TR n_TR rfl rfl hO0 (by decide) w_2155 rfl rfl rfl rfl (Nat.le_of_ble_eq_true rfl) d_18_26_51 (fun H locs w11 hu12 hO0 V => ?_)
  replace hO0 : w11[kO0]? = (some (qO0, .inr (16, [.int 0, .ref qA1, .int 1, .int 0, .int 1, .int 0, .ref qA2, .int 1, .int 1, .long 0, .ref qA3, .int 0, .int 0, .long 0, .long (-1074), .int 0, .int 0])) : Option (Nat × va_E)) := hO0
  replace hF := q_us hF hu12 (.head _)
  refine lv_goto (tgt := 81) hx hb d_18_26_54 (by decide) ?_
  exact q_retv C0 V (⟨hF, hO0⟩) d_18_26_81
set_option maxRecDepth 100000 in
set_option maxHeartbeats 4000000 in
theorem c_TR_goesUp_2 (l : Launch) (D : va_G) (g : Nat → ClassId) (ws : va_W) (kO0 qO0 qA1 qA2 qA3 : Nat) (hO0 : ws[kO0]? = (some (qO0, .inr (16, [.int 0, .ref qA1, .int 1, .int 0, .int 1, .int 0, .ref qA2, .int 1, .int 1, .long 0, .ref qA3, .int 0, .int 0, .long 0, .long (-1074), .int 0, .int 0])) : Option (Nat × va_E))) : q_mI l y_TR_goesUp prog_18_method_27_code 1 (.boolean) 1 0 0 D g [.ref qO0] ws (fun r u => 0 = r ∧ ws = u) := by
  intro sz
  refine q_into (by decide) (Nat.le_of_ble_eq_true rfl) ?_
  intro p e s m below meth c ls hsz C0 V hl
  have hx := C0.1
  have hb := C0.2.1
  have hl : lv_has ls 1 [(0, .ref qO0)] := hl
  refine lv_aload_n hx hb d_18_27_0 rfl (lv_at hl 0 rfl) ?_
  refine q_get (ci := 16) (j := 15) (v := .int 0) C0 V i_TR rfl rfl hO0 (by decide) w_2155 rfl d_18_27_1 ?_
  refine lv_iconst (v := 3) hx hb d_18_27_4 (by decide) ?_
  refine lv_icmp_eq (tgt := 29) hx hb d_18_27_5 (by decide) (fun c1 => absurd c1 (by decide)) (fun c1 => ?_)
  refine lv_aload_n hx hb d_18_27_8 rfl (lv_at hl 0 rfl) ?_
  refine q_get (ci := 16) (j := 15) (v := .int 0) C0 V i_TR rfl rfl hO0 (by decide) w_2155 rfl d_18_27_9 ?_
  refine lv_iconst (v := 2) hx hb d_18_27_12 (by decide) ?_
  refine lv_icmp_ne (tgt := 33) hx hb d_18_27_13 (by decide) (fun c2 => ?_) (fun c2 => absurd c2 (by decide))
  refine lv_iconst (v := 0) hx hb d_18_27_33 (by decide) ?_
  exact q_retz C0 V (rfl) (⟨rfl, rfl⟩) d_18_27_34
theorem d_18_28_6 : decode prog_18_method_28_code 6 = .ok (.ldc2_w 160, 3) := by decide +kernel
theorem w_2471 : (Cond.constantLong "NumberHouseModel$TextRows" (160 : Nat) (2047 : Int64)) ∈ q_tbl := q_of 2471 (by decide +kernel) (by decide +kernel)
theorem d_18_28_9 : decode prog_18_method_28_code 9 = .ok (.goto 6, 3) := by decide +kernel
set_option maxRecDepth 100000 in
set_option maxHeartbeats 4000000 in
theorem c_TR_pack_2 (l : Launch) (D : va_G) (g : Nat → ClassId) (ws : va_W) ( qO0 : Nat) : q_mL l y_TR_pack prog_18_method_28_code 11 1 0 0 D g [.ref qO0, .long 0, .int 53, .int (-1074)] ws (fun r u => 0 = r ∧ ws = u) := by
  intro sz
  refine q_into (by decide) (Nat.le_of_ble_eq_true rfl) ?_
  intro p e s m below meth c ls hsz C0 V hl
  have hx := C0.1
  have hb := C0.2.1
  have hl : lv_has ls 11 [(0, .ref qO0), (1, .long 0), (3, .int 53), (4, .int (-1074))] := hl
  refine lv_iload_n hx hb d_18_28_0 rfl (lv_at hl 2 rfl) ?_
  refine lv_bipush (v := 53) hx hb d_18_28_1 (by decide) ?_
  refine lv_icmp_ne (tgt := 12) hx hb d_18_28_3 (by decide) (fun c1 => absurd (by decide) c1) (fun c1 => ?_)
  refine q_ldc2 C0 rfl w_2471 d_18_28_6 ?_
  refine lv_goto (tgt := 15) hx hb d_18_28_9 (by decide) ?_
  refine lv_iload_n hx hb d_18_28_15 rfl (lv_at hl 2 rfl) ?_
  refine lv_iconst (v := 1) hx hb d_18_28_16 (by decide) ?_
  refine lv_isub hx hb d_18_28_17 ?_
  refine q_ti (v := 52) (by decide) ?_
  refine lv_lshl hx hb d_18_28_18 rfl ?_
  refine q_tl (v := 9218868437227405312) (by decide) ?_
  refine lv_lstore (lv' := [(5, .long 9218868437227405312), (0, .ref qO0), (1, .long 0), (3, .int 53), (4, .int (-1074))]) hx hb d_18_28_19 hl (by decide) rfl (fun ls hl => ?_)
  refine lv_lload_n hx hb d_18_28_21 rfl (lv_at hl 2 rfl) ?_
  refine lv_lconst (v := 1) hx hb d_18_28_22 (by decide) ?_
  refine lv_iload_n hx hb d_18_28_23 rfl (lv_at hl 3 rfl) ?_
  refine lv_iconst (v := 1) hx hb d_18_28_24 (by decide) ?_
  refine lv_isub hx hb d_18_28_25 ?_
  refine q_ti (v := 52) (by decide) ?_
  refine lv_lshl hx hb d_18_28_26 rfl ?_
  refine q_tl (v := 4503599627370496) (by decide) ?_
  refine W.lcmp hx hb d_18_28_27 ?_
  refine q_ti (v := (-1)) (by decide) ?_
  refine lv_if_ge (tgt := 33) hx hb d_18_28_28 (by decide) (fun c2 => absurd c2 (by decide)) (fun c2 => ?_)
  refine lv_lload_n hx hb d_18_28_31 rfl (lv_at hl 2 rfl) ?_
  exact q_retl C0 V (⟨rfl, rfl⟩) d_18_28_32
set_option maxRecDepth 100000 in
set_option maxHeartbeats 4000000 in
theorem c_TR_sizeRead_2 (l : Launch) (D : va_G) (g : Nat → ClassId) (ws : va_W) (kO0 kA2 qO0 qA1 qA2 qA3 : Nat) (hO0 : ws[kO0]? = (some (qO0, .inr (16, [.int 0, .ref qA1, .int 1, .int 0, .int 1, .int 0, .ref qA2, .int 1, .int 1, .long 0, .ref qA3, .int 0, .int 0, .long 0, .long 0, .int 0, .int 0])) : Option (Nat × va_E))) (hA2 : ws[kA2]? = (some (qA2, .inl (g 0, 4100, .inl (fun _ => 0))) : Option (Nat × va_E))) : q_mL l y_TR_sizeRead prog_18_method_29_code 3 2 0 0 D g [.ref qO0, .int 53, .int (-1074)] ws (fun r u => 0 = r ∧ q_un ws u [kO0] ∧ u[kO0]? = (some (qO0, .inr (16, [.int 0, .ref qA1, .int 1, .int 0, .int 1, .int 0, .ref qA2, .int 1, .int 1, .long 0, .ref qA3, .int 0, .int 0, .long 0, .long (-1074), .int 0, .int 0])) : Option (Nat × va_E))) := by
  intro sz
  refine q_into (by decide) (Nat.le_of_ble_eq_true rfl) ?_
  intro p e s m below meth c ls hsz C0 V hl
  have hx := C0.1
  have hb := C0.2.1
  have hl : lv_has ls 3 [(0, .ref qO0), (1, .int 53), (2, .int (-1074))] := hl
  have n_A2_O0 := q_df hA2 hO0
  have hF : q_un ws ws [kO0] := q_u0
  refine lv_aload_n hx hb d_18_29_0 rfl (lv_at hl 0 rfl) ?_
  refine q_get (ci := 16) (j := 3) (v := .int 0) C0 V i_TR rfl rfl hO0 (by decide) w_2143 rfl d_18_29_1 ?_
  refine lv_iconst (v := 1) hx hb d_18_29_4 (by decide) ?_
  refine lv_icmp_le (tgt := 46) hx hb d_18_29_5 (by decide) (fun c1 => ?_) (fun c1 => absurd (by decide) c1)
  refine lv_aload_n hx hb d_18_29_46 rfl (lv_at hl 0 rfl) ?_
  refine lv_iload_n hx hb d_18_29_47 rfl (lv_at hl 1 rfl) ?_
  refine lv_iload_n hx hb d_18_29_48 rfl (lv_at hl 2 rfl) ?_
  refine q_gov V (q_runV (As := [.int 53, .int (-1074)]) (rest := []) (d := 1) (mc := 0) (ms := 0) (ci := 16) C0 V rfl LV_TR_162 (c_TR_find_2 l D g ws kO0 kA2 qO0 qA1 qA2 qA3 hO0 hA2 _) rfl rfl hO0 rfl hl.1 rfl (Nat.le_of_ble_eq_true rfl) ⟨by decide, by decide⟩ ⟨Nat.le_of_ble_eq_true rfl, Nat.le_of_ble_eq_true rfl⟩ d_18_29_49) (fun u3 H locs hp2 V => ?_)
  obtain ⟨hg4, hO0⟩ := hp2
  replace hF := q_uc hF hg4 (q_sc (.head _) (fun _ h => absurd h List.not_mem_nil))
  refine lv_aload_n hx hb d_18_29_52 rfl (lv_at hl 0 rfl) ?_
  refine q_get (ci := 16) (j := 16) (v := .int 0) C0 V i_TR rfl rfl hO0 (by decide) w_2156 rfl d_18_29_53 ?_
  refine lv_if_eq (tgt := 79) hx hb d_18_29_56 (by decide) (fun c5 => ?_) (fun c5 => absurd (by decide) c5)
  refine lv_aload_n hx hb d_18_29_79 rfl (lv_at hl 0 rfl) ?_
  refine lv_aload_n hx hb d_18_29_80 rfl (lv_at hl 0 rfl) ?_
  refine q_goi V (q_runV (As := []) (rest := [.ref qO0]) (d := 1) (mc := 0) (ms := 0) (ci := 16) C0 V rfl LV_TR_165 (c_TR_goesUp_2 l D g u3 kO0 qO0 qA1 qA2 qA3 hO0 _) rfl rfl hO0 rfl hl.1 rfl (Nat.le_of_ble_eq_true rfl) ⟨by decide, by decide⟩ ⟨Nat.le_of_ble_eq_true rfl, Nat.le_of_ble_eq_true rfl⟩ d_18_29_81) (fun v8 u7 H locs hp6 V => ?_)
  obtain ⟨rfl, rfl⟩ := hp6
  refine lv_if_eq (tgt := 96) hx hb d_18_29_84 (by decide) (fun c10 => ?_) (fun c10 => absurd (by decide) c10)
  refine lv_aload_n hx hb d_18_29_96 rfl (lv_at hl 0 rfl) ?_
  refine q_get (ci := 16) (j := 13) (v := .long 0) C0 V i_TR rfl rfl hO0 (by decide) w_2153 rfl d_18_29_97 ?_
  refine lv_iload_n hx hb d_18_29_100 rfl (lv_at hl 1 rfl) ?_
  refine lv_iload_n hx hb d_18_29_101 rfl (lv_at hl 2 rfl) ?_
  refine q_gol V (q_runV (As := [.long 0, .int 53, .int (-1074)]) (rest := []) (d := 1) (mc := 0) (ms := 0) (ci := 16) C0 V rfl LV_TR_168 (c_TR_pack_2 l D g u3 qO0 _) rfl rfl hO0 rfl hl.1 rfl (Nat.le_of_ble_eq_true rfl) ⟨by decide, by decide⟩ ⟨Nat.le_of_ble_eq_true rfl, Nat.le_of_ble_eq_true rfl⟩ d_18_29_102) (fun v13 u12 H locs hp11 V => ?_)
  obtain ⟨rfl, rfl⟩ := hp11
  exact q_retl C0 V (⟨rfl, hF, hO0⟩) d_18_29_105
theorem d_18_30_0 : decode prog_18_method_30_code 0 = .ok (.aload_n 0, 1) := by decide +kernel
theorem d_18_30_1 : decode prog_18_method_30_code 1 = .ok (.aload_n 0, 1) := by decide +kernel
theorem d_18_30_2 : decode prog_18_method_30_code 2 = .ok (.invokevirtual 92, 3) := by decide +kernel
theorem d_18_30_5 : decode prog_18_method_30_code 5 = .ok (.ifCond .eq 7, 3) := by decide +kernel
theorem d_18_30_8 : decode prog_18_method_30_code 8 = .ok (.iconst 0, 1) := by decide +kernel
theorem d_18_30_9 : decode prog_18_method_30_code 9 = .ok (.goto 4, 3) := by decide +kernel
theorem d_18_30_13 : decode prog_18_method_30_code 13 = .ok (.putfield 19, 3) := by decide +kernel
theorem d_18_30_16 : decode prog_18_method_30_code 16 = .ok (.aload_n 0, 1) := by decide +kernel
theorem d_18_30_17 : decode prog_18_method_30_code 17 = .ok (.getfield 19, 3) := by decide +kernel
theorem d_18_30_20 : decode prog_18_method_30_code 20 = .ok (.ifCond .le 5, 3) := by decide +kernel
theorem d_18_30_25 : decode prog_18_method_30_code 25 = .ok (.aload_n 0, 1) := by decide +kernel
theorem d_18_30_26 : decode prog_18_method_30_code 26 = .ok (.bipush 53, 2) := by decide +kernel
theorem d_18_30_28 : decode prog_18_method_30_code 28 = .ok (.sipush (-1074), 3) := by decide +kernel
theorem d_18_30_31 : decode prog_18_method_30_code 31 = .ok (.invokevirtual 172, 3) := by decide +kernel
theorem d_18_30_34 : decode prog_18_method_30_code 34 = .ok (.lstore_n 1, 1) := by decide +kernel
theorem d_18_30_35 : decode prog_18_method_30_code 35 = .ok (.aload_n 0, 1) := by decide +kernel
theorem d_18_30_36 : decode prog_18_method_30_code 36 = .ok (.getfield 77, 3) := by decide +kernel
theorem d_18_30_39 : decode prog_18_method_30_code 39 = .ok (.ifCond .eq 19, 3) := by decide +kernel
theorem d_18_30_58 : decode prog_18_method_30_code 58 = .ok (.lload_n 1, 1) := by decide +kernel
theorem d_18_30_59 : decode prog_18_method_30_code 59 = .ok (.lreturn, 1) := by decide +kernel
def y_TR_bits : MethodName := ⟨"NumberHouseModel$TextRows", "bits", "()J"⟩
set_option maxRecDepth 100000 in
set_option maxHeartbeats 4000000 in
theorem c_TR_bits (l : Launch) (D : va_G) (g : Nat → ClassId) (ws : va_W) (kO0 kA1 kA2 qO0 qA1 qA2 qA3 : Nat) (hO0 : ws[kO0]? = (some (qO0, .inr (16, [.int 0, .ref qA1, .int 1, .int 0, .int 0, .int 0, .ref qA2, .int 0, .int 0, .long 0, .ref qA3, .int 0, .int 0, .long 0, .long 0, .int 0, .int 0])) : Option (Nat × va_E))) (hA1 : ws[kA1]? = (some (qA1, .inl (g 0, 4100, .inl (upd (fun _ => 0) 0 48))) : Option (Nat × va_E))) (hA2 : ws[kA2]? = (some (qA2, .inl (g 0, 4100, .inl (fun _ => 0))) : Option (Nat × va_E))) (n_A1_A2 : kA1 ≠ kA2) : q_mL l y_TR_bits prog_18_method_30_code 3 5 0 0 D g [.ref qO0] ws (fun r u => 0 = r ∧ q_un ws u [kO0, kA2] ∧ u[kO0]? = (some (qO0, .inr (16, [.int 0, .ref qA1, .int 1, .int 0, .int 1, .int 0, .ref qA2, .int 1, .int 1, .long 0, .ref qA3, .int 0, .int 0, .long 0, .long (-1074), .int 0, .int 0])) : Option (Nat × va_E)) ∧ u[kA2]? = (some (qA2, .inl (g 0, 4100, .inl (fun _ => 0))) : Option (Nat × va_E))) := by
  intro sz
  refine q_into (by decide) (Nat.le_of_ble_eq_true rfl) ?_
  intro p e s m below meth c ls hsz C0 V hl
  have hx := C0.1
  have hb := C0.2.1
  have hl : lv_has ls 3 [(0, .ref qO0)] := hl
  have n_A1_O0 := q_df hA1 hO0
  have n_A2_O0 := q_df hA2 hO0
  have hF : q_un ws ws [kO0, kA2] := q_u0
  refine lv_aload_n hx hb d_18_30_0 rfl (lv_at hl 0 rfl) ?_
  refine lv_aload_n hx hb d_18_30_1 rfl (lv_at hl 0 rfl) ?_
  refine q_goi V (q_runV (As := []) (rest := [.ref qO0]) (d := 4) (mc := 0) (ms := 0) (ci := 16) C0 V rfl LV_TR_92 (c_TR_scan l D g ws kO0 kA1 kA2 qO0 qA1 qA2 qA3 hO0 hA1 hA2 n_A1_A2 _) rfl rfl hO0 rfl hl.1 rfl (Nat.le_of_ble_eq_true rfl) ⟨by decide, by decide⟩ ⟨Nat.le_of_ble_eq_true rfl, Nat.le_of_ble_eq_true rfl⟩ d_18_30_2) (fun v3 u2 H locs hp1 V => ?_)
  obtain ⟨rfl, hg4, hO0, hA2⟩ := hp1
  replace hF := q_uc hF hg4 (q_sc (.head _) (q_sc (.tail _ (.head _)) (fun _ h => absurd h List.not_mem_nil)))
  refine lv_if_eq (tgt := 12) hx hb d_18_30_5 (by decide) (fun c5 => absurd c5 (by decide)) (fun c5 => ?_)
  refine lv_iconst (v := 0) hx hb d_18_30_8 (by decide) ?_
  refine lv_goto (tgt := 13) hx hb d_18_30_9 (by decide) ?_
  refine q_put (ci := 16) (j := 0) (v := .int 0) (ty := .int) C0 V i_TR o_TR n_TR rfl rfl hO0 (by decide) w_2138 rfl rfl rfl rfl (Nat.le_of_ble_eq_true rfl) d_18_30_13 (fun H locs w6 hu7 hO0 V => ?_)
  replace hO0 : w6[kO0]? = (some (qO0, .inr (16, [.int 0, .ref qA1, .int 1, .int 0, .int 1, .int 0, .ref qA2, .int 1, .int 1, .long 0, .ref qA3, .int 0, .int 0, .long 0, .long 0, .int 0, .int 0])) : Option (Nat × va_E)) := hO0
  replace hF := q_us hF hu7 (.head _)
  refine lv_aload_n hx hb d_18_30_16 rfl (lv_at hl 0 rfl) ?_
  refine q_get (ci := 16) (j := 0) (v := .int 0) C0 V i_TR rfl rfl hO0 (by decide) w_2138 rfl d_18_30_17 ?_
  refine lv_if_le (tgt := 25) hx hb d_18_30_20 (by decide) (fun c8 => ?_) (fun c8 => absurd (by decide) c8)
  refine lv_aload_n hx hb d_18_30_25 rfl (lv_at hl 0 rfl) ?_
  refine lv_bipush (v := 53) hx hb d_18_30_26 (by decide) ?_
  refine lv_sipush (v := (-1074)) hx hb d_18_30_28 (by decide) ?_
  replace hA2 := (hu7 _ n_A2_O0).trans (hA2)
  refine q_gol V (q_runV (As := [.int 53, .int (-1074)]) (rest := []) (d := 2) (mc := 0) (ms := 0) (ci := 16) C0 V rfl LV_TR_172 (c_TR_sizeRead_2 l D g w6 kO0 kA2 qO0 qA1 qA2 qA3 hO0 hA2 _) rfl rfl hO0 rfl hl.1 rfl (Nat.le_of_ble_eq_true rfl) ⟨by decide, by decide⟩ ⟨Nat.le_of_ble_eq_true rfl, Nat.le_of_ble_eq_true rfl⟩ d_18_30_31) (fun v11 u10 H locs hp9 V => ?_)
  obtain ⟨rfl, hg12, hO0⟩ := hp9
  replace hF := q_uc hF hg12 (q_sc (.head _) (fun _ h => absurd h List.not_mem_nil))
  refine lv_lstore_n (lv' := [(1, .long 0), (0, .ref qO0)]) hx hb d_18_30_34 rfl hl (by decide) rfl (fun ls hl => ?_)
  refine lv_aload_n hx hb d_18_30_35 rfl (lv_at hl 1 rfl) ?_
  refine q_get (ci := 16) (j := 5) (v := .int 0) C0 V i_TR rfl rfl hO0 (by decide) w_2145 rfl d_18_30_36 ?_
  refine lv_if_eq (tgt := 58) hx hb d_18_30_39 (by decide) (fun c13 => ?_) (fun c13 => absurd (by decide) c13)
  refine lv_lload_n hx hb d_18_30_58 rfl (lv_at hl 0 rfl) ?_
  replace hA2 := (hg12 _ (q_nc n_A2_O0 List.not_mem_nil)).trans (hA2)
  exact q_retl C0 V (⟨rfl, hF, hO0, hA2⟩) d_18_30_59
theorem d_14_12_16 : decode prog_14_method_12_code 16 = .ok (.iload_n 2, 1) := by decide +kernel
set_option maxRecDepth 100000 in
set_option maxHeartbeats 4000000 in
theorem c_NM_setBits_2 (l : Launch) (D : va_G) (g : Nat → ClassId) (ws : va_W) ( qO0 qA1 qA2 qO3 qO4 qO5 qO6 qO7 qA8 qA9 : Nat) (x1 : Int32) (hO0 : ws[116]? = (some (qO0, .inr (12, [.int 0, .ref qA1, .int 0, .ref qA2, .int 0, .ref qO3, .ref qO4, .ref qO5, .ref qO6, .ref qO7, .ref qA8, .ref qA9])) : Option (Nat × va_E))) (hA8 : ws[167]? = (some (qA8, .inl (g 1, 20, .inr (.inl (fun _ => 0)))) : Option (Nat × va_E))) (x1lo : 0 ≤ x1) (x1hi : x1 ≤ 9) : q_mV l y_NM_setBits prog_14_method_12_code 5 1 0 0 D g [.ref qO0, .int 2, .int x1, .long 0] ws (fun u => q_un ws u [167] ∧ u[167]? = (some (qA8, .inl (g 1, 20, .inr (.inl (fun _ => 0)))) : Option (Nat × va_E))) := by
  intro sz
  refine q_into (by decide) (Nat.le_of_ble_eq_true rfl) ?_
  intro p e s m below meth c ls hsz C0 V hl
  have hx := C0.1
  have hb := C0.2.1
  have hl : lv_has ls 5 [(0, .ref qO0), (1, .int 2), (2, .int x1), (3, .long 0)] := hl
  have hF : q_un ws ws [167] := q_u0
  refine lv_aload_n hx hb d_14_12_0 rfl (lv_at hl 0 rfl) ?_
  refine q_get (ci := 12) (j := 10) (v := .ref qA8) C0 V i_NM rfl rfl hO0 (by decide) w_2308 rfl d_14_12_1 ?_
  refine lv_iload_n hx hb d_14_12_4 rfl (lv_at hl 1 rfl) ?_
  refine lv_iconst (v := 3) hx hb d_14_12_5 (by decide) ?_
  refine lv_icmp_ne (tgt := 16) hx hb d_14_12_6 (by decide) (fun c1 => ?_) (fun c1 => absurd c1 (by decide))
  refine lv_iload_n hx hb d_14_12_16 rfl (lv_at hl 2 rfl) ?_
  refine lv_lload_n hx hb d_14_12_17 rfl (lv_at hl 3 rfl) ?_
  refine q_last C0 V hA8 (q_ix (x := x1.toInt) rfl (by have t1 : 0 ≤ x1.toInt := q_leI x1lo; have t2 : x1.toInt ≤ 9 := q_leI x1hi; omega) (by have t1 : 0 ≤ x1.toInt := q_leI x1lo; have t2 : x1.toInt ≤ 9 := q_leI x1hi; omega)) d_14_12_18 (fun H locs w2 hu3 hA8 V => ?_)
  replace hA8 := q_re (y := (qA8, .inl (g 1, 20, .inr (.inl (fun _ => 0))))) hA8 (q_eL q_updL0)
  replace hA8 : w2[167]? = (some (qA8, .inl (g 1, 20, .inr (.inl (fun _ => 0)))) : Option (Nat × va_E)) := hA8
  replace hF := q_us hF hu3 (.head _)
  exact q_retv C0 V (⟨hF, hA8⟩) d_14_12_19
set_option maxRecDepth 100000 in
set_option maxHeartbeats 4000000 in
theorem c_NM_load_7 (l : Launch) (D : va_G) (g : Nat → ClassId) (ws : va_W) ( qA0 qA1 : Nat) (hA0 : ws[133]? = (some (qA0, .inl (g 0, 2100, .inl (upd (fun _ => 0) 0 48))) : Option (Nat × va_E))) (hA1 : ws[154]? = (some (qA1, .inl (g 0, 4100, .inl (fun _ => 0))) : Option (Nat × va_E))) : q_mI l y_NM_load prog_14_method_7_code 4 (.int) 1 0 0 D g [.ref qA0, .int 1, .ref qA1] ws (fun r u => 1 = r ∧ q_un ws u [154] ∧ u[154]? = (some (qA1, .inl (g 0, 4100, .inl (upd (fun _ => 0) 0 48))) : Option (Nat × va_E))) := by
  intro sz
  refine q_into (by decide) (Nat.le_of_ble_eq_true rfl) ?_
  intro p e s m below meth c ls hsz C0 V hl
  have hx := C0.1
  have hb := C0.2.1
  have hl : lv_has ls 4 [(0, .ref qA0), (1, .int 1), (2, .ref qA1)] := hl
  have hF : q_un ws ws [154] := q_u0
  refine lv_iconst (v := 0) hx hb d_14_7_0 (by decide) ?_
  refine lv_istore_n (lv' := [(3, .int 0), (0, .ref qA0), (1, .int 1), (2, .ref qA1)]) hx hb d_14_7_1 rfl hl (by decide) rfl (fun ls hl => ?_)
  refine lv_iload_n hx hb d_14_7_2 rfl (lv_at hl 0 rfl) ?_
  refine lv_iload_n hx hb d_14_7_3 rfl (lv_at hl 2 rfl) ?_
  refine lv_icmp_ge (tgt := 19) hx hb d_14_7_4 (by decide) (fun c1 => absurd c1 (by decide)) (fun c1 => ?_)
  refine lv_aload_n hx hb d_14_7_7 rfl (lv_at hl 3 rfl) ?_
  refine lv_iload_n hx hb d_14_7_8 rfl (lv_at hl 0 rfl) ?_
  refine lv_aload_n hx hb d_14_7_9 rfl (lv_at hl 1 rfl) ?_
  refine lv_iload_n hx hb d_14_7_10 rfl (lv_at hl 0 rfl) ?_
  refine q_iald C0 V hA0 (by unfold vp_in; decide) d_14_7_11 ?_
  refine q_ti (v := 48) (by first | rfl | decide | simp [upd, vp_updL, sb_cl0]) ?_
  refine q_iast C0 V hA1 (by unfold vp_in; decide) d_14_7_12 (fun H locs w2 hu3 hA1 V => ?_)
  replace hA1 : w2[154]? = (some (qA1, .inl (g 0, 4100, .inl (upd (fun _ => 0) 0 48))) : Option (Nat × va_E)) := hA1
  replace hF := q_us hF hu3 (.head _)
  refine lv_iinc (v := 1) (lv' := [(3, .int 1), (0, .ref qA0), (1, .int 1), (2, .ref qA1)]) hx hb d_14_7_13 hl (k := 0) rfl (by decide) (by decide) rfl (fun ls hl => ?_)
  refine lv_goto (tgt := 2) hx hb d_14_7_16 (by decide) ?_
  refine lv_iload_n hx hb d_14_7_2 rfl (lv_at hl 0 rfl) ?_
  refine lv_iload_n hx hb d_14_7_3 rfl (lv_at hl 2 rfl) ?_
  refine lv_icmp_ge (tgt := 19) hx hb d_14_7_4 (by decide) (fun c4 => ?_) (fun c4 => absurd (by decide) c4)
  refine lv_iload_n hx hb d_14_7_19 rfl (lv_at hl 2 rfl) ?_
  exact q_reti C0 V (⟨rfl, hF, hA1⟩) d_14_7_20
theorem d_17_37_0 : decode prog_17_method_37_code 0 = .ok (.aload_n 0, 1) := by decide +kernel
theorem d_17_37_1 : decode prog_17_method_37_code 1 = .ok (.lload_n 1, 1) := by decide +kernel
theorem d_17_37_2 : decode prog_17_method_37_code 2 = .ok (.iconst 1, 1) := by decide +kernel
theorem d_17_37_3 : decode prog_17_method_37_code 3 = .ok (.invokestatic 122, 3) := by decide +kernel
theorem d_17_37_6 : decode prog_17_method_37_code 6 = .ok (.ifCond .eq 7, 3) := by decide +kernel
theorem d_17_37_13 : decode prog_17_method_37_code 13 = .ok (.iconst 0, 1) := by decide +kernel
theorem d_17_37_14 : decode prog_17_method_37_code 14 = .ok (.putfield 31, 3) := by decide +kernel
theorem d_17_37_17 : decode prog_17_method_37_code 17 = .ok (.aload_n 0, 1) := by decide +kernel
theorem d_17_37_18 : decode prog_17_method_37_code 18 = .ok (.getfield 31, 3) := by decide +kernel
theorem d_17_37_21 : decode prog_17_method_37_code 21 = .ok (.ifCond .le 5, 3) := by decide +kernel
theorem d_17_37_26 : decode prog_17_method_37_code 26 = .ok (.aload_n 0, 1) := by decide +kernel
theorem d_17_37_27 : decode prog_17_method_37_code 27 = .ok (.lload_n 1, 1) := by decide +kernel
theorem d_17_37_28 : decode prog_17_method_37_code 28 = .ok (.iconst 1, 1) := by decide +kernel
theorem d_17_37_29 : decode prog_17_method_37_code 29 = .ok (.invokevirtual 126, 3) := by decide +kernel
theorem d_17_37_32 : decode prog_17_method_37_code 32 = .ok (.aload_n 0, 1) := by decide +kernel
theorem d_17_37_33 : decode prog_17_method_37_code 33 = .ok (.getfield 41, 3) := by decide +kernel
theorem d_17_37_36 : decode prog_17_method_37_code 36 = .ok (.ifCond .eq 9, 3) := by decide +kernel
theorem d_17_37_45 : decode prog_17_method_37_code 45 = .ok (.lconst 0, 1) := by decide +kernel
theorem d_17_37_46 : decode prog_17_method_37_code 46 = .ok (.lstore_n 3, 1) := by decide +kernel
theorem d_17_37_47 : decode prog_17_method_37_code 47 = .ok (.aload_n 0, 1) := by decide +kernel
theorem d_17_37_48 : decode prog_17_method_37_code 48 = .ok (.invokevirtual 130, 3) := by decide +kernel
theorem d_17_37_51 : decode prog_17_method_37_code 51 = .ok (.ifCond .ne 24, 3) := by decide +kernel
theorem d_17_37_75 : decode prog_17_method_37_code 75 = .ok (.aload_n 0, 1) := by decide +kernel
theorem d_17_37_76 : decode prog_17_method_37_code 76 = .ok (.getfield 52, 3) := by decide +kernel
theorem d_17_37_79 : decode prog_17_method_37_code 79 = .ok (.lconst 0, 1) := by decide +kernel
theorem d_17_37_80 : decode prog_17_method_37_code 80 = .ok (.lcmp, 1) := by decide +kernel
theorem d_17_37_81 : decode prog_17_method_37_code 81 = .ok (.ifCond .ne 5, 3) := by decide +kernel
theorem d_17_37_84 : decode prog_17_method_37_code 84 = .ok (.lload_n 3, 1) := by decide +kernel
theorem d_17_37_85 : decode prog_17_method_37_code 85 = .ok (.lreturn, 1) := by decide +kernel
def y_FR_widened : MethodName := ⟨"NumberHouseModel$FloatRows", "widened", "(J)J"⟩
