/-! the reference on a fresh object: feed -/
theorem d_14_3_0 : decode prog_14_method_3_code 0 = .ok (.aload_n 0, 1) := by decide +kernel
theorem d_14_3_1 : decode prog_14_method_3_code 1 = .ok (.iload_n 1, 1) := by decide +kernel
theorem d_14_3_2 : decode prog_14_method_3_code 2 = .ok (.iconst 1, 1) := by decide +kernel
theorem d_14_3_3 : decode prog_14_method_3_code 3 = .ok (.if_icmp .lt 9, 3) := by decide +kernel
theorem d_14_3_12 : decode prog_14_method_3_code 12 = .ok (.iconst 1, 1) := by decide +kernel
theorem d_14_3_13 : decode prog_14_method_3_code 13 = .ok (.goto 4, 3) := by decide +kernel
theorem d_14_3_17 : decode prog_14_method_3_code 17 = .ok (.putfield 58, 3) := by decide +kernel
theorem d_14_3_20 : decode prog_14_method_3_code 20 = .ok (.aload_n 0, 1) := by decide +kernel
theorem d_14_3_21 : decode prog_14_method_3_code 21 = .ok (.getfield 58, 3) := by decide +kernel
theorem d_14_3_24 : decode prog_14_method_3_code 24 = .ok (.ifCond .le 5, 3) := by decide +kernel
theorem d_14_3_27 : decode prog_14_method_3_code 27 = .ok (.iconst 0, 1) := by decide +kernel
theorem d_14_3_28 : decode prog_14_method_3_code 28 = .ok (.ireturn, 1) := by decide +kernel
theorem d_14_3_6 : decode prog_14_method_3_code 6 = .ok (.iload_n 1, 1) := by decide +kernel
theorem d_14_3_7 : decode prog_14_method_3_code 7 = .ok (.bipush 8, 2) := by decide +kernel
theorem d_14_3_9 : decode prog_14_method_3_code 9 = .ok (.if_icmp .le 7, 3) := by decide +kernel
theorem d_14_3_16 : decode prog_14_method_3_code 16 = .ok (.iconst 0, 1) := by decide +kernel
theorem d_14_3_29 : decode prog_14_method_3_code 29 = .ok (.aload_n 0, 1) := by decide +kernel
theorem d_14_3_30 : decode prog_14_method_3_code 30 = .ok (.getfield 62, 3) := by decide +kernel
theorem d_14_3_33 : decode prog_14_method_3_code 33 = .ok (.iload_n 1, 1) := by decide +kernel
theorem d_14_3_34 : decode prog_14_method_3_code 34 = .ok (.iadd, 1) := by decide +kernel
theorem d_14_3_35 : decode prog_14_method_3_code 35 = .ok (.sipush 4100, 3) := by decide +kernel
theorem d_14_3_38 : decode prog_14_method_3_code 38 = .ok (.if_icmp .le 5, 3) := by decide +kernel
theorem d_14_3_43 : decode prog_14_method_3_code 43 = .ok (.iconst 0, 1) := by decide +kernel
theorem d_14_3_44 : decode prog_14_method_3_code 44 = .ok (.istore 4, 2) := by decide +kernel
theorem d_14_3_46 : decode prog_14_method_3_code 46 = .ok (.iload 4, 2) := by decide +kernel
theorem d_14_3_48 : decode prog_14_method_3_code 48 = .ok (.iload_n 1, 1) := by decide +kernel
theorem d_14_3_49 : decode prog_14_method_3_code 49 = .ok (.if_icmp .ge 40, 3) := by decide +kernel
theorem d_14_3_52 : decode prog_14_method_3_code 52 = .ok (.aload_n 0, 1) := by decide +kernel
theorem d_14_3_53 : decode prog_14_method_3_code 53 = .ok (.getfield 7, 3) := by decide +kernel
theorem d_14_3_56 : decode prog_14_method_3_code 56 = .ok (.aload_n 0, 1) := by decide +kernel
theorem d_14_3_57 : decode prog_14_method_3_code 57 = .ok (.getfield 62, 3) := by decide +kernel
theorem d_14_3_60 : decode prog_14_method_3_code 60 = .ok (.lload_n 2, 1) := by decide +kernel
theorem d_14_3_61 : decode prog_14_method_3_code 61 = .ok (.bipush 8, 2) := by decide +kernel
theorem d_14_3_63 : decode prog_14_method_3_code 63 = .ok (.iload 4, 2) := by decide +kernel
theorem d_14_3_65 : decode prog_14_method_3_code 65 = .ok (.imul, 1) := by decide +kernel
theorem d_14_3_66 : decode prog_14_method_3_code 66 = .ok (.lshr, 1) := by decide +kernel
theorem d_14_3_67 : decode prog_14_method_3_code 67 = .ok (.ldc2_w 65, 3) := by decide +kernel
theorem w_2343 : (Cond.constantLong "NumberHouseModel" (65 : Nat) (255 : Int64)) ∈ q_tbl := q_of 2343 (by decide +kernel) (by decide +kernel)
theorem d_14_3_70 : decode prog_14_method_3_code 70 = .ok (.land, 1) := by decide +kernel
theorem d_14_3_71 : decode prog_14_method_3_code 71 = .ok (.l2i, 1) := by decide +kernel
theorem d_14_3_72 : decode prog_14_method_3_code 72 = .ok (.iastore, 1) := by decide +kernel
theorem d_14_3_73 : decode prog_14_method_3_code 73 = .ok (.aload_n 0, 1) := by decide +kernel
theorem d_14_3_74 : decode prog_14_method_3_code 74 = .ok (.dup, 1) := by decide +kernel
theorem d_14_3_75 : decode prog_14_method_3_code 75 = .ok (.getfield 62, 3) := by decide +kernel
theorem d_14_3_78 : decode prog_14_method_3_code 78 = .ok (.iconst 1, 1) := by decide +kernel
theorem d_14_3_79 : decode prog_14_method_3_code 79 = .ok (.iadd, 1) := by decide +kernel
theorem d_14_3_80 : decode prog_14_method_3_code 80 = .ok (.putfield 62, 3) := by decide +kernel
theorem d_14_3_83 : decode prog_14_method_3_code 83 = .ok (.iinc 4 1, 3) := by decide +kernel
theorem d_14_3_86 : decode prog_14_method_3_code 86 = .ok (.goto (-40), 3) := by decide +kernel
theorem d_14_3_89 : decode prog_14_method_3_code 89 = .ok (.aload_n 0, 1) := by decide +kernel
theorem d_14_3_90 : decode prog_14_method_3_code 90 = .ok (.getfield 62, 3) := by decide +kernel
theorem d_14_3_93 : decode prog_14_method_3_code 93 = .ok (.ireturn, 1) := by decide +kernel
def y_NM_feed : MethodName := ⟨"NumberHouseModel", "feed", "(IJ)I"⟩
set_option maxRecDepth 100000 in
set_option maxHeartbeats 4000000 in
/-- feed on a fresh object -/
theorem c_NM_feed (l : Launch) (D : va_G) (g : Nat → ClassId) (ws : va_W) ( qO0 qA1 qA2 qO3 qO4 qO5 qO6 qO7 qA8 qA9 : Nat) (x1 : Int32) (x2 : Int64) (hO0 : ws[116]? = (some (qO0, .inr (12, [.int 0, .ref qA1, .int 0, .ref qA2, .int 0, .ref qO3, .ref qO4, .ref qO5, .ref qO6, .ref qO7, .ref qA8, .ref qA9])) : Option (Nat × va_E))) (hA1 : ws[117]? = (some (qA1, .inl (g 0, 4100, .inl (fun _ => 0))) : Option (Nat × va_E))) : q_mI l y_NM_feed prog_14_method_3_code 5 (.int) 1 0 0 D g [.ref qO0, .int x1, .long x2] ws (fun r u => ∃ (t0 z2 z4 : Int32), u[116]? = (some (qO0, .inr (12, [.int t0, .ref qA1, .int z2, .ref qA2, .int z4, .ref qO3, .ref qO4, .ref qO5, .ref qO6, .ref qO7, .ref qA8, .ref qA9])) : Option (Nat × va_E)) ∧ ((t0.toInt = 0 ∧ ((1 ≤ x1.toInt ∧ x1.toInt ≤ 8)) ∧ r.toInt = x1.toInt) ∨ (t0.toInt = 1 ∧ ¬ ((1 ≤ x1.toInt ∧ x1.toInt ≤ 8)))) ∧ q_ge 169 ws u) := by
  intro sz
  refine q_into (by decide) (Nat.le_of_ble_eq_true rfl) ?_
  intro p e s m below meth c ls hsz C0 V hl
  have hx := C0.1
  have hb := C0.2.1
  have hl : lv_has ls 5 [(0, .ref qO0), (1, .int x1), (2, .long x2)] := hl
  have hF : q_ge 169 ws ws := q_g0
  refine lv_aload_n hx hb d_14_3_0 rfl (lv_at hl 0 rfl) ?_
  refine lv_iload_n hx hb d_14_3_1 rfl (lv_at hl 1 rfl) ?_
  refine lv_iconst (v := 1) hx hb d_14_3_2 (by decide) ?_
  refine lv_icmp_lt (tgt := 12) hx hb d_14_3_3 (by decide) (fun c1 => ?_) (fun c1 => ?_)
  ·
    refine lv_iconst (v := 1) hx hb d_14_3_12 (by decide) ?_
    refine lv_goto (tgt := 17) hx hb d_14_3_13 (by decide) ?_
    refine q_put (ci := 12) (j := 0) (v := .int 1) (ty := .int) C0 V i_NM o_NM n_NM rfl rfl hO0 (by decide) w_2298 rfl rfl rfl rfl (Nat.le_of_ble_eq_true rfl) d_14_3_17 (fun H locs w2 hu3 hO0 V => ?_)
    replace hO0 : w2[116]? = (some (qO0, .inr (12, [.int 1, .ref qA1, .int 0, .ref qA2, .int 0, .ref qO3, .ref qO4, .ref qO5, .ref qO6, .ref qO7, .ref qA8, .ref qA9])) : Option (Nat × va_E)) := hO0
    replace hF := q_gs hF hu3 (Nat.le_of_ble_eq_true rfl)
    refine lv_aload_n hx hb d_14_3_20 rfl (lv_at hl 0 rfl) ?_
    refine q_get (ci := 12) (j := 0) (v := .int 1) C0 V i_NM rfl rfl hO0 (by decide) w_2298 rfl d_14_3_21 ?_
    refine lv_if_le (tgt := 29) hx hb d_14_3_24 (by decide) (fun c4 => absurd c4 (by decide)) (fun c4 => ?_)
    refine lv_iconst (v := 0) hx hb d_14_3_27 (by decide) ?_
    exact q_reti C0 V (⟨1, 0, 0, hO0, (show ((1 : Int32).toInt = 0 ∧ ((1 ≤ x1.toInt ∧ x1.toInt ≤ 8)) ∧ (0 : Int32).toInt = x1.toInt) ∨ ((1 : Int32).toInt = 1 ∧ ¬ ((1 ≤ x1.toInt ∧ x1.toInt ≤ 8))) from by have t1 : x1.toInt < 1 := q_ltI c1; have e0 : (1 : Int32).toInt = 1 := (by decide); have e1 : (0 : Int32).toInt = 0 := (by decide); omega), hF⟩) d_14_3_28
  ·
    refine lv_iload_n hx hb d_14_3_6 rfl (lv_at hl 1 rfl) ?_
    refine lv_bipush (v := 8) hx hb d_14_3_7 (by decide) ?_
    refine lv_icmp_le (tgt := 16) hx hb d_14_3_9 (by decide) (fun c5 => ?_) (fun c5 => ?_)
    ·
      refine lv_iconst (v := 0) hx hb d_14_3_16 (by decide) ?_
      refine q_put (ci := 12) (j := 0) (v := .int 0) (ty := .int) C0 V i_NM o_NM n_NM rfl rfl hO0 (by decide) w_2298 rfl rfl rfl rfl (Nat.le_of_ble_eq_true rfl) d_14_3_17 (fun H locs w6 hu7 hO0 V => ?_)
      replace hO0 : w6[116]? = (some (qO0, .inr (12, [.int 0, .ref qA1, .int 0, .ref qA2, .int 0, .ref qO3, .ref qO4, .ref qO5, .ref qO6, .ref qO7, .ref qA8, .ref qA9])) : Option (Nat × va_E)) := hO0
      replace hF := q_gs hF hu7 (Nat.le_of_ble_eq_true rfl)
      refine lv_aload_n hx hb d_14_3_20 rfl (lv_at hl 0 rfl) ?_
      refine q_get (ci := 12) (j := 0) (v := .int 0) C0 V i_NM rfl rfl hO0 (by decide) w_2298 rfl d_14_3_21 ?_
      refine lv_if_le (tgt := 29) hx hb d_14_3_24 (by decide) (fun c8 => ?_) (fun c8 => absurd (by decide) c8)
      refine lv_aload_n hx hb d_14_3_29 rfl (lv_at hl 0 rfl) ?_
      refine q_get (ci := 12) (j := 2) (v := .int 0) C0 V i_NM rfl rfl hO0 (by decide) w_2300 rfl d_14_3_30 ?_
      refine lv_iload_n hx hb d_14_3_33 rfl (lv_at hl 1 rfl) ?_
      refine lv_iadd hx hb d_14_3_34 ?_
      refine q_ti (v := x1) (by simp) ?_
      refine lv_sipush (v := 4100) hx hb d_14_3_35 (by decide) ?_
      refine lv_icmp_le (tgt := 43) hx hb d_14_3_38 (by decide) (fun c9 => ?_) (fun c9 => absurd (q_Ile (x := x1.toInt) (y := 4100) rfl (by decide) (by have t1 : 1 ≤ x1.toInt := q_nltI c1; have t2 : x1.toInt ≤ 8 := q_leI c5; omega)) c9)
      refine lv_iconst (v := 0) hx hb d_14_3_43 (by decide) ?_
      refine lv_istore (lv' := [(4, .int 0), (0, .ref qO0), (1, .int x1), (2, .long x2)]) hx hb d_14_3_44 hl (by decide) rfl (fun ls hl => ?_)
      refine lv_iload hx hb d_14_3_46 (lv_at hl 0 rfl) ?_
      refine lv_iload_n hx hb d_14_3_48 rfl (lv_at hl 2 rfl) ?_
      refine lv_icmp_ge (tgt := 89) hx hb d_14_3_49 (by decide) (fun c10 => absurd c10 (Int32.not_le.mpr (q_Ilt (x := 0) (y := x1.toInt) (by decide) rfl (by have t1 : 1 ≤ x1.toInt := q_nltI c1; have t2 : x1.toInt ≤ 8 := q_leI c5; omega)))) (fun c10 => ?_)
      refine lv_aload_n hx hb d_14_3_52 rfl (lv_at hl 1 rfl) ?_
      refine q_get (ci := 12) (j := 1) (v := .ref qA1) C0 V i_NM rfl rfl hO0 (by decide) w_2299 rfl d_14_3_53 ?_
      refine lv_aload_n hx hb d_14_3_56 rfl (lv_at hl 1 rfl) ?_
      refine q_get (ci := 12) (j := 2) (v := .int 0) C0 V i_NM rfl rfl hO0 (by decide) w_2300 rfl d_14_3_57 ?_
      refine lv_lload_n hx hb d_14_3_60 rfl (lv_at hl 3 rfl) ?_
      refine lv_bipush (v := 8) hx hb d_14_3_61 (by decide) ?_
      refine lv_iload hx hb d_14_3_63 (lv_at hl 0 rfl) ?_
      refine lv_imul hx hb d_14_3_65 ?_
      refine q_ti (v := 0) (by decide) ?_
      refine lv_lshr hx hb d_14_3_66 rfl ?_
      refine q_ldc2 C0 rfl w_2343 d_14_3_67 ?_
      refine lv_land hx hb d_14_3_70 ?_
      refine lv_l2i hx hb d_14_3_71 rfl ?_
      replace hA1 := (hu7 _ (q_pd 117 116 rfl)).trans (hA1)
      refine q_iast C0 V hA1 (by unfold vp_in; decide) d_14_3_72 (fun H locs w11 hu12 hA1 V => ?_)
      replace hA1 : w11[117]? = (some (qA1, .inl (g 0, 4100, .inl (upd (fun _ => 0) 0 (((x2 >>> ((0 : Int32).toInt64 &&& 63)) &&& 255).toInt32)))) : Option (Nat × va_E)) := hA1
      replace hF := q_gs hF hu12 (Nat.le_of_ble_eq_true rfl)
      refine lv_aload_n hx hb d_14_3_73 rfl (lv_at hl 1 rfl) ?_
      refine lv_dup hx hb d_14_3_74 rfl ?_
      replace hO0 := (hu12 _ (q_pd 116 117 rfl)).trans (hO0)
      refine q_get (ci := 12) (j := 2) (v := .int 0) C0 V i_NM rfl rfl hO0 (by decide) w_2300 rfl d_14_3_75 ?_
      refine lv_iconst (v := 1) hx hb d_14_3_78 (by decide) ?_
      refine lv_iadd hx hb d_14_3_79 ?_
      refine q_ti (v := 1) (by decide) ?_
      refine q_put (ci := 12) (j := 2) (v := .int 1) (ty := .int) C0 V i_NM o_NM n_NM rfl rfl hO0 (by decide) w_2300 rfl rfl rfl rfl (Nat.le_of_ble_eq_true rfl) d_14_3_80 (fun H locs w13 hu14 hO0 V => ?_)
      replace hO0 : w13[116]? = (some (qO0, .inr (12, [.int 0, .ref qA1, .int 1, .ref qA2, .int 0, .ref qO3, .ref qO4, .ref qO5, .ref qO6, .ref qO7, .ref qA8, .ref qA9])) : Option (Nat × va_E)) := hO0
      replace hF := q_gs hF hu14 (Nat.le_of_ble_eq_true rfl)
      refine lv_iinc (v := 1) (lv' := [(4, .int 1), (0, .ref qO0), (1, .int x1), (2, .long x2)]) hx hb d_14_3_83 hl (k := 0) rfl (by decide) (by decide) rfl (fun ls hl => ?_)
      refine lv_goto (tgt := 46) hx hb d_14_3_86 (by decide) ?_
      refine lv_iload hx hb d_14_3_46 (lv_at hl 0 rfl) ?_
      refine lv_iload_n hx hb d_14_3_48 rfl (lv_at hl 2 rfl) ?_
      refine lv_icmp_ge (tgt := 89) hx hb d_14_3_49 (by decide) (fun c15 => ?_) (fun c15 => ?_)
      ·
        refine lv_aload_n hx hb d_14_3_89 rfl (lv_at hl 1 rfl) ?_
        refine q_get (ci := 12) (j := 2) (v := .int 1) C0 V i_NM rfl rfl hO0 (by decide) w_2300 rfl d_14_3_90 ?_
        exact q_reti C0 V (⟨0, 1, 0, hO0, (show ((0 : Int32).toInt = 0 ∧ ((1 ≤ x1.toInt ∧ x1.toInt ≤ 8)) ∧ (1 : Int32).toInt = x1.toInt) ∨ ((0 : Int32).toInt = 1 ∧ ¬ ((1 ≤ x1.toInt ∧ x1.toInt ≤ 8))) from by have t1 : 1 ≤ x1.toInt := q_nltI c1; have t2 : x1.toInt ≤ 8 := q_leI c5; have t3 : x1.toInt ≤ 1 := q_leI c15; have e0 : (0 : Int32).toInt = 0 := (by decide); have e1 : (1 : Int32).toInt = 1 := (by decide); omega), hF⟩) d_14_3_93
      ·
        refine lv_aload_n hx hb d_14_3_52 rfl (lv_at hl 1 rfl) ?_
        refine q_get (ci := 12) (j := 1) (v := .ref qA1) C0 V i_NM rfl rfl hO0 (by decide) w_2299 rfl d_14_3_53 ?_
        refine lv_aload_n hx hb d_14_3_56 rfl (lv_at hl 1 rfl) ?_
        refine q_get (ci := 12) (j := 2) (v := .int 1) C0 V i_NM rfl rfl hO0 (by decide) w_2300 rfl d_14_3_57 ?_
        refine lv_lload_n hx hb d_14_3_60 rfl (lv_at hl 3 rfl) ?_
        refine lv_bipush (v := 8) hx hb d_14_3_61 (by decide) ?_
        refine lv_iload hx hb d_14_3_63 (lv_at hl 0 rfl) ?_
        refine lv_imul hx hb d_14_3_65 ?_
        refine q_ti (v := 8) (by decide) ?_
        refine lv_lshr hx hb d_14_3_66 rfl ?_
        refine q_ldc2 C0 rfl w_2343 d_14_3_67 ?_
        refine lv_land hx hb d_14_3_70 ?_
        refine lv_l2i hx hb d_14_3_71 rfl ?_
        replace hA1 := (hu14 _ (q_pd 117 116 rfl)).trans (hA1)
        refine q_iast C0 V hA1 (by unfold vp_in; decide) d_14_3_72 (fun H locs w16 hu17 hA1 V => ?_)
        replace hA1 : w16[117]? = (some (qA1, .inl (g 0, 4100, .inl (upd (upd (fun _ => 0) 0 (((x2 >>> ((0 : Int32).toInt64 &&& 63)) &&& 255).toInt32)) 1 (((x2 >>> ((8 : Int32).toInt64 &&& 63)) &&& 255).toInt32)))) : Option (Nat × va_E)) := hA1
        replace hF := q_gs hF hu17 (Nat.le_of_ble_eq_true rfl)
        refine lv_aload_n hx hb d_14_3_73 rfl (lv_at hl 1 rfl) ?_
        refine lv_dup hx hb d_14_3_74 rfl ?_
        replace hO0 := (hu17 _ (q_pd 116 117 rfl)).trans (hO0)
        refine q_get (ci := 12) (j := 2) (v := .int 1) C0 V i_NM rfl rfl hO0 (by decide) w_2300 rfl d_14_3_75 ?_
        refine lv_iconst (v := 1) hx hb d_14_3_78 (by decide) ?_
        refine lv_iadd hx hb d_14_3_79 ?_
        refine q_ti (v := 2) (by decide) ?_
        refine q_put (ci := 12) (j := 2) (v := .int 2) (ty := .int) C0 V i_NM o_NM n_NM rfl rfl hO0 (by decide) w_2300 rfl rfl rfl rfl (Nat.le_of_ble_eq_true rfl) d_14_3_80 (fun H locs w18 hu19 hO0 V => ?_)
        replace hO0 : w18[116]? = (some (qO0, .inr (12, [.int 0, .ref qA1, .int 2, .ref qA2, .int 0, .ref qO3, .ref qO4, .ref qO5, .ref qO6, .ref qO7, .ref qA8, .ref qA9])) : Option (Nat × va_E)) := hO0
        replace hF := q_gs hF hu19 (Nat.le_of_ble_eq_true rfl)
        refine lv_iinc (v := 2) (lv' := [(4, .int 2), (0, .ref qO0), (1, .int x1), (2, .long x2)]) hx hb d_14_3_83 hl (k := 0) rfl (by decide) (by decide) rfl (fun ls hl => ?_)
        refine lv_goto (tgt := 46) hx hb d_14_3_86 (by decide) ?_
        refine lv_iload hx hb d_14_3_46 (lv_at hl 0 rfl) ?_
        refine lv_iload_n hx hb d_14_3_48 rfl (lv_at hl 2 rfl) ?_
        refine lv_icmp_ge (tgt := 89) hx hb d_14_3_49 (by decide) (fun c20 => ?_) (fun c20 => ?_)
        ·
          refine lv_aload_n hx hb d_14_3_89 rfl (lv_at hl 1 rfl) ?_
          refine q_get (ci := 12) (j := 2) (v := .int 2) C0 V i_NM rfl rfl hO0 (by decide) w_2300 rfl d_14_3_90 ?_
          exact q_reti C0 V (⟨0, 2, 0, hO0, (show ((0 : Int32).toInt = 0 ∧ ((1 ≤ x1.toInt ∧ x1.toInt ≤ 8)) ∧ (2 : Int32).toInt = x1.toInt) ∨ ((0 : Int32).toInt = 1 ∧ ¬ ((1 ≤ x1.toInt ∧ x1.toInt ≤ 8))) from by have t1 : 1 ≤ x1.toInt := q_nltI c1; have t2 : x1.toInt ≤ 8 := q_leI c5; have t3 : 1 < x1.toInt := q_nleI c15; have t4 : x1.toInt ≤ 2 := q_leI c20; have e0 : (0 : Int32).toInt = 0 := (by decide); have e1 : (2 : Int32).toInt = 2 := (by decide); omega), hF⟩) d_14_3_93
        ·
          refine lv_aload_n hx hb d_14_3_52 rfl (lv_at hl 1 rfl) ?_
          refine q_get (ci := 12) (j := 1) (v := .ref qA1) C0 V i_NM rfl rfl hO0 (by decide) w_2299 rfl d_14_3_53 ?_
          refine lv_aload_n hx hb d_14_3_56 rfl (lv_at hl 1 rfl) ?_
          refine q_get (ci := 12) (j := 2) (v := .int 2) C0 V i_NM rfl rfl hO0 (by decide) w_2300 rfl d_14_3_57 ?_
          refine lv_lload_n hx hb d_14_3_60 rfl (lv_at hl 3 rfl) ?_
          refine lv_bipush (v := 8) hx hb d_14_3_61 (by decide) ?_
          refine lv_iload hx hb d_14_3_63 (lv_at hl 0 rfl) ?_
          refine lv_imul hx hb d_14_3_65 ?_
          refine q_ti (v := 16) (by decide) ?_
          refine lv_lshr hx hb d_14_3_66 rfl ?_
          refine q_ldc2 C0 rfl w_2343 d_14_3_67 ?_
          refine lv_land hx hb d_14_3_70 ?_
          refine lv_l2i hx hb d_14_3_71 rfl ?_
          replace hA1 := (hu19 _ (q_pd 117 116 rfl)).trans (hA1)
          refine q_iast C0 V hA1 (by unfold vp_in; decide) d_14_3_72 (fun H locs w21 hu22 hA1 V => ?_)
          replace hA1 : w21[117]? = (some (qA1, .inl (g 0, 4100, .inl (upd (upd (upd (fun _ => 0) 0 (((x2 >>> ((0 : Int32).toInt64 &&& 63)) &&& 255).toInt32)) 1 (((x2 >>> ((8 : Int32).toInt64 &&& 63)) &&& 255).toInt32)) 2 (((x2 >>> ((16 : Int32).toInt64 &&& 63)) &&& 255).toInt32)))) : Option (Nat × va_E)) := hA1
          replace hF := q_gs hF hu22 (Nat.le_of_ble_eq_true rfl)
          refine lv_aload_n hx hb d_14_3_73 rfl (lv_at hl 1 rfl) ?_
          refine lv_dup hx hb d_14_3_74 rfl ?_
          replace hO0 := (hu22 _ (q_pd 116 117 rfl)).trans (hO0)
          refine q_get (ci := 12) (j := 2) (v := .int 2) C0 V i_NM rfl rfl hO0 (by decide) w_2300 rfl d_14_3_75 ?_
          refine lv_iconst (v := 1) hx hb d_14_3_78 (by decide) ?_
          refine lv_iadd hx hb d_14_3_79 ?_
          refine q_ti (v := 3) (by decide) ?_
          refine q_put (ci := 12) (j := 2) (v := .int 3) (ty := .int) C0 V i_NM o_NM n_NM rfl rfl hO0 (by decide) w_2300 rfl rfl rfl rfl (Nat.le_of_ble_eq_true rfl) d_14_3_80 (fun H locs w23 hu24 hO0 V => ?_)
          replace hO0 : w23[116]? = (some (qO0, .inr (12, [.int 0, .ref qA1, .int 3, .ref qA2, .int 0, .ref qO3, .ref qO4, .ref qO5, .ref qO6, .ref qO7, .ref qA8, .ref qA9])) : Option (Nat × va_E)) := hO0
          replace hF := q_gs hF hu24 (Nat.le_of_ble_eq_true rfl)
          refine lv_iinc (v := 3) (lv' := [(4, .int 3), (0, .ref qO0), (1, .int x1), (2, .long x2)]) hx hb d_14_3_83 hl (k := 0) rfl (by decide) (by decide) rfl (fun ls hl => ?_)
          refine lv_goto (tgt := 46) hx hb d_14_3_86 (by decide) ?_
          refine lv_iload hx hb d_14_3_46 (lv_at hl 0 rfl) ?_
          refine lv_iload_n hx hb d_14_3_48 rfl (lv_at hl 2 rfl) ?_
          refine lv_icmp_ge (tgt := 89) hx hb d_14_3_49 (by decide) (fun c25 => ?_) (fun c25 => ?_)
          ·
            refine lv_aload_n hx hb d_14_3_89 rfl (lv_at hl 1 rfl) ?_
            refine q_get (ci := 12) (j := 2) (v := .int 3) C0 V i_NM rfl rfl hO0 (by decide) w_2300 rfl d_14_3_90 ?_
            exact q_reti C0 V (⟨0, 3, 0, hO0, (show ((0 : Int32).toInt = 0 ∧ ((1 ≤ x1.toInt ∧ x1.toInt ≤ 8)) ∧ (3 : Int32).toInt = x1.toInt) ∨ ((0 : Int32).toInt = 1 ∧ ¬ ((1 ≤ x1.toInt ∧ x1.toInt ≤ 8))) from by have t1 : 1 ≤ x1.toInt := q_nltI c1; have t2 : x1.toInt ≤ 8 := q_leI c5; have t3 : 1 < x1.toInt := q_nleI c15; have t4 : 2 < x1.toInt := q_nleI c20; have t5 : x1.toInt ≤ 3 := q_leI c25; have e0 : (0 : Int32).toInt = 0 := (by decide); have e1 : (3 : Int32).toInt = 3 := (by decide); omega), hF⟩) d_14_3_93
          ·
            refine lv_aload_n hx hb d_14_3_52 rfl (lv_at hl 1 rfl) ?_
            refine q_get (ci := 12) (j := 1) (v := .ref qA1) C0 V i_NM rfl rfl hO0 (by decide) w_2299 rfl d_14_3_53 ?_
            refine lv_aload_n hx hb d_14_3_56 rfl (lv_at hl 1 rfl) ?_
            refine q_get (ci := 12) (j := 2) (v := .int 3) C0 V i_NM rfl rfl hO0 (by decide) w_2300 rfl d_14_3_57 ?_
            refine lv_lload_n hx hb d_14_3_60 rfl (lv_at hl 3 rfl) ?_
            refine lv_bipush (v := 8) hx hb d_14_3_61 (by decide) ?_
            refine lv_iload hx hb d_14_3_63 (lv_at hl 0 rfl) ?_
            refine lv_imul hx hb d_14_3_65 ?_
            refine q_ti (v := 24) (by decide) ?_
            refine lv_lshr hx hb d_14_3_66 rfl ?_
            refine q_ldc2 C0 rfl w_2343 d_14_3_67 ?_
            refine lv_land hx hb d_14_3_70 ?_
            refine lv_l2i hx hb d_14_3_71 rfl ?_
            replace hA1 := (hu24 _ (q_pd 117 116 rfl)).trans (hA1)
            refine q_iast C0 V hA1 (by unfold vp_in; decide) d_14_3_72 (fun H locs w26 hu27 hA1 V => ?_)
            replace hA1 : w26[117]? = (some (qA1, .inl (g 0, 4100, .inl (upd (upd (upd (upd (fun _ => 0) 0 (((x2 >>> ((0 : Int32).toInt64 &&& 63)) &&& 255).toInt32)) 1 (((x2 >>> ((8 : Int32).toInt64 &&& 63)) &&& 255).toInt32)) 2 (((x2 >>> ((16 : Int32).toInt64 &&& 63)) &&& 255).toInt32)) 3 (((x2 >>> ((24 : Int32).toInt64 &&& 63)) &&& 255).toInt32)))) : Option (Nat × va_E)) := hA1
            replace hF := q_gs hF hu27 (Nat.le_of_ble_eq_true rfl)
            refine lv_aload_n hx hb d_14_3_73 rfl (lv_at hl 1 rfl) ?_
            refine lv_dup hx hb d_14_3_74 rfl ?_
            replace hO0 := (hu27 _ (q_pd 116 117 rfl)).trans (hO0)
            refine q_get (ci := 12) (j := 2) (v := .int 3) C0 V i_NM rfl rfl hO0 (by decide) w_2300 rfl d_14_3_75 ?_
            refine lv_iconst (v := 1) hx hb d_14_3_78 (by decide) ?_
            refine lv_iadd hx hb d_14_3_79 ?_
            refine q_ti (v := 4) (by decide) ?_
            refine q_put (ci := 12) (j := 2) (v := .int 4) (ty := .int) C0 V i_NM o_NM n_NM rfl rfl hO0 (by decide) w_2300 rfl rfl rfl rfl (Nat.le_of_ble_eq_true rfl) d_14_3_80 (fun H locs w28 hu29 hO0 V => ?_)
            replace hO0 : w28[116]? = (some (qO0, .inr (12, [.int 0, .ref qA1, .int 4, .ref qA2, .int 0, .ref qO3, .ref qO4, .ref qO5, .ref qO6, .ref qO7, .ref qA8, .ref qA9])) : Option (Nat × va_E)) := hO0
            replace hF := q_gs hF hu29 (Nat.le_of_ble_eq_true rfl)
            refine lv_iinc (v := 4) (lv' := [(4, .int 4), (0, .ref qO0), (1, .int x1), (2, .long x2)]) hx hb d_14_3_83 hl (k := 0) rfl (by decide) (by decide) rfl (fun ls hl => ?_)
            refine lv_goto (tgt := 46) hx hb d_14_3_86 (by decide) ?_
            refine lv_iload hx hb d_14_3_46 (lv_at hl 0 rfl) ?_
            refine lv_iload_n hx hb d_14_3_48 rfl (lv_at hl 2 rfl) ?_
            refine lv_icmp_ge (tgt := 89) hx hb d_14_3_49 (by decide) (fun c30 => ?_) (fun c30 => ?_)
            ·
              refine lv_aload_n hx hb d_14_3_89 rfl (lv_at hl 1 rfl) ?_
              refine q_get (ci := 12) (j := 2) (v := .int 4) C0 V i_NM rfl rfl hO0 (by decide) w_2300 rfl d_14_3_90 ?_
              exact q_reti C0 V (⟨0, 4, 0, hO0, (show ((0 : Int32).toInt = 0 ∧ ((1 ≤ x1.toInt ∧ x1.toInt ≤ 8)) ∧ (4 : Int32).toInt = x1.toInt) ∨ ((0 : Int32).toInt = 1 ∧ ¬ ((1 ≤ x1.toInt ∧ x1.toInt ≤ 8))) from by have t1 : 1 ≤ x1.toInt := q_nltI c1; have t2 : x1.toInt ≤ 8 := q_leI c5; have t3 : 1 < x1.toInt := q_nleI c15; have t4 : 2 < x1.toInt := q_nleI c20; have t5 : 3 < x1.toInt := q_nleI c25; have t6 : x1.toInt ≤ 4 := q_leI c30; have e0 : (0 : Int32).toInt = 0 := (by decide); have e1 : (4 : Int32).toInt = 4 := (by decide); omega), hF⟩) d_14_3_93
            ·
              refine lv_aload_n hx hb d_14_3_52 rfl (lv_at hl 1 rfl) ?_
              refine q_get (ci := 12) (j := 1) (v := .ref qA1) C0 V i_NM rfl rfl hO0 (by decide) w_2299 rfl d_14_3_53 ?_
              refine lv_aload_n hx hb d_14_3_56 rfl (lv_at hl 1 rfl) ?_
              refine q_get (ci := 12) (j := 2) (v := .int 4) C0 V i_NM rfl rfl hO0 (by decide) w_2300 rfl d_14_3_57 ?_
              refine lv_lload_n hx hb d_14_3_60 rfl (lv_at hl 3 rfl) ?_
              refine lv_bipush (v := 8) hx hb d_14_3_61 (by decide) ?_
              refine lv_iload hx hb d_14_3_63 (lv_at hl 0 rfl) ?_
              refine lv_imul hx hb d_14_3_65 ?_
              refine q_ti (v := 32) (by decide) ?_
              refine lv_lshr hx hb d_14_3_66 rfl ?_
              refine q_ldc2 C0 rfl w_2343 d_14_3_67 ?_
              refine lv_land hx hb d_14_3_70 ?_
              refine lv_l2i hx hb d_14_3_71 rfl ?_
              replace hA1 := (hu29 _ (q_pd 117 116 rfl)).trans (hA1)
              refine q_iast C0 V hA1 (by unfold vp_in; decide) d_14_3_72 (fun H locs w31 hu32 hA1 V => ?_)
              replace hA1 : w31[117]? = (some (qA1, .inl (g 0, 4100, .inl (upd (upd (upd (upd (upd (fun _ => 0) 0 (((x2 >>> ((0 : Int32).toInt64 &&& 63)) &&& 255).toInt32)) 1 (((x2 >>> ((8 : Int32).toInt64 &&& 63)) &&& 255).toInt32)) 2 (((x2 >>> ((16 : Int32).toInt64 &&& 63)) &&& 255).toInt32)) 3 (((x2 >>> ((24 : Int32).toInt64 &&& 63)) &&& 255).toInt32)) 4 (((x2 >>> ((32 : Int32).toInt64 &&& 63)) &&& 255).toInt32)))) : Option (Nat × va_E)) := hA1
              replace hF := q_gs hF hu32 (Nat.le_of_ble_eq_true rfl)
              refine lv_aload_n hx hb d_14_3_73 rfl (lv_at hl 1 rfl) ?_
              refine lv_dup hx hb d_14_3_74 rfl ?_
              replace hO0 := (hu32 _ (q_pd 116 117 rfl)).trans (hO0)
              refine q_get (ci := 12) (j := 2) (v := .int 4) C0 V i_NM rfl rfl hO0 (by decide) w_2300 rfl d_14_3_75 ?_
              refine lv_iconst (v := 1) hx hb d_14_3_78 (by decide) ?_
              refine lv_iadd hx hb d_14_3_79 ?_
              refine q_ti (v := 5) (by decide) ?_
              refine q_put (ci := 12) (j := 2) (v := .int 5) (ty := .int) C0 V i_NM o_NM n_NM rfl rfl hO0 (by decide) w_2300 rfl rfl rfl rfl (Nat.le_of_ble_eq_true rfl) d_14_3_80 (fun H locs w33 hu34 hO0 V => ?_)
              replace hO0 : w33[116]? = (some (qO0, .inr (12, [.int 0, .ref qA1, .int 5, .ref qA2, .int 0, .ref qO3, .ref qO4, .ref qO5, .ref qO6, .ref qO7, .ref qA8, .ref qA9])) : Option (Nat × va_E)) := hO0
              replace hF := q_gs hF hu34 (Nat.le_of_ble_eq_true rfl)
              refine lv_iinc (v := 5) (lv' := [(4, .int 5), (0, .ref qO0), (1, .int x1), (2, .long x2)]) hx hb d_14_3_83 hl (k := 0) rfl (by decide) (by decide) rfl (fun ls hl => ?_)
              refine lv_goto (tgt := 46) hx hb d_14_3_86 (by decide) ?_
              refine lv_iload hx hb d_14_3_46 (lv_at hl 0 rfl) ?_
              refine lv_iload_n hx hb d_14_3_48 rfl (lv_at hl 2 rfl) ?_
              refine lv_icmp_ge (tgt := 89) hx hb d_14_3_49 (by decide) (fun c35 => ?_) (fun c35 => ?_)
              ·
                refine lv_aload_n hx hb d_14_3_89 rfl (lv_at hl 1 rfl) ?_
                refine q_get (ci := 12) (j := 2) (v := .int 5) C0 V i_NM rfl rfl hO0 (by decide) w_2300 rfl d_14_3_90 ?_
                exact q_reti C0 V (⟨0, 5, 0, hO0, (show ((0 : Int32).toInt = 0 ∧ ((1 ≤ x1.toInt ∧ x1.toInt ≤ 8)) ∧ (5 : Int32).toInt = x1.toInt) ∨ ((0 : Int32).toInt = 1 ∧ ¬ ((1 ≤ x1.toInt ∧ x1.toInt ≤ 8))) from by have t1 : 1 ≤ x1.toInt := q_nltI c1; have t2 : x1.toInt ≤ 8 := q_leI c5; have t3 : 1 < x1.toInt := q_nleI c15; have t4 : 2 < x1.toInt := q_nleI c20; have t5 : 3 < x1.toInt := q_nleI c25; have t6 : 4 < x1.toInt := q_nleI c30; have t7 : x1.toInt ≤ 5 := q_leI c35; have e0 : (0 : Int32).toInt = 0 := (by decide); have e1 : (5 : Int32).toInt = 5 := (by decide); omega), hF⟩) d_14_3_93
              ·
                refine lv_aload_n hx hb d_14_3_52 rfl (lv_at hl 1 rfl) ?_
                refine q_get (ci := 12) (j := 1) (v := .ref qA1) C0 V i_NM rfl rfl hO0 (by decide) w_2299 rfl d_14_3_53 ?_
                refine lv_aload_n hx hb d_14_3_56 rfl (lv_at hl 1 rfl) ?_
                refine q_get (ci := 12) (j := 2) (v := .int 5) C0 V i_NM rfl rfl hO0 (by decide) w_2300 rfl d_14_3_57 ?_
                refine lv_lload_n hx hb d_14_3_60 rfl (lv_at hl 3 rfl) ?_
                refine lv_bipush (v := 8) hx hb d_14_3_61 (by decide) ?_
                refine lv_iload hx hb d_14_3_63 (lv_at hl 0 rfl) ?_
                refine lv_imul hx hb d_14_3_65 ?_
                refine q_ti (v := 40) (by decide) ?_
                refine lv_lshr hx hb d_14_3_66 rfl ?_
                refine q_ldc2 C0 rfl w_2343 d_14_3_67 ?_
                refine lv_land hx hb d_14_3_70 ?_
                refine lv_l2i hx hb d_14_3_71 rfl ?_
                replace hA1 := (hu34 _ (q_pd 117 116 rfl)).trans (hA1)
                refine q_iast C0 V hA1 (by unfold vp_in; decide) d_14_3_72 (fun H locs w36 hu37 hA1 V => ?_)
                replace hA1 : w36[117]? = (some (qA1, .inl (g 0, 4100, .inl (upd (upd (upd (upd (upd (upd (fun _ => 0) 0 (((x2 >>> ((0 : Int32).toInt64 &&& 63)) &&& 255).toInt32)) 1 (((x2 >>> ((8 : Int32).toInt64 &&& 63)) &&& 255).toInt32)) 2 (((x2 >>> ((16 : Int32).toInt64 &&& 63)) &&& 255).toInt32)) 3 (((x2 >>> ((24 : Int32).toInt64 &&& 63)) &&& 255).toInt32)) 4 (((x2 >>> ((32 : Int32).toInt64 &&& 63)) &&& 255).toInt32)) 5 (((x2 >>> ((40 : Int32).toInt64 &&& 63)) &&& 255).toInt32)))) : Option (Nat × va_E)) := hA1
                replace hF := q_gs hF hu37 (Nat.le_of_ble_eq_true rfl)
                refine lv_aload_n hx hb d_14_3_73 rfl (lv_at hl 1 rfl) ?_
                refine lv_dup hx hb d_14_3_74 rfl ?_
                replace hO0 := (hu37 _ (q_pd 116 117 rfl)).trans (hO0)
                refine q_get (ci := 12) (j := 2) (v := .int 5) C0 V i_NM rfl rfl hO0 (by decide) w_2300 rfl d_14_3_75 ?_
                refine lv_iconst (v := 1) hx hb d_14_3_78 (by decide) ?_
                refine lv_iadd hx hb d_14_3_79 ?_
                refine q_ti (v := 6) (by decide) ?_
                refine q_put (ci := 12) (j := 2) (v := .int 6) (ty := .int) C0 V i_NM o_NM n_NM rfl rfl hO0 (by decide) w_2300 rfl rfl rfl rfl (Nat.le_of_ble_eq_true rfl) d_14_3_80 (fun H locs w38 hu39 hO0 V => ?_)
                replace hO0 : w38[116]? = (some (qO0, .inr (12, [.int 0, .ref qA1, .int 6, .ref qA2, .int 0, .ref qO3, .ref qO4, .ref qO5, .ref qO6, .ref qO7, .ref qA8, .ref qA9])) : Option (Nat × va_E)) := hO0
                replace hF := q_gs hF hu39 (Nat.le_of_ble_eq_true rfl)
                refine lv_iinc (v := 6) (lv' := [(4, .int 6), (0, .ref qO0), (1, .int x1), (2, .long x2)]) hx hb d_14_3_83 hl (k := 0) rfl (by decide) (by decide) rfl (fun ls hl => ?_)
                refine lv_goto (tgt := 46) hx hb d_14_3_86 (by decide) ?_
                refine lv_iload hx hb d_14_3_46 (lv_at hl 0 rfl) ?_
                refine lv_iload_n hx hb d_14_3_48 rfl (lv_at hl 2 rfl) ?_
                refine lv_icmp_ge (tgt := 89) hx hb d_14_3_49 (by decide) (fun c40 => ?_) (fun c40 => ?_)
                ·
                  refine lv_aload_n hx hb d_14_3_89 rfl (lv_at hl 1 rfl) ?_
                  refine q_get (ci := 12) (j := 2) (v := .int 6) C0 V i_NM rfl rfl hO0 (by decide) w_2300 rfl d_14_3_90 ?_
                  exact q_reti C0 V (⟨0, 6, 0, hO0, (show ((0 : Int32).toInt = 0 ∧ ((1 ≤ x1.toInt ∧ x1.toInt ≤ 8)) ∧ (6 : Int32).toInt = x1.toInt) ∨ ((0 : Int32).toInt = 1 ∧ ¬ ((1 ≤ x1.toInt ∧ x1.toInt ≤ 8))) from by have t1 : 1 ≤ x1.toInt := q_nltI c1; have t2 : x1.toInt ≤ 8 := q_leI c5; have t3 : 1 < x1.toInt := q_nleI c15; have t4 : 2 < x1.toInt := q_nleI c20; have t5 : 3 < x1.toInt := q_nleI c25; have t6 : 4 < x1.toInt := q_nleI c30; have t7 : 5 < x1.toInt := q_nleI c35; have t8 : x1.toInt ≤ 6 := q_leI c40; have e0 : (0 : Int32).toInt = 0 := (by decide); have e1 : (6 : Int32).toInt = 6 := (by decide); omega), hF⟩) d_14_3_93
                ·
                  refine lv_aload_n hx hb d_14_3_52 rfl (lv_at hl 1 rfl) ?_
                  refine q_get (ci := 12) (j := 1) (v := .ref qA1) C0 V i_NM rfl rfl hO0 (by decide) w_2299 rfl d_14_3_53 ?_
                  refine lv_aload_n hx hb d_14_3_56 rfl (lv_at hl 1 rfl) ?_
                  refine q_get (ci := 12) (j := 2) (v := .int 6) C0 V i_NM rfl rfl hO0 (by decide) w_2300 rfl d_14_3_57 ?_
                  refine lv_lload_n hx hb d_14_3_60 rfl (lv_at hl 3 rfl) ?_
                  refine lv_bipush (v := 8) hx hb d_14_3_61 (by decide) ?_
                  refine lv_iload hx hb d_14_3_63 (lv_at hl 0 rfl) ?_
                  refine lv_imul hx hb d_14_3_65 ?_
                  refine q_ti (v := 48) (by decide) ?_
                  refine lv_lshr hx hb d_14_3_66 rfl ?_
                  refine q_ldc2 C0 rfl w_2343 d_14_3_67 ?_
                  refine lv_land hx hb d_14_3_70 ?_
                  refine lv_l2i hx hb d_14_3_71 rfl ?_
                  replace hA1 := (hu39 _ (q_pd 117 116 rfl)).trans (hA1)
                  refine q_iast C0 V hA1 (by unfold vp_in; decide) d_14_3_72 (fun H locs w41 hu42 hA1 V => ?_)
                  replace hA1 : w41[117]? = (some (qA1, .inl (g 0, 4100, .inl (upd (upd (upd (upd (upd (upd (upd (fun _ => 0) 0 (((x2 >>> ((0 : Int32).toInt64 &&& 63)) &&& 255).toInt32)) 1 (((x2 >>> ((8 : Int32).toInt64 &&& 63)) &&& 255).toInt32)) 2 (((x2 >>> ((16 : Int32).toInt64 &&& 63)) &&& 255).toInt32)) 3 (((x2 >>> ((24 : Int32).toInt64 &&& 63)) &&& 255).toInt32)) 4 (((x2 >>> ((32 : Int32).toInt64 &&& 63)) &&& 255).toInt32)) 5 (((x2 >>> ((40 : Int32).toInt64 &&& 63)) &&& 255).toInt32)) 6 (((x2 >>> ((48 : Int32).toInt64 &&& 63)) &&& 255).toInt32)))) : Option (Nat × va_E)) := hA1
                  replace hF := q_gs hF hu42 (Nat.le_of_ble_eq_true rfl)
                  refine lv_aload_n hx hb d_14_3_73 rfl (lv_at hl 1 rfl) ?_
                  refine lv_dup hx hb d_14_3_74 rfl ?_
                  replace hO0 := (hu42 _ (q_pd 116 117 rfl)).trans (hO0)
                  refine q_get (ci := 12) (j := 2) (v := .int 6) C0 V i_NM rfl rfl hO0 (by decide) w_2300 rfl d_14_3_75 ?_
                  refine lv_iconst (v := 1) hx hb d_14_3_78 (by decide) ?_
                  refine lv_iadd hx hb d_14_3_79 ?_
                  refine q_ti (v := 7) (by decide) ?_
                  refine q_put (ci := 12) (j := 2) (v := .int 7) (ty := .int) C0 V i_NM o_NM n_NM rfl rfl hO0 (by decide) w_2300 rfl rfl rfl rfl (Nat.le_of_ble_eq_true rfl) d_14_3_80 (fun H locs w43 hu44 hO0 V => ?_)
                  replace hO0 : w43[116]? = (some (qO0, .inr (12, [.int 0, .ref qA1, .int 7, .ref qA2, .int 0, .ref qO3, .ref qO4, .ref qO5, .ref qO6, .ref qO7, .ref qA8, .ref qA9])) : Option (Nat × va_E)) := hO0
                  replace hF := q_gs hF hu44 (Nat.le_of_ble_eq_true rfl)
                  refine lv_iinc (v := 7) (lv' := [(4, .int 7), (0, .ref qO0), (1, .int x1), (2, .long x2)]) hx hb d_14_3_83 hl (k := 0) rfl (by decide) (by decide) rfl (fun ls hl => ?_)
                  refine lv_goto (tgt := 46) hx hb d_14_3_86 (by decide) ?_
                  refine lv_iload hx hb d_14_3_46 (lv_at hl 0 rfl) ?_
                  refine lv_iload_n hx hb d_14_3_48 rfl (lv_at hl 2 rfl) ?_
                  refine lv_icmp_ge (tgt := 89) hx hb d_14_3_49 (by decide) (fun c45 => ?_) (fun c45 => ?_)
                  ·
                    refine lv_aload_n hx hb d_14_3_89 rfl (lv_at hl 1 rfl) ?_
                    refine q_get (ci := 12) (j := 2) (v := .int 7) C0 V i_NM rfl rfl hO0 (by decide) w_2300 rfl d_14_3_90 ?_
                    exact q_reti C0 V (⟨0, 7, 0, hO0, (show ((0 : Int32).toInt = 0 ∧ ((1 ≤ x1.toInt ∧ x1.toInt ≤ 8)) ∧ (7 : Int32).toInt = x1.toInt) ∨ ((0 : Int32).toInt = 1 ∧ ¬ ((1 ≤ x1.toInt ∧ x1.toInt ≤ 8))) from by have t1 : 1 ≤ x1.toInt := q_nltI c1; have t2 : x1.toInt ≤ 8 := q_leI c5; have t3 : 1 < x1.toInt := q_nleI c15; have t4 : 2 < x1.toInt := q_nleI c20; have t5 : 3 < x1.toInt := q_nleI c25; have t6 : 4 < x1.toInt := q_nleI c30; have t7 : 5 < x1.toInt := q_nleI c35; have t8 : 6 < x1.toInt := q_nleI c40; have t9 : x1.toInt ≤ 7 := q_leI c45; have e0 : (0 : Int32).toInt = 0 := (by decide); have e1 : (7 : Int32).toInt = 7 := (by decide); omega), hF⟩) d_14_3_93
                  ·
                    refine lv_aload_n hx hb d_14_3_52 rfl (lv_at hl 1 rfl) ?_
                    refine q_get (ci := 12) (j := 1) (v := .ref qA1) C0 V i_NM rfl rfl hO0 (by decide) w_2299 rfl d_14_3_53 ?_
                    refine lv_aload_n hx hb d_14_3_56 rfl (lv_at hl 1 rfl) ?_
                    refine q_get (ci := 12) (j := 2) (v := .int 7) C0 V i_NM rfl rfl hO0 (by decide) w_2300 rfl d_14_3_57 ?_
                    refine lv_lload_n hx hb d_14_3_60 rfl (lv_at hl 3 rfl) ?_
                    refine lv_bipush (v := 8) hx hb d_14_3_61 (by decide) ?_
                    refine lv_iload hx hb d_14_3_63 (lv_at hl 0 rfl) ?_
                    refine lv_imul hx hb d_14_3_65 ?_
                    refine q_ti (v := 56) (by decide) ?_
                    refine lv_lshr hx hb d_14_3_66 rfl ?_
                    refine q_ldc2 C0 rfl w_2343 d_14_3_67 ?_
                    refine lv_land hx hb d_14_3_70 ?_
                    refine lv_l2i hx hb d_14_3_71 rfl ?_
                    replace hA1 := (hu44 _ (q_pd 117 116 rfl)).trans (hA1)
                    refine q_iast C0 V hA1 (by unfold vp_in; decide) d_14_3_72 (fun H locs w46 hu47 hA1 V => ?_)
                    replace hA1 : w46[117]? = (some (qA1, .inl (g 0, 4100, .inl (upd (upd (upd (upd (upd (upd (upd (upd (fun _ => 0) 0 (((x2 >>> ((0 : Int32).toInt64 &&& 63)) &&& 255).toInt32)) 1 (((x2 >>> ((8 : Int32).toInt64 &&& 63)) &&& 255).toInt32)) 2 (((x2 >>> ((16 : Int32).toInt64 &&& 63)) &&& 255).toInt32)) 3 (((x2 >>> ((24 : Int32).toInt64 &&& 63)) &&& 255).toInt32)) 4 (((x2 >>> ((32 : Int32).toInt64 &&& 63)) &&& 255).toInt32)) 5 (((x2 >>> ((40 : Int32).toInt64 &&& 63)) &&& 255).toInt32)) 6 (((x2 >>> ((48 : Int32).toInt64 &&& 63)) &&& 255).toInt32)) 7 (((x2 >>> ((56 : Int32).toInt64 &&& 63)) &&& 255).toInt32)))) : Option (Nat × va_E)) := hA1
                    replace hF := q_gs hF hu47 (Nat.le_of_ble_eq_true rfl)
                    refine lv_aload_n hx hb d_14_3_73 rfl (lv_at hl 1 rfl) ?_
                    refine lv_dup hx hb d_14_3_74 rfl ?_
                    replace hO0 := (hu47 _ (q_pd 116 117 rfl)).trans (hO0)
                    refine q_get (ci := 12) (j := 2) (v := .int 7) C0 V i_NM rfl rfl hO0 (by decide) w_2300 rfl d_14_3_75 ?_
                    refine lv_iconst (v := 1) hx hb d_14_3_78 (by decide) ?_
                    refine lv_iadd hx hb d_14_3_79 ?_
                    refine q_ti (v := 8) (by decide) ?_
                    refine q_put (ci := 12) (j := 2) (v := .int 8) (ty := .int) C0 V i_NM o_NM n_NM rfl rfl hO0 (by decide) w_2300 rfl rfl rfl rfl (Nat.le_of_ble_eq_true rfl) d_14_3_80 (fun H locs w48 hu49 hO0 V => ?_)
                    replace hO0 : w48[116]? = (some (qO0, .inr (12, [.int 0, .ref qA1, .int 8, .ref qA2, .int 0, .ref qO3, .ref qO4, .ref qO5, .ref qO6, .ref qO7, .ref qA8, .ref qA9])) : Option (Nat × va_E)) := hO0
                    replace hF := q_gs hF hu49 (Nat.le_of_ble_eq_true rfl)
                    refine lv_iinc (v := 8) (lv' := [(4, .int 8), (0, .ref qO0), (1, .int x1), (2, .long x2)]) hx hb d_14_3_83 hl (k := 0) rfl (by decide) (by decide) rfl (fun ls hl => ?_)
                    refine lv_goto (tgt := 46) hx hb d_14_3_86 (by decide) ?_
                    refine lv_iload hx hb d_14_3_46 (lv_at hl 0 rfl) ?_
                    refine lv_iload_n hx hb d_14_3_48 rfl (lv_at hl 2 rfl) ?_
                    refine q_ti (v := 8) (q_Ieq (x := x1.toInt) (y := 8) rfl (by decide) (by have t1 : 1 ≤ x1.toInt := q_nltI c1; have t2 : x1.toInt ≤ 8 := q_leI c5; have t3 : 1 < x1.toInt := q_nleI c15; have t4 : 2 < x1.toInt := q_nleI c20; have t5 : 3 < x1.toInt := q_nleI c25; have t6 : 4 < x1.toInt := q_nleI c30; have t7 : 5 < x1.toInt := q_nleI c35; have t8 : 6 < x1.toInt := q_nleI c40; have t9 : 7 < x1.toInt := q_nleI c45; omega)) ?_
                    refine lv_icmp_ge (tgt := 89) hx hb d_14_3_49 (by decide) (fun c50 => ?_) (fun c50 => absurd (by decide) c50)
                    refine lv_aload_n hx hb d_14_3_89 rfl (lv_at hl 1 rfl) ?_
                    refine q_get (ci := 12) (j := 2) (v := .int 8) C0 V i_NM rfl rfl hO0 (by decide) w_2300 rfl d_14_3_90 ?_
                    exact q_reti C0 V (⟨0, 8, 0, hO0, (show ((0 : Int32).toInt = 0 ∧ ((1 ≤ x1.toInt ∧ x1.toInt ≤ 8)) ∧ (8 : Int32).toInt = x1.toInt) ∨ ((0 : Int32).toInt = 1 ∧ ¬ ((1 ≤ x1.toInt ∧ x1.toInt ≤ 8))) from by have t1 : 1 ≤ x1.toInt := q_nltI c1; have t2 : x1.toInt ≤ 8 := q_leI c5; have t3 : 1 < x1.toInt := q_nleI c15; have t4 : 2 < x1.toInt := q_nleI c20; have t5 : 3 < x1.toInt := q_nleI c25; have t6 : 4 < x1.toInt := q_nleI c30; have t7 : 5 < x1.toInt := q_nleI c35; have t8 : 6 < x1.toInt := q_nleI c40; have t9 : 7 < x1.toInt := q_nleI c45; have e0 : (0 : Int32).toInt = 0 := (by decide); have e1 : (8 : Int32).toInt = 8 := (by decide); omega), hF⟩) d_14_3_93
    ·
      refine lv_iconst (v := 1) hx hb d_14_3_12 (by decide) ?_
      refine lv_goto (tgt := 17) hx hb d_14_3_13 (by decide) ?_
      refine q_put (ci := 12) (j := 0) (v := .int 1) (ty := .int) C0 V i_NM o_NM n_NM rfl rfl hO0 (by decide) w_2298 rfl rfl rfl rfl (Nat.le_of_ble_eq_true rfl) d_14_3_17 (fun H locs w51 hu52 hO0 V => ?_)
      replace hO0 : w51[116]? = (some (qO0, .inr (12, [.int 1, .ref qA1, .int 0, .ref qA2, .int 0, .ref qO3, .ref qO4, .ref qO5, .ref qO6, .ref qO7, .ref qA8, .ref qA9])) : Option (Nat × va_E)) := hO0
      replace hF := q_gs hF hu52 (Nat.le_of_ble_eq_true rfl)
      refine lv_aload_n hx hb d_14_3_20 rfl (lv_at hl 0 rfl) ?_
      refine q_get (ci := 12) (j := 0) (v := .int 1) C0 V i_NM rfl rfl hO0 (by decide) w_2298 rfl d_14_3_21 ?_
      refine lv_if_le (tgt := 29) hx hb d_14_3_24 (by decide) (fun c53 => absurd c53 (by decide)) (fun c53 => ?_)
      refine lv_iconst (v := 0) hx hb d_14_3_27 (by decide) ?_
      exact q_reti C0 V (⟨1, 0, 0, hO0, (show ((1 : Int32).toInt = 0 ∧ ((1 ≤ x1.toInt ∧ x1.toInt ≤ 8)) ∧ (0 : Int32).toInt = x1.toInt) ∨ ((1 : Int32).toInt = 1 ∧ ¬ ((1 ≤ x1.toInt ∧ x1.toInt ≤ 8))) from by have t1 : 1 ≤ x1.toInt := q_nltI c1; have t2 : 8 < x1.toInt := q_nleI c5; have e0 : (1 : Int32).toInt = 1 := (by decide); have e1 : (0 : Int32).toInt = 0 := (by decide); omega), hF⟩) d_14_3_28
