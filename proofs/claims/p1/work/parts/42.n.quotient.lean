/-! the law, case 12: quotient -/
theorem d_1031 : decode code 1031 = .ok (.aload_n 1, 1) := by decide +kernel
theorem d_1032 : decode code 1032 = .ok (.aload_n 0, 1) := by decide +kernel
theorem d_1033 : decode code 1033 = .ok (.iload 4, 2) := by decide +kernel
theorem d_1035 : decode code 1035 = .ok (.iconst 1, 1) := by decide +kernel
theorem d_1036 : decode code 1036 = .ok (.iadd, 1) := by decide +kernel
theorem d_1037 : decode code 1037 = .ok (.iaload, 1) := by decide +kernel
theorem d_1038 : decode code 1038 = .ok (.aload_n 0, 1) := by decide +kernel
theorem d_1039 : decode code 1039 = .ok (.iload 4, 2) := by decide +kernel
theorem d_1041 : decode code 1041 = .ok (.iconst 2, 1) := by decide +kernel
theorem d_1042 : decode code 1042 = .ok (.iadd, 1) := by decide +kernel
theorem d_1043 : decode code 1043 = .ok (.iaload, 1) := by decide +kernel
theorem d_1044 : decode code 1044 = .ok (.aload_n 0, 1) := by decide +kernel
theorem d_1045 : decode code 1045 = .ok (.iload 4, 2) := by decide +kernel
theorem d_1047 : decode code 1047 = .ok (.iconst 3, 1) := by decide +kernel
theorem d_1048 : decode code 1048 = .ok (.iadd, 1) := by decide +kernel
theorem d_1049 : decode code 1049 = .ok (.iaload, 1) := by decide +kernel
theorem d_1050 : decode code 1050 = .ok (.aload_n 0, 1) := by decide +kernel
theorem d_1051 : decode code 1051 = .ok (.iload 4, 2) := by decide +kernel
theorem d_1053 : decode code 1053 = .ok (.iconst 4, 1) := by decide +kernel
theorem d_1054 : decode code 1054 = .ok (.iadd, 1) := by decide +kernel
theorem d_1055 : decode code 1055 = .ok (.iaload, 1) := by decide +kernel
theorem d_1056 : decode code 1056 = .ok (.aload_n 0, 1) := by decide +kernel
theorem d_1057 : decode code 1057 = .ok (.iload 4, 2) := by decide +kernel
theorem d_1059 : decode code 1059 = .ok (.iconst 5, 1) := by decide +kernel
theorem d_1060 : decode code 1060 = .ok (.iadd, 1) := by decide +kernel
theorem d_1061 : decode code 1061 = .ok (.iaload, 1) := by decide +kernel
theorem d_1062 : decode code 1062 = .ok (.invokestatic 132, 3) := by decide +kernel
theorem w_1460 : (Cond.codeWith ({ cls := "NumberHouseLaw", name := "quotient", desc := "(LNumberHouse;IIIII)I" } : MethodName) method_14_code (7 : Nat) (some .int) [((0 : Nat), (11 : Nat), (14 : Nat), (13 : Nat)), ((0 : Nat), (11 : Nat), (18 : Nat), (19 : Nat))]) ∈ q_tbl := q_of 1460 (by decide +kernel) (by decide +kernel)
theorem w_1458 : (Cond.methodLink "NumberHouseLaw" (132 : Nat) ({ cls := "NumberHouseLaw", name := "quotient", desc := "(LNumberHouse;IIIII)I" } : MethodName)) ∈ q_tbl := q_of 1458 (by decide +kernel) (by decide +kernel)
theorem w_1459 : (Cond.static ({ cls := "NumberHouseLaw", name := "quotient", desc := "(LNumberHouse;IIIII)I" } : MethodName)) ∈ q_tbl := q_of 1459 (by decide +kernel) (by decide +kernel)
theorem LW_NL_132 : q_LW "NumberHouseLaw" 132 y_NL_quotient method_14_code 7 (some .int) [(0, 11, 14, 13), (0, 11, 18, 19)] 6 := ⟨w_1460, w_0, w_1458, w_1459, ⟨by decide, by decide, by decide +kernel⟩⟩
theorem d_1065 : decode code 1065 = .ok (.istore 5, 2) := by decide +kernel
theorem d_1067 : decode code 1067 = .ok (.aload_n 2, 1) := by decide +kernel
theorem d_1068 : decode code 1068 = .ok (.aload_n 0, 1) := by decide +kernel
theorem d_1069 : decode code 1069 = .ok (.iload 4, 2) := by decide +kernel
theorem d_1071 : decode code 1071 = .ok (.iconst 1, 1) := by decide +kernel
theorem d_1072 : decode code 1072 = .ok (.iadd, 1) := by decide +kernel
theorem d_1073 : decode code 1073 = .ok (.iaload, 1) := by decide +kernel
theorem d_1074 : decode code 1074 = .ok (.aload_n 0, 1) := by decide +kernel
theorem d_1075 : decode code 1075 = .ok (.iload 4, 2) := by decide +kernel
theorem d_1077 : decode code 1077 = .ok (.iconst 2, 1) := by decide +kernel
theorem d_1078 : decode code 1078 = .ok (.iadd, 1) := by decide +kernel
theorem d_1079 : decode code 1079 = .ok (.iaload, 1) := by decide +kernel
theorem d_1080 : decode code 1080 = .ok (.aload_n 0, 1) := by decide +kernel
theorem d_1081 : decode code 1081 = .ok (.iload 4, 2) := by decide +kernel
theorem d_1083 : decode code 1083 = .ok (.iconst 3, 1) := by decide +kernel
theorem d_1084 : decode code 1084 = .ok (.iadd, 1) := by decide +kernel
theorem d_1085 : decode code 1085 = .ok (.iaload, 1) := by decide +kernel
theorem d_1086 : decode code 1086 = .ok (.aload_n 0, 1) := by decide +kernel
theorem d_1087 : decode code 1087 = .ok (.iload 4, 2) := by decide +kernel
theorem d_1089 : decode code 1089 = .ok (.iconst 4, 1) := by decide +kernel
theorem d_1090 : decode code 1090 = .ok (.iadd, 1) := by decide +kernel
theorem d_1091 : decode code 1091 = .ok (.iaload, 1) := by decide +kernel
theorem d_1092 : decode code 1092 = .ok (.aload_n 0, 1) := by decide +kernel
theorem d_1093 : decode code 1093 = .ok (.iload 4, 2) := by decide +kernel
theorem d_1095 : decode code 1095 = .ok (.iconst 5, 1) := by decide +kernel
theorem d_1096 : decode code 1096 = .ok (.iadd, 1) := by decide +kernel
theorem d_1097 : decode code 1097 = .ok (.iaload, 1) := by decide +kernel
theorem d_1098 : decode code 1098 = .ok (.invokevirtual 134, 3) := by decide +kernel
theorem w_2886 : (Cond.code ({ cls := "NumberHouseModel", name := "quotient", desc := "(IIIII)V" } : MethodName) prog_14_method_26_code (6 : Nat) (none : Option ClassFile.FieldType)) ∈ q_tbl := q_of 2886 (by decide +kernel) (by decide +kernel)
theorem w_2883 : (Cond.methodLink "NumberHouseLaw" (134 : Nat) ({ cls := "NumberHouseModel", name := "quotient", desc := "(IIIII)V" } : MethodName)) ∈ q_tbl := q_of 2883 (by decide +kernel) (by decide +kernel)
theorem w_2884 : (Cond.instanceMethod ({ cls := "NumberHouseModel", name := "quotient", desc := "(IIIII)V" } : MethodName)) ∈ q_tbl := q_of 2884 (by decide +kernel) (by decide +kernel)
theorem w_2885 : (Cond.selects "NumberHouseModel" ({ cls := "NumberHouseModel", name := "quotient", desc := "(IIIII)V" } : MethodName) ({ cls := "NumberHouseModel", name := "quotient", desc := "(IIIII)V" } : MethodName)) ∈ q_tbl := q_of 2885 (by decide +kernel) (by decide +kernel)
theorem LV_NL_134 : q_LV "NumberHouseLaw" 134 y_NM_quotient prog_14_method_26_code 6 none 5 := ⟨w_2886, w_14, w_2883, w_2884, w_2885, ⟨by decide, by decide, by decide +kernel⟩⟩
theorem d_1101 : decode code 1101 = .ok (.aload_n 2, 1) := by decide +kernel
theorem d_1102 : decode code 1102 = .ok (.invokevirtual 91, 3) := by decide +kernel
theorem d_1105 : decode code 1105 = .ok (.iload 5, 2) := by decide +kernel
theorem d_1107 : decode code 1107 = .ok (.if_icmp .eq 5, 3) := by decide +kernel
theorem d_1112 : decode code 1112 = .ok (.goto 497, 3) := by decide +kernel
set_option maxRecDepth 100000 in
set_option maxHeartbeats 4000000 in
theorem law_k12 {p : Program} {l : Launch} {e : Env} {s : State} {m : MethodId} {below : List Frame} {meth : Method} {c : Code} {b : Nat} {xs : Nat → Int32} {D : va_G} {g : Nat → ClassId} {A : Nat → Prop} {ws : va_W} {H : Heap} {locs : List Loc} {Q : State → Prop} {ls : Array Slot} {q q2 : Nat → Nat} {qo : Nat} (hlt : l.stackTraces = false) (C0 : q_At p s m #[Value.ref b] meth c y_NL_law code 8 (some .boolean)) (hX : va_X b 6 xs s s.heap) (hbl : b < s.heap.size) (hbA : ¬ A b) (V : q_Wd D g A s ws H locs) (hfl : q_fl ws 0 (nh_w g q)) (hfm : q_fl ws 116 (nm_w g q2)) (hO : ws[169]? = (some (qo, .inl (g 1, 1, .inr (.inl (fun _ => 0)))) : Option (Nat × va_E))) (hl : lv_has ls 8 [(4, .int 0), (3, .ref qo), (2, .ref (q2 0)), (1, .ref (q 0)), (0, .ref b)]) (kend : ∀ (H : Heap) (locs : List Loc) (u : va_W) (ls : Array Slot), q_Wd D g A s u H locs → lv_has ls 8 [(4, .int 0), (0, .ref b)] → W p l e room_1 s m #[Value.ref b] below meth c H locs 300 300000 Q (F0 m 1609 ls [])) : W p l e room_1 s m #[Value.ref b] below meth c H locs 200 200000 Q (F0 m 1031 ls []) := by
  have hx := C0.1
  have hb := C0.2.1
  obtain ⟨s1, hs1⟩ : ∃ z : Int32, xs ((1 : Int32).toNatClampNeg) = z := ⟨_, rfl⟩
  obtain ⟨s2, hs2⟩ : ∃ z : Int32, xs ((2 : Int32).toNatClampNeg) = z := ⟨_, rfl⟩
  obtain ⟨s3, hs3⟩ : ∃ z : Int32, xs ((3 : Int32).toNatClampNeg) = z := ⟨_, rfl⟩
  obtain ⟨s4, hs4⟩ : ∃ z : Int32, xs ((4 : Int32).toNatClampNeg) = z := ⟨_, rfl⟩
  obtain ⟨s5, hs5⟩ : ∃ z : Int32, xs ((5 : Int32).toNatClampNeg) = z := ⟨_, rfl⟩
  refine lv_aload_n hx hb d_1031 rfl (lv_at hl 3 rfl) ?_
  refine lv_aload_n hx hb d_1032 rfl (lv_at hl 4 rfl) ?_
  refine lv_iload hx hb d_1033 (lv_at hl 0 rfl) ?_
  refine lv_iconst (v := 1) hx hb d_1035 (by decide) ?_
  refine lv_iadd hx hb d_1036 ?_
  refine q_ti (v := 1) (by decide) ?_
  refine va_sld hx hb hX hbl hbA V.2.2.1 (by unfold vp_in; decide) d_1037 ?_
  refine q_ti (v := s1) hs1 ?_
  refine lv_aload_n hx hb d_1038 rfl (lv_at hl 4 rfl) ?_
  refine lv_iload hx hb d_1039 (lv_at hl 0 rfl) ?_
  refine lv_iconst (v := 2) hx hb d_1041 (by decide) ?_
  refine lv_iadd hx hb d_1042 ?_
  refine q_ti (v := 2) (by decide) ?_
  refine va_sld hx hb hX hbl hbA V.2.2.1 (by unfold vp_in; decide) d_1043 ?_
  refine q_ti (v := s2) hs2 ?_
  refine lv_aload_n hx hb d_1044 rfl (lv_at hl 4 rfl) ?_
  refine lv_iload hx hb d_1045 (lv_at hl 0 rfl) ?_
  refine lv_iconst (v := 3) hx hb d_1047 (by decide) ?_
  refine lv_iadd hx hb d_1048 ?_
  refine q_ti (v := 3) (by decide) ?_
  refine va_sld hx hb hX hbl hbA V.2.2.1 (by unfold vp_in; decide) d_1049 ?_
  refine q_ti (v := s3) hs3 ?_
  refine lv_aload_n hx hb d_1050 rfl (lv_at hl 4 rfl) ?_
  refine lv_iload hx hb d_1051 (lv_at hl 0 rfl) ?_
  refine lv_iconst (v := 4) hx hb d_1053 (by decide) ?_
  refine lv_iadd hx hb d_1054 ?_
  refine q_ti (v := 4) (by decide) ?_
  refine va_sld hx hb hX hbl hbA V.2.2.1 (by unfold vp_in; decide) d_1055 ?_
  refine q_ti (v := s4) hs4 ?_
  refine lv_aload_n hx hb d_1056 rfl (lv_at hl 4 rfl) ?_
  refine lv_iload hx hb d_1057 (lv_at hl 0 rfl) ?_
  refine lv_iconst (v := 5) hx hb d_1059 (by decide) ?_
  refine lv_iadd hx hb d_1060 ?_
  refine q_ti (v := 5) (by decide) ?_
  refine va_sld hx hb hX hbl hbA V.2.2.1 (by unfold vp_in; decide) d_1061 ?_
  refine q_ti (v := s5) hs5 ?_
  refine q_goi V (q_runSW (As := [.ref (q 0), .int s1, .int s2, .int s3, .int s4, .int s5]) (rest := []) (d := 9) (mc := 3) (ms := 18) C0 V rfl LW_NL_132 (c_NL_quotient l D g ws hlt q s1 s2 s3 s4 s5 hfl _) rfl hl.1 rfl (Nat.le_of_ble_eq_true rfl) ⟨by decide, by decide⟩ ⟨Nat.le_of_ble_eq_true rfl, Nat.le_of_ble_eq_true rfl⟩ d_1062) (fun k1 u1 H locs hp V => ?_)
  obtain ⟨hk, hF⟩ := hp
  have hfm : q_fl u1 116 (nm_w g q2) := q_flG hF hfm
  have hO : u1[169]? = _ := (hF 169 (Nat.le_of_ble_eq_true rfl)).trans hO
  replace hO : u1[169]? = (some (qo, .inl (g 1, 1, .inr (.inl (fun _ => 0)))) : Option (Nat × va_E)) := hO
  refine lv_istore (lv' := [(5, .int k1), (4, .int 0), (3, .ref qo), (2, .ref (q2 0)), (1, .ref (q 0)), (0, .ref b)]) hx hb d_1065 hl (by decide) rfl (fun ls hl => ?_)
  refine lv_aload_n hx hb d_1067 rfl (lv_at hl 3 rfl) ?_
  refine lv_aload_n hx hb d_1068 rfl (lv_at hl 5 rfl) ?_
  refine lv_iload hx hb d_1069 (lv_at hl 1 rfl) ?_
  refine lv_iconst (v := 1) hx hb d_1071 (by decide) ?_
  refine lv_iadd hx hb d_1072 ?_
  refine q_ti (v := 1) (by decide) ?_
  refine va_sld hx hb hX hbl hbA V.2.2.1 (by unfold vp_in; decide) d_1073 ?_
  refine q_ti (v := s1) hs1 ?_
  refine lv_aload_n hx hb d_1074 rfl (lv_at hl 5 rfl) ?_
  refine lv_iload hx hb d_1075 (lv_at hl 1 rfl) ?_
  refine lv_iconst (v := 2) hx hb d_1077 (by decide) ?_
  refine lv_iadd hx hb d_1078 ?_
  refine q_ti (v := 2) (by decide) ?_
  refine va_sld hx hb hX hbl hbA V.2.2.1 (by unfold vp_in; decide) d_1079 ?_
  refine q_ti (v := s2) hs2 ?_
  refine lv_aload_n hx hb d_1080 rfl (lv_at hl 5 rfl) ?_
  refine lv_iload hx hb d_1081 (lv_at hl 1 rfl) ?_
  refine lv_iconst (v := 3) hx hb d_1083 (by decide) ?_
  refine lv_iadd hx hb d_1084 ?_
  refine q_ti (v := 3) (by decide) ?_
  refine va_sld hx hb hX hbl hbA V.2.2.1 (by unfold vp_in; decide) d_1085 ?_
  refine q_ti (v := s3) hs3 ?_
  refine lv_aload_n hx hb d_1086 rfl (lv_at hl 5 rfl) ?_
  refine lv_iload hx hb d_1087 (lv_at hl 1 rfl) ?_
  refine lv_iconst (v := 4) hx hb d_1089 (by decide) ?_
  refine lv_iadd hx hb d_1090 ?_
  refine q_ti (v := 4) (by decide) ?_
  refine va_sld hx hb hX hbl hbA V.2.2.1 (by unfold vp_in; decide) d_1091 ?_
  refine q_ti (v := s4) hs4 ?_
  refine lv_aload_n hx hb d_1092 rfl (lv_at hl 5 rfl) ?_
  refine lv_iload hx hb d_1093 (lv_at hl 1 rfl) ?_
  refine lv_iconst (v := 5) hx hb d_1095 (by decide) ?_
  refine lv_iadd hx hb d_1096 ?_
  refine q_ti (v := 5) (by decide) ?_
  refine va_sld hx hb hX hbl hbA V.2.2.1 (by unfold vp_in; decide) d_1097 ?_
  refine q_ti (v := s5) hs5 ?_
  have hP116 : u1[116]? = (some (q2 0, .inr (12, [.int 0, .ref (q2 1), .int 0, .ref (q2 2), .int 0, .ref (q2 3), .ref (q2 18), .ref (q2 29), .ref (q2 37), .ref (q2 41), .ref (q2 51), .ref (q2 52)])) : Option (Nat × va_E)) := q_fa (i := 0) hfm rfl
  have hP134 : u1[134]? = (some (q2 18, .inr (14, [.int 0, .ref (q2 19), .int 0, .ref (q2 20), .ref (q2 21), .ref (q2 22), .ref (q2 23), .ref (q2 24), .int 0, .long 0, .int 0, .int 0, .ref (q2 25), .int 0, .ref (q2 26), .int 0, .ref (q2 27), .int 0, .ref (q2 28), .int 0, .int 0])) : Option (Nat × va_E)) := q_fa (i := 18) hfm rfl
  have hP136 : u1[136]? = (some (q2 20, .inl (g 0, 10000, .inl (fun _ => 0))) : Option (Nat × va_E)) := q_fa (i := 20) hfm rfl
  refine q_gov V (q_runV (As := [.int s1, .int s2, .int s3, .int s4, .int s5]) (rest := []) (d := 3) (mc := 0) (ms := 0) (ci := 12) C0 V rfl LV_NL_134 (c_NM_quotient l D g u1 (q2 0) (q2 1) (q2 2) (q2 3) (q2 18) (q2 29) (q2 37) (q2 41) (q2 51) (q2 52) (q2 19) (q2 20) (q2 21) (q2 22) (q2 23) (q2 24) (q2 25) (q2 26) (q2 27) (q2 28) s1 s2 s3 s4 s5 hP116 hP134 hP136 _) rfl rfl hP116 rfl hl.1 rfl (Nat.le_of_ble_eq_true rfl) ⟨by decide, by decide⟩ ⟨Nat.le_of_ble_eq_true rfl, Nat.le_of_ble_eq_true rfl⟩ d_1098) (fun u2 H locs hp V => ?_)
  obtain ⟨t0, z2, z4, hM, hr, hG⟩ := hp
  replace hM : u2[116]? = (some (q2 0, .inr (12, [.int t0, .ref (q2 1), .int z2, .ref (q2 2), .int z4, .ref (q2 3), .ref (q2 18), .ref (q2 29), .ref (q2 37), .ref (q2 41), .ref (q2 51), .ref (q2 52)])) : Option (Nat × va_E)) := hM
  replace hO := (hG 169 (Nat.le_refl _)).trans hO
  replace hO : u2[169]? = (some (qo, .inl (g 1, 1, .inr (.inl (fun _ => 0)))) : Option (Nat × va_E)) := hO
  rcases hk with ⟨ek, hk⟩ | ⟨ek, hk⟩ | ⟨ek, hk⟩
  ·
    obtain rfl : k1 = 0 := q_Ieq (x := k1.toInt) (y := 0) rfl (by decide) ek
    obtain rfl : t0 = 0 := q_Ieq (x := t0.toInt) (y := 0) rfl (by decide) (by omega)
    refine lv_aload_n hx hb d_1101 rfl (lv_at hl 3 rfl) ?_
    refine q_goi V (q_runV (As := []) (rest := []) (d := 1) (mc := 0) (ms := 0) (ci := 12) C0 V rfl LV_NL_91 (c_NM_thrown l D g u2 (q2 0) 0 (q2 1) z2 (q2 2) z4 (q2 3) (q2 18) (q2 29) (q2 37) (q2 41) (q2 51) (q2 52) hM _) rfl rfl hM rfl hl.1 rfl (Nat.le_of_ble_eq_true rfl) ⟨by decide, by decide⟩ ⟨Nat.le_of_ble_eq_true rfl, Nat.le_of_ble_eq_true rfl⟩ d_1102) (fun v9 u9 H locs hp V => ?_)
    obtain ⟨rfl, rfl⟩ := hp
    refine lv_iload hx hb d_1105 (lv_at hl 0 rfl) ?_
    refine lv_icmp_eq (tgt := 1112) hx hb d_1107 (by decide) (fun c1 => ?_) (fun c1 => absurd (by decide) c1)
    refine lv_goto (tgt := 1609) hx hb d_1112 (by decide) ?_
    refine W.widen (k := 300) (n := 300000) (Nat.le_of_ble_eq_true rfl) (Nat.le_of_ble_eq_true rfl) ?_
    exact kend _ _ _ _ V (q_lw hl (q_lw1 1 rfl (q_lw1 5 rfl q_lw0)))
  ·
    obtain rfl : k1 = 1 := q_Ieq (x := k1.toInt) (y := 1) rfl (by decide) ek
    obtain rfl : t0 = 1 := q_Ieq (x := t0.toInt) (y := 1) rfl (by decide) (by omega)
    refine lv_aload_n hx hb d_1101 rfl (lv_at hl 3 rfl) ?_
    refine q_goi V (q_runV (As := []) (rest := []) (d := 1) (mc := 0) (ms := 0) (ci := 12) C0 V rfl LV_NL_91 (c_NM_thrown l D g u2 (q2 0) 1 (q2 1) z2 (q2 2) z4 (q2 3) (q2 18) (q2 29) (q2 37) (q2 41) (q2 51) (q2 52) hM _) rfl rfl hM rfl hl.1 rfl (Nat.le_of_ble_eq_true rfl) ⟨by decide, by decide⟩ ⟨Nat.le_of_ble_eq_true rfl, Nat.le_of_ble_eq_true rfl⟩ d_1102) (fun v9 u9 H locs hp V => ?_)
    obtain ⟨rfl, rfl⟩ := hp
    refine lv_iload hx hb d_1105 (lv_at hl 0 rfl) ?_
    refine lv_icmp_eq (tgt := 1112) hx hb d_1107 (by decide) (fun c2 => ?_) (fun c2 => absurd (by decide) c2)
    refine lv_goto (tgt := 1609) hx hb d_1112 (by decide) ?_
    refine W.widen (k := 300) (n := 300000) (Nat.le_of_ble_eq_true rfl) (Nat.le_of_ble_eq_true rfl) ?_
    exact kend _ _ _ _ V (q_lw hl (q_lw1 1 rfl (q_lw1 5 rfl q_lw0)))
  ·
    obtain rfl : k1 = 2 := q_Ieq (x := k1.toInt) (y := 2) rfl (by decide) ek
    obtain rfl : t0 = 2 := q_Ieq (x := t0.toInt) (y := 2) rfl (by decide) (by omega)
    refine lv_aload_n hx hb d_1101 rfl (lv_at hl 3 rfl) ?_
    refine q_goi V (q_runV (As := []) (rest := []) (d := 1) (mc := 0) (ms := 0) (ci := 12) C0 V rfl LV_NL_91 (c_NM_thrown l D g u2 (q2 0) 2 (q2 1) z2 (q2 2) z4 (q2 3) (q2 18) (q2 29) (q2 37) (q2 41) (q2 51) (q2 52) hM _) rfl rfl hM rfl hl.1 rfl (Nat.le_of_ble_eq_true rfl) ⟨by decide, by decide⟩ ⟨Nat.le_of_ble_eq_true rfl, Nat.le_of_ble_eq_true rfl⟩ d_1102) (fun v9 u9 H locs hp V => ?_)
    obtain ⟨rfl, rfl⟩ := hp
    refine lv_iload hx hb d_1105 (lv_at hl 0 rfl) ?_
    refine lv_icmp_eq (tgt := 1112) hx hb d_1107 (by decide) (fun c3 => ?_) (fun c3 => absurd (by decide) c3)
    refine lv_goto (tgt := 1609) hx hb d_1112 (by decide) ?_
    refine W.widen (k := 300) (n := 300000) (Nat.le_of_ble_eq_true rfl) (Nat.le_of_ble_eq_true rfl) ?_
    exact kend _ _ _ _ V (q_lw hl (q_lw1 1 rfl (q_lw1 5 rfl q_lw0)))
