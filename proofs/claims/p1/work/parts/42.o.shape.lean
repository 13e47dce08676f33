/-! the law, case 13: shape -/
theorem d_1115 : decode code 1115 = .ok (.aload_n 1, 1) := by decide +kernel
theorem d_1116 : decode code 1116 = .ok (.aload_n 0, 1) := by decide +kernel
theorem d_1117 : decode code 1117 = .ok (.iload 4, 2) := by decide +kernel
theorem d_1119 : decode code 1119 = .ok (.iconst 1, 1) := by decide +kernel
theorem d_1120 : decode code 1120 = .ok (.iadd, 1) := by decide +kernel
theorem d_1121 : decode code 1121 = .ok (.iaload, 1) := by decide +kernel
theorem d_1122 : decode code 1122 = .ok (.aload_n 0, 1) := by decide +kernel
theorem d_1123 : decode code 1123 = .ok (.iload 4, 2) := by decide +kernel
theorem d_1125 : decode code 1125 = .ok (.iconst 2, 1) := by decide +kernel
theorem d_1126 : decode code 1126 = .ok (.iadd, 1) := by decide +kernel
theorem d_1127 : decode code 1127 = .ok (.iaload, 1) := by decide +kernel
theorem d_1128 : decode code 1128 = .ok (.aload_n 0, 1) := by decide +kernel
theorem d_1129 : decode code 1129 = .ok (.iload 4, 2) := by decide +kernel
theorem d_1131 : decode code 1131 = .ok (.iconst 3, 1) := by decide +kernel
theorem d_1132 : decode code 1132 = .ok (.iadd, 1) := by decide +kernel
theorem d_1133 : decode code 1133 = .ok (.iaload, 1) := by decide +kernel
theorem d_1134 : decode code 1134 = .ok (.aload_n 0, 1) := by decide +kernel
theorem d_1135 : decode code 1135 = .ok (.iload 4, 2) := by decide +kernel
theorem d_1137 : decode code 1137 = .ok (.iconst 4, 1) := by decide +kernel
theorem d_1138 : decode code 1138 = .ok (.iadd, 1) := by decide +kernel
theorem d_1139 : decode code 1139 = .ok (.iaload, 1) := by decide +kernel
theorem d_1140 : decode code 1140 = .ok (.aload_n 0, 1) := by decide +kernel
theorem d_1141 : decode code 1141 = .ok (.iload 4, 2) := by decide +kernel
theorem d_1143 : decode code 1143 = .ok (.iconst 5, 1) := by decide +kernel
theorem d_1144 : decode code 1144 = .ok (.iadd, 1) := by decide +kernel
theorem d_1145 : decode code 1145 = .ok (.iaload, 1) := by decide +kernel
theorem d_1146 : decode code 1146 = .ok (.invokestatic 135, 3) := by decide +kernel
theorem w_1475 : (Cond.codeWith ({ cls := "NumberHouseLaw", name := "shape", desc := "(LNumberHouse;IIIII)I" } : MethodName) method_15_code (7 : Nat) (some .int) [((0 : Nat), (11 : Nat), (14 : Nat), (13 : Nat)), ((0 : Nat), (11 : Nat), (18 : Nat), (19 : Nat))]) ∈ q_tbl := q_of 1475 (by decide +kernel) (by decide +kernel)
theorem w_1473 : (Cond.methodLink "NumberHouseLaw" (135 : Nat) ({ cls := "NumberHouseLaw", name := "shape", desc := "(LNumberHouse;IIIII)I" } : MethodName)) ∈ q_tbl := q_of 1473 (by decide +kernel) (by decide +kernel)
theorem w_1474 : (Cond.static ({ cls := "NumberHouseLaw", name := "shape", desc := "(LNumberHouse;IIIII)I" } : MethodName)) ∈ q_tbl := q_of 1474 (by decide +kernel) (by decide +kernel)
theorem LW_NL_135 : q_LW "NumberHouseLaw" 135 y_NL_shape method_15_code 7 (some .int) [(0, 11, 14, 13), (0, 11, 18, 19)] 6 := ⟨w_1475, w_0, w_1473, w_1474, ⟨by decide, by decide, by decide +kernel⟩⟩
theorem d_1149 : decode code 1149 = .ok (.istore 5, 2) := by decide +kernel
theorem d_1151 : decode code 1151 = .ok (.aload_n 2, 1) := by decide +kernel
theorem d_1152 : decode code 1152 = .ok (.aload_n 0, 1) := by decide +kernel
theorem d_1153 : decode code 1153 = .ok (.iload 4, 2) := by decide +kernel
theorem d_1155 : decode code 1155 = .ok (.iconst 1, 1) := by decide +kernel
theorem d_1156 : decode code 1156 = .ok (.iadd, 1) := by decide +kernel
theorem d_1157 : decode code 1157 = .ok (.iaload, 1) := by decide +kernel
theorem d_1158 : decode code 1158 = .ok (.aload_n 0, 1) := by decide +kernel
theorem d_1159 : decode code 1159 = .ok (.iload 4, 2) := by decide +kernel
theorem d_1161 : decode code 1161 = .ok (.iconst 2, 1) := by decide +kernel
theorem d_1162 : decode code 1162 = .ok (.iadd, 1) := by decide +kernel
theorem d_1163 : decode code 1163 = .ok (.iaload, 1) := by decide +kernel
theorem d_1164 : decode code 1164 = .ok (.aload_n 0, 1) := by decide +kernel
theorem d_1165 : decode code 1165 = .ok (.iload 4, 2) := by decide +kernel
theorem d_1167 : decode code 1167 = .ok (.iconst 3, 1) := by decide +kernel
theorem d_1168 : decode code 1168 = .ok (.iadd, 1) := by decide +kernel
theorem d_1169 : decode code 1169 = .ok (.iaload, 1) := by decide +kernel
theorem d_1170 : decode code 1170 = .ok (.aload_n 0, 1) := by decide +kernel
theorem d_1171 : decode code 1171 = .ok (.iload 4, 2) := by decide +kernel
theorem d_1173 : decode code 1173 = .ok (.iconst 4, 1) := by decide +kernel
theorem d_1174 : decode code 1174 = .ok (.iadd, 1) := by decide +kernel
theorem d_1175 : decode code 1175 = .ok (.iaload, 1) := by decide +kernel
theorem d_1176 : decode code 1176 = .ok (.aload_n 0, 1) := by decide +kernel
theorem d_1177 : decode code 1177 = .ok (.iload 4, 2) := by decide +kernel
theorem d_1179 : decode code 1179 = .ok (.iconst 5, 1) := by decide +kernel
theorem d_1180 : decode code 1180 = .ok (.iadd, 1) := by decide +kernel
theorem d_1181 : decode code 1181 = .ok (.iaload, 1) := by decide +kernel
theorem d_1182 : decode code 1182 = .ok (.invokevirtual 137, 3) := by decide +kernel
theorem w_2898 : (Cond.code ({ cls := "NumberHouseModel", name := "shape", desc := "(IIIII)V" } : MethodName) prog_14_method_27_code (6 : Nat) (none : Option ClassFile.FieldType)) ∈ q_tbl := q_of 2898 (by decide +kernel) (by decide +kernel)
theorem w_2895 : (Cond.methodLink "NumberHouseLaw" (137 : Nat) ({ cls := "NumberHouseModel", name := "shape", desc := "(IIIII)V" } : MethodName)) ∈ q_tbl := q_of 2895 (by decide +kernel) (by decide +kernel)
theorem w_2896 : (Cond.instanceMethod ({ cls := "NumberHouseModel", name := "shape", desc := "(IIIII)V" } : MethodName)) ∈ q_tbl := q_of 2896 (by decide +kernel) (by decide +kernel)
theorem w_2897 : (Cond.selects "NumberHouseModel" ({ cls := "NumberHouseModel", name := "shape", desc := "(IIIII)V" } : MethodName) ({ cls := "NumberHouseModel", name := "shape", desc := "(IIIII)V" } : MethodName)) ∈ q_tbl := q_of 2897 (by decide +kernel) (by decide +kernel)
theorem LV_NL_137 : q_LV "NumberHouseLaw" 137 y_NM_shape prog_14_method_27_code 6 none 5 := ⟨w_2898, w_14, w_2895, w_2896, w_2897, ⟨by decide, by decide, by decide +kernel⟩⟩
theorem d_1185 : decode code 1185 = .ok (.aload_n 2, 1) := by decide +kernel
theorem d_1186 : decode code 1186 = .ok (.invokevirtual 91, 3) := by decide +kernel
theorem d_1189 : decode code 1189 = .ok (.iload 5, 2) := by decide +kernel
theorem d_1191 : decode code 1191 = .ok (.if_icmp .eq 5, 3) := by decide +kernel
theorem d_1196 : decode code 1196 = .ok (.goto 413, 3) := by decide +kernel
set_option maxRecDepth 100000 in
set_option maxHeartbeats 4000000 in
theorem law_k13 {p : Program} {l : Launch} {e : Env} {s : State} {m : MethodId} {below : List Frame} {meth : Method} {c : Code} {b : Nat} {xs : Nat → Int32} {D : va_G} {g : Nat → ClassId} {A : Nat → Prop} {ws : va_W} {H : Heap} {locs : List Loc} {Q : State → Prop} {ls : Array Slot} {q q2 : Nat → Nat} {qo : Nat} (hlt : l.stackTraces = false) (C0 : q_At p s m #[Value.ref b] meth c y_NL_law code 8 (some .boolean)) (hX : va_X b 6 xs s s.heap) (hbl : b < s.heap.size) (hbA : ¬ A b) (V : q_Wd D g A s ws H locs) (hfl : q_fl ws 0 (nh_w g q)) (hfm : q_fl ws 116 (nm_w g q2)) (hO : ws[169]? = (some (qo, .inl (g 1, 1, .inr (.inl (fun _ => 0)))) : Option (Nat × va_E))) (hl : lv_has ls 8 [(4, .int 0), (3, .ref qo), (2, .ref (q2 0)), (1, .ref (q 0)), (0, .ref b)]) (kend : ∀ (H : Heap) (locs : List Loc) (u : va_W) (ls : Array Slot), q_Wd D g A s u H locs → lv_has ls 8 [(4, .int 0), (0, .ref b)] → W p l e room_1 s m #[Value.ref b] below meth c H locs 300 300000 Q (F0 m 1609 ls [])) : W p l e room_1 s m #[Value.ref b] below meth c H locs 200 200000 Q (F0 m 1115 ls []) := by
  have hx := C0.1
  have hb := C0.2.1
  obtain ⟨s1, hs1⟩ : ∃ z : Int32, xs ((1 : Int32).toNatClampNeg) = z := ⟨_, rfl⟩
  obtain ⟨s2, hs2⟩ : ∃ z : Int32, xs ((2 : Int32).toNatClampNeg) = z := ⟨_, rfl⟩
  obtain ⟨s3, hs3⟩ : ∃ z : Int32, xs ((3 : Int32).toNatClampNeg) = z := ⟨_, rfl⟩
  obtain ⟨s4, hs4⟩ : ∃ z : Int32, xs ((4 : Int32).toNatClampNeg) = z := ⟨_, rfl⟩
  obtain ⟨s5, hs5⟩ : ∃ z : Int32, xs ((5 : Int32).toNatClampNeg) = z := ⟨_, rfl⟩
  refine lv_aload_n hx hb d_1115 rfl (lv_at hl 3 rfl) ?_
  refine lv_aload_n hx hb d_1116 rfl (lv_at hl 4 rfl) ?_
  refine lv_iload hx hb d_1117 (lv_at hl 0 rfl) ?_
  refine lv_iconst (v := 1) hx hb d_1119 (by decide) ?_
  refine lv_iadd hx hb d_1120 ?_
  refine q_ti (v := 1) (by decide) ?_
  refine va_sld hx hb hX hbl hbA V.2.2.1 (by unfold vp_in; decide) d_1121 ?_
  refine q_ti (v := s1) hs1 ?_
  refine lv_aload_n hx hb d_1122 rfl (lv_at hl 4 rfl) ?_
  refine lv_iload hx hb d_1123 (lv_at hl 0 rfl) ?_
  refine lv_iconst (v := 2) hx hb d_1125 (by decide) ?_
  refine lv_iadd hx hb d_1126 ?_
  refine q_ti (v := 2) (by decide) ?_
  refine va_sld hx hb hX hbl hbA V.2.2.1 (by unfold vp_in; decide) d_1127 ?_
  refine q_ti (v := s2) hs2 ?_
  refine lv_aload_n hx hb d_1128 rfl (lv_at hl 4 rfl) ?_
  refine lv_iload hx hb d_1129 (lv_at hl 0 rfl) ?_
  refine lv_iconst (v := 3) hx hb d_1131 (by decide) ?_
  refine lv_iadd hx hb d_1132 ?_
  refine q_ti (v := 3) (by decide) ?_
  refine va_sld hx hb hX hbl hbA V.2.2.1 (by unfold vp_in; decide) d_1133 ?_
  refine q_ti (v := s3) hs3 ?_
  refine lv_aload_n hx hb d_1134 rfl (lv_at hl 4 rfl) ?_
  refine lv_iload hx hb d_1135 (lv_at hl 0 rfl) ?_
  refine lv_iconst (v := 4) hx hb d_1137 (by decide) ?_
  refine lv_iadd hx hb d_1138 ?_
  refine q_ti (v := 4) (by decide) ?_
  refine va_sld hx hb hX hbl hbA V.2.2.1 (by unfold vp_in; decide) d_1139 ?_
  refine q_ti (v := s4) hs4 ?_
  refine lv_aload_n hx hb d_1140 rfl (lv_at hl 4 rfl) ?_
  refine lv_iload hx hb d_1141 (lv_at hl 0 rfl) ?_
  refine lv_iconst (v := 5) hx hb d_1143 (by decide) ?_
  refine lv_iadd hx hb d_1144 ?_
  refine q_ti (v := 5) (by decide) ?_
  refine va_sld hx hb hX hbl hbA V.2.2.1 (by unfold vp_in; decide) d_1145 ?_
  refine q_ti (v := s5) hs5 ?_
  refine q_goi V (q_runSW (As := [.ref (q 0), .int s1, .int s2, .int s3, .int s4, .int s5]) (rest := []) (d := 10) (mc := 5) (ms := 30) C0 V rfl LW_NL_135 (c_NL_shape l D g ws hlt q s1 s2 s3 s4 s5 hfl _) rfl hl.1 rfl (Nat.le_of_ble_eq_true rfl) ⟨by decide, by decide⟩ ⟨Nat.le_of_ble_eq_true rfl, Nat.le_of_ble_eq_true rfl⟩ d_1146) (fun k1 u1 H locs hp V => ?_)
  obtain ⟨hk, hF⟩ := hp
  have hfm : q_fl u1 116 (nm_w g q2) := q_flG hF hfm
  have hO : u1[169]? = _ := (hF 169 (Nat.le_of_ble_eq_true rfl)).trans hO
  replace hO : u1[169]? = (some (qo, .inl (g 1, 1, .inr (.inl (fun _ => 0)))) : Option (Nat × va_E)) := hO
  refine lv_istore (lv' := [(5, .int k1), (4, .int 0), (3, .ref qo), (2, .ref (q2 0)), (1, .ref (q 0)), (0, .ref b)]) hx hb d_1149 hl (by decide) rfl (fun ls hl => ?_)
  refine lv_aload_n hx hb d_1151 rfl (lv_at hl 3 rfl) ?_
  refine lv_aload_n hx hb d_1152 rfl (lv_at hl 5 rfl) ?_
  refine lv_iload hx hb d_1153 (lv_at hl 1 rfl) ?_
  refine lv_iconst (v := 1) hx hb d_1155 (by decide) ?_
  refine lv_iadd hx hb d_1156 ?_
  refine q_ti (v := 1) (by decide) ?_
  refine va_sld hx hb hX hbl hbA V.2.2.1 (by unfold vp_in; decide) d_1157 ?_
  refine q_ti (v := s1) hs1 ?_
  refine lv_aload_n hx hb d_1158 rfl (lv_at hl 5 rfl) ?_
  refine lv_iload hx hb d_1159 (lv_at hl 1 rfl) ?_
  refine lv_iconst (v := 2) hx hb d_1161 (by decide) ?_
  refine lv_iadd hx hb d_1162 ?_
  refine q_ti (v := 2) (by decide) ?_
  refine va_sld hx hb hX hbl hbA V.2.2.1 (by unfold vp_in; decide) d_1163 ?_
  refine q_ti (v := s2) hs2 ?_
  refine lv_aload_n hx hb d_1164 rfl (lv_at hl 5 rfl) ?_
  refine lv_iload hx hb d_1165 (lv_at hl 1 rfl) ?_
  refine lv_iconst (v := 3) hx hb d_1167 (by decide) ?_
  refine lv_iadd hx hb d_1168 ?_
  refine q_ti (v := 3) (by decide) ?_
  refine va_sld hx hb hX hbl hbA V.2.2.1 (by unfold vp_in; decide) d_1169 ?_
  refine q_ti (v := s3) hs3 ?_
  refine lv_aload_n hx hb d_1170 rfl (lv_at hl 5 rfl) ?_
  refine lv_iload hx hb d_1171 (lv_at hl 1 rfl) ?_
  refine lv_iconst (v := 4) hx hb d_1173 (by decide) ?_
  refine lv_iadd hx hb d_1174 ?_
  refine q_ti (v := 4) (by decide) ?_
  refine va_sld hx hb hX hbl hbA V.2.2.1 (by unfold vp_in; decide) d_1175 ?_
  refine q_ti (v := s4) hs4 ?_
  refine lv_aload_n hx hb d_1176 rfl (lv_at hl 5 rfl) ?_
  refine lv_iload hx hb d_1177 (lv_at hl 1 rfl) ?_
  refine lv_iconst (v := 5) hx hb d_1179 (by decide) ?_
  refine lv_iadd hx hb d_1180 ?_
  refine q_ti (v := 5) (by decide) ?_
  refine va_sld hx hb hX hbl hbA V.2.2.1 (by unfold vp_in; decide) d_1181 ?_
  refine q_ti (v := s5) hs5 ?_
  have hP116 : u1[116]? = (some (q2 0, .inr (12, [.int 0, .ref (q2 1), .int 0, .ref (q2 2), .int 0, .ref (q2 3), .ref (q2 18), .ref (q2 29), .ref (q2 37), .ref (q2 41), .ref (q2 51), .ref (q2 52)])) : Option (Nat × va_E)) := q_fa (i := 0) hfm rfl
  have hP134 : u1[134]? = (some (q2 18, .inr (14, [.int 0, .ref (q2 19), .int 0, .ref (q2 20), .ref (q2 21), .ref (q2 22), .ref (q2 23), .ref (q2 24), .int 0, .long 0, .int 0, .int 0, .ref (q2 25), .int 0, .ref (q2 26), .int 0, .ref (q2 27), .int 0, .ref (q2 28), .int 0, .int 0])) : Option (Nat × va_E)) := q_fa (i := 18) hfm rfl
  have hP136 : u1[136]? = (some (q2 20, .inl (g 0, 10000, .inl (fun _ => 0))) : Option (Nat × va_E)) := q_fa (i := 20) hfm rfl
  have hP137 : u1[137]? = (some (q2 21, .inl (g 0, 10, .inl (upd (upd (upd (upd (upd (upd (upd (upd (upd (upd (fun _ => 0) 0 1) 1 1) 2 1) 3 1) 4 1) 5 1) 6 1) 7 1) 8 1) 9 1))) : Option (Nat × va_E)) := q_fa (i := 21) hfm rfl
  have hP138 : u1[138]? = (some (q2 22, .inl (g 3, 10, .inl (fun _ => 0))) : Option (Nat × va_E)) := q_fa (i := 22) hfm rfl
  have hP139 : u1[139]? = (some (q2 23, .inl (g 0, 10, .inl (fun _ => 0))) : Option (Nat × va_E)) := q_fa (i := 23) hfm rfl
  have hP140 : u1[140]? = (some (q2 24, .inl (g 0, 4400, .inl (fun _ => 0))) : Option (Nat × va_E)) := q_fa (i := 24) hfm rfl
  refine q_gov V (q_runV (As := [.int s1, .int s2, .int s3, .int s4, .int s5]) (rest := []) (d := 5) (mc := 0) (ms := 0) (ci := 12) C0 V rfl LV_NL_137 (c_NM_shape l D g u1 (q2 0) (q2 1) (q2 2) (q2 3) (q2 18) (q2 29) (q2 37) (q2 41) (q2 51) (q2 52) (q2 19) (q2 20) (q2 21) (q2 22) (q2 23) (q2 24) (q2 25) (q2 26) (q2 27) (q2 28) s1 s2 s3 s4 s5 hP116 hP134 hP136 hP137 hP138 hP139 hP140 _) rfl rfl hP116 rfl hl.1 rfl (Nat.le_of_ble_eq_true rfl) ⟨by decide, by decide⟩ ⟨Nat.le_of_ble_eq_true rfl, Nat.le_of_ble_eq_true rfl⟩ d_1182) (fun u2 H locs hp V => ?_)
  obtain ⟨t0, z2, z4, hM, hr, hG⟩ := hp
  replace hM : u2[116]? = (some (q2 0, .inr (12, [.int t0, .ref (q2 1), .int z2, .ref (q2 2), .int z4, .ref (q2 3), .ref (q2 18), .ref (q2 29), .ref (q2 37), .ref (q2 41), .ref (q2 51), .ref (q2 52)])) : Option (Nat × va_E)) := hM
  replace hO := (hG 169 (Nat.le_refl _)).trans hO
  replace hO : u2[169]? = (some (qo, .inl (g 1, 1, .inr (.inl (fun _ => 0)))) : Option (Nat × va_E)) := hO
  rcases hk with ⟨ek, hk⟩ | ⟨ek, hk⟩
  ·
    obtain rfl : k1 = 0 := q_Ieq (x := k1.toInt) (y := 0) rfl (by decide) ek
    obtain rfl : t0 = 0 := q_Ieq (x := t0.toInt) (y := 0) rfl (by decide) (by omega)
    refine lv_aload_n hx hb d_1185 rfl (lv_at hl 3 rfl) ?_
    refine q_goi V (q_runV (As := []) (rest := []) (d := 1) (mc := 0) (ms := 0) (ci := 12) C0 V rfl LV_NL_91 (c_NM_thrown l D g u2 (q2 0) 0 (q2 1) z2 (q2 2) z4 (q2 3) (q2 18) (q2 29) (q2 37) (q2 41) (q2 51) (q2 52) hM _) rfl rfl hM rfl hl.1 rfl (Nat.le_of_ble_eq_true rfl) ⟨by decide, by decide⟩ ⟨Nat.le_of_ble_eq_true rfl, Nat.le_of_ble_eq_true rfl⟩ d_1186) (fun v9 u9 H locs hp V => ?_)
    obtain ⟨rfl, rfl⟩ := hp
    refine lv_iload hx hb d_1189 (lv_at hl 0 rfl) ?_
    refine lv_icmp_eq (tgt := 1196) hx hb d_1191 (by decide) (fun c1 => ?_) (fun c1 => absurd (by decide) c1)
    refine lv_goto (tgt := 1609) hx hb d_1196 (by decide) ?_
    refine W.widen (k := 300) (n := 300000) (Nat.le_of_ble_eq_true rfl) (Nat.le_of_ble_eq_true rfl) ?_
    exact kend _ _ _ _ V (q_lw hl (q_lw1 1 rfl (q_lw1 5 rfl q_lw0)))
  ·
    obtain rfl : k1 = 1 := q_Ieq (x := k1.toInt) (y := 1) rfl (by decide) ek
    obtain rfl : t0 = 1 := q_Ieq (x := t0.toInt) (y := 1) rfl (by decide) (by omega)
    refine lv_aload_n hx hb d_1185 rfl (lv_at hl 3 rfl) ?_
    refine q_goi V (q_runV (As := []) (rest := []) (d := 1) (mc := 0) (ms := 0) (ci := 12) C0 V rfl LV_NL_91 (c_NM_thrown l D g u2 (q2 0) 1 (q2 1) z2 (q2 2) z4 (q2 3) (q2 18) (q2 29) (q2 37) (q2 41) (q2 51) (q2 52) hM _) rfl rfl hM rfl hl.1 rfl (Nat.le_of_ble_eq_true rfl) ⟨by decide, by decide⟩ ⟨Nat.le_of_ble_eq_true rfl, Nat.le_of_ble_eq_true rfl⟩ d_1186) (fun v9 u9 H locs hp V => ?_)
    obtain ⟨rfl, rfl⟩ := hp
    refine lv_iload hx hb d_1189 (lv_at hl 0 rfl) ?_
    refine lv_icmp_eq (tgt := 1196) hx hb d_1191 (by decide) (fun c2 => ?_) (fun c2 => absurd (by decide) c2)
    refine lv_goto (tgt := 1609) hx hb d_1196 (by decide) ?_
    refine W.widen (k := 300) (n := 300000) (Nat.le_of_ble_eq_true rfl) (Nat.le_of_ble_eq_true rfl) ?_
    exact kend _ _ _ _ V (q_lw hl (q_lw1 1 rfl (q_lw1 5 rfl q_lw0)))
