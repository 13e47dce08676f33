/-! the law, case 14: convert -/
theorem d_1199 : decode code 1199 = .ok (.aload_n 1, 1) := by decide +kernel
theorem d_1200 : decode code 1200 = .ok (.aload_n 0, 1) := by decide +kernel
theorem d_1201 : decode code 1201 = .ok (.iload 4, 2) := by decide +kernel
theorem d_1203 : decode code 1203 = .ok (.iconst 1, 1) := by decide +kernel
theorem d_1204 : decode code 1204 = .ok (.iadd, 1) := by decide +kernel
theorem d_1205 : decode code 1205 = .ok (.iaload, 1) := by decide +kernel
theorem d_1206 : decode code 1206 = .ok (.aload_n 0, 1) := by decide +kernel
theorem d_1207 : decode code 1207 = .ok (.iload 4, 2) := by decide +kernel
theorem d_1209 : decode code 1209 = .ok (.iconst 2, 1) := by decide +kernel
theorem d_1210 : decode code 1210 = .ok (.iadd, 1) := by decide +kernel
theorem d_1211 : decode code 1211 = .ok (.iaload, 1) := by decide +kernel
theorem d_1212 : decode code 1212 = .ok (.aload_n 0, 1) := by decide +kernel
theorem d_1213 : decode code 1213 = .ok (.iload 4, 2) := by decide +kernel
theorem d_1215 : decode code 1215 = .ok (.iconst 3, 1) := by decide +kernel
theorem d_1216 : decode code 1216 = .ok (.iadd, 1) := by decide +kernel
theorem d_1217 : decode code 1217 = .ok (.iaload, 1) := by decide +kernel
theorem d_1218 : decode code 1218 = .ok (.aload_n 0, 1) := by decide +kernel
theorem d_1219 : decode code 1219 = .ok (.iload 4, 2) := by decide +kernel
theorem d_1221 : decode code 1221 = .ok (.iconst 4, 1) := by decide +kernel
theorem d_1222 : decode code 1222 = .ok (.iadd, 1) := by decide +kernel
theorem d_1223 : decode code 1223 = .ok (.iaload, 1) := by decide +kernel
theorem d_1224 : decode code 1224 = .ok (.invokestatic 138, 3) := by decide +kernel
theorem w_1491 : (Cond.codeWith ({ cls := "NumberHouseLaw", name := "convert", desc := "(LNumberHouse;IIII)I" } : MethodName) method_16_code (6 : Nat) (some .int) [((0 : Nat), (9 : Nat), (12 : Nat), (13 : Nat)), ((0 : Nat), (9 : Nat), (16 : Nat), (19 : Nat))]) ∈ q_tbl := q_of 1491 (by decide +kernel) (by decide +kernel)
theorem w_1489 : (Cond.methodLink "NumberHouseLaw" (138 : Nat) ({ cls := "NumberHouseLaw", name := "convert", desc := "(LNumberHouse;IIII)I" } : MethodName)) ∈ q_tbl := q_of 1489 (by decide +kernel) (by decide +kernel)
theorem w_1490 : (Cond.static ({ cls := "NumberHouseLaw", name := "convert", desc := "(LNumberHouse;IIII)I" } : MethodName)) ∈ q_tbl := q_of 1490 (by decide +kernel) (by decide +kernel)
theorem LW_NL_138 : q_LW "NumberHouseLaw" 138 y_NL_convert method_16_code 6 (some .int) [(0, 9, 12, 13), (0, 9, 16, 19)] 5 := ⟨w_1491, w_0, w_1489, w_1490, ⟨by decide, by decide, by decide +kernel⟩⟩
theorem d_1227 : decode code 1227 = .ok (.istore 5, 2) := by decide +kernel
theorem d_1229 : decode code 1229 = .ok (.aload_n 2, 1) := by decide +kernel
theorem d_1230 : decode code 1230 = .ok (.aload_n 0, 1) := by decide +kernel
theorem d_1231 : decode code 1231 = .ok (.iload 4, 2) := by decide +kernel
theorem d_1233 : decode code 1233 = .ok (.iconst 1, 1) := by decide +kernel
theorem d_1234 : decode code 1234 = .ok (.iadd, 1) := by decide +kernel
theorem d_1235 : decode code 1235 = .ok (.iaload, 1) := by decide +kernel
theorem d_1236 : decode code 1236 = .ok (.aload_n 0, 1) := by decide +kernel
theorem d_1237 : decode code 1237 = .ok (.iload 4, 2) := by decide +kernel
theorem d_1239 : decode code 1239 = .ok (.iconst 2, 1) := by decide +kernel
theorem d_1240 : decode code 1240 = .ok (.iadd, 1) := by decide +kernel
theorem d_1241 : decode code 1241 = .ok (.iaload, 1) := by decide +kernel
theorem d_1242 : decode code 1242 = .ok (.aload_n 0, 1) := by decide +kernel
theorem d_1243 : decode code 1243 = .ok (.iload 4, 2) := by decide +kernel
theorem d_1245 : decode code 1245 = .ok (.iconst 3, 1) := by decide +kernel
theorem d_1246 : decode code 1246 = .ok (.iadd, 1) := by decide +kernel
theorem d_1247 : decode code 1247 = .ok (.iaload, 1) := by decide +kernel
theorem d_1248 : decode code 1248 = .ok (.aload_n 0, 1) := by decide +kernel
theorem d_1249 : decode code 1249 = .ok (.iload 4, 2) := by decide +kernel
theorem d_1251 : decode code 1251 = .ok (.iconst 4, 1) := by decide +kernel
theorem d_1252 : decode code 1252 = .ok (.iadd, 1) := by decide +kernel
theorem d_1253 : decode code 1253 = .ok (.iaload, 1) := by decide +kernel
theorem d_1254 : decode code 1254 = .ok (.invokevirtual 140, 3) := by decide +kernel
theorem w_2922 : (Cond.code ({ cls := "NumberHouseModel", name := "convert", desc := "(IIII)V" } : MethodName) prog_14_method_32_code (5 : Nat) (none : Option ClassFile.FieldType)) ∈ q_tbl := q_of 2922 (by decide +kernel) (by decide +kernel)
theorem w_2919 : (Cond.methodLink "NumberHouseLaw" (140 : Nat) ({ cls := "NumberHouseModel", name := "convert", desc := "(IIII)V" } : MethodName)) ∈ q_tbl := q_of 2919 (by decide +kernel) (by decide +kernel)
theorem w_2920 : (Cond.instanceMethod ({ cls := "NumberHouseModel", name := "convert", desc := "(IIII)V" } : MethodName)) ∈ q_tbl := q_of 2920 (by decide +kernel) (by decide +kernel)
theorem w_2921 : (Cond.selects "NumberHouseModel" ({ cls := "NumberHouseModel", name := "convert", desc := "(IIII)V" } : MethodName) ({ cls := "NumberHouseModel", name := "convert", desc := "(IIII)V" } : MethodName)) ∈ q_tbl := q_of 2921 (by decide +kernel) (by decide +kernel)
theorem LV_NL_140 : q_LV "NumberHouseLaw" 140 y_NM_convert prog_14_method_32_code 5 none 4 := ⟨w_2922, w_14, w_2919, w_2920, w_2921, ⟨by decide, by decide, by decide +kernel⟩⟩
theorem d_1257 : decode code 1257 = .ok (.aload_n 2, 1) := by decide +kernel
theorem d_1258 : decode code 1258 = .ok (.invokevirtual 91, 3) := by decide +kernel
theorem d_1261 : decode code 1261 = .ok (.iload 5, 2) := by decide +kernel
theorem d_1263 : decode code 1263 = .ok (.if_icmp .eq 5, 3) := by decide +kernel
theorem d_1268 : decode code 1268 = .ok (.goto 341, 3) := by decide +kernel
set_option maxRecDepth 100000 in
set_option maxHeartbeats 4000000 in
theorem law_k14 {p : Program} {l : Launch} {e : Env} {s : State} {m : MethodId} {below : List Frame} {meth : Method} {c : Code} {b : Nat} {xs : Nat → Int32} {D : va_G} {g : Nat → ClassId} {A : Nat → Prop} {ws : va_W} {H : Heap} {locs : List Loc} {Q : State → Prop} {ls : Array Slot} {q q2 : Nat → Nat} {qo : Nat} (hlt : l.stackTraces = false) (C0 : q_At p s m #[Value.ref b] meth c y_NL_law code 8 (some .boolean)) (hX : va_X b 6 xs s s.heap) (hbl : b < s.heap.size) (hbA : ¬ A b) (V : q_Wd D g A s ws H locs) (hfl : q_fl ws 0 (nh_w g q)) (hfm : q_fl ws 116 (nm_w g q2)) (hO : ws[169]? = (some (qo, .inl (g 1, 1, .inr (.inl (fun _ => 0)))) : Option (Nat × va_E))) (hl : lv_has ls 8 [(4, .int 0), (3, .ref qo), (2, .ref (q2 0)), (1, .ref (q 0)), (0, .ref b)]) (kend : ∀ (H : Heap) (locs : List Loc) (u : va_W) (ls : Array Slot), q_Wd D g A s u H locs → lv_has ls 8 [(4, .int 0), (0, .ref b)] → W p l e room_1 s m #[Value.ref b] below meth c H locs 300 300000 Q (F0 m 1609 ls [])) : W p l e room_1 s m #[Value.ref b] below meth c H locs 200 200000 Q (F0 m 1199 ls []) := by
  have hx := C0.1
  have hb := C0.2.1
  obtain ⟨s1, hs1⟩ : ∃ z : Int32, xs ((1 : Int32).toNatClampNeg) = z := ⟨_, rfl⟩
  obtain ⟨s2, hs2⟩ : ∃ z : Int32, xs ((2 : Int32).toNatClampNeg) = z := ⟨_, rfl⟩
  obtain ⟨s3, hs3⟩ : ∃ z : Int32, xs ((3 : Int32).toNatClampNeg) = z := ⟨_, rfl⟩
  obtain ⟨s4, hs4⟩ : ∃ z : Int32, xs ((4 : Int32).toNatClampNeg) = z := ⟨_, rfl⟩
  obtain ⟨s5, hs5⟩ : ∃ z : Int32, xs ((5 : Int32).toNatClampNeg) = z := ⟨_, rfl⟩
  refine lv_aload_n hx hb d_1199 rfl (lv_at hl 3 rfl) ?_
  refine lv_aload_n hx hb d_1200 rfl (lv_at hl 4 rfl) ?_
  refine lv_iload hx hb d_1201 (lv_at hl 0 rfl) ?_
  refine lv_iconst (v := 1) hx hb d_1203 (by decide) ?_
  refine lv_iadd hx hb d_1204 ?_
  refine q_ti (v := 1) (by decide) ?_
  refine va_sld hx hb hX hbl hbA V.2.2.1 (by unfold vp_in; decide) d_1205 ?_
  refine q_ti (v := s1) hs1 ?_
  refine lv_aload_n hx hb d_1206 rfl (lv_at hl 4 rfl) ?_
  refine lv_iload hx hb d_1207 (lv_at hl 0 rfl) ?_
  refine lv_iconst (v := 2) hx hb d_1209 (by decide) ?_
  refine lv_iadd hx hb d_1210 ?_
  refine q_ti (v := 2) (by decide) ?_
  refine va_sld hx hb hX hbl hbA V.2.2.1 (by unfold vp_in; decide) d_1211 ?_
  refine q_ti (v := s2) hs2 ?_
  refine lv_aload_n hx hb d_1212 rfl (lv_at hl 4 rfl) ?_
  refine lv_iload hx hb d_1213 (lv_at hl 0 rfl) ?_
  refine lv_iconst (v := 3) hx hb d_1215 (by decide) ?_
  refine lv_iadd hx hb d_1216 ?_
  refine q_ti (v := 3) (by decide) ?_
  refine va_sld hx hb hX hbl hbA V.2.2.1 (by unfold vp_in; decide) d_1217 ?_
  refine q_ti (v := s3) hs3 ?_
  refine lv_aload_n hx hb d_1218 rfl (lv_at hl 4 rfl) ?_
  refine lv_iload hx hb d_1219 (lv_at hl 0 rfl) ?_
  refine lv_iconst (v := 4) hx hb d_1221 (by decide) ?_
  refine lv_iadd hx hb d_1222 ?_
  refine q_ti (v := 4) (by decide) ?_
  refine va_sld hx hb hX hbl hbA V.2.2.1 (by unfold vp_in; decide) d_1223 ?_
  refine q_ti (v := s4) hs4 ?_
  refine q_goi V (q_runSW (As := [.ref (q 0), .int s1, .int s2, .int s3, .int s4]) (rest := []) (d := 10) (mc := 4) (ms := 24) C0 V rfl LW_NL_138 (c_NL_convert l D g ws hlt q s1 s2 s3 s4 hfl _) rfl hl.1 rfl (Nat.le_of_ble_eq_true rfl) ⟨by decide, by decide⟩ ⟨Nat.le_of_ble_eq_true rfl, Nat.le_of_ble_eq_true rfl⟩ d_1224) (fun k1 u1 H locs hp V => ?_)
  obtain ⟨hk, hF⟩ := hp
  have hfm : q_fl u1 116 (nm_w g q2) := q_flG hF hfm
  have hO : u1[169]? = _ := (hF 169 (Nat.le_of_ble_eq_true rfl)).trans hO
  replace hO : u1[169]? = (some (qo, .inl (g 1, 1, .inr (.inl (fun _ => 0)))) : Option (Nat × va_E)) := hO
  refine lv_istore (lv' := [(5, .int k1), (4, .int 0), (3, .ref qo), (2, .ref (q2 0)), (1, .ref (q 0)), (0, .ref b)]) hx hb d_1227 hl (by decide) rfl (fun ls hl => ?_)
  refine lv_aload_n hx hb d_1229 rfl (lv_at hl 3 rfl) ?_
  refine lv_aload_n hx hb d_1230 rfl (lv_at hl 5 rfl) ?_
  refine lv_iload hx hb d_1231 (lv_at hl 1 rfl) ?_
  refine lv_iconst (v := 1) hx hb d_1233 (by decide) ?_
  refine lv_iadd hx hb d_1234 ?_
  refine q_ti (v := 1) (by decide) ?_
  refine va_sld hx hb hX hbl hbA V.2.2.1 (by unfold vp_in; decide) d_1235 ?_
  refine q_ti (v := s1) hs1 ?_
  refine lv_aload_n hx hb d_1236 rfl (lv_at hl 5 rfl) ?_
  refine lv_iload hx hb d_1237 (lv_at hl 1 rfl) ?_
  refine lv_iconst (v := 2) hx hb d_1239 (by decide) ?_
  refine lv_iadd hx hb d_1240 ?_
  refine q_ti (v := 2) (by decide) ?_
  refine va_sld hx hb hX hbl hbA V.2.2.1 (by unfold vp_in; decide) d_1241 ?_
  refine q_ti (v := s2) hs2 ?_
  refine lv_aload_n hx hb d_1242 rfl (lv_at hl 5 rfl) ?_
  refine lv_iload hx hb d_1243 (lv_at hl 1 rfl) ?_
  refine lv_iconst (v := 3) hx hb d_1245 (by decide) ?_
  refine lv_iadd hx hb d_1246 ?_
  refine q_ti (v := 3) (by decide) ?_
  refine va_sld hx hb hX hbl hbA V.2.2.1 (by unfold vp_in; decide) d_1247 ?_
  refine q_ti (v := s3) hs3 ?_
  refine lv_aload_n hx hb d_1248 rfl (lv_at hl 5 rfl) ?_
  refine lv_iload hx hb d_1249 (lv_at hl 1 rfl) ?_
  refine lv_iconst (v := 4) hx hb d_1251 (by decide) ?_
  refine lv_iadd hx hb d_1252 ?_
  refine q_ti (v := 4) (by decide) ?_
  refine va_sld hx hb hX hbl hbA V.2.2.1 (by unfold vp_in; decide) d_1253 ?_
  refine q_ti (v := s4) hs4 ?_
  have hP116 : u1[116]? = (some (q2 0, .inr (12, [.int 0, .ref (q2 1), .int 0, .ref (q2 2), .int 0, .ref (q2 3), .ref (q2 18), .ref (q2 29), .ref (q2 37), .ref (q2 41), .ref (q2 51), .ref (q2 52)])) : Option (Nat × va_E)) := q_fa (i := 0) hfm rfl
  have hP119 : u1[119]? = (some (q2 3, .inr (13, [.int 0, .int 0, .ref (q2 4), .int 0, .ref (q2 5), .ref (q2 6), .ref (q2 7), .int 0, .ref (q2 8), .ref (q2 9), .ref (q2 10), .ref (q2 11), .ref (q2 12), .ref (q2 13), .ref (q2 14), .ref (q2 15), .int 0, .int 0, .ref (q2 16), .ref (q2 17), .int 0])) : Option (Nat × va_E)) := q_fa (i := 3) hfm rfl
  have hP120 : u1[120]? = (some (q2 4, .inl (g 0, 4100, .inl (fun _ => 0))) : Option (Nat × va_E)) := q_fa (i := 4) hfm rfl
  have hP121 : u1[121]? = (some (q2 5, .inl (g 0, 1408, .inl (fun _ => 0))) : Option (Nat × va_E)) := q_fa (i := 5) hfm rfl
  have hP122 : u1[122]? = (some (q2 6, .inl (g 3, 11, .inl (fun _ => 0))) : Option (Nat × va_E)) := q_fa (i := 6) hfm rfl
  have hP123 : u1[123]? = (some (q2 7, .inl (g 0, 264, .inl (fun _ => 0))) : Option (Nat × va_E)) := q_fa (i := 7) hfm rfl
  have hP128 : u1[128]? = (some (q2 12, .inl (g 0, 264, .inl (fun _ => 0))) : Option (Nat × va_E)) := q_fa (i := 12) hfm rfl
  have hP133 : u1[133]? = (some (q2 17, .inl (g 0, 2100, .inl (fun _ => 0))) : Option (Nat × va_E)) := q_fa (i := 17) hfm rfl
  have hP134 : u1[134]? = (some (q2 18, .inr (14, [.int 0, .ref (q2 19), .int 0, .ref (q2 20), .ref (q2 21), .ref (q2 22), .ref (q2 23), .ref (q2 24), .int 0, .long 0, .int 0, .int 0, .ref (q2 25), .int 0, .ref (q2 26), .int 0, .ref (q2 27), .int 0, .ref (q2 28), .int 0, .int 0])) : Option (Nat × va_E)) := q_fa (i := 18) hfm rfl
  have hP135 : u1[135]? = (some (q2 19, .inl (g 0, 4100, .inl (fun _ => 0))) : Option (Nat × va_E)) := q_fa (i := 19) hfm rfl
  have hP136 : u1[136]? = (some (q2 20, .inl (g 0, 10000, .inl (fun _ => 0))) : Option (Nat × va_E)) := q_fa (i := 20) hfm rfl
  have hP137 : u1[137]? = (some (q2 21, .inl (g 0, 10, .inl (upd (upd (upd (upd (upd (upd (upd (upd (upd (upd (fun _ => 0) 0 1) 1 1) 2 1) 3 1) 4 1) 5 1) 6 1) 7 1) 8 1) 9 1))) : Option (Nat × va_E)) := q_fa (i := 21) hfm rfl
  have hP138 : u1[138]? = (some (q2 22, .inl (g 3, 10, .inl (fun _ => 0))) : Option (Nat × va_E)) := q_fa (i := 22) hfm rfl
  have hP139 : u1[139]? = (some (q2 23, .inl (g 0, 10, .inl (fun _ => 0))) : Option (Nat × va_E)) := q_fa (i := 23) hfm rfl
  have hP140 : u1[140]? = (some (q2 24, .inl (g 0, 4400, .inl (fun _ => 0))) : Option (Nat × va_E)) := q_fa (i := 24) hfm rfl
  have hP144 : u1[144]? = (some (q2 28, .inl (g 0, 12200, .inl (fun _ => 0))) : Option (Nat × va_E)) := q_fa (i := 28) hfm rfl
  have hP145 : u1[145]? = (some (q2 29, .inr (15, [.int 0, .ref (q2 30), .ref (q2 31), .ref (q2 32), .ref (q2 33), .ref (q2 34), .ref (q2 35), .ref (q2 36), .int 0, .int 0, .int 0, .long 0, .int 0, .int 0, .long 0, .int 0, .long 0, .int 0])) : Option (Nat × va_E)) := q_fa (i := 29) hfm rfl
  have hP146 : u1[146]? = (some (q2 30, .inl (g 0, 156, .inl (fun _ => 0))) : Option (Nat × va_E)) := q_fa (i := 30) hfm rfl
  have hP147 : u1[147]? = (some (q2 31, .inl (g 0, 156, .inl (fun _ => 0))) : Option (Nat × va_E)) := q_fa (i := 31) hfm rfl
  have hP148 : u1[148]? = (some (q2 32, .inl (g 0, 1404, .inl (fun _ => 0))) : Option (Nat × va_E)) := q_fa (i := 32) hfm rfl
  have hP151 : u1[151]? = (some (q2 35, .inl (g 0, 1404, .inl (fun _ => 0))) : Option (Nat × va_E)) := q_fa (i := 35) hfm rfl
  have hP152 : u1[152]? = (some (q2 36, .inl (g 0, 1600, .inl (fun _ => 0))) : Option (Nat × va_E)) := q_fa (i := 36) hfm rfl
  have hP153 : u1[153]? = (some (q2 37, .inr (16, [.int 0, .ref (q2 38), .int 0, .int 0, .int 0, .int 0, .ref (q2 39), .int 0, .int 0, .long 0, .ref (q2 40), .int 0, .int 0, .long 0, .long 0, .int 0, .int 0])) : Option (Nat × va_E)) := q_fa (i := 37) hfm rfl
  have hP154 : u1[154]? = (some (q2 38, .inl (g 0, 4100, .inl (fun _ => 0))) : Option (Nat × va_E)) := q_fa (i := 38) hfm rfl
  have hP155 : u1[155]? = (some (q2 39, .inl (g 0, 4100, .inl (fun _ => 0))) : Option (Nat × va_E)) := q_fa (i := 39) hfm rfl
  have hP167 : u1[167]? = (some (q2 51, .inl (g 1, 20, .inr (.inl (fun _ => 0)))) : Option (Nat × va_E)) := q_fa (i := 51) hfm rfl
  refine q_gov V (q_runV (As := [.int s1, .int s2, .int s3, .int s4]) (rest := []) (d := 7) (mc := 0) (ms := 0) (ci := 12) C0 V rfl LV_NL_140 (c_NM_convert l D g u1 (q2 0) (q2 1) (q2 2) (q2 3) (q2 18) (q2 29) (q2 37) (q2 41) (q2 51) (q2 52) (q2 4) (q2 5) (q2 6) (q2 7) (q2 8) (q2 9) (q2 10) (q2 11) (q2 12) (q2 13) (q2 14) (q2 15) (q2 16) (q2 17) (q2 19) (q2 20) (q2 21) (q2 22) (q2 23) (q2 24) (q2 25) (q2 26) (q2 27) (q2 28) (q2 30) (q2 31) (q2 32) (q2 33) (q2 34) (q2 35) (q2 36) (q2 38) (q2 39) (q2 40) s1 s2 s3 s4 hP116 hP119 hP134 hP145 hP153 hP167 hP120 hP121 hP122 hP123 hP128 hP133 hP135 hP136 hP137 hP138 hP139 hP140 hP144 hP146 hP147 hP148 hP151 hP152 hP154 hP155 _) rfl rfl hP116 rfl hl.1 rfl (Nat.le_of_ble_eq_true rfl) ⟨by decide, by decide⟩ ⟨Nat.le_of_ble_eq_true rfl, Nat.le_of_ble_eq_true rfl⟩ d_1254) (fun u2 H locs hp V => ?_)
  obtain ⟨t0, z2, z4, hM, hr, hG⟩ := hp
  replace hM : u2[116]? = (some (q2 0, .inr (12, [.int t0, .ref (q2 1), .int z2, .ref (q2 2), .int z4, .ref (q2 3), .ref (q2 18), .ref (q2 29), .ref (q2 37), .ref (q2 41), .ref (q2 51), .ref (q2 52)])) : Option (Nat × va_E)) := hM
  replace hO := (hG 169 (Nat.le_refl _)).trans hO
  replace hO : u2[169]? = (some (qo, .inl (g 1, 1, .inr (.inl (fun _ => 0)))) : Option (Nat × va_E)) := hO
  rcases hk with ⟨ek, hk⟩ | ⟨ek, hk⟩
  ·
    obtain rfl : k1 = 0 := q_Ieq (x := k1.toInt) (y := 0) rfl (by decide) ek
    obtain rfl : t0 = 0 := q_Ieq (x := t0.toInt) (y := 0) rfl (by decide) (by omega)
    refine lv_aload_n hx hb d_1257 rfl (lv_at hl 3 rfl) ?_
    refine q_goi V (q_runV (As := []) (rest := []) (d := 1) (mc := 0) (ms := 0) (ci := 12) C0 V rfl LV_NL_91 (c_NM_thrown l D g u2 (q2 0) 0 (q2 1) z2 (q2 2) z4 (q2 3) (q2 18) (q2 29) (q2 37) (q2 41) (q2 51) (q2 52) hM _) rfl rfl hM rfl hl.1 rfl (Nat.le_of_ble_eq_true rfl) ⟨by decide, by decide⟩ ⟨Nat.le_of_ble_eq_true rfl, Nat.le_of_ble_eq_true rfl⟩ d_1258) (fun v9 u9 H locs hp V => ?_)
    obtain ⟨rfl, rfl⟩ := hp
    refine lv_iload hx hb d_1261 (lv_at hl 0 rfl) ?_
    refine lv_icmp_eq (tgt := 1268) hx hb d_1263 (by decide) (fun c1 => ?_) (fun c1 => absurd (by decide) c1)
    refine lv_goto (tgt := 1609) hx hb d_1268 (by decide) ?_
    refine W.widen (k := 300) (n := 300000) (Nat.le_of_ble_eq_true rfl) (Nat.le_of_ble_eq_true rfl) ?_
    exact kend _ _ _ _ V (q_lw hl (q_lw1 1 rfl (q_lw1 5 rfl q_lw0)))
  ·
    obtain rfl : k1 = 1 := q_Ieq (x := k1.toInt) (y := 1) rfl (by decide) ek
    obtain rfl : t0 = 1 := q_Ieq (x := t0.toInt) (y := 1) rfl (by decide) (by omega)
    refine lv_aload_n hx hb d_1257 rfl (lv_at hl 3 rfl) ?_
    refine q_goi V (q_runV (As := []) (rest := []) (d := 1) (mc := 0) (ms := 0) (ci := 12) C0 V rfl LV_NL_91 (c_NM_thrown l D g u2 (q2 0) 1 (q2 1) z2 (q2 2) z4 (q2 3) (q2 18) (q2 29) (q2 37) (q2 41) (q2 51) (q2 52) hM _) rfl rfl hM rfl hl.1 rfl (Nat.le_of_ble_eq_true rfl) ⟨by decide, by decide⟩ ⟨Nat.le_of_ble_eq_true rfl, Nat.le_of_ble_eq_true rfl⟩ d_1258) (fun v9 u9 H locs hp V => ?_)
    obtain ⟨rfl, rfl⟩ := hp
    refine lv_iload hx hb d_1261 (lv_at hl 0 rfl) ?_
    refine lv_icmp_eq (tgt := 1268) hx hb d_1263 (by decide) (fun c2 => ?_) (fun c2 => absurd (by decide) c2)
    refine lv_goto (tgt := 1609) hx hb d_1268 (by decide) ?_
    refine W.widen (k := 300) (n := 300000) (Nat.le_of_ble_eq_true rfl) (Nat.le_of_ble_eq_true rfl) ?_
    exact kend _ _ _ _ V (q_lw hl (q_lw1 1 rfl (q_lw1 5 rfl q_lw0)))
