/-! the law, case 15: print -/
theorem d_1271 : decode code 1271 = .ok (.aload_n 1, 1) := by decide +kernel
theorem d_1272 : decode code 1272 = .ok (.aload_n 0, 1) := by decide +kernel
theorem d_1273 : decode code 1273 = .ok (.iload 4, 2) := by decide +kernel
theorem d_1275 : decode code 1275 = .ok (.iconst 1, 1) := by decide +kernel
theorem d_1276 : decode code 1276 = .ok (.iadd, 1) := by decide +kernel
theorem d_1277 : decode code 1277 = .ok (.iaload, 1) := by decide +kernel
theorem d_1278 : decode code 1278 = .ok (.aload_n 0, 1) := by decide +kernel
theorem d_1279 : decode code 1279 = .ok (.iload 4, 2) := by decide +kernel
theorem d_1281 : decode code 1281 = .ok (.iconst 2, 1) := by decide +kernel
theorem d_1282 : decode code 1282 = .ok (.iadd, 1) := by decide +kernel
theorem d_1283 : decode code 1283 = .ok (.iaload, 1) := by decide +kernel
theorem d_1284 : decode code 1284 = .ok (.aload_n 0, 1) := by decide +kernel
theorem d_1285 : decode code 1285 = .ok (.iload 4, 2) := by decide +kernel
theorem d_1287 : decode code 1287 = .ok (.iconst 3, 1) := by decide +kernel
theorem d_1288 : decode code 1288 = .ok (.iadd, 1) := by decide +kernel
theorem d_1289 : decode code 1289 = .ok (.iaload, 1) := by decide +kernel
theorem d_1290 : decode code 1290 = .ok (.aload_n 3, 1) := by decide +kernel
theorem d_1291 : decode code 1291 = .ok (.invokestatic 141, 3) := by decide +kernel
theorem w_1532 : (Cond.codeWith ({ cls := "NumberHouseLaw", name := "print", desc := "(LNumberHouse;III[J)I" } : MethodName) method_17_code (6 : Nat) (some .int) [((0 : Nat), (12 : Nat), (15 : Nat), (13 : Nat))]) ∈ q_tbl := q_of 1532 (by decide +kernel) (by decide +kernel)
theorem w_1530 : (Cond.methodLink "NumberHouseLaw" (141 : Nat) ({ cls := "NumberHouseLaw", name := "print", desc := "(LNumberHouse;III[J)I" } : MethodName)) ∈ q_tbl := q_of 1530 (by decide +kernel) (by decide +kernel)
theorem w_1531 : (Cond.static ({ cls := "NumberHouseLaw", name := "print", desc := "(LNumberHouse;III[J)I" } : MethodName)) ∈ q_tbl := q_of 1531 (by decide +kernel) (by decide +kernel)
theorem LW_NL_141 : q_LW "NumberHouseLaw" 141 y_NL_print method_17_code 6 (some .int) [(0, 12, 15, 13)] 5 := ⟨w_1532, w_0, w_1530, w_1531, ⟨by decide, by decide, by decide +kernel⟩⟩
theorem d_1294 : decode code 1294 = .ok (.istore 5, 2) := by decide +kernel
theorem d_1296 : decode code 1296 = .ok (.aload_n 2, 1) := by decide +kernel
theorem d_1297 : decode code 1297 = .ok (.aload_n 0, 1) := by decide +kernel
theorem d_1298 : decode code 1298 = .ok (.iload 4, 2) := by decide +kernel
theorem d_1300 : decode code 1300 = .ok (.iconst 1, 1) := by decide +kernel
theorem d_1301 : decode code 1301 = .ok (.iadd, 1) := by decide +kernel
theorem d_1302 : decode code 1302 = .ok (.iaload, 1) := by decide +kernel
theorem d_1303 : decode code 1303 = .ok (.aload_n 0, 1) := by decide +kernel
theorem d_1304 : decode code 1304 = .ok (.iload 4, 2) := by decide +kernel
theorem d_1306 : decode code 1306 = .ok (.iconst 2, 1) := by decide +kernel
theorem d_1307 : decode code 1307 = .ok (.iadd, 1) := by decide +kernel
theorem d_1308 : decode code 1308 = .ok (.iaload, 1) := by decide +kernel
theorem d_1309 : decode code 1309 = .ok (.aload_n 0, 1) := by decide +kernel
theorem d_1310 : decode code 1310 = .ok (.iload 4, 2) := by decide +kernel
theorem d_1312 : decode code 1312 = .ok (.iconst 3, 1) := by decide +kernel
theorem d_1313 : decode code 1313 = .ok (.iadd, 1) := by decide +kernel
theorem d_1314 : decode code 1314 = .ok (.iaload, 1) := by decide +kernel
theorem d_1315 : decode code 1315 = .ok (.invokevirtual 143, 3) := by decide +kernel
theorem w_3014 : (Cond.code ({ cls := "NumberHouseModel", name := "print", desc := "(III)I" } : MethodName) prog_14_method_33_code (7 : Nat) (some .int)) ∈ q_tbl := q_of 3014 (by decide +kernel) (by decide +kernel)
theorem w_3011 : (Cond.methodLink "NumberHouseLaw" (143 : Nat) ({ cls := "NumberHouseModel", name := "print", desc := "(III)I" } : MethodName)) ∈ q_tbl := q_of 3011 (by decide +kernel) (by decide +kernel)
theorem w_3012 : (Cond.instanceMethod ({ cls := "NumberHouseModel", name := "print", desc := "(III)I" } : MethodName)) ∈ q_tbl := q_of 3012 (by decide +kernel) (by decide +kernel)
theorem w_3013 : (Cond.selects "NumberHouseModel" ({ cls := "NumberHouseModel", name := "print", desc := "(III)I" } : MethodName) ({ cls := "NumberHouseModel", name := "print", desc := "(III)I" } : MethodName)) ∈ q_tbl := q_of 3013 (by decide +kernel) (by decide +kernel)
theorem LV_NL_143 : q_LV "NumberHouseLaw" 143 y_NM_print prog_14_method_33_code 7 (some .int) 3 := ⟨w_3014, w_14, w_3011, w_3012, w_3013, ⟨by decide, by decide, by decide +kernel⟩⟩
theorem d_1318 : decode code 1318 = .ok (.istore 6, 2) := by decide +kernel
theorem d_1320 : decode code 1320 = .ok (.aload_n 2, 1) := by decide +kernel
theorem d_1321 : decode code 1321 = .ok (.invokevirtual 91, 3) := by decide +kernel
theorem d_1324 : decode code 1324 = .ok (.iload 5, 2) := by decide +kernel
theorem d_1326 : decode code 1326 = .ok (.if_icmp .eq 5, 3) := by decide +kernel
theorem d_1331 : decode code 1331 = .ok (.iload 5, 2) := by decide +kernel
theorem d_1333 : decode code 1333 = .ok (.ifCond .ne 15, 3) := by decide +kernel
theorem d_1336 : decode code 1336 = .ok (.aload_n 3, 1) := by decide +kernel
theorem d_1337 : decode code 1337 = .ok (.iconst 0, 1) := by decide +kernel
theorem d_1338 : decode code 1338 = .ok (.laload, 1) := by decide +kernel
theorem d_1339 : decode code 1339 = .ok (.iload 6, 2) := by decide +kernel
theorem d_1341 : decode code 1341 = .ok (.i2l, 1) := by decide +kernel
theorem d_1342 : decode code 1342 = .ok (.lcmp, 1) := by decide +kernel
theorem d_1343 : decode code 1343 = .ok (.ifCond .eq 5, 3) := by decide +kernel
theorem d_1348 : decode code 1348 = .ok (.goto 261, 3) := by decide +kernel
set_option maxRecDepth 100000 in
set_option maxHeartbeats 4000000 in
theorem law_k15 {p : Program} {l : Launch} {e : Env} {s : State} {m : MethodId} {below : List Frame} {meth : Method} {c : Code} {b : Nat} {xs : Nat → Int32} {D : va_G} {g : Nat → ClassId} {A : Nat → Prop} {ws : va_W} {H : Heap} {locs : List Loc} {Q : State → Prop} {ls : Array Slot} {q q2 : Nat → Nat} {qo : Nat} (hlt : l.stackTraces = false) (C0 : q_At p s m #[Value.ref b] meth c y_NL_law code 8 (some .boolean)) (hX : va_X b 6 xs s s.heap) (hbl : b < s.heap.size) (hbA : ¬ A b) (V : q_Wd D g A s ws H locs) (hfl : q_fl ws 0 (nh_w g q)) (hfm : q_fl ws 116 (nm_w g q2)) (hO : ws[169]? = (some (qo, .inl (g 1, 1, .inr (.inl (fun _ => 0)))) : Option (Nat × va_E))) (hl : lv_has ls 8 [(4, .int 0), (3, .ref qo), (2, .ref (q2 0)), (1, .ref (q 0)), (0, .ref b)]) (kend : ∀ (H : Heap) (locs : List Loc) (u : va_W) (ls : Array Slot), q_Wd D g A s u H locs → lv_has ls 8 [(4, .int 0), (0, .ref b)] → W p l e room_1 s m #[Value.ref b] below meth c H locs 300 300000 Q (F0 m 1609 ls [])) : W p l e room_1 s m #[Value.ref b] below meth c H locs 200 200000 Q (F0 m 1271 ls []) := by
  have hx := C0.1
  have hb := C0.2.1
  obtain ⟨s1, hs1⟩ : ∃ z : Int32, xs ((1 : Int32).toNatClampNeg) = z := ⟨_, rfl⟩
  obtain ⟨s2, hs2⟩ : ∃ z : Int32, xs ((2 : Int32).toNatClampNeg) = z := ⟨_, rfl⟩
  obtain ⟨s3, hs3⟩ : ∃ z : Int32, xs ((3 : Int32).toNatClampNeg) = z := ⟨_, rfl⟩
  obtain ⟨s4, hs4⟩ : ∃ z : Int32, xs ((4 : Int32).toNatClampNeg) = z := ⟨_, rfl⟩
  obtain ⟨s5, hs5⟩ : ∃ z : Int32, xs ((5 : Int32).toNatClampNeg) = z := ⟨_, rfl⟩
  refine lv_aload_n hx hb d_1271 rfl (lv_at hl 3 rfl) ?_
  refine lv_aload_n hx hb d_1272 rfl (lv_at hl 4 rfl) ?_
  refine lv_iload hx hb d_1273 (lv_at hl 0 rfl) ?_
  refine lv_iconst (v := 1) hx hb d_1275 (by decide) ?_
  refine lv_iadd hx hb d_1276 ?_
  refine q_ti (v := 1) (by decide) ?_
  refine va_sld hx hb hX hbl hbA V.2.2.1 (by unfold vp_in; decide) d_1277 ?_
  refine q_ti (v := s1) hs1 ?_
  refine lv_aload_n hx hb d_1278 rfl (lv_at hl 4 rfl) ?_
  refine lv_iload hx hb d_1279 (lv_at hl 0 rfl) ?_
  refine lv_iconst (v := 2) hx hb d_1281 (by decide) ?_
  refine lv_iadd hx hb d_1282 ?_
  refine q_ti (v := 2) (by decide) ?_
  refine va_sld hx hb hX hbl hbA V.2.2.1 (by unfold vp_in; decide) d_1283 ?_
  refine q_ti (v := s2) hs2 ?_
  refine lv_aload_n hx hb d_1284 rfl (lv_at hl 4 rfl) ?_
  refine lv_iload hx hb d_1285 (lv_at hl 0 rfl) ?_
  refine lv_iconst (v := 3) hx hb d_1287 (by decide) ?_
  refine lv_iadd hx hb d_1288 ?_
  refine q_ti (v := 3) (by decide) ?_
  refine va_sld hx hb hX hbl hbA V.2.2.1 (by unfold vp_in; decide) d_1289 ?_
  refine q_ti (v := s3) hs3 ?_
  refine lv_aload_n hx hb d_1290 rfl (lv_at hl 1 rfl) ?_
  refine q_goi V (q_runSW (As := [.ref (q 0), .int s1, .int s2, .int s3, .ref qo]) (rest := []) (d := 10) (mc := 2) (ms := 12) C0 V rfl LW_NL_141 (c_NL_print l D g ws hlt q qo s1 s2 s3 hfl hO _) rfl hl.1 rfl (Nat.le_of_ble_eq_true rfl) ⟨by decide, by decide⟩ ⟨Nat.le_of_ble_eq_true rfl, Nat.le_of_ble_eq_true rfl⟩ d_1291) (fun k1 u1 H locs hp V => ?_)
  obtain ⟨o1, hO, hk, hF⟩ := hp
  have hfm : q_fl u1 116 (nm_w g q2) := q_flW hF (Nat.le_of_ble_eq_true rfl) hfm
  replace hO : u1[169]? = (some (qo, .inl (g 1, 1, .inr (.inl (vp_updL (fun _ => 0) 0 o1)))) : Option (Nat × va_E)) := hO
  refine lv_istore (lv' := [(5, .int k1), (4, .int 0), (3, .ref qo), (2, .ref (q2 0)), (1, .ref (q 0)), (0, .ref b)]) hx hb d_1294 hl (by decide) rfl (fun ls hl => ?_)
  refine lv_aload_n hx hb d_1296 rfl (lv_at hl 3 rfl) ?_
  refine lv_aload_n hx hb d_1297 rfl (lv_at hl 5 rfl) ?_
  refine lv_iload hx hb d_1298 (lv_at hl 1 rfl) ?_
  refine lv_iconst (v := 1) hx hb d_1300 (by decide) ?_
  refine lv_iadd hx hb d_1301 ?_
  refine q_ti (v := 1) (by decide) ?_
  refine va_sld hx hb hX hbl hbA V.2.2.1 (by unfold vp_in; decide) d_1302 ?_
  refine q_ti (v := s1) hs1 ?_
  refine lv_aload_n hx hb d_1303 rfl (lv_at hl 5 rfl) ?_
  refine lv_iload hx hb d_1304 (lv_at hl 1 rfl) ?_
  refine lv_iconst (v := 2) hx hb d_1306 (by decide) ?_
  refine lv_iadd hx hb d_1307 ?_
  refine q_ti (v := 2) (by decide) ?_
  refine va_sld hx hb hX hbl hbA V.2.2.1 (by unfold vp_in; decide) d_1308 ?_
  refine q_ti (v := s2) hs2 ?_
  refine lv_aload_n hx hb d_1309 rfl (lv_at hl 5 rfl) ?_
  refine lv_iload hx hb d_1310 (lv_at hl 1 rfl) ?_
  refine lv_iconst (v := 3) hx hb d_1312 (by decide) ?_
  refine lv_iadd hx hb d_1313 ?_
  refine q_ti (v := 3) (by decide) ?_
  refine va_sld hx hb hX hbl hbA V.2.2.1 (by unfold vp_in; decide) d_1314 ?_
  refine q_ti (v := s3) hs3 ?_
  have hP116 : u1[116]? = (some (q2 0, .inr (12, [.int 0, .ref (q2 1), .int 0, .ref (q2 2), .int 0, .ref (q2 3), .ref (q2 18), .ref (q2 29), .ref (q2 37), .ref (q2 41), .ref (q2 51), .ref (q2 52)])) : Option (Nat × va_E)) := q_fa (i := 0) hfm rfl
  have hP118 : u1[118]? = (some (q2 2, .inl (g 0, 12200, .inl (fun _ => 0))) : Option (Nat × va_E)) := q_fa (i := 2) hfm rfl
  have hP119 : u1[119]? = (some (q2 3, .inr (13, [.int 0, .int 0, .ref (q2 4), .int 0, .ref (q2 5), .ref (q2 6), .ref (q2 7), .int 0, .ref (q2 8), .ref (q2 9), .ref (q2 10), .ref (q2 11), .ref (q2 12), .ref (q2 13), .ref (q2 14), .ref (q2 15), .int 0, .int 0, .ref (q2 16), .ref (q2 17), .int 0])) : Option (Nat × va_E)) := q_fa (i := 3) hfm rfl
  have hP121 : u1[121]? = (some (q2 5, .inl (g 0, 1408, .inl (fun _ => 0))) : Option (Nat × va_E)) := q_fa (i := 5) hfm rfl
  have hP122 : u1[122]? = (some (q2 6, .inl (g 3, 11, .inl (fun _ => 0))) : Option (Nat × va_E)) := q_fa (i := 6) hfm rfl
  have hP128 : u1[128]? = (some (q2 12, .inl (g 0, 264, .inl (fun _ => 0))) : Option (Nat × va_E)) := q_fa (i := 12) hfm rfl
  have hP133 : u1[133]? = (some (q2 17, .inl (g 0, 2100, .inl (fun _ => 0))) : Option (Nat × va_E)) := q_fa (i := 17) hfm rfl
  have hP134 : u1[134]? = (some (q2 18, .inr (14, [.int 0, .ref (q2 19), .int 0, .ref (q2 20), .ref (q2 21), .ref (q2 22), .ref (q2 23), .ref (q2 24), .int 0, .long 0, .int 0, .int 0, .ref (q2 25), .int 0, .ref (q2 26), .int 0, .ref (q2 27), .int 0, .ref (q2 28), .int 0, .int 0])) : Option (Nat × va_E)) := q_fa (i := 18) hfm rfl
  have hP136 : u1[136]? = (some (q2 20, .inl (g 0, 10000, .inl (fun _ => 0))) : Option (Nat × va_E)) := q_fa (i := 20) hfm rfl
  have hP137 : u1[137]? = (some (q2 21, .inl (g 0, 10, .inl (upd (upd (upd (upd (upd (upd (upd (upd (upd (upd (fun _ => 0) 0 1) 1 1) 2 1) 3 1) 4 1) 5 1) 6 1) 7 1) 8 1) 9 1))) : Option (Nat × va_E)) := q_fa (i := 21) hfm rfl
  have hP138 : u1[138]? = (some (q2 22, .inl (g 3, 10, .inl (fun _ => 0))) : Option (Nat × va_E)) := q_fa (i := 22) hfm rfl
  have hP139 : u1[139]? = (some (q2 23, .inl (g 0, 10, .inl (fun _ => 0))) : Option (Nat × va_E)) := q_fa (i := 23) hfm rfl
  have hP144 : u1[144]? = (some (q2 28, .inl (g 0, 12200, .inl (fun _ => 0))) : Option (Nat × va_E)) := q_fa (i := 28) hfm rfl
  have hP145 : u1[145]? = (some (q2 29, .inr (15, [.int 0, .ref (q2 30), .ref (q2 31), .ref (q2 32), .ref (q2 33), .ref (q2 34), .ref (q2 35), .ref (q2 36), .int 0, .int 0, .int 0, .long 0, .int 0, .int 0, .long 0, .int 0, .long 0, .int 0])) : Option (Nat × va_E)) := q_fa (i := 29) hfm rfl
  have hP152 : u1[152]? = (some (q2 36, .inl (g 0, 1600, .inl (fun _ => 0))) : Option (Nat × va_E)) := q_fa (i := 36) hfm rfl
  have hP167 : u1[167]? = (some (q2 51, .inl (g 1, 20, .inr (.inl (fun _ => 0)))) : Option (Nat × va_E)) := q_fa (i := 51) hfm rfl
  refine q_goi V (q_runV (As := [.int s1, .int s2, .int s3]) (rest := []) (d := 4) (mc := 0) (ms := 0) (ci := 12) C0 V rfl LV_NL_143 (c_NM_print l D g u1 (q2 0) (q2 1) (q2 2) (q2 3) (q2 18) (q2 29) (q2 37) (q2 41) (q2 51) (q2 52) (q2 4) (q2 5) (q2 6) (q2 7) (q2 8) (q2 9) (q2 10) (q2 11) (q2 12) (q2 13) (q2 14) (q2 15) (q2 16) (q2 17) (q2 19) (q2 20) (q2 21) (q2 22) (q2 23) (q2 24) (q2 25) (q2 26) (q2 27) (q2 28) (q2 30) (q2 31) (q2 32) (q2 33) (q2 34) (q2 35) (q2 36) s1 s2 s3 hP116 hP118 hP119 hP134 hP145 hP167 hP121 hP122 hP128 hP133 hP136 hP137 hP138 hP139 hP144 hP152 _) rfl rfl hP116 rfl hl.1 rfl (Nat.le_of_ble_eq_true rfl) ⟨by decide, by decide⟩ ⟨Nat.le_of_ble_eq_true rfl, Nat.le_of_ble_eq_true rfl⟩ d_1315) (fun r1 u2 H locs hp V => ?_)
  obtain ⟨t0, z2, z4, hM, hr, hG⟩ := hp
  replace hM : u2[116]? = (some (q2 0, .inr (12, [.int t0, .ref (q2 1), .int z2, .ref (q2 2), .int z4, .ref (q2 3), .ref (q2 18), .ref (q2 29), .ref (q2 37), .ref (q2 41), .ref (q2 51), .ref (q2 52)])) : Option (Nat × va_E)) := hM
  replace hO := (hG 169 (Nat.le_refl _)).trans hO
  replace hO : u2[169]? = (some (qo, .inl (g 1, 1, .inr (.inl (vp_updL (fun _ => 0) 0 o1)))) : Option (Nat × va_E)) := hO
  rcases hk with ⟨ek, hk⟩ | ⟨ek, hk⟩
  ·
    obtain rfl : k1 = 0 := q_Ieq (x := k1.toInt) (y := 0) rfl (by decide) ek
    obtain rfl : t0 = 0 := q_Ieq (x := t0.toInt) (y := 0) rfl (by decide) (by omega)
    refine lv_istore (lv' := [(6, .int r1), (5, .int 0), (4, .int 0), (3, .ref qo), (2, .ref (q2 0)), (1, .ref (q 0)), (0, .ref b)]) hx hb d_1318 hl (by decide) rfl (fun ls hl => ?_)
    refine lv_aload_n hx hb d_1320 rfl (lv_at hl 4 rfl) ?_
    refine q_goi V (q_runV (As := []) (rest := []) (d := 1) (mc := 0) (ms := 0) (ci := 12) C0 V rfl LV_NL_91 (c_NM_thrown l D g u2 (q2 0) 0 (q2 1) z2 (q2 2) z4 (q2 3) (q2 18) (q2 29) (q2 37) (q2 41) (q2 51) (q2 52) hM _) rfl rfl hM rfl hl.1 rfl (Nat.le_of_ble_eq_true rfl) ⟨by decide, by decide⟩ ⟨Nat.le_of_ble_eq_true rfl, Nat.le_of_ble_eq_true rfl⟩ d_1321) (fun v9 u9 H locs hp V => ?_)
    obtain ⟨rfl, rfl⟩ := hp
    refine lv_iload hx hb d_1324 (lv_at hl 1 rfl) ?_
    refine lv_icmp_eq (tgt := 1331) hx hb d_1326 (by decide) (fun c1 => ?_) (fun c1 => absurd (by decide) c1)
    refine lv_iload hx hb d_1331 (lv_at hl 1 rfl) ?_
    refine lv_if_ne (tgt := 1348) hx hb d_1333 (by decide) (fun c2 => absurd (by decide) c2) (fun c2 => ?_)
    refine lv_aload_n hx hb d_1336 rfl (lv_at hl 3 rfl) ?_
    refine lv_iconst (v := 0) hx hb d_1337 (by decide) ?_
    refine q_lald C0 V hO (by unfold vp_in; decide) d_1338 ?_
    refine q_tl (v := o1) (by first | rfl | decide | simp [upd, vp_updL, sb_cl0]) ?_
    refine lv_iload hx hb d_1339 (lv_at hl 0 rfl) ?_
    refine lv_i2l hx hb d_1341 rfl ?_
    refine W.lcmp hx hb d_1342 ?_
    refine q_ti (v := 0) (q_cmE (x := o1.toInt) (y := r1.toInt) rfl (q_i2l rfl) (by omega)) ?_
    refine lv_if_eq (tgt := 1348) hx hb d_1343 (by decide) (fun c3 => ?_) (fun c3 => absurd (by decide) c3)
    refine lv_goto (tgt := 1609) hx hb d_1348 (by decide) ?_
    refine W.widen (k := 300) (n := 300000) (Nat.le_of_ble_eq_true rfl) (Nat.le_of_ble_eq_true rfl) ?_
    exact kend _ _ _ _ V (q_lw hl (q_lw1 2 rfl (q_lw1 6 rfl q_lw0)))
  ·
    obtain rfl : k1 = 1 := q_Ieq (x := k1.toInt) (y := 1) rfl (by decide) ek
    obtain rfl : t0 = 1 := q_Ieq (x := t0.toInt) (y := 1) rfl (by decide) (by omega)
    refine lv_istore (lv' := [(6, .int r1), (5, .int 1), (4, .int 0), (3, .ref qo), (2, .ref (q2 0)), (1, .ref (q 0)), (0, .ref b)]) hx hb d_1318 hl (by decide) rfl (fun ls hl => ?_)
    refine lv_aload_n hx hb d_1320 rfl (lv_at hl 4 rfl) ?_
    refine q_goi V (q_runV (As := []) (rest := []) (d := 1) (mc := 0) (ms := 0) (ci := 12) C0 V rfl LV_NL_91 (c_NM_thrown l D g u2 (q2 0) 1 (q2 1) z2 (q2 2) z4 (q2 3) (q2 18) (q2 29) (q2 37) (q2 41) (q2 51) (q2 52) hM _) rfl rfl hM rfl hl.1 rfl (Nat.le_of_ble_eq_true rfl) ⟨by decide, by decide⟩ ⟨Nat.le_of_ble_eq_true rfl, Nat.le_of_ble_eq_true rfl⟩ d_1321) (fun v9 u9 H locs hp V => ?_)
    obtain ⟨rfl, rfl⟩ := hp
    refine lv_iload hx hb d_1324 (lv_at hl 1 rfl) ?_
    refine lv_icmp_eq (tgt := 1331) hx hb d_1326 (by decide) (fun c4 => ?_) (fun c4 => absurd (by decide) c4)
    refine lv_iload hx hb d_1331 (lv_at hl 1 rfl) ?_
    refine lv_if_ne (tgt := 1348) hx hb d_1333 (by decide) (fun c5 => ?_) (fun c5 => absurd c5 (by decide))
    refine lv_goto (tgt := 1609) hx hb d_1348 (by decide) ?_
    refine W.widen (k := 300) (n := 300000) (Nat.le_of_ble_eq_true rfl) (Nat.le_of_ble_eq_true rfl) ?_
    exact kend _ _ _ _ V (q_lw hl (q_lw1 2 rfl (q_lw1 6 rfl q_lw0)))
