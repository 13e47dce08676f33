/-! the law, case 16: figures -/
theorem d_1351 : decode code 1351 = .ok (.aload_n 1, 1) := by decide +kernel
theorem d_1352 : decode code 1352 = .ok (.aload_n 0, 1) := by decide +kernel
theorem d_1353 : decode code 1353 = .ok (.iload 4, 2) := by decide +kernel
theorem d_1355 : decode code 1355 = .ok (.iconst 1, 1) := by decide +kernel
theorem d_1356 : decode code 1356 = .ok (.iadd, 1) := by decide +kernel
theorem d_1357 : decode code 1357 = .ok (.iaload, 1) := by decide +kernel
theorem d_1358 : decode code 1358 = .ok (.aload_n 0, 1) := by decide +kernel
theorem d_1359 : decode code 1359 = .ok (.iload 4, 2) := by decide +kernel
theorem d_1361 : decode code 1361 = .ok (.iconst 2, 1) := by decide +kernel
theorem d_1362 : decode code 1362 = .ok (.iadd, 1) := by decide +kernel
theorem d_1363 : decode code 1363 = .ok (.iaload, 1) := by decide +kernel
theorem d_1364 : decode code 1364 = .ok (.aload_n 0, 1) := by decide +kernel
theorem d_1365 : decode code 1365 = .ok (.iload 4, 2) := by decide +kernel
theorem d_1367 : decode code 1367 = .ok (.iconst 3, 1) := by decide +kernel
theorem d_1368 : decode code 1368 = .ok (.iadd, 1) := by decide +kernel
theorem d_1369 : decode code 1369 = .ok (.iaload, 1) := by decide +kernel
theorem d_1370 : decode code 1370 = .ok (.ifCond .eq 7, 3) := by decide +kernel
theorem d_1377 : decode code 1377 = .ok (.iconst 0, 1) := by decide +kernel
theorem d_1378 : decode code 1378 = .ok (.aload_n 0, 1) := by decide +kernel
theorem d_1379 : decode code 1379 = .ok (.iload 4, 2) := by decide +kernel
theorem d_1381 : decode code 1381 = .ok (.iconst 4, 1) := by decide +kernel
theorem d_1382 : decode code 1382 = .ok (.iadd, 1) := by decide +kernel
theorem d_1383 : decode code 1383 = .ok (.iaload, 1) := by decide +kernel
theorem d_1384 : decode code 1384 = .ok (.aload_n 0, 1) := by decide +kernel
theorem d_1385 : decode code 1385 = .ok (.iload 4, 2) := by decide +kernel
theorem d_1387 : decode code 1387 = .ok (.iconst 5, 1) := by decide +kernel
theorem d_1388 : decode code 1388 = .ok (.iadd, 1) := by decide +kernel
theorem d_1389 : decode code 1389 = .ok (.iaload, 1) := by decide +kernel
theorem d_1390 : decode code 1390 = .ok (.aload_n 3, 1) := by decide +kernel
theorem d_1391 : decode code 1391 = .ok (.invokestatic 144, 3) := by decide +kernel
theorem w_1642 : (Cond.codeWith ({ cls := "NumberHouseLaw", name := "figures", desc := "(LNumberHouse;IIZII[J)I" } : MethodName) method_18_code (8 : Nat) (some .int) [((0 : Nat), (16 : Nat), (19 : Nat), (13 : Nat)), ((0 : Nat), (16 : Nat), (23 : Nat), (19 : Nat))]) ∈ q_tbl := q_of 1642 (by decide +kernel) (by decide +kernel)
theorem w_1640 : (Cond.methodLink "NumberHouseLaw" (144 : Nat) ({ cls := "NumberHouseLaw", name := "figures", desc := "(LNumberHouse;IIZII[J)I" } : MethodName)) ∈ q_tbl := q_of 1640 (by decide +kernel) (by decide +kernel)
theorem w_1641 : (Cond.static ({ cls := "NumberHouseLaw", name := "figures", desc := "(LNumberHouse;IIZII[J)I" } : MethodName)) ∈ q_tbl := q_of 1641 (by decide +kernel) (by decide +kernel)
theorem LW_NL_144 : q_LW "NumberHouseLaw" 144 y_NL_figures method_18_code 8 (some .int) [(0, 16, 19, 13), (0, 16, 23, 19)] 7 := ⟨w_1642, w_0, w_1640, w_1641, ⟨by decide, by decide, by decide +kernel⟩⟩
theorem d_1394 : decode code 1394 = .ok (.istore 5, 2) := by decide +kernel
theorem d_1396 : decode code 1396 = .ok (.aload_n 2, 1) := by decide +kernel
theorem d_1397 : decode code 1397 = .ok (.aload_n 0, 1) := by decide +kernel
theorem d_1398 : decode code 1398 = .ok (.iload 4, 2) := by decide +kernel
theorem d_1400 : decode code 1400 = .ok (.iconst 1, 1) := by decide +kernel
theorem d_1401 : decode code 1401 = .ok (.iadd, 1) := by decide +kernel
theorem d_1402 : decode code 1402 = .ok (.iaload, 1) := by decide +kernel
theorem d_1403 : decode code 1403 = .ok (.aload_n 0, 1) := by decide +kernel
theorem d_1404 : decode code 1404 = .ok (.iload 4, 2) := by decide +kernel
theorem d_1406 : decode code 1406 = .ok (.iconst 2, 1) := by decide +kernel
theorem d_1407 : decode code 1407 = .ok (.iadd, 1) := by decide +kernel
theorem d_1408 : decode code 1408 = .ok (.iaload, 1) := by decide +kernel
theorem d_1409 : decode code 1409 = .ok (.aload_n 0, 1) := by decide +kernel
theorem d_1410 : decode code 1410 = .ok (.iload 4, 2) := by decide +kernel
theorem d_1412 : decode code 1412 = .ok (.iconst 3, 1) := by decide +kernel
theorem d_1413 : decode code 1413 = .ok (.iadd, 1) := by decide +kernel
theorem d_1414 : decode code 1414 = .ok (.iaload, 1) := by decide +kernel
theorem d_1415 : decode code 1415 = .ok (.ifCond .eq 7, 3) := by decide +kernel
theorem d_1422 : decode code 1422 = .ok (.iconst 0, 1) := by decide +kernel
theorem d_1423 : decode code 1423 = .ok (.aload_n 0, 1) := by decide +kernel
theorem d_1424 : decode code 1424 = .ok (.iload 4, 2) := by decide +kernel
theorem d_1426 : decode code 1426 = .ok (.iconst 4, 1) := by decide +kernel
theorem d_1427 : decode code 1427 = .ok (.iadd, 1) := by decide +kernel
theorem d_1428 : decode code 1428 = .ok (.iaload, 1) := by decide +kernel
theorem d_1429 : decode code 1429 = .ok (.aload_n 0, 1) := by decide +kernel
theorem d_1430 : decode code 1430 = .ok (.iload 4, 2) := by decide +kernel
theorem d_1432 : decode code 1432 = .ok (.iconst 5, 1) := by decide +kernel
theorem d_1433 : decode code 1433 = .ok (.iadd, 1) := by decide +kernel
theorem d_1434 : decode code 1434 = .ok (.iaload, 1) := by decide +kernel
theorem d_1435 : decode code 1435 = .ok (.invokevirtual 147, 3) := by decide +kernel
theorem w_3060 : (Cond.code ({ cls := "NumberHouseModel", name := "figures", desc := "(IIZII)I" } : MethodName) prog_14_method_34_code (9 : Nat) (some .int)) ∈ q_tbl := q_of 3060 (by decide +kernel) (by decide +kernel)
theorem w_3057 : (Cond.methodLink "NumberHouseLaw" (147 : Nat) ({ cls := "NumberHouseModel", name := "figures", desc := "(IIZII)I" } : MethodName)) ∈ q_tbl := q_of 3057 (by decide +kernel) (by decide +kernel)
theorem w_3058 : (Cond.instanceMethod ({ cls := "NumberHouseModel", name := "figures", desc := "(IIZII)I" } : MethodName)) ∈ q_tbl := q_of 3058 (by decide +kernel) (by decide +kernel)
theorem w_3059 : (Cond.selects "NumberHouseModel" ({ cls := "NumberHouseModel", name := "figures", desc := "(IIZII)I" } : MethodName) ({ cls := "NumberHouseModel", name := "figures", desc := "(IIZII)I" } : MethodName)) ∈ q_tbl := q_of 3059 (by decide +kernel) (by decide +kernel)
theorem LV_NL_147 : q_LV "NumberHouseLaw" 147 y_NM_figures prog_14_method_34_code 9 (some .int) 5 := ⟨w_3060, w_14, w_3057, w_3058, w_3059, ⟨by decide, by decide, by decide +kernel⟩⟩
theorem d_1438 : decode code 1438 = .ok (.istore 6, 2) := by decide +kernel
theorem d_1440 : decode code 1440 = .ok (.aload_n 2, 1) := by decide +kernel
theorem d_1441 : decode code 1441 = .ok (.invokevirtual 91, 3) := by decide +kernel
theorem d_1444 : decode code 1444 = .ok (.iload 5, 2) := by decide +kernel
theorem d_1446 : decode code 1446 = .ok (.if_icmp .eq 5, 3) := by decide +kernel
theorem d_1451 : decode code 1451 = .ok (.iload 5, 2) := by decide +kernel
theorem d_1453 : decode code 1453 = .ok (.ifCond .ne 15, 3) := by decide +kernel
theorem d_1456 : decode code 1456 = .ok (.aload_n 3, 1) := by decide +kernel
theorem d_1457 : decode code 1457 = .ok (.iconst 0, 1) := by decide +kernel
theorem d_1458 : decode code 1458 = .ok (.laload, 1) := by decide +kernel
theorem d_1459 : decode code 1459 = .ok (.iload 6, 2) := by decide +kernel
theorem d_1461 : decode code 1461 = .ok (.i2l, 1) := by decide +kernel
theorem d_1462 : decode code 1462 = .ok (.lcmp, 1) := by decide +kernel
theorem d_1463 : decode code 1463 = .ok (.ifCond .eq 5, 3) := by decide +kernel
theorem d_1468 : decode code 1468 = .ok (.goto 141, 3) := by decide +kernel
theorem d_1373 : decode code 1373 = .ok (.iconst 1, 1) := by decide +kernel
theorem d_1374 : decode code 1374 = .ok (.goto 4, 3) := by decide +kernel
theorem d_1418 : decode code 1418 = .ok (.iconst 1, 1) := by decide +kernel
theorem d_1419 : decode code 1419 = .ok (.goto 4, 3) := by decide +kernel
set_option maxRecDepth 100000 in
set_option maxHeartbeats 4000000 in
theorem law_k16 {p : Program} {l : Launch} {e : Env} {s : State} {m : MethodId} {below : List Frame} {meth : Method} {c : Code} {b : Nat} {xs : Nat → Int32} {D : va_G} {g : Nat → ClassId} {A : Nat → Prop} {ws : va_W} {H : Heap} {locs : List Loc} {Q : State → Prop} {ls : Array Slot} {q q2 : Nat → Nat} {qo : Nat} (hlt : l.stackTraces = false) (C0 : q_At p s m #[Value.ref b] meth c y_NL_law code 8 (some .boolean)) (hX : va_X b 6 xs s s.heap) (hbl : b < s.heap.size) (hbA : ¬ A b) (V : q_Wd D g A s ws H locs) (hfl : q_fl ws 0 (nh_w g q)) (hfm : q_fl ws 116 (nm_w g q2)) (hO : ws[169]? = (some (qo, .inl (g 1, 1, .inr (.inl (fun _ => 0)))) : Option (Nat × va_E))) (hl : lv_has ls 8 [(4, .int 0), (3, .ref qo), (2, .ref (q2 0)), (1, .ref (q 0)), (0, .ref b)]) (kend : ∀ (H : Heap) (locs : List Loc) (u : va_W) (ls : Array Slot), q_Wd D g A s u H locs → lv_has ls 8 [(4, .int 0), (0, .ref b)] → W p l e room_1 s m #[Value.ref b] below meth c H locs 300 300000 Q (F0 m 1609 ls [])) : W p l e room_1 s m #[Value.ref b] below meth c H locs 200 200000 Q (F0 m 1351 ls []) := by
  have hx := C0.1
  have hb := C0.2.1
  obtain ⟨s1, hs1⟩ : ∃ z : Int32, xs ((1 : Int32).toNatClampNeg) = z := ⟨_, rfl⟩
  obtain ⟨s2, hs2⟩ : ∃ z : Int32, xs ((2 : Int32).toNatClampNeg) = z := ⟨_, rfl⟩
  obtain ⟨s3, hs3⟩ : ∃ z : Int32, xs ((3 : Int32).toNatClampNeg) = z := ⟨_, rfl⟩
  obtain ⟨s4, hs4⟩ : ∃ z : Int32, xs ((4 : Int32).toNatClampNeg) = z := ⟨_, rfl⟩
  obtain ⟨s5, hs5⟩ : ∃ z : Int32, xs ((5 : Int32).toNatClampNeg) = z := ⟨_, rfl⟩
  refine lv_aload_n hx hb d_1351 rfl (lv_at hl 3 rfl) ?_
  refine lv_aload_n hx hb d_1352 rfl (lv_at hl 4 rfl) ?_
  refine lv_iload hx hb d_1353 (lv_at hl 0 rfl) ?_
  refine lv_iconst (v := 1) hx hb d_1355 (by decide) ?_
  refine lv_iadd hx hb d_1356 ?_
  refine q_ti (v := 1) (by decide) ?_
  refine va_sld hx hb hX hbl hbA V.2.2.1 (by unfold vp_in; decide) d_1357 ?_
  refine q_ti (v := s1) hs1 ?_
  refine lv_aload_n hx hb d_1358 rfl (lv_at hl 4 rfl) ?_
  refine lv_iload hx hb d_1359 (lv_at hl 0 rfl) ?_
  refine lv_iconst (v := 2) hx hb d_1361 (by decide) ?_
  refine lv_iadd hx hb d_1362 ?_
  refine q_ti (v := 2) (by decide) ?_
  refine va_sld hx hb hX hbl hbA V.2.2.1 (by unfold vp_in; decide) d_1363 ?_
  refine q_ti (v := s2) hs2 ?_
  refine lv_aload_n hx hb d_1364 rfl (lv_at hl 4 rfl) ?_
  refine lv_iload hx hb d_1365 (lv_at hl 0 rfl) ?_
  refine lv_iconst (v := 3) hx hb d_1367 (by decide) ?_
  refine lv_iadd hx hb d_1368 ?_
  refine q_ti (v := 3) (by decide) ?_
  refine va_sld hx hb hX hbl hbA V.2.2.1 (by unfold vp_in; decide) d_1369 ?_
  refine q_ti (v := s3) hs3 ?_
  refine lv_if_eq (tgt := 1377) hx hb d_1370 (by decide) (fun c1 => ?_) (fun c1 => ?_)
  ·
    refine lv_iconst (v := 0) hx hb d_1377 (by decide) ?_
    refine lv_aload_n hx hb d_1378 rfl (lv_at hl 4 rfl) ?_
    refine lv_iload hx hb d_1379 (lv_at hl 0 rfl) ?_
    refine lv_iconst (v := 4) hx hb d_1381 (by decide) ?_
    refine lv_iadd hx hb d_1382 ?_
    refine q_ti (v := 4) (by decide) ?_
    refine va_sld hx hb hX hbl hbA V.2.2.1 (by unfold vp_in; decide) d_1383 ?_
    refine q_ti (v := s4) hs4 ?_
    refine lv_aload_n hx hb d_1384 rfl (lv_at hl 4 rfl) ?_
    refine lv_iload hx hb d_1385 (lv_at hl 0 rfl) ?_
    refine lv_iconst (v := 5) hx hb d_1387 (by decide) ?_
    refine lv_iadd hx hb d_1388 ?_
    refine q_ti (v := 5) (by decide) ?_
    refine va_sld hx hb hX hbl hbA V.2.2.1 (by unfold vp_in; decide) d_1389 ?_
    refine q_ti (v := s5) hs5 ?_
    refine lv_aload_n hx hb d_1390 rfl (lv_at hl 1 rfl) ?_
    refine q_goi V (q_runSW (As := [.ref (q 0), .int s1, .int s2, .int 0, .int s4, .int s5, .ref qo]) (rest := []) (d := 9) (mc := 3) (ms := 18) C0 V rfl LW_NL_144 (c_NL_figures l D g ws hlt q qo s1 s2 0 s4 s5 hfl hO _) rfl hl.1 rfl (Nat.le_of_ble_eq_true rfl) ⟨by decide, by decide⟩ ⟨Nat.le_of_ble_eq_true rfl, Nat.le_of_ble_eq_true rfl⟩ d_1391) (fun k1 u1 H locs hp V => ?_)
    obtain ⟨o1, hO, hk, hF⟩ := hp
    have hfm : q_fl u1 116 (nm_w g q2) := q_flW hF (Nat.le_of_ble_eq_true rfl) hfm
    replace hO : u1[169]? = (some (qo, .inl (g 1, 1, .inr (.inl (vp_updL (fun _ => 0) 0 o1)))) : Option (Nat × va_E)) := hO
    refine lv_istore (lv' := [(5, .int k1), (4, .int 0), (3, .ref qo), (2, .ref (q2 0)), (1, .ref (q 0)), (0, .ref b)]) hx hb d_1394 hl (by decide) rfl (fun ls hl => ?_)
    refine lv_aload_n hx hb d_1396 rfl (lv_at hl 3 rfl) ?_
    refine lv_aload_n hx hb d_1397 rfl (lv_at hl 5 rfl) ?_
    refine lv_iload hx hb d_1398 (lv_at hl 1 rfl) ?_
    refine lv_iconst (v := 1) hx hb d_1400 (by decide) ?_
    refine lv_iadd hx hb d_1401 ?_
    refine q_ti (v := 1) (by decide) ?_
    refine va_sld hx hb hX hbl hbA V.2.2.1 (by unfold vp_in; decide) d_1402 ?_
    refine q_ti (v := s1) hs1 ?_
    refine lv_aload_n hx hb d_1403 rfl (lv_at hl 5 rfl) ?_
    refine lv_iload hx hb d_1404 (lv_at hl 1 rfl) ?_
    refine lv_iconst (v := 2) hx hb d_1406 (by decide) ?_
    refine lv_iadd hx hb d_1407 ?_
    refine q_ti (v := 2) (by decide) ?_
    refine va_sld hx hb hX hbl hbA V.2.2.1 (by unfold vp_in; decide) d_1408 ?_
    refine q_ti (v := s2) hs2 ?_
    refine lv_aload_n hx hb d_1409 rfl (lv_at hl 5 rfl) ?_
    refine lv_iload hx hb d_1410 (lv_at hl 1 rfl) ?_
    refine lv_iconst (v := 3) hx hb d_1412 (by decide) ?_
    refine lv_iadd hx hb d_1413 ?_
    refine q_ti (v := 3) (by decide) ?_
    refine va_sld hx hb hX hbl hbA V.2.2.1 (by unfold vp_in; decide) d_1414 ?_
    refine q_ti (v := s3) hs3 ?_
    refine q_ti (v := 0) c1 ?_
    refine lv_if_eq (tgt := 1422) hx hb d_1415 (by decide) (fun c2 => ?_) (fun c2 => absurd (by decide) c2)
    refine lv_iconst (v := 0) hx hb d_1422 (by decide) ?_
    refine lv_aload_n hx hb d_1423 rfl (lv_at hl 5 rfl) ?_
    refine lv_iload hx hb d_1424 (lv_at hl 1 rfl) ?_
    refine lv_iconst (v := 4) hx hb d_1426 (by decide) ?_
    refine lv_iadd hx hb d_1427 ?_
    refine q_ti (v := 4) (by decide) ?_
    refine va_sld hx hb hX hbl hbA V.2.2.1 (by unfold vp_in; decide) d_1428 ?_
    refine q_ti (v := s4) hs4 ?_
    refine lv_aload_n hx hb d_1429 rfl (lv_at hl 5 rfl) ?_
    refine lv_iload hx hb d_1430 (lv_at hl 1 rfl) ?_
    refine lv_iconst (v := 5) hx hb d_1432 (by decide) ?_
    refine lv_iadd hx hb d_1433 ?_
    refine q_ti (v := 5) (by decide) ?_
    refine va_sld hx hb hX hbl hbA V.2.2.1 (by unfold vp_in; decide) d_1434 ?_
    refine q_ti (v := s5) hs5 ?_
    have hP116 : u1[116]? = (some (q2 0, .inr (12, [.int 0, .ref (q2 1), .int 0, .ref (q2 2), .int 0, .ref (q2 3), .ref (q2 18), .ref (q2 29), .ref (q2 37), .ref (q2 41), .ref (q2 51), .ref (q2 52)])) : Option (Nat × va_E)) := q_fa (i := 0) hfm rfl
    have hP118 : u1[118]? = (some (q2 2, .inl (g 0, 12200, .inl (fun _ => 0))) : Option (Nat × va_E)) := q_fa (i := 2) hfm rfl
    have hP145 : u1[145]? = (some (q2 29, .inr (15, [.int 0, .ref (q2 30), .ref (q2 31), .ref (q2 32), .ref (q2 33), .ref (q2 34), .ref (q2 35), .ref (q2 36), .int 0, .int 0, .int 0, .long 0, .int 0, .int 0, .long 0, .int 0, .long 0, .int 0])) : Option (Nat × va_E)) := q_fa (i := 29) hfm rfl
    have hP146 : u1[146]? = (some (q2 30, .inl (g 0, 156, .inl (fun _ => 0))) : Option (Nat × va_E)) := q_fa (i := 30) hfm rfl
    have hP147 : u1[147]? = (some (q2 31, .inl (g 0, 156, .inl (fun _ => 0))) : Option (Nat × va_E)) := q_fa (i := 31) hfm rfl
    have hP148 : u1[148]? = (some (q2 32, .inl (g 0, 1404, .inl (fun _ => 0))) : Option (Nat × va_E)) := q_fa (i := 32) hfm rfl
    have hP151 : u1[151]? = (some (q2 35, .inl (g 0, 1404, .inl (fun _ => 0))) : Option (Nat × va_E)) := q_fa (i := 35) hfm rfl
    have hP152 : u1[152]? = (some (q2 36, .inl (g 0, 1600, .inl (fun _ => 0))) : Option (Nat × va_E)) := q_fa (i := 36) hfm rfl
    have hP167 : u1[167]? = (some (q2 51, .inl (g 1, 20, .inr (.inl (fun _ => 0)))) : Option (Nat × va_E)) := q_fa (i := 51) hfm rfl
    refine q_goi V (q_runV (As := [.int s1, .int s2, .int 0, .int s4, .int s5]) (rest := []) (d := 4) (mc := 0) (ms := 0) (ci := 12) C0 V rfl LV_NL_147 (c_NM_figures l D g u1 (q2 0) (q2 1) (q2 2) (q2 3) (q2 18) (q2 29) (q2 37) (q2 41) (q2 51) (q2 52) (q2 30) (q2 31) (q2 32) (q2 33) (q2 34) (q2 35) (q2 36) s1 s2 0 s4 s5 hP116 hP118 hP145 hP167 hP146 hP147 hP148 hP151 hP152 _) rfl rfl hP116 rfl hl.1 rfl (Nat.le_of_ble_eq_true rfl) ⟨by decide, by decide⟩ ⟨Nat.le_of_ble_eq_true rfl, Nat.le_of_ble_eq_true rfl⟩ d_1435) (fun r1 u2 H locs hp V => ?_)
    obtain ⟨t0, z2, z4, hM, hr, hG⟩ := hp
    replace hM : u2[116]? = (some (q2 0, .inr (12, [.int t0, .ref (q2 1), .int z2, .ref (q2 2), .int z4, .ref (q2 3), .ref (q2 18), .ref (q2 29), .ref (q2 37), .ref (q2 41), .ref (q2 51), .ref (q2 52)])) : Option (Nat × va_E)) := hM
    replace hO := (hG 169 (Nat.le_refl _)).trans hO
    replace hO : u2[169]? = (some (qo, .inl (g 1, 1, .inr (.inl (vp_updL (fun _ => 0) 0 o1)))) : Option (Nat × va_E)) := hO
    rcases hk with ⟨ek, hk⟩ | ⟨ek, hk⟩
    ·
      obtain rfl : k1 = 0 := q_Ieq (x := k1.toInt) (y := 0) rfl (by decide) ek
      obtain rfl : t0 = 0 := q_Ieq (x := t0.toInt) (y := 0) rfl (by decide) (by omega)
      refine lv_istore (lv' := [(6, .int r1), (5, .int 0), (4, .int 0), (3, .ref qo), (2, .ref (q2 0)), (1, .ref (q 0)), (0, .ref b)]) hx hb d_1438 hl (by decide) rfl (fun ls hl => ?_)
      refine lv_aload_n hx hb d_1440 rfl (lv_at hl 4 rfl) ?_
      refine q_goi V (q_runV (As := []) (rest := []) (d := 1) (mc := 0) (ms := 0) (ci := 12) C0 V rfl LV_NL_91 (c_NM_thrown l D g u2 (q2 0) 0 (q2 1) z2 (q2 2) z4 (q2 3) (q2 18) (q2 29) (q2 37) (q2 41) (q2 51) (q2 52) hM _) rfl rfl hM rfl hl.1 rfl (Nat.le_of_ble_eq_true rfl) ⟨by decide, by decide⟩ ⟨Nat.le_of_ble_eq_true rfl, Nat.le_of_ble_eq_true rfl⟩ d_1441) (fun v9 u9 H locs hp V => ?_)
      obtain ⟨rfl, rfl⟩ := hp
      refine lv_iload hx hb d_1444 (lv_at hl 1 rfl) ?_
      refine lv_icmp_eq (tgt := 1451) hx hb d_1446 (by decide) (fun c3 => ?_) (fun c3 => absurd (by decide) c3)
      refine lv_iload hx hb d_1451 (lv_at hl 1 rfl) ?_
      refine lv_if_ne (tgt := 1468) hx hb d_1453 (by decide) (fun c4 => absurd (by decide) c4) (fun c4 => ?_)
      refine lv_aload_n hx hb d_1456 rfl (lv_at hl 3 rfl) ?_
      refine lv_iconst (v := 0) hx hb d_1457 (by decide) ?_
      refine q_lald C0 V hO (by unfold vp_in; decide) d_1458 ?_
      refine q_tl (v := o1) (by first | rfl | decide | simp [upd, vp_updL, sb_cl0]) ?_
      refine lv_iload hx hb d_1459 (lv_at hl 0 rfl) ?_
      refine lv_i2l hx hb d_1461 rfl ?_
      refine W.lcmp hx hb d_1462 ?_
      refine q_ti (v := 0) (q_cmE (x := o1.toInt) (y := r1.toInt) rfl (q_i2l rfl) (by omega)) ?_
      refine lv_if_eq (tgt := 1468) hx hb d_1463 (by decide) (fun c5 => ?_) (fun c5 => absurd (by decide) c5)
      refine lv_goto (tgt := 1609) hx hb d_1468 (by decide) ?_
      refine W.widen (k := 300) (n := 300000) (Nat.le_of_ble_eq_true rfl) (Nat.le_of_ble_eq_true rfl) ?_
      exact kend _ _ _ _ V (q_lw hl (q_lw1 2 rfl (q_lw1 6 rfl q_lw0)))
    ·
      obtain rfl : k1 = 1 := q_Ieq (x := k1.toInt) (y := 1) rfl (by decide) ek
      obtain rfl : t0 = 1 := q_Ieq (x := t0.toInt) (y := 1) rfl (by decide) (by omega)
      refine lv_istore (lv' := [(6, .int r1), (5, .int 1), (4, .int 0), (3, .ref qo), (2, .ref (q2 0)), (1, .ref (q 0)), (0, .ref b)]) hx hb d_1438 hl (by decide) rfl (fun ls hl => ?_)
      refine lv_aload_n hx hb d_1440 rfl (lv_at hl 4 rfl) ?_
      refine q_goi V (q_runV (As := []) (rest := []) (d := 1) (mc := 0) (ms := 0) (ci := 12) C0 V rfl LV_NL_91 (c_NM_thrown l D g u2 (q2 0) 1 (q2 1) z2 (q2 2) z4 (q2 3) (q2 18) (q2 29) (q2 37) (q2 41) (q2 51) (q2 52) hM _) rfl rfl hM rfl hl.1 rfl (Nat.le_of_ble_eq_true rfl) ⟨by decide, by decide⟩ ⟨Nat.le_of_ble_eq_true rfl, Nat.le_of_ble_eq_true rfl⟩ d_1441) (fun v9 u9 H locs hp V => ?_)
      obtain ⟨rfl, rfl⟩ := hp
      refine lv_iload hx hb d_1444 (lv_at hl 1 rfl) ?_
      refine lv_icmp_eq (tgt := 1451) hx hb d_1446 (by decide) (fun c6 => ?_) (fun c6 => absurd (by decide) c6)
      refine lv_iload hx hb d_1451 (lv_at hl 1 rfl) ?_
      refine lv_if_ne (tgt := 1468) hx hb d_1453 (by decide) (fun c7 => ?_) (fun c7 => absurd c7 (by decide))
      refine lv_goto (tgt := 1609) hx hb d_1468 (by decide) ?_
      refine W.widen (k := 300) (n := 300000) (Nat.le_of_ble_eq_true rfl) (Nat.le_of_ble_eq_true rfl) ?_
      exact kend _ _ _ _ V (q_lw hl (q_lw1 2 rfl (q_lw1 6 rfl q_lw0)))
  ·
    refine lv_iconst (v := 1) hx hb d_1373 (by decide) ?_
    refine lv_goto (tgt := 1378) hx hb d_1374 (by decide) ?_
    refine lv_aload_n hx hb d_1378 rfl (lv_at hl 4 rfl) ?_
    refine lv_iload hx hb d_1379 (lv_at hl 0 rfl) ?_
    refine lv_iconst (v := 4) hx hb d_1381 (by decide) ?_
    refine lv_iadd hx hb d_1382 ?_
    refine q_ti (v := 4) (by decide) ?_
    refine va_sld hx hb hX hbl hbA V.2.2.1 (by unfold vp_in; decide) d_1383 ?_
    refine q_ti (v := s4) hs4 ?_
    refine lv_aload_n hx hb d_1384 rfl (lv_at hl 4 rfl) ?_
    refine lv_iload hx hb d_1385 (lv_at hl 0 rfl) ?_
    refine lv_iconst (v := 5) hx hb d_1387 (by decide) ?_
    refine lv_iadd hx hb d_1388 ?_
    refine q_ti (v := 5) (by decide) ?_
    refine va_sld hx hb hX hbl hbA V.2.2.1 (by unfold vp_in; decide) d_1389 ?_
    refine q_ti (v := s5) hs5 ?_
    refine lv_aload_n hx hb d_1390 rfl (lv_at hl 1 rfl) ?_
    refine q_goi V (q_runSW (As := [.ref (q 0), .int s1, .int s2, .int 1, .int s4, .int s5, .ref qo]) (rest := []) (d := 9) (mc := 3) (ms := 18) C0 V rfl LW_NL_144 (c_NL_figures l D g ws hlt q qo s1 s2 1 s4 s5 hfl hO _) rfl hl.1 rfl (Nat.le_of_ble_eq_true rfl) ⟨by decide, by decide⟩ ⟨Nat.le_of_ble_eq_true rfl, Nat.le_of_ble_eq_true rfl⟩ d_1391) (fun k1 u1 H locs hp V => ?_)
    obtain ⟨o1, hO, hk, hF⟩ := hp
    have hfm : q_fl u1 116 (nm_w g q2) := q_flW hF (Nat.le_of_ble_eq_true rfl) hfm
    replace hO : u1[169]? = (some (qo, .inl (g 1, 1, .inr (.inl (vp_updL (fun _ => 0) 0 o1)))) : Option (Nat × va_E)) := hO
    refine lv_istore (lv' := [(5, .int k1), (4, .int 0), (3, .ref qo), (2, .ref (q2 0)), (1, .ref (q 0)), (0, .ref b)]) hx hb d_1394 hl (by decide) rfl (fun ls hl => ?_)
    refine lv_aload_n hx hb d_1396 rfl (lv_at hl 3 rfl) ?_
    refine lv_aload_n hx hb d_1397 rfl (lv_at hl 5 rfl) ?_
    refine lv_iload hx hb d_1398 (lv_at hl 1 rfl) ?_
    refine lv_iconst (v := 1) hx hb d_1400 (by decide) ?_
    refine lv_iadd hx hb d_1401 ?_
    refine q_ti (v := 1) (by decide) ?_
    refine va_sld hx hb hX hbl hbA V.2.2.1 (by unfold vp_in; decide) d_1402 ?_
    refine q_ti (v := s1) hs1 ?_
    refine lv_aload_n hx hb d_1403 rfl (lv_at hl 5 rfl) ?_
    refine lv_iload hx hb d_1404 (lv_at hl 1 rfl) ?_
    refine lv_iconst (v := 2) hx hb d_1406 (by decide) ?_
    refine lv_iadd hx hb d_1407 ?_
    refine q_ti (v := 2) (by decide) ?_
    refine va_sld hx hb hX hbl hbA V.2.2.1 (by unfold vp_in; decide) d_1408 ?_
    refine q_ti (v := s2) hs2 ?_
    refine lv_aload_n hx hb d_1409 rfl (lv_at hl 5 rfl) ?_
    refine lv_iload hx hb d_1410 (lv_at hl 1 rfl) ?_
    refine lv_iconst (v := 3) hx hb d_1412 (by decide) ?_
    refine lv_iadd hx hb d_1413 ?_
    refine q_ti (v := 3) (by decide) ?_
    refine va_sld hx hb hX hbl hbA V.2.2.1 (by unfold vp_in; decide) d_1414 ?_
    refine q_ti (v := s3) hs3 ?_
    refine lv_if_eq (tgt := 1422) hx hb d_1415 (by decide) (fun c8 => absurd c8 c1) (fun c8 => ?_)
    refine lv_iconst (v := 1) hx hb d_1418 (by decide) ?_
    refine lv_goto (tgt := 1423) hx hb d_1419 (by decide) ?_
    refine lv_aload_n hx hb d_1423 rfl (lv_at hl 5 rfl) ?_
    refine lv_iload hx hb d_1424 (lv_at hl 1 rfl) ?_
    refine lv_iconst (v := 4) hx hb d_1426 (by decide) ?_
    refine lv_iadd hx hb d_1427 ?_
    refine q_ti (v := 4) (by decide) ?_
    refine va_sld hx hb hX hbl hbA V.2.2.1 (by unfold vp_in; decide) d_1428 ?_
    refine q_ti (v := s4) hs4 ?_
    refine lv_aload_n hx hb d_1429 rfl (lv_at hl 5 rfl) ?_
    refine lv_iload hx hb d_1430 (lv_at hl 1 rfl) ?_
    refine lv_iconst (v := 5) hx hb d_1432 (by decide) ?_
    refine lv_iadd hx hb d_1433 ?_
    refine q_ti (v := 5) (by decide) ?_
    refine va_sld hx hb hX hbl hbA V.2.2.1 (by unfold vp_in; decide) d_1434 ?_
    refine q_ti (v := s5) hs5 ?_
    have hP116 : u1[116]? = (some (q2 0, .inr (12, [.int 0, .ref (q2 1), .int 0, .ref (q2 2), .int 0, .ref (q2 3), .ref (q2 18), .ref (q2 29), .ref (q2 37), .ref (q2 41), .ref (q2 51), .ref (q2 52)])) : Option (Nat × va_E)) := q_fa (i := 0) hfm rfl
    have hP118 : u1[118]? = (some (q2 2, .inl (g 0, 12200, .inl (fun _ => 0))) : Option (Nat × va_E)) := q_fa (i := 2) hfm rfl
    have hP145 : u1[145]? = (some (q2 29, .inr (15, [.int 0, .ref (q2 30), .ref (q2 31), .ref (q2 32), .ref (q2 33), .ref (q2 34), .ref (q2 35), .ref (q2 36), .int 0, .int 0, .int 0, .long 0, .int 0, .int 0, .long 0, .int 0, .long 0, .int 0])) : Option (Nat × va_E)) := q_fa (i := 29) hfm rfl
    have hP146 : u1[146]? = (some (q2 30, .inl (g 0, 156, .inl (fun _ => 0))) : Option (Nat × va_E)) := q_fa (i := 30) hfm rfl
    have hP147 : u1[147]? = (some (q2 31, .inl (g 0, 156, .inl (fun _ => 0))) : Option (Nat × va_E)) := q_fa (i := 31) hfm rfl
    have hP148 : u1[148]? = (some (q2 32, .inl (g 0, 1404, .inl (fun _ => 0))) : Option (Nat × va_E)) := q_fa (i := 32) hfm rfl
    have hP151 : u1[151]? = (some (q2 35, .inl (g 0, 1404, .inl (fun _ => 0))) : Option (Nat × va_E)) := q_fa (i := 35) hfm rfl
    have hP152 : u1[152]? = (some (q2 36, .inl (g 0, 1600, .inl (fun _ => 0))) : Option (Nat × va_E)) := q_fa (i := 36) hfm rfl
    have hP167 : u1[167]? = (some (q2 51, .inl (g 1, 20, .inr (.inl (fun _ => 0)))) : Option (Nat × va_E)) := q_fa (i := 51) hfm rfl
    refine q_goi V (q_runV (As := [.int s1, .int s2, .int 1, .int s4, .int s5]) (rest := []) (d := 4) (mc := 0) (ms := 0) (ci := 12) C0 V rfl LV_NL_147 (c_NM_figures l D g u1 (q2 0) (q2 1) (q2 2) (q2 3) (q2 18) (q2 29) (q2 37) (q2 41) (q2 51) (q2 52) (q2 30) (q2 31) (q2 32) (q2 33) (q2 34) (q2 35) (q2 36) s1 s2 1 s4 s5 hP116 hP118 hP145 hP167 hP146 hP147 hP148 hP151 hP152 _) rfl rfl hP116 rfl hl.1 rfl (Nat.le_of_ble_eq_true rfl) ⟨by decide, by decide⟩ ⟨Nat.le_of_ble_eq_true rfl, Nat.le_of_ble_eq_true rfl⟩ d_1435) (fun r1 u2 H locs hp V => ?_)
    obtain ⟨t0, z2, z4, hM, hr, hG⟩ := hp
    replace hM : u2[116]? = (some (q2 0, .inr (12, [.int t0, .ref (q2 1), .int z2, .ref (q2 2), .int z4, .ref (q2 3), .ref (q2 18), .ref (q2 29), .ref (q2 37), .ref (q2 41), .ref (q2 51), .ref (q2 52)])) : Option (Nat × va_E)) := hM
    replace hO := (hG 169 (Nat.le_refl _)).trans hO
    replace hO : u2[169]? = (some (qo, .inl (g 1, 1, .inr (.inl (vp_updL (fun _ => 0) 0 o1)))) : Option (Nat × va_E)) := hO
    rcases hk with ⟨ek, hk⟩ | ⟨ek, hk⟩
    ·
      obtain rfl : k1 = 0 := q_Ieq (x := k1.toInt) (y := 0) rfl (by decide) ek
      obtain rfl : t0 = 0 := q_Ieq (x := t0.toInt) (y := 0) rfl (by decide) (by omega)
      refine lv_istore (lv' := [(6, .int r1), (5, .int 0), (4, .int 0), (3, .ref qo), (2, .ref (q2 0)), (1, .ref (q 0)), (0, .ref b)]) hx hb d_1438 hl (by decide) rfl (fun ls hl => ?_)
      refine lv_aload_n hx hb d_1440 rfl (lv_at hl 4 rfl) ?_
      refine q_goi V (q_runV (As := []) (rest := []) (d := 1) (mc := 0) (ms := 0) (ci := 12) C0 V rfl LV_NL_91 (c_NM_thrown l D g u2 (q2 0) 0 (q2 1) z2 (q2 2) z4 (q2 3) (q2 18) (q2 29) (q2 37) (q2 41) (q2 51) (q2 52) hM _) rfl rfl hM rfl hl.1 rfl (Nat.le_of_ble_eq_true rfl) ⟨by decide, by decide⟩ ⟨Nat.le_of_ble_eq_true rfl, Nat.le_of_ble_eq_true rfl⟩ d_1441) (fun v9 u9 H locs hp V => ?_)
      obtain ⟨rfl, rfl⟩ := hp
      refine lv_iload hx hb d_1444 (lv_at hl 1 rfl) ?_
      refine lv_icmp_eq (tgt := 1451) hx hb d_1446 (by decide) (fun c9 => ?_) (fun c9 => absurd (by decide) c9)
      refine lv_iload hx hb d_1451 (lv_at hl 1 rfl) ?_
      refine lv_if_ne (tgt := 1468) hx hb d_1453 (by decide) (fun c10 => absurd (by decide) c10) (fun c10 => ?_)
      refine lv_aload_n hx hb d_1456 rfl (lv_at hl 3 rfl) ?_
      refine lv_iconst (v := 0) hx hb d_1457 (by decide) ?_
      refine q_lald C0 V hO (by unfold vp_in; decide) d_1458 ?_
      refine q_tl (v := o1) (by first | rfl | decide | simp [upd, vp_updL, sb_cl0]) ?_
      refine lv_iload hx hb d_1459 (lv_at hl 0 rfl) ?_
      refine lv_i2l hx hb d_1461 rfl ?_
      refine W.lcmp hx hb d_1462 ?_
      refine q_ti (v := 0) (q_cmE (x := o1.toInt) (y := r1.toInt) rfl (q_i2l rfl) (by omega)) ?_
      refine lv_if_eq (tgt := 1468) hx hb d_1463 (by decide) (fun c11 => ?_) (fun c11 => absurd (by decide) c11)
      refine lv_goto (tgt := 1609) hx hb d_1468 (by decide) ?_
      refine W.widen (k := 300) (n := 300000) (Nat.le_of_ble_eq_true rfl) (Nat.le_of_ble_eq_true rfl) ?_
      exact kend _ _ _ _ V (q_lw hl (q_lw1 2 rfl (q_lw1 6 rfl q_lw0)))
    ·
      obtain rfl : k1 = 1 := q_Ieq (x := k1.toInt) (y := 1) rfl (by decide) ek
      obtain rfl : t0 = 1 := q_Ieq (x := t0.toInt) (y := 1) rfl (by decide) (by omega)
      refine lv_istore (lv' := [(6, .int r1), (5, .int 1), (4, .int 0), (3, .ref qo), (2, .ref (q2 0)), (1, .ref (q 0)), (0, .ref b)]) hx hb d_1438 hl (by decide) rfl (fun ls hl => ?_)
      refine lv_aload_n hx hb d_1440 rfl (lv_at hl 4 rfl) ?_
      refine q_goi V (q_runV (As := []) (rest := []) (d := 1) (mc := 0) (ms := 0) (ci := 12) C0 V rfl LV_NL_91 (c_NM_thrown l D g u2 (q2 0) 1 (q2 1) z2 (q2 2) z4 (q2 3) (q2 18) (q2 29) (q2 37) (q2 41) (q2 51) (q2 52) hM _) rfl rfl hM rfl hl.1 rfl (Nat.le_of_ble_eq_true rfl) ⟨by decide, by decide⟩ ⟨Nat.le_of_ble_eq_true rfl, Nat.le_of_ble_eq_true rfl⟩ d_1441) (fun v9 u9 H locs hp V => ?_)
      obtain ⟨rfl, rfl⟩ := hp
      refine lv_iload hx hb d_1444 (lv_at hl 1 rfl) ?_
      refine lv_icmp_eq (tgt := 1451) hx hb d_1446 (by decide) (fun c12 => ?_) (fun c12 => absurd (by decide) c12)
      refine lv_iload hx hb d_1451 (lv_at hl 1 rfl) ?_
      refine lv_if_ne (tgt := 1468) hx hb d_1453 (by decide) (fun c13 => ?_) (fun c13 => absurd c13 (by decide))
      refine lv_goto (tgt := 1609) hx hb d_1468 (by decide) ?_
      refine W.widen (k := 300) (n := 300000) (Nat.le_of_ble_eq_true rfl) (Nat.le_of_ble_eq_true rfl) ?_
      exact kend _ _ _ _ V (q_lw hl (q_lw1 2 rfl (q_lw1 6 rfl q_lw0)))
