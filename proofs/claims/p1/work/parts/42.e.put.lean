/-! the law, case 3: put -/
theorem d_336 : decode code 336 = .ok (.aload_n 1, 1) := by decide +kernel
theorem d_337 : decode code 337 = .ok (.aload_n 0, 1) := by decide +kernel
theorem d_338 : decode code 338 = .ok (.iload 4, 2) := by decide +kernel
theorem d_340 : decode code 340 = .ok (.iconst 1, 1) := by decide +kernel
theorem d_341 : decode code 341 = .ok (.iadd, 1) := by decide +kernel
theorem d_342 : decode code 342 = .ok (.iaload, 1) := by decide +kernel
theorem d_343 : decode code 343 = .ok (.aload_n 0, 1) := by decide +kernel
theorem d_344 : decode code 344 = .ok (.iload 4, 2) := by decide +kernel
theorem d_346 : decode code 346 = .ok (.iconst 2, 1) := by decide +kernel
theorem d_347 : decode code 347 = .ok (.iadd, 1) := by decide +kernel
theorem d_348 : decode code 348 = .ok (.iaload, 1) := by decide +kernel
theorem d_349 : decode code 349 = .ok (.aload_n 0, 1) := by decide +kernel
theorem d_350 : decode code 350 = .ok (.iload 4, 2) := by decide +kernel
theorem d_352 : decode code 352 = .ok (.iconst 3, 1) := by decide +kernel
theorem d_353 : decode code 353 = .ok (.iadd, 1) := by decide +kernel
theorem d_354 : decode code 354 = .ok (.iaload, 1) := by decide +kernel
theorem d_355 : decode code 355 = .ok (.i2l, 1) := by decide +kernel
theorem d_356 : decode code 356 = .ok (.bipush 32, 2) := by decide +kernel
theorem d_358 : decode code 358 = .ok (.lshl, 1) := by decide +kernel
theorem d_359 : decode code 359 = .ok (.aload_n 0, 1) := by decide +kernel
theorem d_360 : decode code 360 = .ok (.iload 4, 2) := by decide +kernel
theorem d_362 : decode code 362 = .ok (.iconst 4, 1) := by decide +kernel
theorem d_363 : decode code 363 = .ok (.iadd, 1) := by decide +kernel
theorem d_364 : decode code 364 = .ok (.iaload, 1) := by decide +kernel
theorem d_365 : decode code 365 = .ok (.i2l, 1) := by decide +kernel
theorem d_366 : decode code 366 = .ok (.ldc2_w 83, 3) := by decide +kernel
theorem d_369 : decode code 369 = .ok (.land, 1) := by decide +kernel
theorem d_370 : decode code 370 = .ok (.lor, 1) := by decide +kernel
theorem d_371 : decode code 371 = .ok (.invokestatic 102, 3) := by decide +kernel
theorem w_1098 : (Cond.codeWith ({ cls := "NumberHouseLaw", name := "put", desc := "(LNumberHouse;IIJ)I" } : MethodName) method_5_code (6 : Nat) (some .int) [((0 : Nat), (7 : Nat), (10 : Nat), (13 : Nat))]) ∈ q_tbl := q_of 1098 (by decide +kernel) (by decide +kernel)
theorem w_1096 : (Cond.methodLink "NumberHouseLaw" (102 : Nat) ({ cls := "NumberHouseLaw", name := "put", desc := "(LNumberHouse;IIJ)I" } : MethodName)) ∈ q_tbl := q_of 1096 (by decide +kernel) (by decide +kernel)
theorem w_1097 : (Cond.static ({ cls := "NumberHouseLaw", name := "put", desc := "(LNumberHouse;IIJ)I" } : MethodName)) ∈ q_tbl := q_of 1097 (by decide +kernel) (by decide +kernel)
theorem LW_NL_102 : q_LW "NumberHouseLaw" 102 y_NL_put method_5_code 6 (some .int) [(0, 7, 10, 13)] 4 := ⟨w_1098, w_0, w_1096, w_1097, ⟨by decide, by decide, by decide +kernel⟩⟩
theorem d_374 : decode code 374 = .ok (.istore 5, 2) := by decide +kernel
theorem d_376 : decode code 376 = .ok (.aload_n 2, 1) := by decide +kernel
theorem d_377 : decode code 377 = .ok (.aload_n 0, 1) := by decide +kernel
theorem d_378 : decode code 378 = .ok (.iload 4, 2) := by decide +kernel
theorem d_380 : decode code 380 = .ok (.iconst 1, 1) := by decide +kernel
theorem d_381 : decode code 381 = .ok (.iadd, 1) := by decide +kernel
theorem d_382 : decode code 382 = .ok (.iaload, 1) := by decide +kernel
theorem d_383 : decode code 383 = .ok (.aload_n 0, 1) := by decide +kernel
theorem d_384 : decode code 384 = .ok (.iload 4, 2) := by decide +kernel
theorem d_386 : decode code 386 = .ok (.iconst 2, 1) := by decide +kernel
theorem d_387 : decode code 387 = .ok (.iadd, 1) := by decide +kernel
theorem d_388 : decode code 388 = .ok (.iaload, 1) := by decide +kernel
theorem d_389 : decode code 389 = .ok (.aload_n 0, 1) := by decide +kernel
theorem d_390 : decode code 390 = .ok (.iload 4, 2) := by decide +kernel
theorem d_392 : decode code 392 = .ok (.iconst 3, 1) := by decide +kernel
theorem d_393 : decode code 393 = .ok (.iadd, 1) := by decide +kernel
theorem d_394 : decode code 394 = .ok (.iaload, 1) := by decide +kernel
theorem d_395 : decode code 395 = .ok (.i2l, 1) := by decide +kernel
theorem d_396 : decode code 396 = .ok (.bipush 32, 2) := by decide +kernel
theorem d_398 : decode code 398 = .ok (.lshl, 1) := by decide +kernel
theorem d_399 : decode code 399 = .ok (.aload_n 0, 1) := by decide +kernel
theorem d_400 : decode code 400 = .ok (.iload 4, 2) := by decide +kernel
theorem d_402 : decode code 402 = .ok (.iconst 4, 1) := by decide +kernel
theorem d_403 : decode code 403 = .ok (.iadd, 1) := by decide +kernel
theorem d_404 : decode code 404 = .ok (.iaload, 1) := by decide +kernel
theorem d_405 : decode code 405 = .ok (.i2l, 1) := by decide +kernel
theorem d_406 : decode code 406 = .ok (.ldc2_w 83, 3) := by decide +kernel
theorem d_409 : decode code 409 = .ok (.land, 1) := by decide +kernel
theorem d_410 : decode code 410 = .ok (.lor, 1) := by decide +kernel
theorem d_411 : decode code 411 = .ok (.invokevirtual 105, 3) := by decide +kernel
theorem w_2538 : (Cond.code ({ cls := "NumberHouseModel", name := "put", desc := "(IIJ)V" } : MethodName) prog_14_method_16_code (5 : Nat) (none : Option ClassFile.FieldType)) ∈ q_tbl := q_of 2538 (by decide +kernel) (by decide +kernel)
theorem w_2535 : (Cond.methodLink "NumberHouseLaw" (105 : Nat) ({ cls := "NumberHouseModel", name := "put", desc := "(IIJ)V" } : MethodName)) ∈ q_tbl := q_of 2535 (by decide +kernel) (by decide +kernel)
theorem w_2536 : (Cond.instanceMethod ({ cls := "NumberHouseModel", name := "put", desc := "(IIJ)V" } : MethodName)) ∈ q_tbl := q_of 2536 (by decide +kernel) (by decide +kernel)
theorem w_2537 : (Cond.selects "NumberHouseModel" ({ cls := "NumberHouseModel", name := "put", desc := "(IIJ)V" } : MethodName) ({ cls := "NumberHouseModel", name := "put", desc := "(IIJ)V" } : MethodName)) ∈ q_tbl := q_of 2537 (by decide +kernel) (by decide +kernel)
theorem LV_NL_105 : q_LV "NumberHouseLaw" 105 y_NM_put prog_14_method_16_code 5 none 3 := ⟨w_2538, w_14, w_2535, w_2536, w_2537, ⟨by decide, by decide, by decide +kernel⟩⟩
theorem d_414 : decode code 414 = .ok (.aload_n 2, 1) := by decide +kernel
theorem d_415 : decode code 415 = .ok (.invokevirtual 91, 3) := by decide +kernel
theorem d_418 : decode code 418 = .ok (.iload 5, 2) := by decide +kernel
theorem d_420 : decode code 420 = .ok (.if_icmp .eq 5, 3) := by decide +kernel
theorem d_425 : decode code 425 = .ok (.goto 1184, 3) := by decide +kernel
set_option maxRecDepth 100000 in
set_option maxHeartbeats 4000000 in
theorem law_k3 {p : Program} {l : Launch} {e : Env} {s : State} {m : MethodId} {below : List Frame} {meth : Method} {c : Code} {b : Nat} {xs : Nat → Int32} {D : va_G} {g : Nat → ClassId} {A : Nat → Prop} {ws : va_W} {H : Heap} {locs : List Loc} {Q : State → Prop} {ls : Array Slot} {q q2 : Nat → Nat} {qo : Nat} (hlt : l.stackTraces = false) (C0 : q_At p s m #[Value.ref b] meth c y_NL_law code 8 (some .boolean)) (hX : va_X b 6 xs s s.heap) (hbl : b < s.heap.size) (hbA : ¬ A b) (V : q_Wd D g A s ws H locs) (hfl : q_fl ws 0 (nh_w g q)) (hfm : q_fl ws 116 (nm_w g q2)) (hO : ws[169]? = (some (qo, .inl (g 1, 1, .inr (.inl (fun _ => 0)))) : Option (Nat × va_E))) (hl : lv_has ls 8 [(4, .int 0), (3, .ref qo), (2, .ref (q2 0)), (1, .ref (q 0)), (0, .ref b)]) (kend : ∀ (H : Heap) (locs : List Loc) (u : va_W) (ls : Array Slot), q_Wd D g A s u H locs → lv_has ls 8 [(4, .int 0), (0, .ref b)] → W p l e room_1 s m #[Value.ref b] below meth c H locs 300 300000 Q (F0 m 1609 ls [])) : W p l e room_1 s m #[Value.ref b] below meth c H locs 200 200000 Q (F0 m 336 ls []) := by
  have hx := C0.1
  have hb := C0.2.1
  obtain ⟨s1, hs1⟩ : ∃ z : Int32, xs ((1 : Int32).toNatClampNeg) = z := ⟨_, rfl⟩
  obtain ⟨s2, hs2⟩ : ∃ z : Int32, xs ((2 : Int32).toNatClampNeg) = z := ⟨_, rfl⟩
  obtain ⟨s3, hs3⟩ : ∃ z : Int32, xs ((3 : Int32).toNatClampNeg) = z := ⟨_, rfl⟩
  obtain ⟨s4, hs4⟩ : ∃ z : Int32, xs ((4 : Int32).toNatClampNeg) = z := ⟨_, rfl⟩
  obtain ⟨s5, hs5⟩ : ∃ z : Int32, xs ((5 : Int32).toNatClampNeg) = z := ⟨_, rfl⟩
  refine lv_aload_n hx hb d_336 rfl (lv_at hl 3 rfl) ?_
  refine lv_aload_n hx hb d_337 rfl (lv_at hl 4 rfl) ?_
  refine lv_iload hx hb d_338 (lv_at hl 0 rfl) ?_
  refine lv_iconst (v := 1) hx hb d_340 (by decide) ?_
  refine lv_iadd hx hb d_341 ?_
  refine q_ti (v := 1) (by decide) ?_
  refine va_sld hx hb hX hbl hbA V.2.2.1 (by unfold vp_in; decide) d_342 ?_
  refine q_ti (v := s1) hs1 ?_
  refine lv_aload_n hx hb d_343 rfl (lv_at hl 4 rfl) ?_
  refine lv_iload hx hb d_344 (lv_at hl 0 rfl) ?_
  refine lv_iconst (v := 2) hx hb d_346 (by decide) ?_
  refine lv_iadd hx hb d_347 ?_
  refine q_ti (v := 2) (by decide) ?_
  refine va_sld hx hb hX hbl hbA V.2.2.1 (by unfold vp_in; decide) d_348 ?_
  refine q_ti (v := s2) hs2 ?_
  refine lv_aload_n hx hb d_349 rfl (lv_at hl 4 rfl) ?_
  refine lv_iload hx hb d_350 (lv_at hl 0 rfl) ?_
  refine lv_iconst (v := 3) hx hb d_352 (by decide) ?_
  refine lv_iadd hx hb d_353 ?_
  refine q_ti (v := 3) (by decide) ?_
  refine va_sld hx hb hX hbl hbA V.2.2.1 (by unfold vp_in; decide) d_354 ?_
  refine q_ti (v := s3) hs3 ?_
  refine lv_i2l hx hb d_355 rfl ?_
  refine lv_bipush (v := 32) hx hb d_356 (by decide) ?_
  refine lv_lshl hx hb d_358 rfl ?_
  refine lv_aload_n hx hb d_359 rfl (lv_at hl 4 rfl) ?_
  refine lv_iload hx hb d_360 (lv_at hl 0 rfl) ?_
  refine lv_iconst (v := 4) hx hb d_362 (by decide) ?_
  refine lv_iadd hx hb d_363 ?_
  refine q_ti (v := 4) (by decide) ?_
  refine va_sld hx hb hX hbl hbA V.2.2.1 (by unfold vp_in; decide) d_364 ?_
  refine q_ti (v := s4) hs4 ?_
  refine lv_i2l hx hb d_365 rfl ?_
  refine q_ldc2 C0 rfl w_3232 d_366 ?_
  refine lv_land hx hb d_369 ?_
  refine lv_lor hx hb d_370 ?_
  refine q_goi V (q_runSW (As := [.ref (q 0), .int s1, .int s2, .long ((s3.toInt64 <<< ((32 : Int32).toInt64 &&& 63)) ||| (s4.toInt64 &&& 4294967295))]) (rest := []) (d := 10) (mc := 2) (ms := 12) C0 V rfl LW_NL_102 (c_NL_put l D g ws hlt q s1 s2 ((s3.toInt64 <<< ((32 : Int32).toInt64 &&& 63)) ||| (s4.toInt64 &&& 4294967295)) hfl _) rfl hl.1 rfl (Nat.le_of_ble_eq_true rfl) ⟨by decide, by decide⟩ ⟨Nat.le_of_ble_eq_true rfl, Nat.le_of_ble_eq_true rfl⟩ d_371) (fun k1 u1 H locs hp V => ?_)
  obtain ⟨hk, hF⟩ := hp
  have hfm : q_fl u1 116 (nm_w g q2) := q_flG hF hfm
  have hO : u1[169]? = _ := (hF 169 (Nat.le_of_ble_eq_true rfl)).trans hO
  replace hO : u1[169]? = (some (qo, .inl (g 1, 1, .inr (.inl (fun _ => 0)))) : Option (Nat × va_E)) := hO
  refine lv_istore (lv' := [(5, .int k1), (4, .int 0), (3, .ref qo), (2, .ref (q2 0)), (1, .ref (q 0)), (0, .ref b)]) hx hb d_374 hl (by decide) rfl (fun ls hl => ?_)
  refine lv_aload_n hx hb d_376 rfl (lv_at hl 3 rfl) ?_
  refine lv_aload_n hx hb d_377 rfl (lv_at hl 5 rfl) ?_
  refine lv_iload hx hb d_378 (lv_at hl 1 rfl) ?_
  refine lv_iconst (v := 1) hx hb d_380 (by decide) ?_
  refine lv_iadd hx hb d_381 ?_
  refine q_ti (v := 1) (by decide) ?_
  refine va_sld hx hb hX hbl hbA V.2.2.1 (by unfold vp_in; decide) d_382 ?_
  refine q_ti (v := s1) hs1 ?_
  refine lv_aload_n hx hb d_383 rfl (lv_at hl 5 rfl) ?_
  refine lv_iload hx hb d_384 (lv_at hl 1 rfl) ?_
  refine lv_iconst (v := 2) hx hb d_386 (by decide) ?_
  refine lv_iadd hx hb d_387 ?_
  refine q_ti (v := 2) (by decide) ?_
  refine va_sld hx hb hX hbl hbA V.2.2.1 (by unfold vp_in; decide) d_388 ?_
  refine q_ti (v := s2) hs2 ?_
  refine lv_aload_n hx hb d_389 rfl (lv_at hl 5 rfl) ?_
  refine lv_iload hx hb d_390 (lv_at hl 1 rfl) ?_
  refine lv_iconst (v := 3) hx hb d_392 (by decide) ?_
  refine lv_iadd hx hb d_393 ?_
  refine q_ti (v := 3) (by decide) ?_
  refine va_sld hx hb hX hbl hbA V.2.2.1 (by unfold vp_in; decide) d_394 ?_
  refine q_ti (v := s3) hs3 ?_
  refine lv_i2l hx hb d_395 rfl ?_
  refine lv_bipush (v := 32) hx hb d_396 (by decide) ?_
  refine lv_lshl hx hb d_398 rfl ?_
  refine lv_aload_n hx hb d_399 rfl (lv_at hl 5 rfl) ?_
  refine lv_iload hx hb d_400 (lv_at hl 1 rfl) ?_
  refine lv_iconst (v := 4) hx hb d_402 (by decide) ?_
  refine lv_iadd hx hb d_403 ?_
  refine q_ti (v := 4) (by decide) ?_
  refine va_sld hx hb hX hbl hbA V.2.2.1 (by unfold vp_in; decide) d_404 ?_
  refine q_ti (v := s4) hs4 ?_
  refine lv_i2l hx hb d_405 rfl ?_
  refine q_ldc2 C0 rfl w_3232 d_406 ?_
  refine lv_land hx hb d_409 ?_
  refine lv_lor hx hb d_410 ?_
  have hP116 : u1[116]? = (some (q2 0, .inr (12, [.int 0, .ref (q2 1), .int 0, .ref (q2 2), .int 0, .ref (q2 3), .ref (q2 18), .ref (q2 29), .ref (q2 37), .ref (q2 41), .ref (q2 51), .ref (q2 52)])) : Option (Nat × va_E)) := q_fa (i := 0) hfm rfl
  have hP119 : u1[119]? = (some (q2 3, .inr (13, [.int 0, .int 0, .ref (q2 4), .int 0, .ref (q2 5), .ref (q2 6), .ref (q2 7), .int 0, .ref (q2 8), .ref (q2 9), .ref (q2 10), .ref (q2 11), .ref (q2 12), .ref (q2 13), .ref (q2 14), .ref (q2 15), .int 0, .int 0, .ref (q2 16), .ref (q2 17), .int 0])) : Option (Nat × va_E)) := q_fa (i := 3) hfm rfl
  have hP121 : u1[121]? = (some (q2 5, .inl (g 0, 1408, .inl (fun _ => 0))) : Option (Nat × va_E)) := q_fa (i := 5) hfm rfl
  have hP122 : u1[122]? = (some (q2 6, .inl (g 3, 11, .inl (fun _ => 0))) : Option (Nat × va_E)) := q_fa (i := 6) hfm rfl
  have hP123 : u1[123]? = (some (q2 7, .inl (g 0, 264, .inl (fun _ => 0))) : Option (Nat × va_E)) := q_fa (i := 7) hfm rfl
  have hP134 : u1[134]? = (some (q2 18, .inr (14, [.int 0, .ref (q2 19), .int 0, .ref (q2 20), .ref (q2 21), .ref (q2 22), .ref (q2 23), .ref (q2 24), .int 0, .long 0, .int 0, .int 0, .ref (q2 25), .int 0, .ref (q2 26), .int 0, .ref (q2 27), .int 0, .ref (q2 28), .int 0, .int 0])) : Option (Nat × va_E)) := q_fa (i := 18) hfm rfl
  have hP136 : u1[136]? = (some (q2 20, .inl (g 0, 10000, .inl (fun _ => 0))) : Option (Nat × va_E)) := q_fa (i := 20) hfm rfl
  have hP137 : u1[137]? = (some (q2 21, .inl (g 0, 10, .inl (upd (upd (upd (upd (upd (upd (upd (upd (upd (upd (fun _ => 0) 0 1) 1 1) 2 1) 3 1) 4 1) 5 1) 6 1) 7 1) 8 1) 9 1))) : Option (Nat × va_E)) := q_fa (i := 21) hfm rfl
  have hP138 : u1[138]? = (some (q2 22, .inl (g 3, 10, .inl (fun _ => 0))) : Option (Nat × va_E)) := q_fa (i := 22) hfm rfl
  have hP139 : u1[139]? = (some (q2 23, .inl (g 0, 10, .inl (fun _ => 0))) : Option (Nat × va_E)) := q_fa (i := 23) hfm rfl
  have hP140 : u1[140]? = (some (q2 24, .inl (g 0, 4400, .inl (fun _ => 0))) : Option (Nat × va_E)) := q_fa (i := 24) hfm rfl
  have hP167 : u1[167]? = (some (q2 51, .inl (g 1, 20, .inr (.inl (fun _ => 0)))) : Option (Nat × va_E)) := q_fa (i := 51) hfm rfl
  refine q_gov V (q_runV (As := [.int s1, .int s2, .long ((s3.toInt64 <<< ((32 : Int32).toInt64 &&& 63)) ||| (s4.toInt64 &&& 4294967295))]) (rest := []) (d := 4) (mc := 0) (ms := 0) (ci := 12) C0 V rfl LV_NL_105 (c_NM_put l D g u1 (q2 0) (q2 1) (q2 2) (q2 3) (q2 18) (q2 29) (q2 37) (q2 41) (q2 51) (q2 52) (q2 4) (q2 5) (q2 6) (q2 7) (q2 8) (q2 9) (q2 10) (q2 11) (q2 12) (q2 13) (q2 14) (q2 15) (q2 16) (q2 17) (q2 19) (q2 20) (q2 21) (q2 22) (q2 23) (q2 24) (q2 25) (q2 26) (q2 27) (q2 28) s1 s2 ((s3.toInt64 <<< ((32 : Int32).toInt64 &&& 63)) ||| (s4.toInt64 &&& 4294967295)) hP116 hP119 hP134 hP167 hP121 hP122 hP123 hP136 hP137 hP138 hP139 hP140 _) rfl rfl hP116 rfl hl.1 rfl (Nat.le_of_ble_eq_true rfl) ⟨by decide, by decide⟩ ⟨Nat.le_of_ble_eq_true rfl, Nat.le_of_ble_eq_true rfl⟩ d_411) (fun u2 H locs hp V => ?_)
  obtain ⟨t0, z2, z4, hM, hr, hG⟩ := hp
  replace hM : u2[116]? = (some (q2 0, .inr (12, [.int t0, .ref (q2 1), .int z2, .ref (q2 2), .int z4, .ref (q2 3), .ref (q2 18), .ref (q2 29), .ref (q2 37), .ref (q2 41), .ref (q2 51), .ref (q2 52)])) : Option (Nat × va_E)) := hM
  replace hO := (hG 169 (Nat.le_refl _)).trans hO
  replace hO : u2[169]? = (some (qo, .inl (g 1, 1, .inr (.inl (fun _ => 0)))) : Option (Nat × va_E)) := hO
  rcases hk with ⟨ek, hk⟩ | ⟨ek, hk⟩
  ·
    obtain rfl : k1 = 0 := q_Ieq (x := k1.toInt) (y := 0) rfl (by decide) ek
    obtain rfl : t0 = 0 := q_Ieq (x := t0.toInt) (y := 0) rfl (by decide) (by exact hr.elim (fun h => h.1) (fun h => h.2.elim (fun h => absurd hk.1 h) (fun h => absurd (hk.2 h.1) h.2)))
    refine lv_aload_n hx hb d_414 rfl (lv_at hl 3 rfl) ?_
    refine q_goi V (q_runV (As := []) (rest := []) (d := 1) (mc := 0) (ms := 0) (ci := 12) C0 V rfl LV_NL_91 (c_NM_thrown l D g u2 (q2 0) 0 (q2 1) z2 (q2 2) z4 (q2 3) (q2 18) (q2 29) (q2 37) (q2 41) (q2 51) (q2 52) hM _) rfl rfl hM rfl hl.1 rfl (Nat.le_of_ble_eq_true rfl) ⟨by decide, by decide⟩ ⟨Nat.le_of_ble_eq_true rfl, Nat.le_of_ble_eq_true rfl⟩ d_415) (fun v9 u9 H locs hp V => ?_)
    obtain ⟨rfl, rfl⟩ := hp
    refine lv_iload hx hb d_418 (lv_at hl 0 rfl) ?_
    refine lv_icmp_eq (tgt := 425) hx hb d_420 (by decide) (fun c1 => ?_) (fun c1 => absurd (by decide) c1)
    refine lv_goto (tgt := 1609) hx hb d_425 (by decide) ?_
    refine W.widen (k := 300) (n := 300000) (Nat.le_of_ble_eq_true rfl) (Nat.le_of_ble_eq_true rfl) ?_
    exact kend _ _ _ _ V (q_lw hl (q_lw1 1 rfl (q_lw1 5 rfl q_lw0)))
  ·
    obtain rfl : k1 = 1 := q_Ieq (x := k1.toInt) (y := 1) rfl (by decide) ek
    obtain rfl : t0 = 1 := q_Ieq (x := t0.toInt) (y := 1) rfl (by decide) (by exact hr.elim (fun h => hk.elim (fun k => absurd h.2.1 k) (fun k => absurd (h.2.2 k.1) k.2)) (fun h => h.1))
    refine lv_aload_n hx hb d_414 rfl (lv_at hl 3 rfl) ?_
    refine q_goi V (q_runV (As := []) (rest := []) (d := 1) (mc := 0) (ms := 0) (ci := 12) C0 V rfl LV_NL_91 (c_NM_thrown l D g u2 (q2 0) 1 (q2 1) z2 (q2 2) z4 (q2 3) (q2 18) (q2 29) (q2 37) (q2 41) (q2 51) (q2 52) hM _) rfl rfl hM rfl hl.1 rfl (Nat.le_of_ble_eq_true rfl) ⟨by decide, by decide⟩ ⟨Nat.le_of_ble_eq_true rfl, Nat.le_of_ble_eq_true rfl⟩ d_415) (fun v9 u9 H locs hp V => ?_)
    obtain ⟨rfl, rfl⟩ := hp
    refine lv_iload hx hb d_418 (lv_at hl 0 rfl) ?_
    refine lv_icmp_eq (tgt := 425) hx hb d_420 (by decide) (fun c2 => ?_) (fun c2 => absurd (by decide) c2)
    refine lv_goto (tgt := 1609) hx hb d_425 (by decide) ?_
    refine W.widen (k := 300) (n := 300000) (Nat.le_of_ble_eq_true rfl) (Nat.le_of_ble_eq_true rfl) ?_
    exact kend _ _ _ _ V (q_lw hl (q_lw1 1 rfl (q_lw1 5 rfl q_lw0)))
