/-! the law, case 4: told -/
theorem d_428 : decode code 428 = .ok (.aload_n 1, 1) := by decide +kernel
theorem d_429 : decode code 429 = .ok (.aload_n 0, 1) := by decide +kernel
theorem d_430 : decode code 430 = .ok (.iload 4, 2) := by decide +kernel
theorem d_432 : decode code 432 = .ok (.iconst 1, 1) := by decide +kernel
theorem d_433 : decode code 433 = .ok (.iadd, 1) := by decide +kernel
theorem d_434 : decode code 434 = .ok (.iaload, 1) := by decide +kernel
theorem d_435 : decode code 435 = .ok (.aload_n 0, 1) := by decide +kernel
theorem d_436 : decode code 436 = .ok (.iload 4, 2) := by decide +kernel
theorem d_438 : decode code 438 = .ok (.iconst 2, 1) := by decide +kernel
theorem d_439 : decode code 439 = .ok (.iadd, 1) := by decide +kernel
theorem d_440 : decode code 440 = .ok (.iaload, 1) := by decide +kernel
theorem d_441 : decode code 441 = .ok (.aload_n 0, 1) := by decide +kernel
theorem d_442 : decode code 442 = .ok (.iload 4, 2) := by decide +kernel
theorem d_444 : decode code 444 = .ok (.iconst 3, 1) := by decide +kernel
theorem d_445 : decode code 445 = .ok (.iadd, 1) := by decide +kernel
theorem d_446 : decode code 446 = .ok (.iaload, 1) := by decide +kernel
theorem d_447 : decode code 447 = .ok (.aload_n 3, 1) := by decide +kernel
theorem d_448 : decode code 448 = .ok (.invokestatic 106, 3) := by decide +kernel
theorem w_1106 : (Cond.codeWith ({ cls := "NumberHouseLaw", name := "told", desc := "(LNumberHouse;III[J)I" } : MethodName) method_6_code (6 : Nat) (some .int) [((0 : Nat), (11 : Nat), (14 : Nat), (13 : Nat)), ((0 : Nat), (11 : Nat), (18 : Nat), (19 : Nat))]) ∈ q_tbl := q_of 1106 (by decide +kernel) (by decide +kernel)
theorem w_1104 : (Cond.methodLink "NumberHouseLaw" (106 : Nat) ({ cls := "NumberHouseLaw", name := "told", desc := "(LNumberHouse;III[J)I" } : MethodName)) ∈ q_tbl := q_of 1104 (by decide +kernel) (by decide +kernel)
theorem w_1105 : (Cond.static ({ cls := "NumberHouseLaw", name := "told", desc := "(LNumberHouse;III[J)I" } : MethodName)) ∈ q_tbl := q_of 1105 (by decide +kernel) (by decide +kernel)
theorem LW_NL_106 : q_LW "NumberHouseLaw" 106 y_NL_told method_6_code 6 (some .int) [(0, 11, 14, 13), (0, 11, 18, 19)] 5 := ⟨w_1106, w_0, w_1104, w_1105, ⟨by decide, by decide, by decide +kernel⟩⟩
theorem d_451 : decode code 451 = .ok (.istore 5, 2) := by decide +kernel
theorem d_453 : decode code 453 = .ok (.aload_n 2, 1) := by decide +kernel
theorem d_454 : decode code 454 = .ok (.aload_n 0, 1) := by decide +kernel
theorem d_455 : decode code 455 = .ok (.iload 4, 2) := by decide +kernel
theorem d_457 : decode code 457 = .ok (.iconst 1, 1) := by decide +kernel
theorem d_458 : decode code 458 = .ok (.iadd, 1) := by decide +kernel
theorem d_459 : decode code 459 = .ok (.iaload, 1) := by decide +kernel
theorem d_460 : decode code 460 = .ok (.aload_n 0, 1) := by decide +kernel
theorem d_461 : decode code 461 = .ok (.iload 4, 2) := by decide +kernel
theorem d_463 : decode code 463 = .ok (.iconst 2, 1) := by decide +kernel
theorem d_464 : decode code 464 = .ok (.iadd, 1) := by decide +kernel
theorem d_465 : decode code 465 = .ok (.iaload, 1) := by decide +kernel
theorem d_466 : decode code 466 = .ok (.aload_n 0, 1) := by decide +kernel
theorem d_467 : decode code 467 = .ok (.iload 4, 2) := by decide +kernel
theorem d_469 : decode code 469 = .ok (.iconst 3, 1) := by decide +kernel
theorem d_470 : decode code 470 = .ok (.iadd, 1) := by decide +kernel
theorem d_471 : decode code 471 = .ok (.iaload, 1) := by decide +kernel
theorem d_472 : decode code 472 = .ok (.invokevirtual 108, 3) := by decide +kernel
theorem w_2550 : (Cond.code ({ cls := "NumberHouseModel", name := "told", desc := "(III)J" } : MethodName) prog_14_method_17_code (6 : Nat) (some .long)) ∈ q_tbl := q_of 2550 (by decide +kernel) (by decide +kernel)
theorem w_2547 : (Cond.methodLink "NumberHouseLaw" (108 : Nat) ({ cls := "NumberHouseModel", name := "told", desc := "(III)J" } : MethodName)) ∈ q_tbl := q_of 2547 (by decide +kernel) (by decide +kernel)
theorem w_2548 : (Cond.instanceMethod ({ cls := "NumberHouseModel", name := "told", desc := "(III)J" } : MethodName)) ∈ q_tbl := q_of 2548 (by decide +kernel) (by decide +kernel)
theorem w_2549 : (Cond.selects "NumberHouseModel" ({ cls := "NumberHouseModel", name := "told", desc := "(III)J" } : MethodName) ({ cls := "NumberHouseModel", name := "told", desc := "(III)J" } : MethodName)) ∈ q_tbl := q_of 2549 (by decide +kernel) (by decide +kernel)
theorem LV_NL_108 : q_LV "NumberHouseLaw" 108 y_NM_told prog_14_method_17_code 6 (some .long) 3 := ⟨w_2550, w_14, w_2547, w_2548, w_2549, ⟨by decide, by decide, by decide +kernel⟩⟩
theorem d_475 : decode code 475 = .ok (.lstore 6, 2) := by decide +kernel
theorem d_477 : decode code 477 = .ok (.aload_n 2, 1) := by decide +kernel
theorem d_478 : decode code 478 = .ok (.invokevirtual 91, 3) := by decide +kernel
theorem d_481 : decode code 481 = .ok (.iload 5, 2) := by decide +kernel
theorem d_483 : decode code 483 = .ok (.if_icmp .eq 5, 3) := by decide +kernel
theorem d_488 : decode code 488 = .ok (.iload 5, 2) := by decide +kernel
theorem d_490 : decode code 490 = .ok (.ifCond .ne 14, 3) := by decide +kernel
theorem d_493 : decode code 493 = .ok (.aload_n 3, 1) := by decide +kernel
theorem d_494 : decode code 494 = .ok (.iconst 0, 1) := by decide +kernel
theorem d_495 : decode code 495 = .ok (.laload, 1) := by decide +kernel
theorem d_496 : decode code 496 = .ok (.lload 6, 2) := by decide +kernel
theorem d_498 : decode code 498 = .ok (.lcmp, 1) := by decide +kernel
theorem d_499 : decode code 499 = .ok (.ifCond .eq 5, 3) := by decide +kernel
theorem d_504 : decode code 504 = .ok (.goto 1105, 3) := by decide +kernel
set_option maxRecDepth 100000 in
set_option maxHeartbeats 4000000 in
theorem law_k4 {p : Program} {l : Launch} {e : Env} {s : State} {m : MethodId} {below : List Frame} {meth : Method} {c : Code} {b : Nat} {xs : Nat → Int32} {D : va_G} {g : Nat → ClassId} {A : Nat → Prop} {ws : va_W} {H : Heap} {locs : List Loc} {Q : State → Prop} {ls : Array Slot} {q q2 : Nat → Nat} {qo : Nat} (hlt : l.stackTraces = false) (C0 : q_At p s m #[Value.ref b] meth c y_NL_law code 8 (some .boolean)) (hX : va_X b 6 xs s s.heap) (hbl : b < s.heap.size) (hbA : ¬ A b) (V : q_Wd D g A s ws H locs) (hfl : q_fl ws 0 (nh_w g q)) (hfm : q_fl ws 116 (nm_w g q2)) (hO : ws[169]? = (some (qo, .inl (g 1, 1, .inr (.inl (fun _ => 0)))) : Option (Nat × va_E))) (hl : lv_has ls 8 [(4, .int 0), (3, .ref qo), (2, .ref (q2 0)), (1, .ref (q 0)), (0, .ref b)]) (kend : ∀ (H : Heap) (locs : List Loc) (u : va_W) (ls : Array Slot), q_Wd D g A s u H locs → lv_has ls 8 [(4, .int 0), (0, .ref b)] → W p l e room_1 s m #[Value.ref b] below meth c H locs 300 300000 Q (F0 m 1609 ls [])) : W p l e room_1 s m #[Value.ref b] below meth c H locs 200 200000 Q (F0 m 428 ls []) := by
  have hx := C0.1
  have hb := C0.2.1
  obtain ⟨s1, hs1⟩ : ∃ z : Int32, xs ((1 : Int32).toNatClampNeg) = z := ⟨_, rfl⟩
  obtain ⟨s2, hs2⟩ : ∃ z : Int32, xs ((2 : Int32).toNatClampNeg) = z := ⟨_, rfl⟩
  obtain ⟨s3, hs3⟩ : ∃ z : Int32, xs ((3 : Int32).toNatClampNeg) = z := ⟨_, rfl⟩
  obtain ⟨s4, hs4⟩ : ∃ z : Int32, xs ((4 : Int32).toNatClampNeg) = z := ⟨_, rfl⟩
  obtain ⟨s5, hs5⟩ : ∃ z : Int32, xs ((5 : Int32).toNatClampNeg) = z := ⟨_, rfl⟩
  refine lv_aload_n hx hb d_428 rfl (lv_at hl 3 rfl) ?_
  refine lv_aload_n hx hb d_429 rfl (lv_at hl 4 rfl) ?_
  refine lv_iload hx hb d_430 (lv_at hl 0 rfl) ?_
  refine lv_iconst (v := 1) hx hb d_432 (by decide) ?_
  refine lv_iadd hx hb d_433 ?_
  refine q_ti (v := 1) (by decide) ?_
  refine va_sld hx hb hX hbl hbA V.2.2.1 (by unfold vp_in; decide) d_434 ?_
  refine q_ti (v := s1) hs1 ?_
  refine lv_aload_n hx hb d_435 rfl (lv_at hl 4 rfl) ?_
  refine lv_iload hx hb d_436 (lv_at hl 0 rfl) ?_
  refine lv_iconst (v := 2) hx hb d_438 (by decide) ?_
  refine lv_iadd hx hb d_439 ?_
  refine q_ti (v := 2) (by decide) ?_
  refine va_sld hx hb hX hbl hbA V.2.2.1 (by unfold vp_in; decide) d_440 ?_
  refine q_ti (v := s2) hs2 ?_
  refine lv_aload_n hx hb d_441 rfl (lv_at hl 4 rfl) ?_
  refine lv_iload hx hb d_442 (lv_at hl 0 rfl) ?_
  refine lv_iconst (v := 3) hx hb d_444 (by decide) ?_
  refine lv_iadd hx hb d_445 ?_
  refine q_ti (v := 3) (by decide) ?_
  refine va_sld hx hb hX hbl hbA V.2.2.1 (by unfold vp_in; decide) d_446 ?_
  refine q_ti (v := s3) hs3 ?_
  refine lv_aload_n hx hb d_447 rfl (lv_at hl 1 rfl) ?_
  refine q_goi V (q_runSW (As := [.ref (q 0), .int s1, .int s2, .int s3, .ref qo]) (rest := []) (d := 10) (mc := 4) (ms := 24) C0 V rfl LW_NL_106 (c_NL_told l D g ws hlt q qo s1 s2 s3 hfl hO _) rfl hl.1 rfl (Nat.le_of_ble_eq_true rfl) ⟨by decide, by decide⟩ ⟨Nat.le_of_ble_eq_true rfl, Nat.le_of_ble_eq_true rfl⟩ d_448) (fun k1 u1 H locs hp V => ?_)
  obtain ⟨o1, hO, hk, hF⟩ := hp
  have hfm : q_fl u1 116 (nm_w g q2) := q_flW hF (Nat.le_of_ble_eq_true rfl) hfm
  replace hO : u1[169]? = (some (qo, .inl (g 1, 1, .inr (.inl (vp_updL (fun _ => 0) 0 o1)))) : Option (Nat × va_E)) := hO
  refine lv_istore (lv' := [(5, .int k1), (4, .int 0), (3, .ref qo), (2, .ref (q2 0)), (1, .ref (q 0)), (0, .ref b)]) hx hb d_451 hl (by decide) rfl (fun ls hl => ?_)
  refine lv_aload_n hx hb d_453 rfl (lv_at hl 3 rfl) ?_
  refine lv_aload_n hx hb d_454 rfl (lv_at hl 5 rfl) ?_
  refine lv_iload hx hb d_455 (lv_at hl 1 rfl) ?_
  refine lv_iconst (v := 1) hx hb d_457 (by decide) ?_
  refine lv_iadd hx hb d_458 ?_
  refine q_ti (v := 1) (by decide) ?_
  refine va_sld hx hb hX hbl hbA V.2.2.1 (by unfold vp_in; decide) d_459 ?_
  refine q_ti (v := s1) hs1 ?_
  refine lv_aload_n hx hb d_460 rfl (lv_at hl 5 rfl) ?_
  refine lv_iload hx hb d_461 (lv_at hl 1 rfl) ?_
  refine lv_iconst (v := 2) hx hb d_463 (by decide) ?_
  refine lv_iadd hx hb d_464 ?_
  refine q_ti (v := 2) (by decide) ?_
  refine va_sld hx hb hX hbl hbA V.2.2.1 (by unfold vp_in; decide) d_465 ?_
  refine q_ti (v := s2) hs2 ?_
  refine lv_aload_n hx hb d_466 rfl (lv_at hl 5 rfl) ?_
  refine lv_iload hx hb d_467 (lv_at hl 1 rfl) ?_
  refine lv_iconst (v := 3) hx hb d_469 (by decide) ?_
  refine lv_iadd hx hb d_470 ?_
  refine q_ti (v := 3) (by decide) ?_
  refine va_sld hx hb hX hbl hbA V.2.2.1 (by unfold vp_in; decide) d_471 ?_
  refine q_ti (v := s3) hs3 ?_
  have hP116 : u1[116]? = (some (q2 0, .inr (12, [.int 0, .ref (q2 1), .int 0, .ref (q2 2), .int 0, .ref (q2 3), .ref (q2 18), .ref (q2 29), .ref (q2 37), .ref (q2 41), .ref (q2 51), .ref (q2 52)])) : Option (Nat × va_E)) := q_fa (i := 0) hfm rfl
  have hP119 : u1[119]? = (some (q2 3, .inr (13, [.int 0, .int 0, .ref (q2 4), .int 0, .ref (q2 5), .ref (q2 6), .ref (q2 7), .int 0, .ref (q2 8), .ref (q2 9), .ref (q2 10), .ref (q2 11), .ref (q2 12), .ref (q2 13), .ref (q2 14), .ref (q2 15), .int 0, .int 0, .ref (q2 16), .ref (q2 17), .int 0])) : Option (Nat × va_E)) := q_fa (i := 3) hfm rfl
  have hP121 : u1[121]? = (some (q2 5, .inl (g 0, 1408, .inl (fun _ => 0))) : Option (Nat × va_E)) := q_fa (i := 5) hfm rfl
  have hP122 : u1[122]? = (some (q2 6, .inl (g 3, 11, .inl (fun _ => 0))) : Option (Nat × va_E)) := q_fa (i := 6) hfm rfl
  have hP134 : u1[134]? = (some (q2 18, .inr (14, [.int 0, .ref (q2 19), .int 0, .ref (q2 20), .ref (q2 21), .ref (q2 22), .ref (q2 23), .ref (q2 24), .int 0, .long 0, .int 0, .int 0, .ref (q2 25), .int 0, .ref (q2 26), .int 0, .ref (q2 27), .int 0, .ref (q2 28), .int 0, .int 0])) : Option (Nat × va_E)) := q_fa (i := 18) hfm rfl
  have hP136 : u1[136]? = (some (q2 20, .inl (g 0, 10000, .inl (fun _ => 0))) : Option (Nat × va_E)) := q_fa (i := 20) hfm rfl
  have hP137 : u1[137]? = (some (q2 21, .inl (g 0, 10, .inl (upd (upd (upd (upd (upd (upd (upd (upd (upd (upd (fun _ => 0) 0 1) 1 1) 2 1) 3 1) 4 1) 5 1) 6 1) 7 1) 8 1) 9 1))) : Option (Nat × va_E)) := q_fa (i := 21) hfm rfl
  have hP139 : u1[139]? = (some (q2 23, .inl (g 0, 10, .inl (fun _ => 0))) : Option (Nat × va_E)) := q_fa (i := 23) hfm rfl
  have hP145 : u1[145]? = (some (q2 29, .inr (15, [.int 0, .ref (q2 30), .ref (q2 31), .ref (q2 32), .ref (q2 33), .ref (q2 34), .ref (q2 35), .ref (q2 36), .int 0, .int 0, .int 0, .long 0, .int 0, .int 0, .long 0, .int 0, .long 0, .int 0])) : Option (Nat × va_E)) := q_fa (i := 29) hfm rfl
  have hP167 : u1[167]? = (some (q2 51, .inl (g 1, 20, .inr (.inl (fun _ => 0)))) : Option (Nat × va_E)) := q_fa (i := 51) hfm rfl
  refine q_gol V (q_runV (As := [.int s1, .int s2, .int s3]) (rest := []) (d := 3) (mc := 0) (ms := 0) (ci := 12) C0 V rfl LV_NL_108 (c_NM_told l D g u1 (q2 0) (q2 1) (q2 2) (q2 3) (q2 18) (q2 29) (q2 37) (q2 41) (q2 51) (q2 52) (q2 4) (q2 5) (q2 6) (q2 7) (q2 8) (q2 9) (q2 10) (q2 11) (q2 12) (q2 13) (q2 14) (q2 15) (q2 16) (q2 17) (q2 19) (q2 20) (q2 21) (q2 22) (q2 23) (q2 24) (q2 25) (q2 26) (q2 27) (q2 28) (q2 30) (q2 31) (q2 32) (q2 33) (q2 34) (q2 35) (q2 36) s1 s2 s3 hP116 hP119 hP134 hP145 hP167 hP121 hP122 hP136 hP137 hP139 _) rfl rfl hP116 rfl hl.1 rfl (Nat.le_of_ble_eq_true rfl) ⟨by decide, by decide⟩ ⟨Nat.le_of_ble_eq_true rfl, Nat.le_of_ble_eq_true rfl⟩ d_472) (fun r1 u2 H locs hp V => ?_)
  obtain ⟨t0, z2, z4, hM, hr, hG⟩ := hp
  replace hM : u2[116]? = (some (q2 0, .inr (12, [.int t0, .ref (q2 1), .int z2, .ref (q2 2), .int z4, .ref (q2 3), .ref (q2 18), .ref (q2 29), .ref (q2 37), .ref (q2 41), .ref (q2 51), .ref (q2 52)])) : Option (Nat × va_E)) := hM
  replace hO := (hG 169 (Nat.le_refl _)).trans hO
  replace hO : u2[169]? = (some (qo, .inl (g 1, 1, .inr (.inl (vp_updL (fun _ => 0) 0 o1)))) : Option (Nat × va_E)) := hO
  rcases hk with ⟨ek, hk⟩ | ⟨ek, hk⟩
  ·
    obtain rfl : k1 = 0 := q_Ieq (x := k1.toInt) (y := 0) rfl (by decide) ek
    obtain rfl : t0 = 0 := q_Ieq (x := t0.toInt) (y := 0) rfl (by decide) (by omega)
    refine lv_lstore (lv' := [(6, .long r1), (5, .int 0), (4, .int 0), (3, .ref qo), (2, .ref (q2 0)), (1, .ref (q 0)), (0, .ref b)]) hx hb d_475 hl (by decide) rfl (fun ls hl => ?_)
    refine lv_aload_n hx hb d_477 rfl (lv_at hl 4 rfl) ?_
    refine q_goi V (q_runV (As := []) (rest := []) (d := 1) (mc := 0) (ms := 0) (ci := 12) C0 V rfl LV_NL_91 (c_NM_thrown l D g u2 (q2 0) 0 (q2 1) z2 (q2 2) z4 (q2 3) (q2 18) (q2 29) (q2 37) (q2 41) (q2 51) (q2 52) hM _) rfl rfl hM rfl hl.1 rfl (Nat.le_of_ble_eq_true rfl) ⟨by decide, by decide⟩ ⟨Nat.le_of_ble_eq_true rfl, Nat.le_of_ble_eq_true rfl⟩ d_478) (fun v9 u9 H locs hp V => ?_)
    obtain ⟨rfl, rfl⟩ := hp
    refine lv_iload hx hb d_481 (lv_at hl 1 rfl) ?_
    refine lv_icmp_eq (tgt := 488) hx hb d_483 (by decide) (fun c1 => ?_) (fun c1 => absurd (by decide) c1)
    refine lv_iload hx hb d_488 (lv_at hl 1 rfl) ?_
    refine lv_if_ne (tgt := 504) hx hb d_490 (by decide) (fun c2 => absurd (by decide) c2) (fun c2 => ?_)
    refine lv_aload_n hx hb d_493 rfl (lv_at hl 3 rfl) ?_
    refine lv_iconst (v := 0) hx hb d_494 (by decide) ?_
    refine q_lald C0 V hO (by unfold vp_in; decide) d_495 ?_
    refine q_tl (v := o1) (by first | rfl | decide | simp [upd, vp_updL, sb_cl0]) ?_
    refine lv_lload hx hb d_496 (lv_at hl 0 rfl) ?_
    refine W.lcmp hx hb d_498 ?_
    refine q_ti (v := 0) (q_cmE (x := o1.toInt) (y := r1.toInt) rfl rfl (by omega)) ?_
    refine lv_if_eq (tgt := 504) hx hb d_499 (by decide) (fun c3 => ?_) (fun c3 => absurd (by decide) c3)
    refine lv_goto (tgt := 1609) hx hb d_504 (by decide) ?_
    refine W.widen (k := 300) (n := 300000) (Nat.le_of_ble_eq_true rfl) (Nat.le_of_ble_eq_true rfl) ?_
    exact kend _ _ _ _ V (q_lw hl (q_lw1 2 rfl (q_lw1 6 rfl q_lw0)))
  ·
    obtain rfl : k1 = 1 := q_Ieq (x := k1.toInt) (y := 1) rfl (by decide) ek
    obtain rfl : t0 = 1 := q_Ieq (x := t0.toInt) (y := 1) rfl (by decide) (by omega)
    refine lv_lstore (lv' := [(6, .long r1), (5, .int 1), (4, .int 0), (3, .ref qo), (2, .ref (q2 0)), (1, .ref (q 0)), (0, .ref b)]) hx hb d_475 hl (by decide) rfl (fun ls hl => ?_)
    refine lv_aload_n hx hb d_477 rfl (lv_at hl 4 rfl) ?_
    refine q_goi V (q_runV (As := []) (rest := []) (d := 1) (mc := 0) (ms := 0) (ci := 12) C0 V rfl LV_NL_91 (c_NM_thrown l D g u2 (q2 0) 1 (q2 1) z2 (q2 2) z4 (q2 3) (q2 18) (q2 29) (q2 37) (q2 41) (q2 51) (q2 52) hM _) rfl rfl hM rfl hl.1 rfl (Nat.le_of_ble_eq_true rfl) ⟨by decide, by decide⟩ ⟨Nat.le_of_ble_eq_true rfl, Nat.le_of_ble_eq_true rfl⟩ d_478) (fun v9 u9 H locs hp V => ?_)
    obtain ⟨rfl, rfl⟩ := hp
    refine lv_iload hx hb d_481 (lv_at hl 1 rfl) ?_
    refine lv_icmp_eq (tgt := 488) hx hb d_483 (by decide) (fun c4 => ?_) (fun c4 => absurd (by decide) c4)
    refine lv_iload hx hb d_488 (lv_at hl 1 rfl) ?_
    refine lv_if_ne (tgt := 504) hx hb d_490 (by decide) (fun c5 => ?_) (fun c5 => absurd c5 (by decide))
    refine lv_goto (tgt := 1609) hx hb d_504 (by decide) ?_
    refine W.widen (k := 300) (n := 300000) (Nat.le_of_ble_eq_true rfl) (Nat.le_of_ble_eq_true rfl) ?_
    exact kend _ _ _ _ V (q_lw hl (q_lw1 2 rfl (q_lw1 6 rfl q_lw0)))
