/-! the law, case 5: compare -/
theorem d_507 : decode code 507 = .ok (.aload_n 1, 1) := by decide +kernel
theorem d_508 : decode code 508 = .ok (.aload_n 0, 1) := by decide +kernel
theorem d_509 : decode code 509 = .ok (.iload 4, 2) := by decide +kernel
theorem d_511 : decode code 511 = .ok (.iconst 1, 1) := by decide +kernel
theorem d_512 : decode code 512 = .ok (.iadd, 1) := by decide +kernel
theorem d_513 : decode code 513 = .ok (.iaload, 1) := by decide +kernel
theorem d_514 : decode code 514 = .ok (.aload_n 0, 1) := by decide +kernel
theorem d_515 : decode code 515 = .ok (.iload 4, 2) := by decide +kernel
theorem d_517 : decode code 517 = .ok (.iconst 2, 1) := by decide +kernel
theorem d_518 : decode code 518 = .ok (.iadd, 1) := by decide +kernel
theorem d_519 : decode code 519 = .ok (.iaload, 1) := by decide +kernel
theorem d_520 : decode code 520 = .ok (.aload_n 0, 1) := by decide +kernel
theorem d_521 : decode code 521 = .ok (.iload 4, 2) := by decide +kernel
theorem d_523 : decode code 523 = .ok (.iconst 3, 1) := by decide +kernel
theorem d_524 : decode code 524 = .ok (.iadd, 1) := by decide +kernel
theorem d_525 : decode code 525 = .ok (.iaload, 1) := by decide +kernel
theorem d_526 : decode code 526 = .ok (.aload_n 3, 1) := by decide +kernel
theorem d_527 : decode code 527 = .ok (.invokestatic 109, 3) := by decide +kernel
theorem w_1213 : (Cond.codeWith ({ cls := "NumberHouseLaw", name := "compare", desc := "(LNumberHouse;III[J)I" } : MethodName) method_7_code (6 : Nat) (some .int) [((0 : Nat), (12 : Nat), (15 : Nat), (13 : Nat)), ((0 : Nat), (12 : Nat), (19 : Nat), (19 : Nat))]) ∈ q_tbl := q_of 1213 (by decide +kernel) (by decide +kernel)
theorem w_1211 : (Cond.methodLink "NumberHouseLaw" (109 : Nat) ({ cls := "NumberHouseLaw", name := "compare", desc := "(LNumberHouse;III[J)I" } : MethodName)) ∈ q_tbl := q_of 1211 (by decide +kernel) (by decide +kernel)
theorem w_1212 : (Cond.static ({ cls := "NumberHouseLaw", name := "compare", desc := "(LNumberHouse;III[J)I" } : MethodName)) ∈ q_tbl := q_of 1212 (by decide +kernel) (by decide +kernel)
theorem LW_NL_109 : q_LW "NumberHouseLaw" 109 y_NL_compare method_7_code 6 (some .int) [(0, 12, 15, 13), (0, 12, 19, 19)] 5 := ⟨w_1213, w_0, w_1211, w_1212, ⟨by decide, by decide, by decide +kernel⟩⟩
theorem d_530 : decode code 530 = .ok (.istore 5, 2) := by decide +kernel
theorem d_532 : decode code 532 = .ok (.aload_n 2, 1) := by decide +kernel
theorem d_533 : decode code 533 = .ok (.aload_n 0, 1) := by decide +kernel
theorem d_534 : decode code 534 = .ok (.iload 4, 2) := by decide +kernel
theorem d_536 : decode code 536 = .ok (.iconst 1, 1) := by decide +kernel
theorem d_537 : decode code 537 = .ok (.iadd, 1) := by decide +kernel
theorem d_538 : decode code 538 = .ok (.iaload, 1) := by decide +kernel
theorem d_539 : decode code 539 = .ok (.aload_n 0, 1) := by decide +kernel
theorem d_540 : decode code 540 = .ok (.iload 4, 2) := by decide +kernel
theorem d_542 : decode code 542 = .ok (.iconst 2, 1) := by decide +kernel
theorem d_543 : decode code 543 = .ok (.iadd, 1) := by decide +kernel
theorem d_544 : decode code 544 = .ok (.iaload, 1) := by decide +kernel
theorem d_545 : decode code 545 = .ok (.aload_n 0, 1) := by decide +kernel
theorem d_546 : decode code 546 = .ok (.iload 4, 2) := by decide +kernel
theorem d_548 : decode code 548 = .ok (.iconst 3, 1) := by decide +kernel
theorem d_549 : decode code 549 = .ok (.iadd, 1) := by decide +kernel
theorem d_550 : decode code 550 = .ok (.iaload, 1) := by decide +kernel
theorem d_551 : decode code 551 = .ok (.invokevirtual 111, 3) := by decide +kernel
theorem w_2647 : (Cond.code ({ cls := "NumberHouseModel", name := "compare", desc := "(III)I" } : MethodName) prog_14_method_19_code (12 : Nat) (some .int)) ∈ q_tbl := q_of 2647 (by decide +kernel) (by decide +kernel)
theorem w_2644 : (Cond.methodLink "NumberHouseLaw" (111 : Nat) ({ cls := "NumberHouseModel", name := "compare", desc := "(III)I" } : MethodName)) ∈ q_tbl := q_of 2644 (by decide +kernel) (by decide +kernel)
theorem w_2645 : (Cond.instanceMethod ({ cls := "NumberHouseModel", name := "compare", desc := "(III)I" } : MethodName)) ∈ q_tbl := q_of 2645 (by decide +kernel) (by decide +kernel)
theorem w_2646 : (Cond.selects "NumberHouseModel" ({ cls := "NumberHouseModel", name := "compare", desc := "(III)I" } : MethodName) ({ cls := "NumberHouseModel", name := "compare", desc := "(III)I" } : MethodName)) ∈ q_tbl := q_of 2646 (by decide +kernel) (by decide +kernel)
theorem LV_NL_111 : q_LV "NumberHouseLaw" 111 y_NM_compare prog_14_method_19_code 12 (some .int) 3 := ⟨w_2647, w_14, w_2644, w_2645, w_2646, ⟨by decide, by decide, by decide +kernel⟩⟩
theorem d_554 : decode code 554 = .ok (.istore 6, 2) := by decide +kernel
theorem d_556 : decode code 556 = .ok (.aload_n 2, 1) := by decide +kernel
theorem d_557 : decode code 557 = .ok (.invokevirtual 91, 3) := by decide +kernel
theorem d_560 : decode code 560 = .ok (.iload 5, 2) := by decide +kernel
theorem d_562 : decode code 562 = .ok (.if_icmp .eq 5, 3) := by decide +kernel
theorem d_567 : decode code 567 = .ok (.iload 5, 2) := by decide +kernel
theorem d_569 : decode code 569 = .ok (.ifCond .ne 15, 3) := by decide +kernel
theorem d_572 : decode code 572 = .ok (.aload_n 3, 1) := by decide +kernel
theorem d_573 : decode code 573 = .ok (.iconst 0, 1) := by decide +kernel
theorem d_574 : decode code 574 = .ok (.laload, 1) := by decide +kernel
theorem d_575 : decode code 575 = .ok (.iload 6, 2) := by decide +kernel
theorem d_577 : decode code 577 = .ok (.i2l, 1) := by decide +kernel
theorem d_578 : decode code 578 = .ok (.lcmp, 1) := by decide +kernel
theorem d_579 : decode code 579 = .ok (.ifCond .eq 5, 3) := by decide +kernel
theorem d_584 : decode code 584 = .ok (.goto 1025, 3) := by decide +kernel
set_option maxRecDepth 100000 in
set_option maxHeartbeats 4000000 in
theorem law_k5 {p : Program} {l : Launch} {e : Env} {s : State} {m : MethodId} {below : List Frame} {meth : Method} {c : Code} {b : Nat} {xs : Nat → Int32} {D : va_G} {g : Nat → ClassId} {A : Nat → Prop} {ws : va_W} {H : Heap} {locs : List Loc} {Q : State → Prop} {ls : Array Slot} {q q2 : Nat → Nat} {qo : Nat} (hlt : l.stackTraces = false) (C0 : q_At p s m #[Value.ref b] meth c y_NL_law code 8 (some .boolean)) (hX : va_X b 6 xs s s.heap) (hbl : b < s.heap.size) (hbA : ¬ A b) (V : q_Wd D g A s ws H locs) (hfl : q_fl ws 0 (nh_w g q)) (hfm : q_fl ws 116 (nm_w g q2)) (hO : ws[169]? = (some (qo, .inl (g 1, 1, .inr (.inl (fun _ => 0)))) : Option (Nat × va_E))) (hl : lv_has ls 8 [(4, .int 0), (3, .ref qo), (2, .ref (q2 0)), (1, .ref (q 0)), (0, .ref b)]) (kend : ∀ (H : Heap) (locs : List Loc) (u : va_W) (ls : Array Slot), q_Wd D g A s u H locs → lv_has ls 8 [(4, .int 0), (0, .ref b)] → W p l e room_1 s m #[Value.ref b] below meth c H locs 300 300000 Q (F0 m 1609 ls [])) : W p l e room_1 s m #[Value.ref b] below meth c H locs 200 200000 Q (F0 m 507 ls []) := by
  have hx := C0.1
  have hb := C0.2.1
  obtain ⟨s1, hs1⟩ : ∃ z : Int32, xs ((1 : Int32).toNatClampNeg) = z := ⟨_, rfl⟩
  obtain ⟨s2, hs2⟩ : ∃ z : Int32, xs ((2 : Int32).toNatClampNeg) = z := ⟨_, rfl⟩
  obtain ⟨s3, hs3⟩ : ∃ z : Int32, xs ((3 : Int32).toNatClampNeg) = z := ⟨_, rfl⟩
  obtain ⟨s4, hs4⟩ : ∃ z : Int32, xs ((4 : Int32).toNatClampNeg) = z := ⟨_, rfl⟩
  obtain ⟨s5, hs5⟩ : ∃ z : Int32, xs ((5 : Int32).toNatClampNeg) = z := ⟨_, rfl⟩
  refine lv_aload_n hx hb d_507 rfl (lv_at hl 3 rfl) ?_
  refine lv_aload_n hx hb d_508 rfl (lv_at hl 4 rfl) ?_
  refine lv_iload hx hb d_509 (lv_at hl 0 rfl) ?_
  refine lv_iconst (v := 1) hx hb d_511 (by decide) ?_
  refine lv_iadd hx hb d_512 ?_
  refine q_ti (v := 1) (by decide) ?_
  refine va_sld hx hb hX hbl hbA V.2.2.1 (by unfold vp_in; decide) d_513 ?_
  refine q_ti (v := s1) hs1 ?_
  refine lv_aload_n hx hb d_514 rfl (lv_at hl 4 rfl) ?_
  refine lv_iload hx hb d_515 (lv_at hl 0 rfl) ?_
  refine lv_iconst (v := 2) hx hb d_517 (by decide) ?_
  refine lv_iadd hx hb d_518 ?_
  refine q_ti (v := 2) (by decide) ?_
  refine va_sld hx hb hX hbl hbA V.2.2.1 (by unfold vp_in; decide) d_519 ?_
  refine q_ti (v := s2) hs2 ?_
  refine lv_aload_n hx hb d_520 rfl (lv_at hl 4 rfl) ?_
  refine lv_iload hx hb d_521 (lv_at hl 0 rfl) ?_
  refine lv_iconst (v := 3) hx hb d_523 (by decide) ?_
  refine lv_iadd hx hb d_524 ?_
  refine q_ti (v := 3) (by decide) ?_
  refine va_sld hx hb hX hbl hbA V.2.2.1 (by unfold vp_in; decide) d_525 ?_
  refine q_ti (v := s3) hs3 ?_
  refine lv_aload_n hx hb d_526 rfl (lv_at hl 1 rfl) ?_
  refine q_goi V (q_runSW (As := [.ref (q 0), .int s1, .int s2, .int s3, .ref qo]) (rest := []) (d := 10) (mc := 3) (ms := 18) C0 V rfl LW_NL_109 (c_NL_compare l D g ws hlt q qo s1 s2 s3 hfl hO _) rfl hl.1 rfl (Nat.le_of_ble_eq_true rfl) ⟨by decide, by decide⟩ ⟨Nat.le_of_ble_eq_true rfl, Nat.le_of_ble_eq_true rfl⟩ d_527) (fun k1 u1 H locs hp V => ?_)
  obtain ⟨o1, hO, hk, hF⟩ := hp
  have hfm : q_fl u1 116 (nm_w g q2) := q_flW hF (Nat.le_of_ble_eq_true rfl) hfm
  replace hO : u1[169]? = (some (qo, .inl (g 1, 1, .inr (.inl (vp_updL (fun _ => 0) 0 o1)))) : Option (Nat × va_E)) := hO
  refine lv_istore (lv' := [(5, .int k1), (4, .int 0), (3, .ref qo), (2, .ref (q2 0)), (1, .ref (q 0)), (0, .ref b)]) hx hb d_530 hl (by decide) rfl (fun ls hl => ?_)
  refine lv_aload_n hx hb d_532 rfl (lv_at hl 3 rfl) ?_
  refine lv_aload_n hx hb d_533 rfl (lv_at hl 5 rfl) ?_
  refine lv_iload hx hb d_534 (lv_at hl 1 rfl) ?_
  refine lv_iconst (v := 1) hx hb d_536 (by decide) ?_
  refine lv_iadd hx hb d_537 ?_
  refine q_ti (v := 1) (by decide) ?_
  refine va_sld hx hb hX hbl hbA V.2.2.1 (by unfold vp_in; decide) d_538 ?_
  refine q_ti (v := s1) hs1 ?_
  refine lv_aload_n hx hb d_539 rfl (lv_at hl 5 rfl) ?_
  refine lv_iload hx hb d_540 (lv_at hl 1 rfl) ?_
  refine lv_iconst (v := 2) hx hb d_542 (by decide) ?_
  refine lv_iadd hx hb d_543 ?_
  refine q_ti (v := 2) (by decide) ?_
  refine va_sld hx hb hX hbl hbA V.2.2.1 (by unfold vp_in; decide) d_544 ?_
  refine q_ti (v := s2) hs2 ?_
  refine lv_aload_n hx hb d_545 rfl (lv_at hl 5 rfl) ?_
  refine lv_iload hx hb d_546 (lv_at hl 1 rfl) ?_
  refine lv_iconst (v := 3) hx hb d_548 (by decide) ?_
  refine lv_iadd hx hb d_549 ?_
  refine q_ti (v := 3) (by decide) ?_
  refine va_sld hx hb hX hbl hbA V.2.2.1 (by unfold vp_in; decide) d_550 ?_
  refine q_ti (v := s3) hs3 ?_
  have hP116 : u1[116]? = (some (q2 0, .inr (12, [.int 0, .ref (q2 1), .int 0, .ref (q2 2), .int 0, .ref (q2 3), .ref (q2 18), .ref (q2 29), .ref (q2 37), .ref (q2 41), .ref (q2 51), .ref (q2 52)])) : Option (Nat × va_E)) := q_fa (i := 0) hfm rfl
  have hP119 : u1[119]? = (some (q2 3, .inr (13, [.int 0, .int 0, .ref (q2 4), .int 0, .ref (q2 5), .ref (q2 6), .ref (q2 7), .int 0, .ref (q2 8), .ref (q2 9), .ref (q2 10), .ref (q2 11), .ref (q2 12), .ref (q2 13), .ref (q2 14), .ref (q2 15), .int 0, .int 0, .ref (q2 16), .ref (q2 17), .int 0])) : Option (Nat × va_E)) := q_fa (i := 3) hfm rfl
  have hP121 : u1[121]? = (some (q2 5, .inl (g 0, 1408, .inl (fun _ => 0))) : Option (Nat × va_E)) := q_fa (i := 5) hfm rfl
  have hP122 : u1[122]? = (some (q2 6, .inl (g 3, 11, .inl (fun _ => 0))) : Option (Nat × va_E)) := q_fa (i := 6) hfm rfl
  have hP128 : u1[128]? = (some (q2 12, .inl (g 0, 264, .inl (fun _ => 0))) : Option (Nat × va_E)) := q_fa (i := 12) hfm rfl
  have hP129 : u1[129]? = (some (q2 13, .inl (g 0, 264, .inl (fun _ => 0))) : Option (Nat × va_E)) := q_fa (i := 13) hfm rfl
  have hP134 : u1[134]? = (some (q2 18, .inr (14, [.int 0, .ref (q2 19), .int 0, .ref (q2 20), .ref (q2 21), .ref (q2 22), .ref (q2 23), .ref (q2 24), .int 0, .long 0, .int 0, .int 0, .ref (q2 25), .int 0, .ref (q2 26), .int 0, .ref (q2 27), .int 0, .ref (q2 28), .int 0, .int 0])) : Option (Nat × va_E)) := q_fa (i := 18) hfm rfl
  have hP136 : u1[136]? = (some (q2 20, .inl (g 0, 10000, .inl (fun _ => 0))) : Option (Nat × va_E)) := q_fa (i := 20) hfm rfl
  have hP167 : u1[167]? = (some (q2 51, .inl (g 1, 20, .inr (.inl (fun _ => 0)))) : Option (Nat × va_E)) := q_fa (i := 51) hfm rfl
  refine q_goi V (q_runV (As := [.int s1, .int s2, .int s3]) (rest := []) (d := 3) (mc := 0) (ms := 0) (ci := 12) C0 V rfl LV_NL_111 (c_NM_compare l D g u1 (q2 0) (q2 1) (q2 2) (q2 3) (q2 18) (q2 29) (q2 37) (q2 41) (q2 51) (q2 52) (q2 4) (q2 5) (q2 6) (q2 7) (q2 8) (q2 9) (q2 10) (q2 11) (q2 12) (q2 13) (q2 14) (q2 15) (q2 16) (q2 17) (q2 19) (q2 20) (q2 21) (q2 22) (q2 23) (q2 24) (q2 25) (q2 26) (q2 27) (q2 28) s1 s2 s3 hP116 hP119 hP134 hP167 hP121 hP122 hP128 hP129 hP136 _) rfl rfl hP116 rfl hl.1 rfl (Nat.le_of_ble_eq_true rfl) ⟨by decide, by decide⟩ ⟨Nat.le_of_ble_eq_true rfl, Nat.le_of_ble_eq_true rfl⟩ d_551) (fun r1 u2 H locs hp V => ?_)
  obtain ⟨t0, z2, z4, hM, hr, hG⟩ := hp
  replace hM : u2[116]? = (some (q2 0, .inr (12, [.int t0, .ref (q2 1), .int z2, .ref (q2 2), .int z4, .ref (q2 3), .ref (q2 18), .ref (q2 29), .ref (q2 37), .ref (q2 41), .ref (q2 51), .ref (q2 52)])) : Option (Nat × va_E)) := hM
  replace hO := (hG 169 (Nat.le_refl _)).trans hO
  replace hO : u2[169]? = (some (qo, .inl (g 1, 1, .inr (.inl (vp_updL (fun _ => 0) 0 o1)))) : Option (Nat × va_E)) := hO
  rcases hk with ⟨ek, hk⟩ | ⟨ek, hk⟩
  ·
    obtain rfl : k1 = 0 := q_Ieq (x := k1.toInt) (y := 0) rfl (by decide) ek
    obtain rfl : t0 = 0 := q_Ieq (x := t0.toInt) (y := 0) rfl (by decide) (by omega)
    refine lv_istore (lv' := [(6, .int r1), (5, .int 0), (4, .int 0), (3, .ref qo), (2, .ref (q2 0)), (1, .ref (q 0)), (0, .ref b)]) hx hb d_554 hl (by decide) rfl (fun ls hl => ?_)
    refine lv_aload_n hx hb d_556 rfl (lv_at hl 4 rfl) ?_
    refine q_goi V (q_runV (As := []) (rest := []) (d := 1) (mc := 0) (ms := 0) (ci := 12) C0 V rfl LV_NL_91 (c_NM_thrown l D g u2 (q2 0) 0 (q2 1) z2 (q2 2) z4 (q2 3) (q2 18) (q2 29) (q2 37) (q2 41) (q2 51) (q2 52) hM _) rfl rfl hM rfl hl.1 rfl (Nat.le_of_ble_eq_true rfl) ⟨by decide, by decide⟩ ⟨Nat.le_of_ble_eq_true rfl, Nat.le_of_ble_eq_true rfl⟩ d_557) (fun v9 u9 H locs hp V => ?_)
    obtain ⟨rfl, rfl⟩ := hp
    refine lv_iload hx hb d_560 (lv_at hl 1 rfl) ?_
    refine lv_icmp_eq (tgt := 567) hx hb d_562 (by decide) (fun c1 => ?_) (fun c1 => absurd (by decide) c1)
    refine lv_iload hx hb d_567 (lv_at hl 1 rfl) ?_
    refine lv_if_ne (tgt := 584) hx hb d_569 (by decide) (fun c2 => absurd (by decide) c2) (fun c2 => ?_)
    refine lv_aload_n hx hb d_572 rfl (lv_at hl 3 rfl) ?_
    refine lv_iconst (v := 0) hx hb d_573 (by decide) ?_
    refine q_lald C0 V hO (by unfold vp_in; decide) d_574 ?_
    refine q_tl (v := o1) (by first | rfl | decide | simp [upd, vp_updL, sb_cl0]) ?_
    refine lv_iload hx hb d_575 (lv_at hl 0 rfl) ?_
    refine lv_i2l hx hb d_577 rfl ?_
    refine W.lcmp hx hb d_578 ?_
    refine q_ti (v := 0) (q_cmE (x := o1.toInt) (y := r1.toInt) rfl (q_i2l rfl) (by omega)) ?_
    refine lv_if_eq (tgt := 584) hx hb d_579 (by decide) (fun c3 => ?_) (fun c3 => absurd (by decide) c3)
    refine lv_goto (tgt := 1609) hx hb d_584 (by decide) ?_
    refine W.widen (k := 300) (n := 300000) (Nat.le_of_ble_eq_true rfl) (Nat.le_of_ble_eq_true rfl) ?_
    exact kend _ _ _ _ V (q_lw hl (q_lw1 2 rfl (q_lw1 6 rfl q_lw0)))
  ·
    obtain rfl : k1 = 1 := q_Ieq (x := k1.toInt) (y := 1) rfl (by decide) ek
    obtain rfl : t0 = 1 := q_Ieq (x := t0.toInt) (y := 1) rfl (by decide) (by omega)
    refine lv_istore (lv' := [(6, .int r1), (5, .int 1), (4, .int 0), (3, .ref qo), (2, .ref (q2 0)), (1, .ref (q 0)), (0, .ref b)]) hx hb d_554 hl (by decide) rfl (fun ls hl => ?_)
    refine lv_aload_n hx hb d_556 rfl (lv_at hl 4 rfl) ?_
    refine q_goi V (q_runV (As := []) (rest := []) (d := 1) (mc := 0) (ms := 0) (ci := 12) C0 V rfl LV_NL_91 (c_NM_thrown l D g u2 (q2 0) 1 (q2 1) z2 (q2 2) z4 (q2 3) (q2 18) (q2 29) (q2 37) (q2 41) (q2 51) (q2 52) hM _) rfl rfl hM rfl hl.1 rfl (Nat.le_of_ble_eq_true rfl) ⟨by decide, by decide⟩ ⟨Nat.le_of_ble_eq_true rfl, Nat.le_of_ble_eq_true rfl⟩ d_557) (fun v9 u9 H locs hp V => ?_)
    obtain ⟨rfl, rfl⟩ := hp
    refine lv_iload hx hb d_560 (lv_at hl 1 rfl) ?_
    refine lv_icmp_eq (tgt := 567) hx hb d_562 (by decide) (fun c4 => ?_) (fun c4 => absurd (by decide) c4)
    refine lv_iload hx hb d_567 (lv_at hl 1 rfl) ?_
    refine lv_if_ne (tgt := 584) hx hb d_569 (by decide) (fun c5 => ?_) (fun c5 => absurd c5 (by decide))
    refine lv_goto (tgt := 1609) hx hb d_584 (by decide) ?_
    refine W.widen (k := 300) (n := 300000) (Nat.le_of_ble_eq_true rfl) (Nat.le_of_ble_eq_true rfl) ?_
    exact kend _ _ _ _ V (q_lw hl (q_lw1 2 rfl (q_lw1 6 rfl q_lw0)))
