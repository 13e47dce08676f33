/-! the law, case 17: argument -/
theorem d_1471 : decode code 1471 = .ok (.aload_n 1, 1) := by decide +kernel
theorem d_1472 : decode code 1472 = .ok (.aload_n 0, 1) := by decide +kernel
theorem d_1473 : decode code 1473 = .ok (.iload 4, 2) := by decide +kernel
theorem d_1475 : decode code 1475 = .ok (.iconst 1, 1) := by decide +kernel
theorem d_1476 : decode code 1476 = .ok (.iadd, 1) := by decide +kernel
theorem d_1477 : decode code 1477 = .ok (.iaload, 1) := by decide +kernel
theorem d_1478 : decode code 1478 = .ok (.aload_n 0, 1) := by decide +kernel
theorem d_1479 : decode code 1479 = .ok (.iload 4, 2) := by decide +kernel
theorem d_1481 : decode code 1481 = .ok (.iconst 2, 1) := by decide +kernel
theorem d_1482 : decode code 1482 = .ok (.iadd, 1) := by decide +kernel
theorem d_1483 : decode code 1483 = .ok (.iaload, 1) := by decide +kernel
theorem d_1484 : decode code 1484 = .ok (.aload_n 3, 1) := by decide +kernel
theorem d_1485 : decode code 1485 = .ok (.invokestatic 148, 3) := by decide +kernel
theorem w_1672 : (Cond.codeWith ({ cls := "NumberHouseLaw", name := "argument", desc := "(LNumberHouse;II[J)I" } : MethodName) method_19_code (5 : Nat) (some .int) [((0 : Nat), (10 : Nat), (13 : Nat), (13 : Nat)), ((0 : Nat), (10 : Nat), (17 : Nat), (19 : Nat)), ((0 : Nat), (10 : Nat), (21 : Nat), (73 : Nat))]) ∈ q_tbl := q_of 1672 (by decide +kernel) (by decide +kernel)
theorem w_1670 : (Cond.methodLink "NumberHouseLaw" (148 : Nat) ({ cls := "NumberHouseLaw", name := "argument", desc := "(LNumberHouse;II[J)I" } : MethodName)) ∈ q_tbl := q_of 1670 (by decide +kernel) (by decide +kernel)
theorem w_1671 : (Cond.static ({ cls := "NumberHouseLaw", name := "argument", desc := "(LNumberHouse;II[J)I" } : MethodName)) ∈ q_tbl := q_of 1671 (by decide +kernel) (by decide +kernel)
theorem LW_NL_148 : q_LW "NumberHouseLaw" 148 y_NL_argument method_19_code 5 (some .int) [(0, 10, 13, 13), (0, 10, 17, 19), (0, 10, 21, 73)] 4 := ⟨w_1672, w_0, w_1670, w_1671, ⟨by decide, by decide, by decide +kernel⟩⟩
theorem d_1488 : decode code 1488 = .ok (.istore 5, 2) := by decide +kernel
theorem d_1490 : decode code 1490 = .ok (.aload_n 2, 1) := by decide +kernel
theorem d_1491 : decode code 1491 = .ok (.aload_n 0, 1) := by decide +kernel
theorem d_1492 : decode code 1492 = .ok (.iload 4, 2) := by decide +kernel
theorem d_1494 : decode code 1494 = .ok (.iconst 1, 1) := by decide +kernel
theorem d_1495 : decode code 1495 = .ok (.iadd, 1) := by decide +kernel
theorem d_1496 : decode code 1496 = .ok (.iaload, 1) := by decide +kernel
theorem d_1497 : decode code 1497 = .ok (.aload_n 0, 1) := by decide +kernel
theorem d_1498 : decode code 1498 = .ok (.iload 4, 2) := by decide +kernel
theorem d_1500 : decode code 1500 = .ok (.iconst 2, 1) := by decide +kernel
theorem d_1501 : decode code 1501 = .ok (.iadd, 1) := by decide +kernel
theorem d_1502 : decode code 1502 = .ok (.iaload, 1) := by decide +kernel
theorem d_1503 : decode code 1503 = .ok (.invokevirtual 151, 3) := by decide +kernel
theorem w_3068 : (Cond.code ({ cls := "NumberHouseModel", name := "argument", desc := "(II)I" } : MethodName) prog_14_method_37_code (5 : Nat) (some .int)) ∈ q_tbl := q_of 3068 (by decide +kernel) (by decide +kernel)
theorem w_3065 : (Cond.methodLink "NumberHouseLaw" (151 : Nat) ({ cls := "NumberHouseModel", name := "argument", desc := "(II)I" } : MethodName)) ∈ q_tbl := q_of 3065 (by decide +kernel) (by decide +kernel)
theorem w_3066 : (Cond.instanceMethod ({ cls := "NumberHouseModel", name := "argument", desc := "(II)I" } : MethodName)) ∈ q_tbl := q_of 3066 (by decide +kernel) (by decide +kernel)
theorem w_3067 : (Cond.selects "NumberHouseModel" ({ cls := "NumberHouseModel", name := "argument", desc := "(II)I" } : MethodName) ({ cls := "NumberHouseModel", name := "argument", desc := "(II)I" } : MethodName)) ∈ q_tbl := q_of 3067 (by decide +kernel) (by decide +kernel)
theorem LV_NL_151 : q_LV "NumberHouseLaw" 151 y_NM_argument prog_14_method_37_code 5 (some .int) 2 := ⟨w_3068, w_14, w_3065, w_3066, w_3067, ⟨by decide, by decide, by decide +kernel⟩⟩
theorem d_1506 : decode code 1506 = .ok (.istore 6, 2) := by decide +kernel
theorem d_1508 : decode code 1508 = .ok (.aload_n 2, 1) := by decide +kernel
theorem d_1509 : decode code 1509 = .ok (.invokevirtual 91, 3) := by decide +kernel
theorem d_1512 : decode code 1512 = .ok (.iload 5, 2) := by decide +kernel
theorem d_1514 : decode code 1514 = .ok (.if_icmp .eq 5, 3) := by decide +kernel
theorem d_1519 : decode code 1519 = .ok (.iload 5, 2) := by decide +kernel
theorem d_1521 : decode code 1521 = .ok (.ifCond .ne 15, 3) := by decide +kernel
theorem d_1524 : decode code 1524 = .ok (.aload_n 3, 1) := by decide +kernel
theorem d_1525 : decode code 1525 = .ok (.iconst 0, 1) := by decide +kernel
theorem d_1526 : decode code 1526 = .ok (.laload, 1) := by decide +kernel
theorem d_1527 : decode code 1527 = .ok (.iload 6, 2) := by decide +kernel
theorem d_1529 : decode code 1529 = .ok (.i2l, 1) := by decide +kernel
theorem d_1530 : decode code 1530 = .ok (.lcmp, 1) := by decide +kernel
theorem d_1531 : decode code 1531 = .ok (.ifCond .eq 5, 3) := by decide +kernel
theorem d_1536 : decode code 1536 = .ok (.goto 73, 3) := by decide +kernel
set_option maxRecDepth 100000 in
set_option maxHeartbeats 4000000 in
theorem law_k17 {p : Program} {l : Launch} {e : Env} {s : State} {m : MethodId} {below : List Frame} {meth : Method} {c : Code} {b : Nat} {xs : Nat → Int32} {D : va_G} {g : Nat → ClassId} {A : Nat → Prop} {ws : va_W} {H : Heap} {locs : List Loc} {Q : State → Prop} {ls : Array Slot} {q q2 : Nat → Nat} {qo : Nat} (hlt : l.stackTraces = false) (C0 : q_At p s m #[Value.ref b] meth c y_NL_law code 8 (some .boolean)) (hX : va_X b 6 xs s s.heap) (hbl : b < s.heap.size) (hbA : ¬ A b) (V : q_Wd D g A s ws H locs) (hfl : q_fl ws 0 (nh_w g q)) (hfm : q_fl ws 116 (nm_w g q2)) (hO : ws[169]? = (some (qo, .inl (g 1, 1, .inr (.inl (fun _ => 0)))) : Option (Nat × va_E))) (hl : lv_has ls 8 [(4, .int 0), (3, .ref qo), (2, .ref (q2 0)), (1, .ref (q 0)), (0, .ref b)]) (kend : ∀ (H : Heap) (locs : List Loc) (u : va_W) (ls : Array Slot), q_Wd D g A s u H locs → lv_has ls 8 [(4, .int 0), (0, .ref b)] → W p l e room_1 s m #[Value.ref b] below meth c H locs 300 300000 Q (F0 m 1609 ls [])) : W p l e room_1 s m #[Value.ref b] below meth c H locs 200 200000 Q (F0 m 1471 ls []) := by
  have hx := C0.1
  have hb := C0.2.1
  obtain ⟨s1, hs1⟩ : ∃ z : Int32, xs ((1 : Int32).toNatClampNeg) = z := ⟨_, rfl⟩
  obtain ⟨s2, hs2⟩ : ∃ z : Int32, xs ((2 : Int32).toNatClampNeg) = z := ⟨_, rfl⟩
  obtain ⟨s3, hs3⟩ : ∃ z : Int32, xs ((3 : Int32).toNatClampNeg) = z := ⟨_, rfl⟩
  obtain ⟨s4, hs4⟩ : ∃ z : Int32, xs ((4 : Int32).toNatClampNeg) = z := ⟨_, rfl⟩
  obtain ⟨s5, hs5⟩ : ∃ z : Int32, xs ((5 : Int32).toNatClampNeg) = z := ⟨_, rfl⟩
  refine lv_aload_n hx hb d_1471 rfl (lv_at hl 3 rfl) ?_
  refine lv_aload_n hx hb d_1472 rfl (lv_at hl 4 rfl) ?_
  refine lv_iload hx hb d_1473 (lv_at hl 0 rfl) ?_
  refine lv_iconst (v := 1) hx hb d_1475 (by decide) ?_
  refine lv_iadd hx hb d_1476 ?_
  refine q_ti (v := 1) (by decide) ?_
  refine va_sld hx hb hX hbl hbA V.2.2.1 (by unfold vp_in; decide) d_1477 ?_
  refine q_ti (v := s1) hs1 ?_
  refine lv_aload_n hx hb d_1478 rfl (lv_at hl 4 rfl) ?_
  refine lv_iload hx hb d_1479 (lv_at hl 0 rfl) ?_
  refine lv_iconst (v := 2) hx hb d_1481 (by decide) ?_
  refine lv_iadd hx hb d_1482 ?_
  refine q_ti (v := 2) (by decide) ?_
  refine va_sld hx hb hX hbl hbA V.2.2.1 (by unfold vp_in; decide) d_1483 ?_
  refine q_ti (v := s2) hs2 ?_
  refine lv_aload_n hx hb d_1484 rfl (lv_at hl 1 rfl) ?_
  refine q_goi V (q_runSW (As := [.ref (q 0), .int s1, .int s2, .ref qo]) (rest := []) (d := 9) (mc := 5) (ms := 30) C0 V rfl LW_NL_148 (c_NL_argument l D g ws hlt q qo s1 s2 hfl hO _) rfl hl.1 rfl (Nat.le_of_ble_eq_true rfl) ⟨by decide, by decide⟩ ⟨Nat.le_of_ble_eq_true rfl, Nat.le_of_ble_eq_true rfl⟩ d_1485) (fun k1 u1 H locs hp V => ?_)
  obtain ⟨o1, hO, hk, hF⟩ := hp
  have hfm : q_fl u1 116 (nm_w g q2) := q_flW hF (Nat.le_of_ble_eq_true rfl) hfm
  replace hO : u1[169]? = (some (qo, .inl (g 1, 1, .inr (.inl (vp_updL (fun _ => 0) 0 o1)))) : Option (Nat × va_E)) := hO
  refine lv_istore (lv' := [(5, .int k1), (4, .int 0), (3, .ref qo), (2, .ref (q2 0)), (1, .ref (q 0)), (0, .ref b)]) hx hb d_1488 hl (by decide) rfl (fun ls hl => ?_)
  refine lv_aload_n hx hb d_1490 rfl (lv_at hl 3 rfl) ?_
  refine lv_aload_n hx hb d_1491 rfl (lv_at hl 5 rfl) ?_
  refine lv_iload hx hb d_1492 (lv_at hl 1 rfl) ?_
  refine lv_iconst (v := 1) hx hb d_1494 (by decide) ?_
  refine lv_iadd hx hb d_1495 ?_
  refine q_ti (v := 1) (by decide) ?_
  refine va_sld hx hb hX hbl hbA V.2.2.1 (by unfold vp_in; decide) d_1496 ?_
  refine q_ti (v := s1) hs1 ?_
  refine lv_aload_n hx hb d_1497 rfl (lv_at hl 5 rfl) ?_
  refine lv_iload hx hb d_1498 (lv_at hl 1 rfl) ?_
  refine lv_iconst (v := 2) hx hb d_1500 (by decide) ?_
  refine lv_iadd hx hb d_1501 ?_
  refine q_ti (v := 2) (by decide) ?_
  refine va_sld hx hb hX hbl hbA V.2.2.1 (by unfold vp_in; decide) d_1502 ?_
  refine q_ti (v := s2) hs2 ?_
  have hP116 : u1[116]? = (some (q2 0, .inr (12, [.int 0, .ref (q2 1), .int 0, .ref (q2 2), .int 0, .ref (q2 3), .ref (q2 18), .ref (q2 29), .ref (q2 37), .ref (q2 41), .ref (q2 51), .ref (q2 52)])) : Option (Nat × va_E)) := q_fa (i := 0) hfm rfl
  have hP119 : u1[119]? = (some (q2 3, .inr (13, [.int 0, .int 0, .ref (q2 4), .int 0, .ref (q2 5), .ref (q2 6), .ref (q2 7), .int 0, .ref (q2 8), .ref (q2 9), .ref (q2 10), .ref (q2 11), .ref (q2 12), .ref (q2 13), .ref (q2 14), .ref (q2 15), .int 0, .int 0, .ref (q2 16), .ref (q2 17), .int 0])) : Option (Nat × va_E)) := q_fa (i := 3) hfm rfl
  have hP121 : u1[121]? = (some (q2 5, .inl (g 0, 1408, .inl (fun _ => 0))) : Option (Nat × va_E)) := q_fa (i := 5) hfm rfl
  have hP122 : u1[122]? = (some (q2 6, .inl (g 3, 11, .inl (fun _ => 0))) : Option (Nat × va_E)) := q_fa (i := 6) hfm rfl
  have hP134 : u1[134]? = (some (q2 18, .inr (14, [.int 0, .ref (q2 19), .int 0, .ref (q2 20), .ref (q2 21), .ref (q2 22), .ref (q2 23), .ref (q2 24), .int 0, .long 0, .int 0, .int 0, .ref (q2 25), .int 0, .ref (q2 26), .int 0, .ref (q2 27), .int 0, .ref (q2 28), .int 0, .int 0])) : Option (Nat × va_E)) := q_fa (i := 18) hfm rfl
  have hP136 : u1[136]? = (some (q2 20, .inl (g 0, 10000, .inl (fun _ => 0))) : Option (Nat × va_E)) := q_fa (i := 20) hfm rfl
  have hP137 : u1[137]? = (some (q2 21, .inl (g 0, 10, .inl (upd (upd (upd (upd (upd (upd (upd (upd (upd (upd (fun _ => 0) 0 1) 1 1) 2 1) 3 1) 4 1) 5 1) 6 1) 7 1) 8 1) 9 1))) : Option (Nat × va_E)) := q_fa (i := 21) hfm rfl
  have hP138 : u1[138]? = (some (q2 22, .inl (g 3, 10, .inl (fun _ => 0))) : Option (Nat × va_E)) := q_fa (i := 22) hfm rfl
  have hP139 : u1[139]? = (some (q2 23, .inl (g 0, 10, .inl (fun _ => 0))) : Option (Nat × va_E)) := q_fa (i := 23) hfm rfl
  have hP157 : u1[157]? = (some (q2 41, .inr (17, [.int 0, .ref (q2 42), .int 0, .int 0, .ref (q2 43), .ref (q2 44), .ref (q2 45), .ref (q2 46), .ref (q2 47), .int 0, .ref (q2 48), .int 0, .int 0, .int (-1), .int 0, .int 0, .int 0, .int 0, .int 0, .int 0, .int 0, .int 0, .int 0, .int 0, .ref (q2 49), .int 0, .int 0, .int 0, .ref (q2 50), .int 0, .int 0])) : Option (Nat × va_E)) := q_fa (i := 41) hfm rfl
  have hP159 : u1[159]? = (some (q2 43, .inl (g 0, 9, .inl (fun _ => 0))) : Option (Nat × va_E)) := q_fa (i := 43) hfm rfl
  have hP160 : u1[160]? = (some (q2 44, .inl (g 0, 9, .inl (fun _ => 0))) : Option (Nat × va_E)) := q_fa (i := 44) hfm rfl
  have hP161 : u1[161]? = (some (q2 45, .inl (g 1, 9, .inr (.inl (fun _ => 0)))) : Option (Nat × va_E)) := q_fa (i := 45) hfm rfl
  have hP168 : u1[168]? = (some (q2 52, .inl (g 1, 1, .inr (.inl (fun _ => 0)))) : Option (Nat × va_E)) := q_fa (i := 52) hfm rfl
  refine q_goi V (q_runV (As := [.int s1, .int s2]) (rest := []) (d := 4) (mc := 0) (ms := 0) (ci := 12) C0 V rfl LV_NL_151 (c_NM_argument l D g u1 (q2 0) (q2 1) (q2 2) (q2 3) (q2 18) (q2 29) (q2 37) (q2 41) (q2 51) (q2 52) (q2 4) (q2 5) (q2 6) (q2 7) (q2 8) (q2 9) (q2 10) (q2 11) (q2 12) (q2 13) (q2 14) (q2 15) (q2 16) (q2 17) (q2 19) (q2 20) (q2 21) (q2 22) (q2 23) (q2 24) (q2 25) (q2 26) (q2 27) (q2 28) (q2 42) (q2 43) (q2 44) (q2 45) (q2 46) (q2 47) (q2 48) (q2 49) (q2 50) s1 s2 hP116 hP119 hP134 hP157 hP168 hP121 hP122 hP136 hP137 hP138 hP139 hP159 hP160 hP161 _) rfl rfl hP116 rfl hl.1 rfl (Nat.le_of_ble_eq_true rfl) ⟨by decide, by decide⟩ ⟨Nat.le_of_ble_eq_true rfl, Nat.le_of_ble_eq_true rfl⟩ d_1503) (fun r1 u2 H locs hp V => ?_)
  obtain ⟨t0, z2, z4, hM, hr, hG⟩ := hp
  replace hM : u2[116]? = (some (q2 0, .inr (12, [.int t0, .ref (q2 1), .int z2, .ref (q2 2), .int z4, .ref (q2 3), .ref (q2 18), .ref (q2 29), .ref (q2 37), .ref (q2 41), .ref (q2 51), .ref (q2 52)])) : Option (Nat × va_E)) := hM
  replace hO := (hG 169 (Nat.le_refl _)).trans hO
  replace hO : u2[169]? = (some (qo, .inl (g 1, 1, .inr (.inl (vp_updL (fun _ => 0) 0 o1)))) : Option (Nat × va_E)) := hO
  rcases hk with ⟨ek, hk⟩ | ⟨ek, hk⟩
  ·
    obtain rfl : k1 = 0 := q_Ieq (x := k1.toInt) (y := 0) rfl (by decide) ek
    obtain rfl : t0 = 0 := q_Ieq (x := t0.toInt) (y := 0) rfl (by decide) (by omega)
    refine lv_istore (lv' := [(6, .int r1), (5, .int 0), (4, .int 0), (3, .ref qo), (2, .ref (q2 0)), (1, .ref (q 0)), (0, .ref b)]) hx hb d_1506 hl (by decide) rfl (fun ls hl => ?_)
    refine lv_aload_n hx hb d_1508 rfl (lv_at hl 4 rfl) ?_
    refine q_goi V (q_runV (As := []) (rest := []) (d := 1) (mc := 0) (ms := 0) (ci := 12) C0 V rfl LV_NL_91 (c_NM_thrown l D g u2 (q2 0) 0 (q2 1) z2 (q2 2) z4 (q2 3) (q2 18) (q2 29) (q2 37) (q2 41) (q2 51) (q2 52) hM _) rfl rfl hM rfl hl.1 rfl (Nat.le_of_ble_eq_true rfl) ⟨by decide, by decide⟩ ⟨Nat.le_of_ble_eq_true rfl, Nat.le_of_ble_eq_true rfl⟩ d_1509) (fun v9 u9 H locs hp V => ?_)
    obtain ⟨rfl, rfl⟩ := hp
    refine lv_iload hx hb d_1512 (lv_at hl 1 rfl) ?_
    refine lv_icmp_eq (tgt := 1519) hx hb d_1514 (by decide) (fun c1 => ?_) (fun c1 => absurd (by decide) c1)
    refine lv_iload hx hb d_1519 (lv_at hl 1 rfl) ?_
    refine lv_if_ne (tgt := 1536) hx hb d_1521 (by decide) (fun c2 => absurd (by decide) c2) (fun c2 => ?_)
    refine lv_aload_n hx hb d_1524 rfl (lv_at hl 3 rfl) ?_
    refine lv_iconst (v := 0) hx hb d_1525 (by decide) ?_
    refine q_lald C0 V hO (by unfold vp_in; decide) d_1526 ?_
    refine q_tl (v := o1) (by first | rfl | decide | simp [upd, vp_updL, sb_cl0]) ?_
    refine lv_iload hx hb d_1527 (lv_at hl 0 rfl) ?_
    refine lv_i2l hx hb d_1529 rfl ?_
    refine W.lcmp hx hb d_1530 ?_
    refine q_ti (v := 0) (q_cmE (x := o1.toInt) (y := r1.toInt) rfl (q_i2l rfl) (by omega)) ?_
    refine lv_if_eq (tgt := 1536) hx hb d_1531 (by decide) (fun c3 => ?_) (fun c3 => absurd (by decide) c3)
    refine lv_goto (tgt := 1609) hx hb d_1536 (by decide) ?_
    refine W.widen (k := 300) (n := 300000) (Nat.le_of_ble_eq_true rfl) (Nat.le_of_ble_eq_true rfl) ?_
    exact kend _ _ _ _ V (q_lw hl (q_lw1 2 rfl (q_lw1 6 rfl q_lw0)))
  ·
    obtain rfl : k1 = 1 := q_Ieq (x := k1.toInt) (y := 1) rfl (by decide) ek
    obtain rfl : t0 = 1 := q_Ieq (x := t0.toInt) (y := 1) rfl (by decide) (by omega)
    refine lv_istore (lv' := [(6, .int r1), (5, .int 1), (4, .int 0), (3, .ref qo), (2, .ref (q2 0)), (1, .ref (q 0)), (0, .ref b)]) hx hb d_1506 hl (by decide) rfl (fun ls hl => ?_)
    refine lv_aload_n hx hb d_1508 rfl (lv_at hl 4 rfl) ?_
    refine q_goi V (q_runV (As := []) (rest := []) (d := 1) (mc := 0) (ms := 0) (ci := 12) C0 V rfl LV_NL_91 (c_NM_thrown l D g u2 (q2 0) 1 (q2 1) z2 (q2 2) z4 (q2 3) (q2 18) (q2 29) (q2 37) (q2 41) (q2 51) (q2 52) hM _) rfl rfl hM rfl hl.1 rfl (Nat.le_of_ble_eq_true rfl) ⟨by decide, by decide⟩ ⟨Nat.le_of_ble_eq_true rfl, Nat.le_of_ble_eq_true rfl⟩ d_1509) (fun v9 u9 H locs hp V => ?_)
    obtain ⟨rfl, rfl⟩ := hp
    refine lv_iload hx hb d_1512 (lv_at hl 1 rfl) ?_
    refine lv_icmp_eq (tgt := 1519) hx hb d_1514 (by decide) (fun c4 => ?_) (fun c4 => absurd (by decide) c4)
    refine lv_iload hx hb d_1519 (lv_at hl 1 rfl) ?_
    refine lv_if_ne (tgt := 1536) hx hb d_1521 (by decide) (fun c5 => ?_) (fun c5 => absurd c5 (by decide))
    refine lv_goto (tgt := 1609) hx hb d_1536 (by decide) ?_
    refine W.widen (k := 300) (n := 300000) (Nat.le_of_ble_eq_true rfl) (Nat.le_of_ble_eq_true rfl) ?_
    exact kend _ _ _ _ V (q_lw hl (q_lw1 2 rfl (q_lw1 6 rfl q_lw0)))
