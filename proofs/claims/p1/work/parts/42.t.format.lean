/-! the law, case 18: format -/
theorem d_1539 : decode code 1539 = .ok (.aload_n 1, 1) := by decide +kernel
theorem d_1540 : decode code 1540 = .ok (.aload_n 3, 1) := by decide +kernel
theorem d_1541 : decode code 1541 = .ok (.invokestatic 152, 3) := by decide +kernel
theorem w_1725 : (Cond.codeWith ({ cls := "NumberHouseLaw", name := "format", desc := "(LNumberHouse;[J)I" } : MethodName) method_20_code (3 : Nat) (some .int) [((0 : Nat), (8 : Nat), (11 : Nat), (73 : Nat))]) ∈ q_tbl := q_of 1725 (by decide +kernel) (by decide +kernel)
theorem w_1723 : (Cond.methodLink "NumberHouseLaw" (152 : Nat) ({ cls := "NumberHouseLaw", name := "format", desc := "(LNumberHouse;[J)I" } : MethodName)) ∈ q_tbl := q_of 1723 (by decide +kernel) (by decide +kernel)
theorem w_1724 : (Cond.static ({ cls := "NumberHouseLaw", name := "format", desc := "(LNumberHouse;[J)I" } : MethodName)) ∈ q_tbl := q_of 1724 (by decide +kernel) (by decide +kernel)
theorem LW_NL_152 : q_LW "NumberHouseLaw" 152 y_NL_format method_20_code 3 (some .int) [(0, 8, 11, 73)] 2 := ⟨w_1725, w_0, w_1723, w_1724, ⟨by decide, by decide, by decide +kernel⟩⟩
theorem d_1544 : decode code 1544 = .ok (.istore 5, 2) := by decide +kernel
theorem d_1546 : decode code 1546 = .ok (.aload_n 2, 1) := by decide +kernel
theorem d_1547 : decode code 1547 = .ok (.invokevirtual 155, 3) := by decide +kernel
theorem w_3111 : (Cond.code ({ cls := "NumberHouseModel", name := "format", desc := "()I" } : MethodName) prog_14_method_38_code (2 : Nat) (some .int)) ∈ q_tbl := q_of 3111 (by decide +kernel) (by decide +kernel)
theorem w_3108 : (Cond.methodLink "NumberHouseLaw" (155 : Nat) ({ cls := "NumberHouseModel", name := "format", desc := "()I" } : MethodName)) ∈ q_tbl := q_of 3108 (by decide +kernel) (by decide +kernel)
theorem w_3109 : (Cond.instanceMethod ({ cls := "NumberHouseModel", name := "format", desc := "()I" } : MethodName)) ∈ q_tbl := q_of 3109 (by decide +kernel) (by decide +kernel)
theorem w_3110 : (Cond.selects "NumberHouseModel" ({ cls := "NumberHouseModel", name := "format", desc := "()I" } : MethodName) ({ cls := "NumberHouseModel", name := "format", desc := "()I" } : MethodName)) ∈ q_tbl := q_of 3110 (by decide +kernel) (by decide +kernel)
theorem LV_NL_155 : q_LV "NumberHouseLaw" 155 y_NM_format prog_14_method_38_code 2 (some .int) 0 := ⟨w_3111, w_14, w_3108, w_3109, w_3110, ⟨by decide, by decide, by decide +kernel⟩⟩
theorem d_1550 : decode code 1550 = .ok (.istore 6, 2) := by decide +kernel
theorem d_1552 : decode code 1552 = .ok (.aload_n 2, 1) := by decide +kernel
theorem d_1553 : decode code 1553 = .ok (.invokevirtual 91, 3) := by decide +kernel
theorem d_1556 : decode code 1556 = .ok (.iload 5, 2) := by decide +kernel
theorem d_1558 : decode code 1558 = .ok (.if_icmp .eq 5, 3) := by decide +kernel
theorem d_1563 : decode code 1563 = .ok (.iload 5, 2) := by decide +kernel
theorem d_1565 : decode code 1565 = .ok (.ifCond .ne 15, 3) := by decide +kernel
theorem d_1568 : decode code 1568 = .ok (.aload_n 3, 1) := by decide +kernel
theorem d_1569 : decode code 1569 = .ok (.iconst 0, 1) := by decide +kernel
theorem d_1570 : decode code 1570 = .ok (.laload, 1) := by decide +kernel
theorem d_1571 : decode code 1571 = .ok (.iload 6, 2) := by decide +kernel
theorem d_1573 : decode code 1573 = .ok (.i2l, 1) := by decide +kernel
theorem d_1574 : decode code 1574 = .ok (.lcmp, 1) := by decide +kernel
theorem d_1575 : decode code 1575 = .ok (.ifCond .eq 5, 3) := by decide +kernel
theorem d_1580 : decode code 1580 = .ok (.goto 29, 3) := by decide +kernel
set_option maxRecDepth 100000 in
set_option maxHeartbeats 4000000 in
theorem law_k18 {p : Program} {l : Launch} {e : Env} {s : State} {m : MethodId} {below : List Frame} {meth : Method} {c : Code} {b : Nat} {xs : Nat → Int32} {D : va_G} {g : Nat → ClassId} {A : Nat → Prop} {ws : va_W} {H : Heap} {locs : List Loc} {Q : State → Prop} {ls : Array Slot} {q q2 : Nat → Nat} {qo : Nat} (hlt : l.stackTraces = false) (C0 : q_At p s m #[Value.ref b] meth c y_NL_law code 8 (some .boolean)) (hX : va_X b 6 xs s s.heap) (hbl : b < s.heap.size) (hbA : ¬ A b) (V : q_Wd D g A s ws H locs) (hfl : q_fl ws 0 (nh_w g q)) (hfm : q_fl ws 116 (nm_w g q2)) (hO : ws[169]? = (some (qo, .inl (g 1, 1, .inr (.inl (fun _ => 0)))) : Option (Nat × va_E))) (hl : lv_has ls 8 [(4, .int 0), (3, .ref qo), (2, .ref (q2 0)), (1, .ref (q 0)), (0, .ref b)]) (kend : ∀ (H : Heap) (locs : List Loc) (u : va_W) (ls : Array Slot), q_Wd D g A s u H locs → lv_has ls 8 [(4, .int 0), (0, .ref b)] → W p l e room_1 s m #[Value.ref b] below meth c H locs 300 300000 Q (F0 m 1609 ls [])) : W p l e room_1 s m #[Value.ref b] below meth c H locs 200 200000 Q (F0 m 1539 ls []) := by
  have hx := C0.1
  have hb := C0.2.1
  obtain ⟨s1, hs1⟩ : ∃ z : Int32, xs ((1 : Int32).toNatClampNeg) = z := ⟨_, rfl⟩
  obtain ⟨s2, hs2⟩ : ∃ z : Int32, xs ((2 : Int32).toNatClampNeg) = z := ⟨_, rfl⟩
  obtain ⟨s3, hs3⟩ : ∃ z : Int32, xs ((3 : Int32).toNatClampNeg) = z := ⟨_, rfl⟩
  obtain ⟨s4, hs4⟩ : ∃ z : Int32, xs ((4 : Int32).toNatClampNeg) = z := ⟨_, rfl⟩
  obtain ⟨s5, hs5⟩ : ∃ z : Int32, xs ((5 : Int32).toNatClampNeg) = z := ⟨_, rfl⟩
  refine lv_aload_n hx hb d_1539 rfl (lv_at hl 3 rfl) ?_
  refine lv_aload_n hx hb d_1540 rfl (lv_at hl 1 rfl) ?_
  refine q_goi V (q_runSW (As := [.ref (q 0), .ref qo]) (rest := []) (d := 4) (mc := 0) (ms := 0) C0 V rfl LW_NL_152 (c_NL_format l D g ws hlt q qo hfl hO _) rfl hl.1 rfl (Nat.le_of_ble_eq_true rfl) ⟨by decide, by decide⟩ ⟨Nat.le_of_ble_eq_true rfl, Nat.le_of_ble_eq_true rfl⟩ d_1541) (fun k1 u1 H locs hp V => ?_)
  obtain ⟨o1, hO, hk, hF⟩ := hp
  have hfm : q_fl u1 116 (nm_w g q2) := q_flW hF (Nat.le_of_ble_eq_true rfl) hfm
  replace hO : u1[169]? = (some (qo, .inl (g 1, 1, .inr (.inl (vp_updL (fun _ => 0) 0 o1)))) : Option (Nat × va_E)) := hO
  refine lv_istore (lv' := [(5, .int k1), (4, .int 0), (3, .ref qo), (2, .ref (q2 0)), (1, .ref (q 0)), (0, .ref b)]) hx hb d_1544 hl (by decide) rfl (fun ls hl => ?_)
  refine lv_aload_n hx hb d_1546 rfl (lv_at hl 3 rfl) ?_
  have hP116 : u1[116]? = (some (q2 0, .inr (12, [.int 0, .ref (q2 1), .int 0, .ref (q2 2), .int 0, .ref (q2 3), .ref (q2 18), .ref (q2 29), .ref (q2 37), .ref (q2 41), .ref (q2 51), .ref (q2 52)])) : Option (Nat × va_E)) := q_fa (i := 0) hfm rfl
  have hP157 : u1[157]? = (some (q2 41, .inr (17, [.int 0, .ref (q2 42), .int 0, .int 0, .ref (q2 43), .ref (q2 44), .ref (q2 45), .ref (q2 46), .ref (q2 47), .int 0, .ref (q2 48), .int 0, .int 0, .int (-1), .int 0, .int 0, .int 0, .int 0, .int 0, .int 0, .int 0, .int 0, .int 0, .int 0, .ref (q2 49), .int 0, .int 0, .int 0, .ref (q2 50), .int 0, .int 0])) : Option (Nat × va_E)) := q_fa (i := 41) hfm rfl
  refine q_goi V (q_runV (As := []) (rest := []) (d := 3) (mc := 0) (ms := 0) (ci := 12) C0 V rfl LV_NL_155 (c_NM_format l D g u1 (q2 0) (q2 1) (q2 2) (q2 3) (q2 18) (q2 29) (q2 37) (q2 41) (q2 51) (q2 52) (q2 42) (q2 43) (q2 44) (q2 45) (q2 46) (q2 47) (q2 48) (q2 49) (q2 50) hP116 hP157 _) rfl rfl hP116 rfl hl.1 rfl (Nat.le_of_ble_eq_true rfl) ⟨by decide, by decide⟩ ⟨Nat.le_of_ble_eq_true rfl, Nat.le_of_ble_eq_true rfl⟩ d_1547) (fun r1 u2 H locs hp V => ?_)
  obtain ⟨t0, z2, z4, hM, hr, hG⟩ := hp
  replace hM : u2[116]? = (some (q2 0, .inr (12, [.int t0, .ref (q2 1), .int z2, .ref (q2 2), .int z4, .ref (q2 3), .ref (q2 18), .ref (q2 29), .ref (q2 37), .ref (q2 41), .ref (q2 51), .ref (q2 52)])) : Option (Nat × va_E)) := hM
  replace hO := (hG 169 (Nat.le_refl _)).trans hO
  replace hO : u2[169]? = (some (qo, .inl (g 1, 1, .inr (.inl (vp_updL (fun _ => 0) 0 o1)))) : Option (Nat × va_E)) := hO
  obtain ⟨ek, hk⟩ := hk
  obtain rfl : k1 = 0 := q_Ieq (x := k1.toInt) (y := 0) rfl (by decide) ek
  obtain rfl : t0 = 0 := q_Ieq (x := t0.toInt) (y := 0) rfl (by decide) (by omega)
  refine lv_istore (lv' := [(6, .int r1), (5, .int 0), (4, .int 0), (3, .ref qo), (2, .ref (q2 0)), (1, .ref (q 0)), (0, .ref b)]) hx hb d_1550 hl (by decide) rfl (fun ls hl => ?_)
  refine lv_aload_n hx hb d_1552 rfl (lv_at hl 4 rfl) ?_
  refine q_goi V (q_runV (As := []) (rest := []) (d := 1) (mc := 0) (ms := 0) (ci := 12) C0 V rfl LV_NL_91 (c_NM_thrown l D g u2 (q2 0) 0 (q2 1) z2 (q2 2) z4 (q2 3) (q2 18) (q2 29) (q2 37) (q2 41) (q2 51) (q2 52) hM _) rfl rfl hM rfl hl.1 rfl (Nat.le_of_ble_eq_true rfl) ⟨by decide, by decide⟩ ⟨Nat.le_of_ble_eq_true rfl, Nat.le_of_ble_eq_true rfl⟩ d_1553) (fun v9 u9 H locs hp V => ?_)
  obtain ⟨rfl, rfl⟩ := hp
  refine lv_iload hx hb d_1556 (lv_at hl 1 rfl) ?_
  refine lv_icmp_eq (tgt := 1563) hx hb d_1558 (by decide) (fun c1 => ?_) (fun c1 => absurd (by decide) c1)
  refine lv_iload hx hb d_1563 (lv_at hl 1 rfl) ?_
  refine lv_if_ne (tgt := 1580) hx hb d_1565 (by decide) (fun c2 => absurd (by decide) c2) (fun c2 => ?_)
  refine lv_aload_n hx hb d_1568 rfl (lv_at hl 3 rfl) ?_
  refine lv_iconst (v := 0) hx hb d_1569 (by decide) ?_
  refine q_lald C0 V hO (by unfold vp_in; decide) d_1570 ?_
  refine q_tl (v := o1) (by first | rfl | decide | simp [upd, vp_updL, sb_cl0]) ?_
  refine lv_iload hx hb d_1571 (lv_at hl 0 rfl) ?_
  refine lv_i2l hx hb d_1573 rfl ?_
  refine W.lcmp hx hb d_1574 ?_
  refine q_ti (v := 0) (q_cmE (x := o1.toInt) (y := r1.toInt) rfl (q_i2l rfl) (by omega)) ?_
  refine lv_if_eq (tgt := 1580) hx hb d_1575 (by decide) (fun c3 => ?_) (fun c3 => absurd (by decide) c3)
  refine lv_goto (tgt := 1609) hx hb d_1580 (by decide) ?_
  refine W.widen (k := 300) (n := 300000) (Nat.le_of_ble_eq_true rfl) (Nat.le_of_ble_eq_true rfl) ?_
  exact kend _ _ _ _ V (q_lw hl (q_lw1 2 rfl (q_lw1 6 rfl q_lw0)))
