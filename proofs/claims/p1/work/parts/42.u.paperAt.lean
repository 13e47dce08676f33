/-! the law, case 19: paperAt -/
theorem d_1583 : decode code 1583 = .ok (.aload_n 1, 1) := by decide +kernel
theorem d_1584 : decode code 1584 = .ok (.aload_n 0, 1) := by decide +kernel
theorem d_1585 : decode code 1585 = .ok (.iload 4, 2) := by decide +kernel
theorem d_1587 : decode code 1587 = .ok (.iconst 1, 1) := by decide +kernel
theorem d_1588 : decode code 1588 = .ok (.iadd, 1) := by decide +kernel
theorem d_1589 : decode code 1589 = .ok (.iaload, 1) := by decide +kernel
theorem d_1590 : decode code 1590 = .ok (.invokevirtual 156, 3) := by decide +kernel
theorem w_478 : (Cond.code ({ cls := "NumberHouse", name := "paperAt", desc := "(I)J" } : MethodName) prog_1_method_21_code (5 : Nat) (some .long)) ∈ q_tbl := q_of 478 (by decide +kernel) (by decide +kernel)
theorem w_475 : (Cond.methodLink "NumberHouseLaw" (156 : Nat) ({ cls := "NumberHouse", name := "paperAt", desc := "(I)J" } : MethodName)) ∈ q_tbl := q_of 475 (by decide +kernel) (by decide +kernel)
theorem w_476 : (Cond.instanceMethod ({ cls := "NumberHouse", name := "paperAt", desc := "(I)J" } : MethodName)) ∈ q_tbl := q_of 476 (by decide +kernel) (by decide +kernel)
theorem w_477 : (Cond.selects "NumberHouse" ({ cls := "NumberHouse", name := "paperAt", desc := "(I)J" } : MethodName) ({ cls := "NumberHouse", name := "paperAt", desc := "(I)J" } : MethodName)) ∈ q_tbl := q_of 477 (by decide +kernel) (by decide +kernel)
theorem LV_NL_156 : q_LV "NumberHouseLaw" 156 y_NH_paperAt prog_1_method_21_code 5 (some .long) 1 := ⟨w_478, w_1, w_475, w_476, w_477, ⟨by decide, by decide, by decide +kernel⟩⟩
theorem d_1593 : decode code 1593 = .ok (.aload_n 2, 1) := by decide +kernel
theorem d_1594 : decode code 1594 = .ok (.aload_n 0, 1) := by decide +kernel
theorem d_1595 : decode code 1595 = .ok (.iload 4, 2) := by decide +kernel
theorem d_1597 : decode code 1597 = .ok (.iconst 1, 1) := by decide +kernel
theorem d_1598 : decode code 1598 = .ok (.iadd, 1) := by decide +kernel
theorem d_1599 : decode code 1599 = .ok (.iaload, 1) := by decide +kernel
theorem d_1600 : decode code 1600 = .ok (.invokevirtual 160, 3) := by decide +kernel
theorem w_2351 : (Cond.code ({ cls := "NumberHouseModel", name := "paperAt", desc := "(I)J" } : MethodName) prog_14_method_6_code (7 : Nat) (some .long)) ∈ q_tbl := q_of 2351 (by decide +kernel) (by decide +kernel)
theorem w_2348 : (Cond.methodLink "NumberHouseLaw" (160 : Nat) ({ cls := "NumberHouseModel", name := "paperAt", desc := "(I)J" } : MethodName)) ∈ q_tbl := q_of 2348 (by decide +kernel) (by decide +kernel)
theorem w_2349 : (Cond.instanceMethod ({ cls := "NumberHouseModel", name := "paperAt", desc := "(I)J" } : MethodName)) ∈ q_tbl := q_of 2349 (by decide +kernel) (by decide +kernel)
theorem w_2350 : (Cond.selects "NumberHouseModel" ({ cls := "NumberHouseModel", name := "paperAt", desc := "(I)J" } : MethodName) ({ cls := "NumberHouseModel", name := "paperAt", desc := "(I)J" } : MethodName)) ∈ q_tbl := q_of 2350 (by decide +kernel) (by decide +kernel)
theorem LV_NL_160 : q_LV "NumberHouseLaw" 160 y_NM_paperAt prog_14_method_6_code 7 (some .long) 1 := ⟨w_2351, w_14, w_2348, w_2349, w_2350, ⟨by decide, by decide, by decide +kernel⟩⟩
theorem d_1603 : decode code 1603 = .ok (.lcmp, 1) := by decide +kernel
theorem d_1604 : decode code 1604 = .ok (.ifCond .eq 5, 3) := by decide +kernel
set_option maxRecDepth 100000 in
set_option maxHeartbeats 4000000 in
theorem law_k19 {p : Program} {l : Launch} {e : Env} {s : State} {m : MethodId} {below : List Frame} {meth : Method} {c : Code} {b : Nat} {xs : Nat → Int32} {D : va_G} {g : Nat → ClassId} {A : Nat → Prop} {ws : va_W} {H : Heap} {locs : List Loc} {Q : State → Prop} {ls : Array Slot} {q q2 : Nat → Nat} {qo : Nat} (hlt : l.stackTraces = false) (C0 : q_At p s m #[Value.ref b] meth c y_NL_law code 8 (some .boolean)) (hX : va_X b 6 xs s s.heap) (hbl : b < s.heap.size) (hbA : ¬ A b) (V : q_Wd D g A s ws H locs) (hfl : q_fl ws 0 (nh_w g q)) (hfm : q_fl ws 116 (nm_w g q2)) (hO : ws[169]? = (some (qo, .inl (g 1, 1, .inr (.inl (fun _ => 0)))) : Option (Nat × va_E))) (hl : lv_has ls 8 [(4, .int 0), (3, .ref qo), (2, .ref (q2 0)), (1, .ref (q 0)), (0, .ref b)]) (kend : ∀ (H : Heap) (locs : List Loc) (u : va_W) (ls : Array Slot), q_Wd D g A s u H locs → lv_has ls 8 [(4, .int 0), (0, .ref b)] → W p l e room_1 s m #[Value.ref b] below meth c H locs 300 300000 Q (F0 m 1609 ls [])) : W p l e room_1 s m #[Value.ref b] below meth c H locs 200 200000 Q (F0 m 1583 ls []) := by
  have hx := C0.1
  have hb := C0.2.1
  obtain ⟨s1, hs1⟩ : ∃ z : Int32, xs ((1 : Int32).toNatClampNeg) = z := ⟨_, rfl⟩
  obtain ⟨s2, hs2⟩ : ∃ z : Int32, xs ((2 : Int32).toNatClampNeg) = z := ⟨_, rfl⟩
  obtain ⟨s3, hs3⟩ : ∃ z : Int32, xs ((3 : Int32).toNatClampNeg) = z := ⟨_, rfl⟩
  obtain ⟨s4, hs4⟩ : ∃ z : Int32, xs ((4 : Int32).toNatClampNeg) = z := ⟨_, rfl⟩
  obtain ⟨s5, hs5⟩ : ∃ z : Int32, xs ((5 : Int32).toNatClampNeg) = z := ⟨_, rfl⟩
  refine lv_aload_n hx hb d_1583 rfl (lv_at hl 3 rfl) ?_
  refine lv_aload_n hx hb d_1584 rfl (lv_at hl 4 rfl) ?_
  refine lv_iload hx hb d_1585 (lv_at hl 0 rfl) ?_
  refine lv_iconst (v := 1) hx hb d_1587 (by decide) ?_
  refine lv_iadd hx hb d_1588 ?_
  refine q_ti (v := 1) (by decide) ?_
  refine va_sld hx hb hX hbl hbA V.2.2.1 (by unfold vp_in; decide) d_1589 ?_
  refine q_ti (v := s1) hs1 ?_
  have hP0 : ws[0]? = (some (q 0, .inr (0, [.ref (q 1), .ref (q 3), .ref (q 5), .ref (q 6), .ref (q 7), .ref (q 8), .ref (q 9), .ref (q 30), .ref (q 34), .ref (q 35), .ref (q 36), .ref (q 38), .ref (q 39), .ref (q 40)])) : Option (Nat × va_E)) := q_fa (i := 0) hfl rfl
  have hP3 : ws[3]? = (some (q 3, .inr (1, [.ref (q 4), .int 11008, .int 0])) : Option (Nat × va_E)) := q_fa (i := 3) hfl rfl
  refine q_gol V (q_runV (As := [.int s1]) (rest := []) (d := 2) (mc := 0) (ms := 0) (ci := 0) C0 V rfl LV_NL_156 (c_NH_paperAt l D g ws (q 0) (q 1) (q 3) (q 5) (q 6) (q 7) (q 8) (q 9) (q 30) (q 34) (q 35) (q 36) (q 38) (q 39) (q 40) (q 4) s1 hP0 hP3 _) rfl rfl hP0 rfl hl.1 rfl (Nat.le_of_ble_eq_true rfl) ⟨by decide, by decide⟩ ⟨Nat.le_of_ble_eq_true rfl, Nat.le_of_ble_eq_true rfl⟩ d_1590) (fun v1 u1 H locs hp V => ?_)
  obtain ⟨hk, hF⟩ := hp
  have hfm : q_fl u1 116 (nm_w g q2) := q_flG hF hfm
  obtain rfl : v1 = 0 := Int64.toInt_inj.mp (by have e9 : (0 : Int64).toInt = 0 := rfl; omega)
  refine lv_aload_n hx hb d_1593 rfl (lv_at hl 2 rfl) ?_
  refine lv_aload_n hx hb d_1594 rfl (lv_at hl 4 rfl) ?_
  refine lv_iload hx hb d_1595 (lv_at hl 0 rfl) ?_
  refine lv_iconst (v := 1) hx hb d_1597 (by decide) ?_
  refine lv_iadd hx hb d_1598 ?_
  refine q_ti (v := 1) (by decide) ?_
  refine va_sld hx hb hX hbl hbA V.2.2.1 (by unfold vp_in; decide) d_1599 ?_
  refine q_ti (v := s1) hs1 ?_
  have hP116 : u1[116]? = (some (q2 0, .inr (12, [.int 0, .ref (q2 1), .int 0, .ref (q2 2), .int 0, .ref (q2 3), .ref (q2 18), .ref (q2 29), .ref (q2 37), .ref (q2 41), .ref (q2 51), .ref (q2 52)])) : Option (Nat × va_E)) := q_fa (i := 0) hfm rfl
  refine q_gol V (q_runV (As := [.int s1]) (rest := [.long 0]) (d := 1) (mc := 0) (ms := 0) (ci := 12) C0 V rfl LV_NL_160 (c_NM_paperAt l D g u1 (q2 0) (q2 1) (q2 2) (q2 3) (q2 18) (q2 29) (q2 37) (q2 41) (q2 51) (q2 52) s1 hP116 _) rfl rfl hP116 rfl hl.1 rfl (Nat.le_of_ble_eq_true rfl) ⟨by decide, by decide⟩ ⟨Nat.le_of_ble_eq_true rfl, Nat.le_of_ble_eq_true rfl⟩ d_1600) (fun r1 u2 H locs hp V => ?_)
  obtain ⟨t0, z2, z4, hM, hr, hG⟩ := hp
  replace hM : u2[116]? = (some (q2 0, .inr (12, [.int t0, .ref (q2 1), .int z2, .ref (q2 2), .int z4, .ref (q2 3), .ref (q2 18), .ref (q2 29), .ref (q2 37), .ref (q2 41), .ref (q2 51), .ref (q2 52)])) : Option (Nat × va_E)) := hM
  obtain rfl : r1 = 0 := Int64.toInt_inj.mp (by have e9 : (0 : Int64).toInt = 0 := rfl; omega)
  refine W.lcmp hx hb d_1603 ?_
  refine q_ti (v := 0) (by decide) ?_
  refine lv_if_eq (tgt := 1609) hx hb d_1604 (by decide) (fun c1 => ?_) (fun c1 => absurd (by decide) c1)
  refine W.widen (k := 300) (n := 300000) (Nat.le_of_ble_eq_true rfl) (Nat.le_of_ble_eq_true rfl) ?_
  exact kend _ _ _ _ V (q_lw hl (q_lw1 0 rfl (q_lw1 4 rfl q_lw0)))
