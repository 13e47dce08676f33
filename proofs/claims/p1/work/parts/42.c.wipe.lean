/-! the law, case 1: wipe -/
theorem d_236 : decode code 236 = .ok (.aload_n 1, 1) := by decide +kernel
theorem d_237 : decode code 237 = .ok (.invokevirtual 94, 3) := by decide +kernel
theorem w_470 : (Cond.code ({ cls := "NumberHouse", name := "wipe", desc := "()I" } : MethodName) prog_1_method_3_code (2 : Nat) (some .int)) ∈ q_tbl := q_of 470 (by decide +kernel) (by decide +kernel)
theorem w_467 : (Cond.methodLink "NumberHouseLaw" (94 : Nat) ({ cls := "NumberHouse", name := "wipe", desc := "()I" } : MethodName)) ∈ q_tbl := q_of 467 (by decide +kernel) (by decide +kernel)
theorem w_468 : (Cond.instanceMethod ({ cls := "NumberHouse", name := "wipe", desc := "()I" } : MethodName)) ∈ q_tbl := q_of 468 (by decide +kernel) (by decide +kernel)
theorem w_469 : (Cond.selects "NumberHouse" ({ cls := "NumberHouse", name := "wipe", desc := "()I" } : MethodName) ({ cls := "NumberHouse", name := "wipe", desc := "()I" } : MethodName)) ∈ q_tbl := q_of 469 (by decide +kernel) (by decide +kernel)
theorem LV_NL_94 : q_LV "NumberHouseLaw" 94 y_NH_wipe prog_1_method_3_code 2 (some .int) 0 := ⟨w_470, w_1, w_467, w_468, w_469, ⟨by decide, by decide, by decide +kernel⟩⟩
theorem d_240 : decode code 240 = .ok (.aload_n 2, 1) := by decide +kernel
theorem d_241 : decode code 241 = .ok (.invokevirtual 97, 3) := by decide +kernel
theorem w_2347 : (Cond.code ({ cls := "NumberHouseModel", name := "wipe", desc := "()I" } : MethodName) prog_14_method_4_code (2 : Nat) (some .int)) ∈ q_tbl := q_of 2347 (by decide +kernel) (by decide +kernel)
theorem w_2344 : (Cond.methodLink "NumberHouseLaw" (97 : Nat) ({ cls := "NumberHouseModel", name := "wipe", desc := "()I" } : MethodName)) ∈ q_tbl := q_of 2344 (by decide +kernel) (by decide +kernel)
theorem w_2345 : (Cond.instanceMethod ({ cls := "NumberHouseModel", name := "wipe", desc := "()I" } : MethodName)) ∈ q_tbl := q_of 2345 (by decide +kernel) (by decide +kernel)
theorem w_2346 : (Cond.selects "NumberHouseModel" ({ cls := "NumberHouseModel", name := "wipe", desc := "()I" } : MethodName) ({ cls := "NumberHouseModel", name := "wipe", desc := "()I" } : MethodName)) ∈ q_tbl := q_of 2346 (by decide +kernel) (by decide +kernel)
theorem LV_NL_97 : q_LV "NumberHouseLaw" 97 y_NM_wipe prog_14_method_4_code 2 (some .int) 0 := ⟨w_2347, w_14, w_2344, w_2345, w_2346, ⟨by decide, by decide, by decide +kernel⟩⟩
theorem d_244 : decode code 244 = .ok (.if_icmp .eq 1365, 3) := by decide +kernel
set_option maxRecDepth 100000 in
set_option maxHeartbeats 4000000 in
theorem law_k1 {p : Program} {l : Launch} {e : Env} {s : State} {m : MethodId} {below : List Frame} {meth : Method} {c : Code} {b : Nat} {xs : Nat → Int32} {D : va_G} {g : Nat → ClassId} {A : Nat → Prop} {ws : va_W} {H : Heap} {locs : List Loc} {Q : State → Prop} {ls : Array Slot} {q q2 : Nat → Nat} {qo : Nat} (hlt : l.stackTraces = false) (C0 : q_At p s m #[Value.ref b] meth c y_NL_law code 8 (some .boolean)) (hX : va_X b 6 xs s s.heap) (hbl : b < s.heap.size) (hbA : ¬ A b) (V : q_Wd D g A s ws H locs) (hfl : q_fl ws 0 (nh_w g q)) (hfm : q_fl ws 116 (nm_w g q2)) (hO : ws[169]? = (some (qo, .inl (g 1, 1, .inr (.inl (fun _ => 0)))) : Option (Nat × va_E))) (hl : lv_has ls 8 [(4, .int 0), (3, .ref qo), (2, .ref (q2 0)), (1, .ref (q 0)), (0, .ref b)]) (kend : ∀ (H : Heap) (locs : List Loc) (u : va_W) (ls : Array Slot), q_Wd D g A s u H locs → lv_has ls 8 [(4, .int 0), (0, .ref b)] → W p l e room_1 s m #[Value.ref b] below meth c H locs 300 300000 Q (F0 m 1609 ls [])) : W p l e room_1 s m #[Value.ref b] below meth c H locs 200 200000 Q (F0 m 236 ls []) := by
  have hx := C0.1
  have hb := C0.2.1
  obtain ⟨s1, hs1⟩ : ∃ z : Int32, xs ((1 : Int32).toNatClampNeg) = z := ⟨_, rfl⟩
  obtain ⟨s2, hs2⟩ : ∃ z : Int32, xs ((2 : Int32).toNatClampNeg) = z := ⟨_, rfl⟩
  obtain ⟨s3, hs3⟩ : ∃ z : Int32, xs ((3 : Int32).toNatClampNeg) = z := ⟨_, rfl⟩
  obtain ⟨s4, hs4⟩ : ∃ z : Int32, xs ((4 : Int32).toNatClampNeg) = z := ⟨_, rfl⟩
  obtain ⟨s5, hs5⟩ : ∃ z : Int32, xs ((5 : Int32).toNatClampNeg) = z := ⟨_, rfl⟩
  refine lv_aload_n hx hb d_236 rfl (lv_at hl 3 rfl) ?_
  have hP0 : ws[0]? = (some (q 0, .inr (0, [.ref (q 1), .ref (q 3), .ref (q 5), .ref (q 6), .ref (q 7), .ref (q 8), .ref (q 9), .ref (q 30), .ref (q 34), .ref (q 35), .ref (q 36), .ref (q 38), .ref (q 39), .ref (q 40)])) : Option (Nat × va_E)) := q_fa (i := 0) hfl rfl
  have hP1 : ws[1]? = (some (q 1, .inr (1, [.ref (q 2), .int 4100, .int 0])) : Option (Nat × va_E)) := q_fa (i := 1) hfl rfl
  refine q_goi V (q_runV (As := []) (rest := []) (d := 2) (mc := 0) (ms := 0) (ci := 0) C0 V rfl LV_NL_94 (c_NH_wipe l D g ws (q 0) (q 1) (q 3) (q 5) (q 6) (q 7) (q 8) (q 9) (q 30) (q 34) (q 35) (q 36) (q 38) (q 39) (q 40) (q 2) hP0 hP1 _) rfl rfl hP0 rfl hl.1 rfl (Nat.le_of_ble_eq_true rfl) ⟨by decide, by decide⟩ ⟨Nat.le_of_ble_eq_true rfl, Nat.le_of_ble_eq_true rfl⟩ d_237) (fun v1 u1 H locs hp V => ?_)
  obtain ⟨hk, hF⟩ := hp
  have hfm : q_fl u1 116 (nm_w g q2) := q_flG hF hfm
  obtain rfl : v1 = 0 := q_Ieq (x := v1.toInt) (y := 0) rfl (by decide) (by omega)
  refine lv_aload_n hx hb d_240 rfl (lv_at hl 2 rfl) ?_
  have hP116 : u1[116]? = (some (q2 0, .inr (12, [.int 0, .ref (q2 1), .int 0, .ref (q2 2), .int 0, .ref (q2 3), .ref (q2 18), .ref (q2 29), .ref (q2 37), .ref (q2 41), .ref (q2 51), .ref (q2 52)])) : Option (Nat × va_E)) := q_fa (i := 0) hfm rfl
  refine q_goi V (q_runV (As := []) (rest := [.int 0]) (d := 1) (mc := 0) (ms := 0) (ci := 12) C0 V rfl LV_NL_97 (c_NM_wipe l D g u1 (q2 0) (q2 1) (q2 2) (q2 3) (q2 18) (q2 29) (q2 37) (q2 41) (q2 51) (q2 52) hP116 _) rfl rfl hP116 rfl hl.1 rfl (Nat.le_of_ble_eq_true rfl) ⟨by decide, by decide⟩ ⟨Nat.le_of_ble_eq_true rfl, Nat.le_of_ble_eq_true rfl⟩ d_241) (fun r1 u2 H locs hp V => ?_)
  obtain ⟨t0, z2, z4, hM, hr, hG⟩ := hp
  replace hM : u2[116]? = (some (q2 0, .inr (12, [.int t0, .ref (q2 1), .int z2, .ref (q2 2), .int z4, .ref (q2 3), .ref (q2 18), .ref (q2 29), .ref (q2 37), .ref (q2 41), .ref (q2 51), .ref (q2 52)])) : Option (Nat × va_E)) := hM
  obtain rfl : r1 = 0 := q_Ieq (x := r1.toInt) (y := 0) rfl (by decide) (by omega)
  refine lv_icmp_eq (tgt := 1609) hx hb d_244 (by decide) (fun c1 => ?_) (fun c1 => absurd (by decide) c1)
  refine W.widen (k := 300) (n := 300000) (Nat.le_of_ble_eq_true rfl) (Nat.le_of_ble_eq_true rfl) ?_
  exact kend _ _ _ _ V (q_lw hl (q_lw1 0 rfl (q_lw1 4 rfl q_lw0)))
