/-! the law, case 2: read -/
theorem d_249 : decode code 249 = .ok (.aload_n 1, 1) := by decide +kernel
theorem d_250 : decode code 250 = .ok (.aload_n 0, 1) := by decide +kernel
theorem d_251 : decode code 251 = .ok (.iload 4, 2) := by decide +kernel
theorem d_253 : decode code 253 = .ok (.iconst 1, 1) := by decide +kernel
theorem d_254 : decode code 254 = .ok (.iadd, 1) := by decide +kernel
theorem d_255 : decode code 255 = .ok (.iaload, 1) := by decide +kernel
theorem d_256 : decode code 256 = .ok (.aload_n 0, 1) := by decide +kernel
theorem d_257 : decode code 257 = .ok (.iload 4, 2) := by decide +kernel
theorem d_259 : decode code 259 = .ok (.iconst 2, 1) := by decide +kernel
theorem d_260 : decode code 260 = .ok (.iadd, 1) := by decide +kernel
theorem d_261 : decode code 261 = .ok (.iaload, 1) := by decide +kernel
theorem d_262 : decode code 262 = .ok (.aload_n 0, 1) := by decide +kernel
theorem d_263 : decode code 263 = .ok (.iload 4, 2) := by decide +kernel
theorem d_265 : decode code 265 = .ok (.iconst 3, 1) := by decide +kernel
theorem d_266 : decode code 266 = .ok (.iadd, 1) := by decide +kernel
theorem d_267 : decode code 267 = .ok (.iaload, 1) := by decide +kernel
theorem d_268 : decode code 268 = .ok (.aload_n 3, 1) := by decide +kernel
theorem d_269 : decode code 269 = .ok (.invokestatic 98, 3) := by decide +kernel
theorem w_569 : (Cond.codeWith ({ cls := "NumberHouseLaw", name := "read", desc := "(LNumberHouse;III[J)I" } : MethodName) method_4_code (6 : Nat) (some .int) [((0 : Nat), (19 : Nat), (22 : Nat), (13 : Nat)), ((0 : Nat), (19 : Nat), (26 : Nat), (19 : Nat))]) ∈ q_tbl := q_of 569 (by decide +kernel) (by decide +kernel)
theorem w_567 : (Cond.methodLink "NumberHouseLaw" (98 : Nat) ({ cls := "NumberHouseLaw", name := "read", desc := "(LNumberHouse;III[J)I" } : MethodName)) ∈ q_tbl := q_of 567 (by decide +kernel) (by decide +kernel)
theorem w_568 : (Cond.static ({ cls := "NumberHouseLaw", name := "read", desc := "(LNumberHouse;III[J)I" } : MethodName)) ∈ q_tbl := q_of 568 (by decide +kernel) (by decide +kernel)
theorem LW_NL_98 : q_LW "NumberHouseLaw" 98 y_NL_read method_4_code 6 (some .int) [(0, 19, 22, 13), (0, 19, 26, 19)] 5 := ⟨w_569, w_0, w_567, w_568, ⟨by decide, by decide, by decide +kernel⟩⟩
theorem d_272 : decode code 272 = .ok (.istore 5, 2) := by decide +kernel
theorem d_274 : decode code 274 = .ok (.aload_n 2, 1) := by decide +kernel
theorem d_275 : decode code 275 = .ok (.aload_n 0, 1) := by decide +kernel
theorem d_276 : decode code 276 = .ok (.iload 4, 2) := by decide +kernel
theorem d_278 : decode code 278 = .ok (.iconst 1, 1) := by decide +kernel
theorem d_279 : decode code 279 = .ok (.iadd, 1) := by decide +kernel
theorem d_280 : decode code 280 = .ok (.iaload, 1) := by decide +kernel
theorem d_281 : decode code 281 = .ok (.aload_n 0, 1) := by decide +kernel
theorem d_282 : decode code 282 = .ok (.iload 4, 2) := by decide +kernel
theorem d_284 : decode code 284 = .ok (.iconst 2, 1) := by decide +kernel
theorem d_285 : decode code 285 = .ok (.iadd, 1) := by decide +kernel
theorem d_286 : decode code 286 = .ok (.iaload, 1) := by decide +kernel
theorem d_287 : decode code 287 = .ok (.aload_n 0, 1) := by decide +kernel
theorem d_288 : decode code 288 = .ok (.iload 4, 2) := by decide +kernel
theorem d_290 : decode code 290 = .ok (.iconst 3, 1) := by decide +kernel
theorem d_291 : decode code 291 = .ok (.iadd, 1) := by decide +kernel
theorem d_292 : decode code 292 = .ok (.iaload, 1) := by decide +kernel
theorem d_293 : decode code 293 = .ok (.invokevirtual 101, 3) := by decide +kernel
theorem w_2355 : (Cond.code ({ cls := "NumberHouseModel", name := "read", desc := "(III)Z" } : MethodName) prog_14_method_15_code (8 : Nat) (some .boolean)) ∈ q_tbl := q_of 2355 (by decide +kernel) (by decide +kernel)
theorem w_2352 : (Cond.methodLink "NumberHouseLaw" (101 : Nat) ({ cls := "NumberHouseModel", name := "read", desc := "(III)Z" } : MethodName)) ∈ q_tbl := q_of 2352 (by decide +kernel) (by decide +kernel)
theorem w_2353 : (Cond.instanceMethod ({ cls := "NumberHouseModel", name := "read", desc := "(III)Z" } : MethodName)) ∈ q_tbl := q_of 2353 (by decide +kernel) (by decide +kernel)
theorem w_2354 : (Cond.selects "NumberHouseModel" ({ cls := "NumberHouseModel", name := "read", desc := "(III)Z" } : MethodName) ({ cls := "NumberHouseModel", name := "read", desc := "(III)Z" } : MethodName)) ∈ q_tbl := q_of 2354 (by decide +kernel) (by decide +kernel)
theorem LV_NL_101 : q_LV "NumberHouseLaw" 101 y_NM_read prog_14_method_15_code 8 (some .boolean) 3 := ⟨w_2355, w_14, w_2352, w_2353, w_2354, ⟨by decide, by decide, by decide +kernel⟩⟩
theorem d_296 : decode code 296 = .ok (.istore 6, 2) := by decide +kernel
theorem d_298 : decode code 298 = .ok (.aload_n 2, 1) := by decide +kernel
theorem d_299 : decode code 299 = .ok (.invokevirtual 91, 3) := by decide +kernel
theorem d_302 : decode code 302 = .ok (.iload 5, 2) := by decide +kernel
theorem d_304 : decode code 304 = .ok (.if_icmp .eq 5, 3) := by decide +kernel
theorem d_309 : decode code 309 = .ok (.iload 5, 2) := by decide +kernel
theorem d_311 : decode code 311 = .ok (.ifCond .ne 22, 3) := by decide +kernel
theorem d_314 : decode code 314 = .ok (.aload_n 3, 1) := by decide +kernel
theorem d_315 : decode code 315 = .ok (.iconst 0, 1) := by decide +kernel
theorem d_316 : decode code 316 = .ok (.laload, 1) := by decide +kernel
theorem d_317 : decode code 317 = .ok (.iload 6, 2) := by decide +kernel
theorem d_319 : decode code 319 = .ok (.ifCond .eq 7, 3) := by decide +kernel
theorem d_326 : decode code 326 = .ok (.lconst 0, 1) := by decide +kernel
theorem d_327 : decode code 327 = .ok (.lcmp, 1) := by decide +kernel
theorem d_328 : decode code 328 = .ok (.ifCond .eq 5, 3) := by decide +kernel
theorem d_333 : decode code 333 = .ok (.goto 1276, 3) := by decide +kernel
set_option maxRecDepth 100000 in
set_option maxHeartbeats 4000000 in
theorem law_k2 {p : Program} {l : Launch} {e : Env} {s : State} {m : MethodId} {below : List Frame} {meth : Method} {c : Code} {b : Nat} {xs : Nat → Int32} {D : va_G} {g : Nat → ClassId} {A : Nat → Prop} {ws : va_W} {H : Heap} {locs : List Loc} {Q : State → Prop} {ls : Array Slot} {q q2 : Nat → Nat} {qo : Nat} (hlt : l.stackTraces = false) (C0 : q_At p s m #[Value.ref b] meth c y_NL_law code 8 (some .boolean)) (hX : va_X b 6 xs s s.heap) (hbl : b < s.heap.size) (hbA : ¬ A b) (V : q_Wd D g A s ws H locs) (hfl : q_fl ws 0 (nh_w g q)) (hfm : q_fl ws 116 (nm_w g q2)) (hO : ws[169]? = (some (qo, .inl (g 1, 1, .inr (.inl (fun _ => 0)))) : Option (Nat × va_E))) (hl : lv_has ls 8 [(4, .int 0), (3, .ref qo), (2, .ref (q2 0)), (1, .ref (q 0)), (0, .ref b)]) (kend : ∀ (H : Heap) (locs : List Loc) (u : va_W) (ls : Array Slot), q_Wd D g A s u H locs → lv_has ls 8 [(4, .int 0), (0, .ref b)] → W p l e room_1 s m #[Value.ref b] below meth c H locs 300 300000 Q (F0 m 1609 ls [])) : W p l e room_1 s m #[Value.ref b] below meth c H locs 200 200000 Q (F0 m 249 ls []) := by
  have hx := C0.1
  have hb := C0.2.1
  obtain ⟨s1, hs1⟩ : ∃ z : Int32, xs ((1 : Int32).toNatClampNeg) = z := ⟨_, rfl⟩
  obtain ⟨s2, hs2⟩ : ∃ z : Int32, xs ((2 : Int32).toNatClampNeg) = z := ⟨_, rfl⟩
  obtain ⟨s3, hs3⟩ : ∃ z : Int32, xs ((3 : Int32).toNatClampNeg) = z := ⟨_, rfl⟩
  obtain ⟨s4, hs4⟩ : ∃ z : Int32, xs ((4 : Int32).toNatClampNeg) = z := ⟨_, rfl⟩
  obtain ⟨s5, hs5⟩ : ∃ z : Int32, xs ((5 : Int32).toNatClampNeg) = z := ⟨_, rfl⟩
  refine lv_aload_n hx hb d_249 rfl (lv_at hl 3 rfl) ?_
  refine lv_aload_n hx hb d_250 rfl (lv_at hl 4 rfl) ?_
  refine lv_iload hx hb d_251 (lv_at hl 0 rfl) ?_
  refine lv_iconst (v := 1) hx hb d_253 (by decide) ?_
  refine lv_iadd hx hb d_254 ?_
  refine q_ti (v := 1) (by decide) ?_
  refine va_sld hx hb hX hbl hbA V.2.2.1 (by unfold vp_in; decide) d_255 ?_
  refine q_ti (v := s1) hs1 ?_
  refine lv_aload_n hx hb d_256 rfl (lv_at hl 4 rfl) ?_
  refine lv_iload hx hb d_257 (lv_at hl 0 rfl) ?_
  refine lv_iconst (v := 2) hx hb d_259 (by decide) ?_
  refine lv_iadd hx hb d_260 ?_
  refine q_ti (v := 2) (by decide) ?_
  refine va_sld hx hb hX hbl hbA V.2.2.1 (by unfold vp_in; decide) d_261 ?_
  refine q_ti (v := s2) hs2 ?_
  refine lv_aload_n hx hb d_262 rfl (lv_at hl 4 rfl) ?_
  refine lv_iload hx hb d_263 (lv_at hl 0 rfl) ?_
  refine lv_iconst (v := 3) hx hb d_265 (by decide) ?_
  refine lv_iadd hx hb d_266 ?_
  refine q_ti (v := 3) (by decide) ?_
  refine va_sld hx hb hX hbl hbA V.2.2.1 (by unfold vp_in; decide) d_267 ?_
  refine q_ti (v := s3) hs3 ?_
  refine lv_aload_n hx hb d_268 rfl (lv_at hl 1 rfl) ?_
  refine q_goi V (q_runSW (As := [.ref (q 0), .int s1, .int s2, .int s3, .ref qo]) (rest := []) (d := 10) (mc := 2) (ms := 12) C0 V rfl LW_NL_98 (c_NL_read l D g ws hlt q qo s1 s2 s3 hfl hO _) rfl hl.1 rfl (Nat.le_of_ble_eq_true rfl) ⟨by decide, by decide⟩ ⟨Nat.le_of_ble_eq_true rfl, Nat.le_of_ble_eq_true rfl⟩ d_269) (fun k1 u1 H locs hp V => ?_)
  obtain ⟨o1, hO, hk, hF⟩ := hp
  have hfm : q_fl u1 116 (nm_w g q2) := q_flW hF (Nat.le_of_ble_eq_true rfl) hfm
  replace hO : u1[169]? = (some (qo, .inl (g 1, 1, .inr (.inl (vp_updL (fun _ => 0) 0 o1)))) : Option (Nat × va_E)) := hO
  refine lv_istore (lv' := [(5, .int k1), (4, .int 0), (3, .ref qo), (2, .ref (q2 0)), (1, .ref (q 0)), (0, .ref b)]) hx hb d_272 hl (by decide) rfl (fun ls hl => ?_)
  refine lv_aload_n hx hb d_274 rfl (lv_at hl 3 rfl) ?_
  refine lv_aload_n hx hb d_275 rfl (lv_at hl 5 rfl) ?_
  refine lv_iload hx hb d_276 (lv_at hl 1 rfl) ?_
  refine lv_iconst (v := 1) hx hb d_278 (by decide) ?_
  refine lv_iadd hx hb d_279 ?_
  refine q_ti (v := 1) (by decide) ?_
  refine va_sld hx hb hX hbl hbA V.2.2.1 (by unfold vp_in; decide) d_280 ?_
  refine q_ti (v := s1) hs1 ?_
  refine lv_aload_n hx hb d_281 rfl (lv_at hl 5 rfl) ?_
  refine lv_iload hx hb d_282 (lv_at hl 1 rfl) ?_
  refine lv_iconst (v := 2) hx hb d_284 (by decide) ?_
  refine lv_iadd hx hb d_285 ?_
  refine q_ti (v := 2) (by decide) ?_
  refine va_sld hx hb hX hbl hbA V.2.2.1 (by unfold vp_in; decide) d_286 ?_
  refine q_ti (v := s2) hs2 ?_
  refine lv_aload_n hx hb d_287 rfl (lv_at hl 5 rfl) ?_
  refine lv_iload hx hb d_288 (lv_at hl 1 rfl) ?_
  refine lv_iconst (v := 3) hx hb d_290 (by decide) ?_
  refine lv_iadd hx hb d_291 ?_
  refine q_ti (v := 3) (by decide) ?_
  refine va_sld hx hb hX hbl hbA V.2.2.1 (by unfold vp_in; decide) d_292 ?_
  refine q_ti (v := s3) hs3 ?_
  have hP116 : u1[116]? = (some (q2 0, .inr (12, [.int 0, .ref (q2 1), .int 0, .ref (q2 2), .int 0, .ref (q2 3), .ref (q2 18), .ref (q2 29), .ref (q2 37), .ref (q2 41), .ref (q2 51), .ref (q2 52)])) : Option (Nat × va_E)) := q_fa (i := 0) hfm rfl
  have hP119 : u1[119]? = (some (q2 3, .inr (13, [.int 0, .int 0, .ref (q2 4), .int 0, .ref (q2 5), .ref (q2 6), .ref (q2 7), .int 0, .ref (q2 8), .ref (q2 9), .ref (q2 10), .ref (q2 11), .ref (q2 12), .ref (q2 13), .ref (q2 14), .ref (q2 15), .int 0, .int 0, .ref (q2 16), .ref (q2 17), .int 0])) : Option (Nat × va_E)) := q_fa (i := 3) hfm rfl
  have hP134 : u1[134]? = (some (q2 18, .inr (14, [.int 0, .ref (q2 19), .int 0, .ref (q2 20), .ref (q2 21), .ref (q2 22), .ref (q2 23), .ref (q2 24), .int 0, .long 0, .int 0, .int 0, .ref (q2 25), .int 0, .ref (q2 26), .int 0, .ref (q2 27), .int 0, .ref (q2 28), .int 0, .int 0])) : Option (Nat × va_E)) := q_fa (i := 18) hfm rfl
  have hP153 : u1[153]? = (some (q2 37, .inr (16, [.int 0, .ref (q2 38), .int 0, .int 0, .int 0, .int 0, .ref (q2 39), .int 0, .int 0, .long 0, .ref (q2 40), .int 0, .int 0, .long 0, .long 0, .int 0, .int 0])) : Option (Nat × va_E)) := q_fa (i := 37) hfm rfl
  refine q_goi V (q_runV (As := [.int s1, .int s2, .int s3]) (rest := []) (d := 6) (mc := 0) (ms := 0) (ci := 12) C0 V rfl LV_NL_101 (c_NM_read l D g u1 (q2 0) (q2 1) (q2 2) (q2 3) (q2 18) (q2 29) (q2 37) (q2 41) (q2 51) (q2 52) (q2 4) (q2 5) (q2 6) (q2 7) (q2 8) (q2 9) (q2 10) (q2 11) (q2 12) (q2 13) (q2 14) (q2 15) (q2 16) (q2 17) (q2 19) (q2 20) (q2 21) (q2 22) (q2 23) (q2 24) (q2 25) (q2 26) (q2 27) (q2 28) (q2 38) (q2 39) (q2 40) s1 s2 s3 hP116 hP119 hP134 hP153 _) rfl rfl hP116 rfl hl.1 rfl (Nat.le_of_ble_eq_true rfl) ⟨by decide, by decide⟩ ⟨Nat.le_of_ble_eq_true rfl, Nat.le_of_ble_eq_true rfl⟩ d_293) (fun r1 u2 H locs hp V => ?_)
  obtain ⟨t0, z2, z4, hM, hr, hG⟩ := hp
  replace hM : u2[116]? = (some (q2 0, .inr (12, [.int t0, .ref (q2 1), .int z2, .ref (q2 2), .int z4, .ref (q2 3), .ref (q2 18), .ref (q2 29), .ref (q2 37), .ref (q2 41), .ref (q2 51), .ref (q2 52)])) : Option (Nat × va_E)) := hM
  replace hO := (hG 169 (Nat.le_refl _)).trans hO
  replace hO : u2[169]? = (some (qo, .inl (g 1, 1, .inr (.inl (vp_updL (fun _ => 0) 0 o1)))) : Option (Nat × va_E)) := hO
  rcases hk with ⟨ek, hk⟩ | ⟨ek, hk⟩
  ·
    obtain rfl : k1 = 0 := q_Ieq (x := k1.toInt) (y := 0) rfl (by decide) ek
    obtain rfl : t0 = 0 := q_Ieq (x := t0.toInt) (y := 0) rfl (by decide) (by omega)
    obtain rfl : r1 = 0 := q_Ieq (x := r1.toInt) (y := 0) rfl (by decide) (by omega)
    refine lv_istore (lv' := [(6, .int 0), (5, .int 0), (4, .int 0), (3, .ref qo), (2, .ref (q2 0)), (1, .ref (q 0)), (0, .ref b)]) hx hb d_296 hl (by decide) rfl (fun ls hl => ?_)
    refine lv_aload_n hx hb d_298 rfl (lv_at hl 4 rfl) ?_
    refine q_goi V (q_runV (As := []) (rest := []) (d := 1) (mc := 0) (ms := 0) (ci := 12) C0 V rfl LV_NL_91 (c_NM_thrown l D g u2 (q2 0) 0 (q2 1) z2 (q2 2) z4 (q2 3) (q2 18) (q2 29) (q2 37) (q2 41) (q2 51) (q2 52) hM _) rfl rfl hM rfl hl.1 rfl (Nat.le_of_ble_eq_true rfl) ⟨by decide, by decide⟩ ⟨Nat.le_of_ble_eq_true rfl, Nat.le_of_ble_eq_true rfl⟩ d_299) (fun v9 u9 H locs hp V => ?_)
    obtain ⟨rfl, rfl⟩ := hp
    refine lv_iload hx hb d_302 (lv_at hl 1 rfl) ?_
    refine lv_icmp_eq (tgt := 309) hx hb d_304 (by decide) (fun c1 => ?_) (fun c1 => absurd (by decide) c1)
    refine lv_iload hx hb d_309 (lv_at hl 1 rfl) ?_
    refine lv_if_ne (tgt := 333) hx hb d_311 (by decide) (fun c2 => absurd (by decide) c2) (fun c2 => ?_)
    refine lv_aload_n hx hb d_314 rfl (lv_at hl 3 rfl) ?_
    refine lv_iconst (v := 0) hx hb d_315 (by decide) ?_
    refine q_lald C0 V hO (by unfold vp_in; decide) d_316 ?_
    refine q_tl (v := o1) (by first | rfl | decide | simp [upd, vp_updL, sb_cl0]) ?_
    refine lv_iload hx hb d_317 (lv_at hl 0 rfl) ?_
    refine lv_if_eq (tgt := 326) hx hb d_319 (by decide) (fun c3 => ?_) (fun c3 => absurd (by decide) c3)
    refine lv_lconst (v := 0) hx hb d_326 (by decide) ?_
    refine W.lcmp hx hb d_327 ?_
    refine q_ti (v := 0) (q_cmE (x := o1.toInt) (y := 0) rfl (by decide) (by omega)) ?_
    refine lv_if_eq (tgt := 333) hx hb d_328 (by decide) (fun c4 => ?_) (fun c4 => absurd (by decide) c4)
    refine lv_goto (tgt := 1609) hx hb d_333 (by decide) ?_
    refine W.widen (k := 300) (n := 300000) (Nat.le_of_ble_eq_true rfl) (Nat.le_of_ble_eq_true rfl) ?_
    exact kend _ _ _ _ V (q_lw hl (q_lw1 2 rfl (q_lw1 6 rfl q_lw0)))
  ·
    obtain rfl : k1 = 1 := q_Ieq (x := k1.toInt) (y := 1) rfl (by decide) ek
    obtain rfl : t0 = 1 := q_Ieq (x := t0.toInt) (y := 1) rfl (by decide) (by omega)
    refine lv_istore (lv' := [(6, .int r1), (5, .int 1), (4, .int 0), (3, .ref qo), (2, .ref (q2 0)), (1, .ref (q 0)), (0, .ref b)]) hx hb d_296 hl (by decide) rfl (fun ls hl => ?_)
    refine lv_aload_n hx hb d_298 rfl (lv_at hl 4 rfl) ?_
    refine q_goi V (q_runV (As := []) (rest := []) (d := 1) (mc := 0) (ms := 0) (ci := 12) C0 V rfl LV_NL_91 (c_NM_thrown l D g u2 (q2 0) 1 (q2 1) z2 (q2 2) z4 (q2 3) (q2 18) (q2 29) (q2 37) (q2 41) (q2 51) (q2 52) hM _) rfl rfl hM rfl hl.1 rfl (Nat.le_of_ble_eq_true rfl) ⟨by decide, by decide⟩ ⟨Nat.le_of_ble_eq_true rfl, Nat.le_of_ble_eq_true rfl⟩ d_299) (fun v9 u9 H locs hp V => ?_)
    obtain ⟨rfl, rfl⟩ := hp
    refine lv_iload hx hb d_302 (lv_at hl 1 rfl) ?_
    refine lv_icmp_eq (tgt := 309) hx hb d_304 (by decide) (fun c5 => ?_) (fun c5 => absurd (by decide) c5)
    refine lv_iload hx hb d_309 (lv_at hl 1 rfl) ?_
    refine lv_if_ne (tgt := 333) hx hb d_311 (by decide) (fun c6 => ?_) (fun c6 => absurd c6 (by decide))
    refine lv_goto (tgt := 1609) hx hb d_333 (by decide) ?_
    refine W.widen (k := 300) (n := 300000) (Nat.le_of_ble_eq_true rfl) (Nat.le_of_ble_eq_true rfl) ?_
    exact kend _ _ _ _ V (q_lw hl (q_lw1 2 rfl (q_lw1 6 rfl q_lw0)))
