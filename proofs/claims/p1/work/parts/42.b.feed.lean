/-! the law, case 0: feed -/
theorem d_136 : decode code 136 = .ok (.aload_n 1, 1) := by decide +kernel
theorem d_137 : decode code 137 = .ok (.aload_n 0, 1) := by decide +kernel
theorem d_138 : decode code 138 = .ok (.iload 4, 2) := by decide +kernel
theorem d_140 : decode code 140 = .ok (.iconst 1, 1) := by decide +kernel
theorem d_141 : decode code 141 = .ok (.iadd, 1) := by decide +kernel
theorem d_142 : decode code 142 = .ok (.iaload, 1) := by decide +kernel
theorem d_143 : decode code 143 = .ok (.aload_n 0, 1) := by decide +kernel
theorem d_144 : decode code 144 = .ok (.iload 4, 2) := by decide +kernel
theorem d_146 : decode code 146 = .ok (.iconst 2, 1) := by decide +kernel
theorem d_147 : decode code 147 = .ok (.iadd, 1) := by decide +kernel
theorem d_148 : decode code 148 = .ok (.iaload, 1) := by decide +kernel
theorem d_149 : decode code 149 = .ok (.i2l, 1) := by decide +kernel
theorem d_150 : decode code 150 = .ok (.bipush 32, 2) := by decide +kernel
theorem d_152 : decode code 152 = .ok (.lshl, 1) := by decide +kernel
theorem d_153 : decode code 153 = .ok (.aload_n 0, 1) := by decide +kernel
theorem d_154 : decode code 154 = .ok (.iload 4, 2) := by decide +kernel
theorem d_156 : decode code 156 = .ok (.iconst 3, 1) := by decide +kernel
theorem d_157 : decode code 157 = .ok (.iadd, 1) := by decide +kernel
theorem d_158 : decode code 158 = .ok (.iaload, 1) := by decide +kernel
theorem d_159 : decode code 159 = .ok (.i2l, 1) := by decide +kernel
theorem d_160 : decode code 160 = .ok (.ldc2_w 83, 3) := by decide +kernel
theorem w_3232 : (Cond.constantLong "NumberHouseLaw" (83 : Nat) (4294967295 : Int64)) ∈ q_tbl := q_of 3232 (by decide +kernel) (by decide +kernel)
theorem d_163 : decode code 163 = .ok (.land, 1) := by decide +kernel
theorem d_164 : decode code 164 = .ok (.lor, 1) := by decide +kernel
theorem d_165 : decode code 165 = .ok (.aload_n 3, 1) := by decide +kernel
theorem d_166 : decode code 166 = .ok (.invokestatic 85, 3) := by decide +kernel
theorem w_485 : (Cond.codeWith ({ cls := "NumberHouseLaw", name := "feed", desc := "(LNumberHouse;IJ[J)I" } : MethodName) method_3_code (6 : Nat) (some .int) [((0 : Nat), (11 : Nat), (14 : Nat), (13 : Nat))]) ∈ q_tbl := q_of 485 (by decide +kernel) (by decide +kernel)
theorem w_0 : (Cond.initialized "NumberHouseLaw") ∈ q_tbl := q_of 0 (by decide +kernel) (by decide +kernel)
theorem w_483 : (Cond.methodLink "NumberHouseLaw" (85 : Nat) ({ cls := "NumberHouseLaw", name := "feed", desc := "(LNumberHouse;IJ[J)I" } : MethodName)) ∈ q_tbl := q_of 483 (by decide +kernel) (by decide +kernel)
theorem w_484 : (Cond.static ({ cls := "NumberHouseLaw", name := "feed", desc := "(LNumberHouse;IJ[J)I" } : MethodName)) ∈ q_tbl := q_of 484 (by decide +kernel) (by decide +kernel)
theorem LW_NL_85 : q_LW "NumberHouseLaw" 85 y_NL_feed method_3_code 6 (some .int) [(0, 11, 14, 13)] 4 := ⟨w_485, w_0, w_483, w_484, ⟨by decide, by decide, by decide +kernel⟩⟩
theorem d_169 : decode code 169 = .ok (.istore 5, 2) := by decide +kernel
theorem d_171 : decode code 171 = .ok (.aload_n 2, 1) := by decide +kernel
theorem d_172 : decode code 172 = .ok (.aload_n 0, 1) := by decide +kernel
theorem d_173 : decode code 173 = .ok (.iload 4, 2) := by decide +kernel
theorem d_175 : decode code 175 = .ok (.iconst 1, 1) := by decide +kernel
theorem d_176 : decode code 176 = .ok (.iadd, 1) := by decide +kernel
theorem d_177 : decode code 177 = .ok (.iaload, 1) := by decide +kernel
theorem d_178 : decode code 178 = .ok (.aload_n 0, 1) := by decide +kernel
theorem d_179 : decode code 179 = .ok (.iload 4, 2) := by decide +kernel
theorem d_181 : decode code 181 = .ok (.iconst 2, 1) := by decide +kernel
theorem d_182 : decode code 182 = .ok (.iadd, 1) := by decide +kernel
theorem d_183 : decode code 183 = .ok (.iaload, 1) := by decide +kernel
theorem d_184 : decode code 184 = .ok (.i2l, 1) := by decide +kernel
theorem d_185 : decode code 185 = .ok (.bipush 32, 2) := by decide +kernel
theorem d_187 : decode code 187 = .ok (.lshl, 1) := by decide +kernel
theorem d_188 : decode code 188 = .ok (.aload_n 0, 1) := by decide +kernel
theorem d_189 : decode code 189 = .ok (.iload 4, 2) := by decide +kernel
theorem d_191 : decode code 191 = .ok (.iconst 3, 1) := by decide +kernel
theorem d_192 : decode code 192 = .ok (.iadd, 1) := by decide +kernel
theorem d_193 : decode code 193 = .ok (.iaload, 1) := by decide +kernel
theorem d_194 : decode code 194 = .ok (.i2l, 1) := by decide +kernel
theorem d_195 : decode code 195 = .ok (.ldc2_w 83, 3) := by decide +kernel
theorem d_198 : decode code 198 = .ok (.land, 1) := by decide +kernel
theorem d_199 : decode code 199 = .ok (.lor, 1) := by decide +kernel
theorem d_200 : decode code 200 = .ok (.invokevirtual 90, 3) := by decide +kernel
theorem w_2342 : (Cond.code ({ cls := "NumberHouseModel", name := "feed", desc := "(IJ)I" } : MethodName) prog_14_method_3_code (5 : Nat) (some .int)) ∈ q_tbl := q_of 2342 (by decide +kernel) (by decide +kernel)
theorem w_2339 : (Cond.methodLink "NumberHouseLaw" (90 : Nat) ({ cls := "NumberHouseModel", name := "feed", desc := "(IJ)I" } : MethodName)) ∈ q_tbl := q_of 2339 (by decide +kernel) (by decide +kernel)
theorem w_2340 : (Cond.instanceMethod ({ cls := "NumberHouseModel", name := "feed", desc := "(IJ)I" } : MethodName)) ∈ q_tbl := q_of 2340 (by decide +kernel) (by decide +kernel)
theorem w_2341 : (Cond.selects "NumberHouseModel" ({ cls := "NumberHouseModel", name := "feed", desc := "(IJ)I" } : MethodName) ({ cls := "NumberHouseModel", name := "feed", desc := "(IJ)I" } : MethodName)) ∈ q_tbl := q_of 2341 (by decide +kernel) (by decide +kernel)
theorem LV_NL_90 : q_LV "NumberHouseLaw" 90 y_NM_feed prog_14_method_3_code 5 (some .int) 2 := ⟨w_2342, w_14, w_2339, w_2340, w_2341, ⟨by decide, by decide, by decide +kernel⟩⟩
theorem d_203 : decode code 203 = .ok (.istore 6, 2) := by decide +kernel
theorem d_205 : decode code 205 = .ok (.aload_n 2, 1) := by decide +kernel
theorem d_206 : decode code 206 = .ok (.invokevirtual 91, 3) := by decide +kernel
theorem w_2338 : (Cond.code ({ cls := "NumberHouseModel", name := "thrown", desc := "()I" } : MethodName) prog_14_method_2_code (1 : Nat) (some .int)) ∈ q_tbl := q_of 2338 (by decide +kernel) (by decide +kernel)
theorem w_2335 : (Cond.methodLink "NumberHouseLaw" (91 : Nat) ({ cls := "NumberHouseModel", name := "thrown", desc := "()I" } : MethodName)) ∈ q_tbl := q_of 2335 (by decide +kernel) (by decide +kernel)
theorem w_2336 : (Cond.instanceMethod ({ cls := "NumberHouseModel", name := "thrown", desc := "()I" } : MethodName)) ∈ q_tbl := q_of 2336 (by decide +kernel) (by decide +kernel)
theorem w_2337 : (Cond.selects "NumberHouseModel" ({ cls := "NumberHouseModel", name := "thrown", desc := "()I" } : MethodName) ({ cls := "NumberHouseModel", name := "thrown", desc := "()I" } : MethodName)) ∈ q_tbl := q_of 2337 (by decide +kernel) (by decide +kernel)
theorem LV_NL_91 : q_LV "NumberHouseLaw" 91 y_NM_thrown prog_14_method_2_code 1 (some .int) 0 := ⟨w_2338, w_14, w_2335, w_2336, w_2337, ⟨by decide, by decide, by decide +kernel⟩⟩
theorem d_209 : decode code 209 = .ok (.iload 5, 2) := by decide +kernel
theorem d_211 : decode code 211 = .ok (.if_icmp .eq 5, 3) := by decide +kernel
theorem d_216 : decode code 216 = .ok (.iload 5, 2) := by decide +kernel
theorem d_218 : decode code 218 = .ok (.ifCond .ne 15, 3) := by decide +kernel
theorem d_221 : decode code 221 = .ok (.aload_n 3, 1) := by decide +kernel
theorem d_222 : decode code 222 = .ok (.iconst 0, 1) := by decide +kernel
theorem d_223 : decode code 223 = .ok (.laload, 1) := by decide +kernel
theorem d_224 : decode code 224 = .ok (.iload 6, 2) := by decide +kernel
theorem d_226 : decode code 226 = .ok (.i2l, 1) := by decide +kernel
theorem d_227 : decode code 227 = .ok (.lcmp, 1) := by decide +kernel
theorem d_228 : decode code 228 = .ok (.ifCond .eq 5, 3) := by decide +kernel
theorem d_233 : decode code 233 = .ok (.goto 1376, 3) := by decide +kernel
set_option maxRecDepth 100000 in
set_option maxHeartbeats 4000000 in
theorem law_k0 {p : Program} {l : Launch} {e : Env} {s : State} {m : MethodId} {below : List Frame} {meth : Method} {c : Code} {b : Nat} {xs : Nat → Int32} {D : va_G} {g : Nat → ClassId} {A : Nat → Prop} {ws : va_W} {H : Heap} {locs : List Loc} {Q : State → Prop} {ls : Array Slot} {q q2 : Nat → Nat} {qo : Nat} (hlt : l.stackTraces = false) (C0 : q_At p s m #[Value.ref b] meth c y_NL_law code 8 (some .boolean)) (hX : va_X b 6 xs s s.heap) (hbl : b < s.heap.size) (hbA : ¬ A b) (V : q_Wd D g A s ws H locs) (hfl : q_fl ws 0 (nh_w g q)) (hfm : q_fl ws 116 (nm_w g q2)) (hO : ws[169]? = (some (qo, .inl (g 1, 1, .inr (.inl (fun _ => 0)))) : Option (Nat × va_E))) (hl : lv_has ls 8 [(4, .int 0), (3, .ref qo), (2, .ref (q2 0)), (1, .ref (q 0)), (0, .ref b)]) (kend : ∀ (H : Heap) (locs : List Loc) (u : va_W) (ls : Array Slot), q_Wd D g A s u H locs → lv_has ls 8 [(4, .int 0), (0, .ref b)] → W p l e room_1 s m #[Value.ref b] below meth c H locs 300 300000 Q (F0 m 1609 ls [])) : W p l e room_1 s m #[Value.ref b] below meth c H locs 200 200000 Q (F0 m 136 ls []) := by
  have hx := C0.1
  have hb := C0.2.1
  obtain ⟨s1, hs1⟩ : ∃ z : Int32, xs ((1 : Int32).toNatClampNeg) = z := ⟨_, rfl⟩
  obtain ⟨s2, hs2⟩ : ∃ z : Int32, xs ((2 : Int32).toNatClampNeg) = z := ⟨_, rfl⟩
  obtain ⟨s3, hs3⟩ : ∃ z : Int32, xs ((3 : Int32).toNatClampNeg) = z := ⟨_, rfl⟩
  obtain ⟨s4, hs4⟩ : ∃ z : Int32, xs ((4 : Int32).toNatClampNeg) = z := ⟨_, rfl⟩
  obtain ⟨s5, hs5⟩ : ∃ z : Int32, xs ((5 : Int32).toNatClampNeg) = z := ⟨_, rfl⟩
  refine lv_aload_n hx hb d_136 rfl (lv_at hl 3 rfl) ?_
  refine lv_aload_n hx hb d_137 rfl (lv_at hl 4 rfl) ?_
  refine lv_iload hx hb d_138 (lv_at hl 0 rfl) ?_
  refine lv_iconst (v := 1) hx hb d_140 (by decide) ?_
  refine lv_iadd hx hb d_141 ?_
  refine q_ti (v := 1) (by decide) ?_
  refine va_sld hx hb hX hbl hbA V.2.2.1 (by unfold vp_in; decide) d_142 ?_
  refine q_ti (v := s1) hs1 ?_
  refine lv_aload_n hx hb d_143 rfl (lv_at hl 4 rfl) ?_
  refine lv_iload hx hb d_144 (lv_at hl 0 rfl) ?_
  refine lv_iconst (v := 2) hx hb d_146 (by decide) ?_
  refine lv_iadd hx hb d_147 ?_
  refine q_ti (v := 2) (by decide) ?_
  refine va_sld hx hb hX hbl hbA V.2.2.1 (by unfold vp_in; decide) d_148 ?_
  refine q_ti (v := s2) hs2 ?_
  refine lv_i2l hx hb d_149 rfl ?_
  refine lv_bipush (v := 32) hx hb d_150 (by decide) ?_
  refine lv_lshl hx hb d_152 rfl ?_
  refine lv_aload_n hx hb d_153 rfl (lv_at hl 4 rfl) ?_
  refine lv_iload hx hb d_154 (lv_at hl 0 rfl) ?_
  refine lv_iconst (v := 3) hx hb d_156 (by decide) ?_
  refine lv_iadd hx hb d_157 ?_
  refine q_ti (v := 3) (by decide) ?_
  refine va_sld hx hb hX hbl hbA V.2.2.1 (by unfold vp_in; decide) d_158 ?_
  refine q_ti (v := s3) hs3 ?_
  refine lv_i2l hx hb d_159 rfl ?_
  refine q_ldc2 C0 rfl w_3232 d_160 ?_
  refine lv_land hx hb d_163 ?_
  refine lv_lor hx hb d_164 ?_
  refine lv_aload_n hx hb d_165 rfl (lv_at hl 1 rfl) ?_
  refine q_goi V (q_runSW (As := [.ref (q 0), .int s1, .long ((s2.toInt64 <<< ((32 : Int32).toInt64 &&& 63)) ||| (s3.toInt64 &&& 4294967295)), .ref qo]) (rest := []) (d := 9) (mc := 1) (ms := 6) C0 V rfl LW_NL_85 (c_NL_feed l D g ws hlt q qo s1 ((s2.toInt64 <<< ((32 : Int32).toInt64 &&& 63)) ||| (s3.toInt64 &&& 4294967295)) hfl hO _) rfl hl.1 rfl (Nat.le_of_ble_eq_true rfl) ⟨by decide, by decide⟩ ⟨Nat.le_of_ble_eq_true rfl, Nat.le_of_ble_eq_true rfl⟩ d_166) (fun k1 u1 H locs hp V => ?_)
  obtain ⟨o1, hO, hk, hF⟩ := hp
  have hfm : q_fl u1 116 (nm_w g q2) := q_flW hF (Nat.le_of_ble_eq_true rfl) hfm
  replace hO : u1[169]? = (some (qo, .inl (g 1, 1, .inr (.inl (vp_updL (fun _ => 0) 0 o1)))) : Option (Nat × va_E)) := hO
  refine lv_istore (lv' := [(5, .int k1), (4, .int 0), (3, .ref qo), (2, .ref (q2 0)), (1, .ref (q 0)), (0, .ref b)]) hx hb d_169 hl (by decide) rfl (fun ls hl => ?_)
  refine lv_aload_n hx hb d_171 rfl (lv_at hl 3 rfl) ?_
  refine lv_aload_n hx hb d_172 rfl (lv_at hl 5 rfl) ?_
  refine lv_iload hx hb d_173 (lv_at hl 1 rfl) ?_
  refine lv_iconst (v := 1) hx hb d_175 (by decide) ?_
  refine lv_iadd hx hb d_176 ?_
  refine q_ti (v := 1) (by decide) ?_
  refine va_sld hx hb hX hbl hbA V.2.2.1 (by unfold vp_in; decide) d_177 ?_
  refine q_ti (v := s1) hs1 ?_
  refine lv_aload_n hx hb d_178 rfl (lv_at hl 5 rfl) ?_
  refine lv_iload hx hb d_179 (lv_at hl 1 rfl) ?_
  refine lv_iconst (v := 2) hx hb d_181 (by decide) ?_
  refine lv_iadd hx hb d_182 ?_
  refine q_ti (v := 2) (by decide) ?_
  refine va_sld hx hb hX hbl hbA V.2.2.1 (by unfold vp_in; decide) d_183 ?_
  refine q_ti (v := s2) hs2 ?_
  refine lv_i2l hx hb d_184 rfl ?_
  refine lv_bipush (v := 32) hx hb d_185 (by decide) ?_
  refine lv_lshl hx hb d_187 rfl ?_
  refine lv_aload_n hx hb d_188 rfl (lv_at hl 5 rfl) ?_
  refine lv_iload hx hb d_189 (lv_at hl 1 rfl) ?_
  refine lv_iconst (v := 3) hx hb d_191 (by decide) ?_
  refine lv_iadd hx hb d_192 ?_
  refine q_ti (v := 3) (by decide) ?_
  refine va_sld hx hb hX hbl hbA V.2.2.1 (by unfold vp_in; decide) d_193 ?_
  refine q_ti (v := s3) hs3 ?_
  refine lv_i2l hx hb d_194 rfl ?_
  refine q_ldc2 C0 rfl w_3232 d_195 ?_
  refine lv_land hx hb d_198 ?_
  refine lv_lor hx hb d_199 ?_
  have hP116 : u1[116]? = (some (q2 0, .inr (12, [.int 0, .ref (q2 1), .int 0, .ref (q2 2), .int 0, .ref (q2 3), .ref (q2 18), .ref (q2 29), .ref (q2 37), .ref (q2 41), .ref (q2 51), .ref (q2 52)])) : Option (Nat × va_E)) := q_fa (i := 0) hfm rfl
  have hP117 : u1[117]? = (some (q2 1, .inl (g 0, 4100, .inl (fun _ => 0))) : Option (Nat × va_E)) := q_fa (i := 1) hfm rfl
  refine q_goi V (q_runV (As := [.int s1, .long ((s2.toInt64 <<< ((32 : Int32).toInt64 &&& 63)) ||| (s3.toInt64 &&& 4294967295))]) (rest := []) (d := 1) (mc := 0) (ms := 0) (ci := 12) C0 V rfl LV_NL_90 (c_NM_feed l D g u1 (q2 0) (q2 1) (q2 2) (q2 3) (q2 18) (q2 29) (q2 37) (q2 41) (q2 51) (q2 52) s1 ((s2.toInt64 <<< ((32 : Int32).toInt64 &&& 63)) ||| (s3.toInt64 &&& 4294967295)) hP116 hP117 _) rfl rfl hP116 rfl hl.1 rfl (Nat.le_of_ble_eq_true rfl) ⟨by decide, by decide⟩ ⟨Nat.le_of_ble_eq_true rfl, Nat.le_of_ble_eq_true rfl⟩ d_200) (fun r1 u2 H locs hp V => ?_)
  obtain ⟨t0, z2, z4, hM, hr, hG⟩ := hp
  replace hM : u2[116]? = (some (q2 0, .inr (12, [.int t0, .ref (q2 1), .int z2, .ref (q2 2), .int z4, .ref (q2 3), .ref (q2 18), .ref (q2 29), .ref (q2 37), .ref (q2 41), .ref (q2 51), .ref (q2 52)])) : Option (Nat × va_E)) := hM
  replace hO := (hG 169 (Nat.le_refl _)).trans hO
  replace hO : u2[169]? = (some (qo, .inl (g 1, 1, .inr (.inl (vp_updL (fun _ => 0) 0 o1)))) : Option (Nat × va_E)) := hO
  rcases hk with ⟨ek, hk⟩ | ⟨ek, hk⟩
  ·
    obtain rfl : k1 = 0 := q_Ieq (x := k1.toInt) (y := 0) rfl (by decide) ek
    obtain rfl : t0 = 0 := q_Ieq (x := t0.toInt) (y := 0) rfl (by decide) (by omega)
    refine lv_istore (lv' := [(6, .int r1), (5, .int 0), (4, .int 0), (3, .ref qo), (2, .ref (q2 0)), (1, .ref (q 0)), (0, .ref b)]) hx hb d_203 hl (by decide) rfl (fun ls hl => ?_)
    refine lv_aload_n hx hb d_205 rfl (lv_at hl 4 rfl) ?_
    refine q_goi V (q_runV (As := []) (rest := []) (d := 1) (mc := 0) (ms := 0) (ci := 12) C0 V rfl LV_NL_91 (c_NM_thrown l D g u2 (q2 0) 0 (q2 1) z2 (q2 2) z4 (q2 3) (q2 18) (q2 29) (q2 37) (q2 41) (q2 51) (q2 52) hM _) rfl rfl hM rfl hl.1 rfl (Nat.le_of_ble_eq_true rfl) ⟨by decide, by decide⟩ ⟨Nat.le_of_ble_eq_true rfl, Nat.le_of_ble_eq_true rfl⟩ d_206) (fun v9 u9 H locs hp V => ?_)
    obtain ⟨rfl, rfl⟩ := hp
    refine lv_iload hx hb d_209 (lv_at hl 1 rfl) ?_
    refine lv_icmp_eq (tgt := 216) hx hb d_211 (by decide) (fun c1 => ?_) (fun c1 => absurd (by decide) c1)
    refine lv_iload hx hb d_216 (lv_at hl 1 rfl) ?_
    refine lv_if_ne (tgt := 233) hx hb d_218 (by decide) (fun c2 => absurd (by decide) c2) (fun c2 => ?_)
    refine lv_aload_n hx hb d_221 rfl (lv_at hl 3 rfl) ?_
    refine lv_iconst (v := 0) hx hb d_222 (by decide) ?_
    refine q_lald C0 V hO (by unfold vp_in; decide) d_223 ?_
    refine q_tl (v := o1) (by first | rfl | decide | simp [upd, vp_updL, sb_cl0]) ?_
    refine lv_iload hx hb d_224 (lv_at hl 0 rfl) ?_
    refine lv_i2l hx hb d_226 rfl ?_
    refine W.lcmp hx hb d_227 ?_
    refine q_ti (v := 0) (q_cmE (x := o1.toInt) (y := r1.toInt) rfl (q_i2l rfl) (by omega)) ?_
    refine lv_if_eq (tgt := 233) hx hb d_228 (by decide) (fun c3 => ?_) (fun c3 => absurd (by decide) c3)
    refine lv_goto (tgt := 1609) hx hb d_233 (by decide) ?_
    refine W.widen (k := 300) (n := 300000) (Nat.le_of_ble_eq_true rfl) (Nat.le_of_ble_eq_true rfl) ?_
    exact kend _ _ _ _ V (q_lw hl (q_lw1 2 rfl (q_lw1 6 rfl q_lw0)))
  ·
    obtain rfl : k1 = 1 := q_Ieq (x := k1.toInt) (y := 1) rfl (by decide) ek
    obtain rfl : t0 = 1 := q_Ieq (x := t0.toInt) (y := 1) rfl (by decide) (by omega)
    refine lv_istore (lv' := [(6, .int r1), (5, .int 1), (4, .int 0), (3, .ref qo), (2, .ref (q2 0)), (1, .ref (q 0)), (0, .ref b)]) hx hb d_203 hl (by decide) rfl (fun ls hl => ?_)
    refine lv_aload_n hx hb d_205 rfl (lv_at hl 4 rfl) ?_
    refine q_goi V (q_runV (As := []) (rest := []) (d := 1) (mc := 0) (ms := 0) (ci := 12) C0 V rfl LV_NL_91 (c_NM_thrown l D g u2 (q2 0) 1 (q2 1) z2 (q2 2) z4 (q2 3) (q2 18) (q2 29) (q2 37) (q2 41) (q2 51) (q2 52) hM _) rfl rfl hM rfl hl.1 rfl (Nat.le_of_ble_eq_true rfl) ⟨by decide, by decide⟩ ⟨Nat.le_of_ble_eq_true rfl, Nat.le_of_ble_eq_true rfl⟩ d_206) (fun v9 u9 H locs hp V => ?_)
    obtain ⟨rfl, rfl⟩ := hp
    refine lv_iload hx hb d_209 (lv_at hl 1 rfl) ?_
    refine lv_icmp_eq (tgt := 216) hx hb d_211 (by decide) (fun c4 => ?_) (fun c4 => absurd (by decide) c4)
    refine lv_iload hx hb d_216 (lv_at hl 1 rfl) ?_
    refine lv_if_ne (tgt := 233) hx hb d_218 (by decide) (fun c5 => ?_) (fun c5 => absurd c5 (by decide))
    refine lv_goto (tgt := 1609) hx hb d_233 (by decide) ?_
    refine W.widen (k := 300) (n := 300000) (Nat.le_of_ble_eq_true rfl) (Nat.le_of_ble_eq_true rfl) ?_
    exact kend _ _ _ _ V (q_lw hl (q_lw1 2 rfl (q_lw1 6 rfl q_lw0)))
