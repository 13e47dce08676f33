/-! the law, case 1: wipe -/
theorem d_208 : decode code 208 = .ok (.aload_n 1, 1) := by decide +kernel
set_option maxRecDepth 100000 in
theorem w_470 : (Cond.code ({ cls := "NumberHouse", name := "wipe", desc := "()I" } : MethodName) prog_1_method_3_code (2 : Nat) (some .int)) ∈ q_tbl := q_of2 230 rfl (by decide +kernel)
set_option maxRecDepth 100000 in
theorem w_467 : (Cond.methodLink "NumberHouseLaw" (91 : Nat) ({ cls := "NumberHouse", name := "wipe", desc := "()I" } : MethodName)) ∈ q_tbl := q_of2 227 rfl (by decide +kernel)
set_option maxRecDepth 100000 in
theorem w_468 : (Cond.instanceMethod ({ cls := "NumberHouse", name := "wipe", desc := "()I" } : MethodName)) ∈ q_tbl := q_of2 228 rfl (by decide +kernel)
set_option maxRecDepth 100000 in
theorem w_469 : (Cond.selects "NumberHouse" ({ cls := "NumberHouse", name := "wipe", desc := "()I" } : MethodName) ({ cls := "NumberHouse", name := "wipe", desc := "()I" } : MethodName)) ∈ q_tbl := q_of2 229 rfl (by decide +kernel)
theorem LV_NL_91 : q_LV "NumberHouseLaw" 91 y_NH_wipe prog_1_method_3_code 2 (some .int) 0 := ⟨w_470, w_1, w_467, w_468, w_469, ⟨by decide, by decide, by decide +kernel⟩⟩
theorem d_209 : decode code 209 = .ok (.invokevirtual 91, 3) := by decide +kernel
theorem d_212 : decode code 212 = .ok (.pop, 1) := by decide +kernel
theorem d_213 : decode code 213 = .ok (.aload_n 2, 1) := by decide +kernel
set_option maxRecDepth 100000 in
theorem w_2347 : (Cond.code ({ cls := "NumberHouseModel", name := "wipe", desc := "()I" } : MethodName) prog_14_method_4_code (2 : Nat) (some .int)) ∈ q_tbl := q_of10 187 rfl (by decide +kernel)
set_option maxRecDepth 100000 in
theorem w_2344 : (Cond.methodLink "NumberHouseLaw" (94 : Nat) ({ cls := "NumberHouseModel", name := "wipe", desc := "()I" } : MethodName)) ∈ q_tbl := q_of10 184 rfl (by decide +kernel)
set_option maxRecDepth 100000 in
theorem w_2345 : (Cond.instanceMethod ({ cls := "NumberHouseModel", name := "wipe", desc := "()I" } : MethodName)) ∈ q_tbl := q_of10 185 rfl (by decide +kernel)
set_option maxRecDepth 100000 in
theorem w_2346 : (Cond.selects "NumberHouseModel" ({ cls := "NumberHouseModel", name := "wipe", desc := "()I" } : MethodName) ({ cls := "NumberHouseModel", name := "wipe", desc := "()I" } : MethodName)) ∈ q_tbl := q_of10 186 rfl (by decide +kernel)
theorem LV_NL_94 : q_LV "NumberHouseLaw" 94 y_NM_wipe prog_14_method_4_code 2 (some .int) 0 := ⟨w_2347, w_14, w_2344, w_2345, w_2346, ⟨by decide, by decide, by decide +kernel⟩⟩
theorem d_214 : decode code 214 = .ok (.invokevirtual 94, 3) := by decide +kernel
theorem d_217 : decode code 217 = .ok (.pop, 1) := by decide +kernel
theorem d_218 : decode code 218 = .ok (.goto 1061, 3) := by decide +kernel
set_option maxRecDepth 100000 in
set_option maxHeartbeats 4000000 in
theorem law_k1 {p : Program} {l : Launch} {e : Env} {s : State} {m : MethodId} {below : List Frame} {meth : Method} {c : Code} {b L : Nat} {xs : Nat → Int32} {D : va_G} {g : Nat → ClassId} {q : Nat → Nat} {qo : Nat} {A : Nat → Prop} {ws : va_W} {H : Heap} {locs : List Loc} {Q : State → Prop} {ls : Array Slot} {fo : Nat → Int64} {i0 : Int32} {cells slots : Nat} (hcb : cells ≤ 6000) (hsb : slots ≤ 300000) (hlt : l.stackTraces = false) (C0 : q_At p s m #[Value.ref b] meth c y_NL_law code 8 (some .boolean)) (hX : va_X b L xs s s.heap) (hbl : b < s.heap.size) (hbA : ¬ A b) (V : q_Wd D g A s ws H locs) (hI : q_I (nsh g q) q ws) (hC : iC g q ws) (hJ : q_I (msh g q) q ws) (hM : iM g q ws) (hO : ws[169]? = (some (qo, .inl (g 1, 1, .inr (.inl fo))) : Option (Nat × va_E))) (hi0 : 0 ≤ i0.toInt ∧ i0.toInt + 6 ≤ (L : Int) ∧ (L : Int) ≤ 3072) (hl : lv_has ls 8 [(4, .int i0), (3, .ref qo), (2, .ref (q 116)), (1, .ref (q 0)), (0, .ref b)]) (kend : ∀ (H : Heap) (locs : List Loc) (u : va_W) (f2 : Nat → Int64) (ls : Array Slot), q_Wd D g A s u H locs → q_I (nsh g q) q u → iC g q u → q_I (msh g q) q u → iM g q u → u[169]? = (some (qo, .inl (g 1, 1, .inr (.inl f2))) : Option (Nat × va_E)) → lv_has ls 8 [(4, .int i0), (3, .ref qo), (2, .ref (q 116)), (1, .ref (q 0)), (0, .ref b)] → W p l e room_1 s m #[Value.ref b] below meth c H locs (cells + 10) (slots + 100) Q (F0 m 1279 ls [])) : W p l e room_1 s m #[Value.ref b] below meth c H locs cells slots Q (F0 m 208 ls []) := by
  have hx := C0.1
  have hb := C0.2.1
  refine lv_aload_n hx hb d_208 rfl (lv_at hl 3 rfl) ?_
  obtain ⟨E0, hP0, hE0⟩ := hI 0 _ (n_s0 g q)
  unfold k_0 at hE0
  subst hE0
  refine q_goi V (q_runV (As := []) (rest := []) (d := 2) (mc := 0) (ms := 0) (ci := 0) C0 V rfl LV_NL_91 (C_wipe l D g q ws hI hC _) rfl rfl hP0 rfl hl.1 rfl (Nat.le_of_ble_eq_true rfl) ⟨by decide, by decide⟩ ⟨w_rc (by omega) (by decide), w_rs (by omega) (by decide)⟩ d_209) (fun r1 u2 H locs hp V => ?_)
  obtain ⟨hI, hC, hF⟩ := hp
  obtain ⟨hJ, hM⟩ : q_I (msh g q) q u2 ∧ iM g q u2 := w_cM hJ hM hI (fun i h _ => hF i h)
  have hO : u2[169]? = (some (qo, .inl (g 1, 1, .inr (.inl fo))) : Option (Nat × va_E)) := (hF 169 (Nat.le_of_ble_eq_true rfl)).trans hO
  refine lv_pop hx hb d_212 rfl ?_
  refine lv_aload_n hx hb d_213 rfl (lv_at hl 2 rfl) ?_
  obtain ⟨rA, rB, rC, hP0, -⟩ := n_o116 hJ
  refine q_goi V (q_runV (As := []) (rest := []) (d := 1) (mc := 0) (ms := 0) (ci := 12) C0 V rfl LV_NL_94 (CM_wipe l D g q u2 hJ hM _) rfl rfl hP0 rfl hl.1 rfl (Nat.le_of_ble_eq_true rfl) ⟨by decide, by decide⟩ ⟨w_rc (by omega) (by decide), w_rs (by omega) (by decide)⟩ d_214) (fun r2 u3 H locs hp V => ?_)
  obtain ⟨hJ, hM, hF⟩ := hp
  obtain ⟨hI, hC⟩ : q_I (nsh g q) q u3 ∧ iC g q u3 := w_cC hI hC (fun i h => hF i (by omega))
  have hO : u3[169]? = (some (qo, .inl (g 1, 1, .inr (.inl fo))) : Option (Nat × va_E)) := (hF 169 (by decide)).trans hO
  refine lv_pop hx hb d_217 rfl ?_
  refine lv_goto (tgt := 1279) hx hb d_218 (by decide) ?_
  refine W.widen (k := cells + 10) (n := slots + 100) (by omega) (by omega) ?_
  exact kend _ _ _ _ _ V hI hC hJ hM hO (q_lw hl (q_lw1 0 rfl (q_lw1 1 rfl (q_lw1 2 rfl (q_lw1 3 rfl (q_lw1 4 rfl q_lw0))))))
/-! the law, case 2: read -/
theorem d_221 : decode code 221 = .ok (.aload_n 1, 1) := by decide +kernel
theorem d_222 : decode code 222 = .ok (.aload_n 0, 1) := by decide +kernel
theorem d_223 : decode code 223 = .ok (.iload 4, 2) := by decide +kernel
theorem d_225 : decode code 225 = .ok (.iconst 1, 1) := by decide +kernel
theorem d_226 : decode code 226 = .ok (.iadd, 1) := by decide +kernel
theorem d_227 : decode code 227 = .ok (.iaload, 1) := by decide +kernel
theorem d_228 : decode code 228 = .ok (.aload_n 0, 1) := by decide +kernel
theorem d_229 : decode code 229 = .ok (.iload 4, 2) := by decide +kernel
theorem d_231 : decode code 231 = .ok (.iconst 2, 1) := by decide +kernel
theorem d_232 : decode code 232 = .ok (.iadd, 1) := by decide +kernel
theorem d_233 : decode code 233 = .ok (.iaload, 1) := by decide +kernel
theorem d_234 : decode code 234 = .ok (.aload_n 0, 1) := by decide +kernel
theorem d_235 : decode code 235 = .ok (.iload 4, 2) := by decide +kernel
theorem d_237 : decode code 237 = .ok (.iconst 3, 1) := by decide +kernel
theorem d_238 : decode code 238 = .ok (.iadd, 1) := by decide +kernel
theorem d_239 : decode code 239 = .ok (.iaload, 1) := by decide +kernel
theorem d_240 : decode code 240 = .ok (.aload_n 3, 1) := by decide +kernel
set_option maxRecDepth 100000 in
theorem w_569 : (Cond.codeWith ({ cls := "NumberHouseLaw", name := "read", desc := "(LNumberHouse;III[J)I" } : MethodName) method_4_code (6 : Nat) (some .int) [((0 : Nat), (19 : Nat), (22 : Nat), (13 : Nat)), ((0 : Nat), (19 : Nat), (26 : Nat), (19 : Nat))]) ∈ q_tbl := q_of3 89 rfl (by decide +kernel)
set_option maxRecDepth 100000 in
theorem w_567 : (Cond.methodLink "NumberHouseLaw" (95 : Nat) ({ cls := "NumberHouseLaw", name := "read", desc := "(LNumberHouse;III[J)I" } : MethodName)) ∈ q_tbl := q_of3 87 rfl (by decide +kernel)
set_option maxRecDepth 100000 in
theorem w_568 : (Cond.static ({ cls := "NumberHouseLaw", name := "read", desc := "(LNumberHouse;III[J)I" } : MethodName)) ∈ q_tbl := q_of3 88 rfl (by decide +kernel)
theorem LW_NL_95 : q_LW "NumberHouseLaw" 95 y_NL_read method_4_code 6 (some .int) [(0, 19, 22, 13), (0, 19, 26, 19)] 5 := ⟨w_569, w_0, w_567, w_568, ⟨by decide, by decide, by decide +kernel⟩⟩
theorem d_241 : decode code 241 = .ok (.invokestatic 95, 3) := by decide +kernel
theorem d_244 : decode code 244 = .ok (.istore 5, 2) := by decide +kernel
theorem d_246 : decode code 246 = .ok (.aload_n 2, 1) := by decide +kernel
theorem d_247 : decode code 247 = .ok (.aload_n 0, 1) := by decide +kernel
theorem d_248 : decode code 248 = .ok (.iload 4, 2) := by decide +kernel
theorem d_250 : decode code 250 = .ok (.iconst 1, 1) := by decide +kernel
theorem d_251 : decode code 251 = .ok (.iadd, 1) := by decide +kernel
theorem d_252 : decode code 252 = .ok (.iaload, 1) := by decide +kernel
theorem d_253 : decode code 253 = .ok (.aload_n 0, 1) := by decide +kernel
theorem d_254 : decode code 254 = .ok (.iload 4, 2) := by decide +kernel
theorem d_256 : decode code 256 = .ok (.iconst 2, 1) := by decide +kernel
theorem d_257 : decode code 257 = .ok (.iadd, 1) := by decide +kernel
theorem d_258 : decode code 258 = .ok (.iaload, 1) := by decide +kernel
theorem d_259 : decode code 259 = .ok (.aload_n 0, 1) := by decide +kernel
theorem d_260 : decode code 260 = .ok (.iload 4, 2) := by decide +kernel
theorem d_262 : decode code 262 = .ok (.iconst 3, 1) := by decide +kernel
theorem d_263 : decode code 263 = .ok (.iadd, 1) := by decide +kernel
theorem d_264 : decode code 264 = .ok (.iaload, 1) := by decide +kernel
set_option maxRecDepth 100000 in
theorem w_2355 : (Cond.code ({ cls := "NumberHouseModel", name := "read", desc := "(III)Z" } : MethodName) prog_14_method_15_code (8 : Nat) (some .boolean)) ∈ q_tbl := q_of10 195 rfl (by decide +kernel)
set_option maxRecDepth 100000 in
theorem w_2352 : (Cond.methodLink "NumberHouseLaw" (98 : Nat) ({ cls := "NumberHouseModel", name := "read", desc := "(III)Z" } : MethodName)) ∈ q_tbl := q_of10 192 rfl (by decide +kernel)
set_option maxRecDepth 100000 in
theorem w_2353 : (Cond.instanceMethod ({ cls := "NumberHouseModel", name := "read", desc := "(III)Z" } : MethodName)) ∈ q_tbl := q_of10 193 rfl (by decide +kernel)
set_option maxRecDepth 100000 in
theorem w_2354 : (Cond.selects "NumberHouseModel" ({ cls := "NumberHouseModel", name := "read", desc := "(III)Z" } : MethodName) ({ cls := "NumberHouseModel", name := "read", desc := "(III)Z" } : MethodName)) ∈ q_tbl := q_of10 194 rfl (by decide +kernel)
theorem LV_NL_98 : q_LV "NumberHouseLaw" 98 y_NM_read prog_14_method_15_code 8 (some .boolean) 3 := ⟨w_2355, w_14, w_2352, w_2353, w_2354, ⟨by decide, by decide, by decide +kernel⟩⟩
theorem d_265 : decode code 265 = .ok (.invokevirtual 98, 3) := by decide +kernel
theorem d_268 : decode code 268 = .ok (.istore 6, 2) := by decide +kernel
theorem d_270 : decode code 270 = .ok (.goto 1009, 3) := by decide +kernel
set_option maxRecDepth 100000 in
set_option maxHeartbeats 4000000 in
theorem law_k2 {p : Program} {l : Launch} {e : Env} {s : State} {m : MethodId} {below : List Frame} {meth : Method} {c : Code} {b L : Nat} {xs : Nat → Int32} {D : va_G} {g : Nat → ClassId} {q : Nat → Nat} {qo : Nat} {A : Nat → Prop} {ws : va_W} {H : Heap} {locs : List Loc} {Q : State → Prop} {ls : Array Slot} {fo : Nat → Int64} {i0 : Int32} {cells slots : Nat} (hcb : cells ≤ 6000) (hsb : slots ≤ 300000) (hlt : l.stackTraces = false) (C0 : q_At p s m #[Value.ref b] meth c y_NL_law code 8 (some .boolean)) (hX : va_X b L xs s s.heap) (hbl : b < s.heap.size) (hbA : ¬ A b) (V : q_Wd D g A s ws H locs) (hI : q_I (nsh g q) q ws) (hC : iC g q ws) (hJ : q_I (msh g q) q ws) (hM : iM g q ws) (hO : ws[169]? = (some (qo, .inl (g 1, 1, .inr (.inl fo))) : Option (Nat × va_E))) (hi0 : 0 ≤ i0.toInt ∧ i0.toInt + 6 ≤ (L : Int) ∧ (L : Int) ≤ 3072) (hl : lv_has ls 8 [(4, .int i0), (3, .ref qo), (2, .ref (q 116)), (1, .ref (q 0)), (0, .ref b)]) (kend : ∀ (H : Heap) (locs : List Loc) (u : va_W) (f2 : Nat → Int64) (ls : Array Slot), q_Wd D g A s u H locs → q_I (nsh g q) q u → iC g q u → q_I (msh g q) q u → iM g q u → u[169]? = (some (qo, .inl (g 1, 1, .inr (.inl f2))) : Option (Nat × va_E)) → lv_has ls 8 [(4, .int i0), (3, .ref qo), (2, .ref (q 116)), (1, .ref (q 0)), (0, .ref b)] → W p l e room_1 s m #[Value.ref b] below meth c H locs (cells + 10) (slots + 100) Q (F0 m 1279 ls [])) : W p l e room_1 s m #[Value.ref b] below meth c H locs cells slots Q (F0 m 221 ls []) := by
  have hx := C0.1
  have hb := C0.2.1
  obtain ⟨a1, ha1⟩ : ∃ z : Int32, i0 + 1 = z := ⟨_, rfl⟩
  have hin1 : vp_in a1 L := w_in ha1 (by decide) hi0
  obtain ⟨s1, hs1⟩ : ∃ z : Int32, xs a1.toNatClampNeg = z := ⟨_, rfl⟩
  obtain ⟨a2, ha2⟩ : ∃ z : Int32, i0 + 2 = z := ⟨_, rfl⟩
  have hin2 : vp_in a2 L := w_in ha2 (by decide) hi0
  obtain ⟨s2, hs2⟩ : ∃ z : Int32, xs a2.toNatClampNeg = z := ⟨_, rfl⟩
  obtain ⟨a3, ha3⟩ : ∃ z : Int32, i0 + 3 = z := ⟨_, rfl⟩
  have hin3 : vp_in a3 L := w_in ha3 (by decide) hi0
  obtain ⟨s3, hs3⟩ : ∃ z : Int32, xs a3.toNatClampNeg = z := ⟨_, rfl⟩
  refine lv_aload_n hx hb d_221 rfl (lv_at hl 3 rfl) ?_
  refine lv_aload_n hx hb d_222 rfl (lv_at hl 4 rfl) ?_
  refine lv_iload hx hb d_223 (lv_at hl 0 rfl) ?_
  refine lv_iconst (v := 1) hx hb d_225 (by decide) ?_
  refine lv_iadd hx hb d_226 ?_
  refine q_ti (v := a1) ha1 ?_
  refine va_sld hx hb hX hbl hbA V.2.2.1 hin1 d_227 ?_
  refine q_ti (v := s1) hs1 ?_
  refine lv_aload_n hx hb d_228 rfl (lv_at hl 4 rfl) ?_
  refine lv_iload hx hb d_229 (lv_at hl 0 rfl) ?_
  refine lv_iconst (v := 2) hx hb d_231 (by decide) ?_
  refine lv_iadd hx hb d_232 ?_
  refine q_ti (v := a2) ha2 ?_
  refine va_sld hx hb hX hbl hbA V.2.2.1 hin2 d_233 ?_
  refine q_ti (v := s2) hs2 ?_
  refine lv_aload_n hx hb d_234 rfl (lv_at hl 4 rfl) ?_
  refine lv_iload hx hb d_235 (lv_at hl 0 rfl) ?_
  refine lv_iconst (v := 3) hx hb d_237 (by decide) ?_
  refine lv_iadd hx hb d_238 ?_
  refine q_ti (v := a3) ha3 ?_
  refine va_sld hx hb hX hbl hbA V.2.2.1 hin3 d_239 ?_
  refine q_ti (v := s3) hs3 ?_
  refine lv_aload_n hx hb d_240 rfl (lv_at hl 1 rfl) ?_
  refine q_goi V (q_runSW (As := [.ref (q 0), .int s1, .int s2, .int s3, .ref qo]) (rest := []) (d := 10) (mc := 4) (ms := 24) C0 V rfl LW_NL_95 (w_NL_read l D g q ws qo fo s1 s2 s3 hlt hI hC hO _) rfl hl.1 rfl (Nat.le_of_ble_eq_true rfl) ⟨by decide, by decide⟩ ⟨w_rc (by omega) (by decide), w_rs (by omega) (by decide)⟩ d_241) (fun k1 u1 H locs hp V => ?_)
  obtain ⟨hI, hC, ⟨fo, hO⟩, hF⟩ := hp
  obtain ⟨hJ, hM⟩ : q_I (msh g q) q u1 ∧ iM g q u1 := w_cM hJ hM hI hF
  refine lv_istore (lv' := [(5, .int k1), (4, .int i0), (3, .ref qo), (2, .ref (q 116)), (1, .ref (q 0)), (0, .ref b)]) hx hb d_244 hl (by decide) rfl (fun ls hl => ?_)
  refine lv_aload_n hx hb d_246 rfl (lv_at hl 3 rfl) ?_
  refine lv_aload_n hx hb d_247 rfl (lv_at hl 5 rfl) ?_
  refine lv_iload hx hb d_248 (lv_at hl 1 rfl) ?_
  refine lv_iconst (v := 1) hx hb d_250 (by decide) ?_
  refine lv_iadd hx hb d_251 ?_
  refine q_ti (v := a1) ha1 ?_
  refine va_sld hx hb hX hbl hbA V.2.2.1 hin1 d_252 ?_
  refine q_ti (v := s1) hs1 ?_
  refine lv_aload_n hx hb d_253 rfl (lv_at hl 5 rfl) ?_
  refine lv_iload hx hb d_254 (lv_at hl 1 rfl) ?_
  refine lv_iconst (v := 2) hx hb d_256 (by decide) ?_
  refine lv_iadd hx hb d_257 ?_
  refine q_ti (v := a2) ha2 ?_
  refine va_sld hx hb hX hbl hbA V.2.2.1 hin2 d_258 ?_
  refine q_ti (v := s2) hs2 ?_
  refine lv_aload_n hx hb d_259 rfl (lv_at hl 5 rfl) ?_
  refine lv_iload hx hb d_260 (lv_at hl 1 rfl) ?_
  refine lv_iconst (v := 3) hx hb d_262 (by decide) ?_
  refine lv_iadd hx hb d_263 ?_
  refine q_ti (v := a3) ha3 ?_
  refine va_sld hx hb hX hbl hbA V.2.2.1 hin3 d_264 ?_
  refine q_ti (v := s3) hs3 ?_
  obtain ⟨rA, rB, rC, hP0, -⟩ := n_o116 hJ
  refine q_goi V (q_runV (As := [.int s1, .int s2, .int s3]) (rest := []) (d := 7) (mc := 0) (ms := 0) (ci := 12) C0 V rfl LV_NL_98 (CM_read l D g q u1 s1 s2 s3 hJ hM _) rfl rfl hP0 rfl hl.1 rfl (Nat.le_of_ble_eq_true rfl) ⟨by decide, by decide⟩ ⟨w_rc (by omega) (by decide), w_rs (by omega) (by decide)⟩ d_265) (fun r2 u3 H locs hp V => ?_)
  obtain ⟨hJ, hM, hF⟩ := hp
  obtain ⟨hI, hC⟩ : q_I (nsh g q) q u3 ∧ iC g q u3 := w_cC hI hC (fun i h => hF i (by omega))
  have hO : u3[169]? = (some (qo, .inl (g 1, 1, .inr (.inl fo))) : Option (Nat × va_E)) := (hF 169 (by decide)).trans hO
  refine lv_istore (lv' := [(6, .int r2), (5, .int k1), (4, .int i0), (3, .ref qo), (2, .ref (q 116)), (1, .ref (q 0)), (0, .ref b)]) hx hb d_268 hl (by decide) rfl (fun ls hl => ?_)
  refine lv_goto (tgt := 1279) hx hb d_270 (by decide) ?_
  refine W.widen (k := cells + 10) (n := slots + 100) (by omega) (by omega) ?_
  exact kend _ _ _ _ _ V hI hC hJ hM hO (q_lw hl (q_lw1 2 rfl (q_lw1 3 rfl (q_lw1 4 rfl (q_lw1 5 rfl (q_lw1 6 rfl q_lw0))))))
/-! the law, case 3: put -/
theorem d_273 : decode code 273 = .ok (.aload_n 1, 1) := by decide +kernel
theorem d_274 : decode code 274 = .ok (.aload_n 0, 1) := by decide +kernel
theorem d_275 : decode code 275 = .ok (.iload 4, 2) := by decide +kernel
theorem d_277 : decode code 277 = .ok (.iconst 1, 1) := by decide +kernel
theorem d_278 : decode code 278 = .ok (.iadd, 1) := by decide +kernel
theorem d_279 : decode code 279 = .ok (.iaload, 1) := by decide +kernel
theorem d_280 : decode code 280 = .ok (.aload_n 0, 1) := by decide +kernel
theorem d_281 : decode code 281 = .ok (.iload 4, 2) := by decide +kernel
theorem d_283 : decode code 283 = .ok (.iconst 2, 1) := by decide +kernel
theorem d_284 : decode code 284 = .ok (.iadd, 1) := by decide +kernel
theorem d_285 : decode code 285 = .ok (.iaload, 1) := by decide +kernel
theorem d_286 : decode code 286 = .ok (.aload_n 0, 1) := by decide +kernel
theorem d_287 : decode code 287 = .ok (.iload 4, 2) := by decide +kernel
theorem d_289 : decode code 289 = .ok (.iconst 3, 1) := by decide +kernel
theorem d_290 : decode code 290 = .ok (.iadd, 1) := by decide +kernel
theorem d_291 : decode code 291 = .ok (.iaload, 1) := by decide +kernel
theorem d_292 : decode code 292 = .ok (.i2l, 1) := by decide +kernel
theorem d_293 : decode code 293 = .ok (.bipush 32, 2) := by decide +kernel
theorem d_295 : decode code 295 = .ok (.lshl, 1) := by decide +kernel
theorem d_296 : decode code 296 = .ok (.aload_n 0, 1) := by decide +kernel
theorem d_297 : decode code 297 = .ok (.iload 4, 2) := by decide +kernel
theorem d_299 : decode code 299 = .ok (.iconst 4, 1) := by decide +kernel
theorem d_300 : decode code 300 = .ok (.iadd, 1) := by decide +kernel
theorem d_301 : decode code 301 = .ok (.iaload, 1) := by decide +kernel
theorem d_302 : decode code 302 = .ok (.i2l, 1) := by decide +kernel
theorem d_303 : decode code 303 = .ok (.ldc2_w 83, 3) := by decide +kernel
theorem d_306 : decode code 306 = .ok (.land, 1) := by decide +kernel
theorem d_307 : decode code 307 = .ok (.lor, 1) := by decide +kernel
set_option maxRecDepth 100000 in
theorem w_1098 : (Cond.codeWith ({ cls := "NumberHouseLaw", name := "put", desc := "(LNumberHouse;IIJ)I" } : MethodName) method_5_code (6 : Nat) (some .int) [((0 : Nat), (7 : Nat), (10 : Nat), (13 : Nat))]) ∈ q_tbl := q_of5 138 rfl (by decide +kernel)
set_option maxRecDepth 100000 in
theorem w_1096 : (Cond.methodLink "NumberHouseLaw" (99 : Nat) ({ cls := "NumberHouseLaw", name := "put", desc := "(LNumberHouse;IIJ)I" } : MethodName)) ∈ q_tbl := q_of5 136 rfl (by decide +kernel)
set_option maxRecDepth 100000 in
theorem w_1097 : (Cond.static ({ cls := "NumberHouseLaw", name := "put", desc := "(LNumberHouse;IIJ)I" } : MethodName)) ∈ q_tbl := q_of5 137 rfl (by decide +kernel)
theorem LW_NL_99 : q_LW "NumberHouseLaw" 99 y_NL_put method_5_code 6 (some .int) [(0, 7, 10, 13)] 4 := ⟨w_1098, w_0, w_1096, w_1097, ⟨by decide, by decide, by decide +kernel⟩⟩
theorem d_308 : decode code 308 = .ok (.invokestatic 99, 3) := by decide +kernel
theorem d_311 : decode code 311 = .ok (.istore 5, 2) := by decide +kernel
theorem d_313 : decode code 313 = .ok (.aload_n 2, 1) := by decide +kernel
theorem d_314 : decode code 314 = .ok (.aload_n 0, 1) := by decide +kernel
theorem d_315 : decode code 315 = .ok (.iload 4, 2) := by decide +kernel
theorem d_317 : decode code 317 = .ok (.iconst 1, 1) := by decide +kernel
theorem d_318 : decode code 318 = .ok (.iadd, 1) := by decide +kernel
theorem d_319 : decode code 319 = .ok (.iaload, 1) := by decide +kernel
theorem d_320 : decode code 320 = .ok (.aload_n 0, 1) := by decide +kernel
theorem d_321 : decode code 321 = .ok (.iload 4, 2) := by decide +kernel
theorem d_323 : decode code 323 = .ok (.iconst 2, 1) := by decide +kernel
theorem d_324 : decode code 324 = .ok (.iadd, 1) := by decide +kernel
theorem d_325 : decode code 325 = .ok (.iaload, 1) := by decide +kernel
theorem d_326 : decode code 326 = .ok (.aload_n 0, 1) := by decide +kernel
theorem d_327 : decode code 327 = .ok (.iload 4, 2) := by decide +kernel
theorem d_329 : decode code 329 = .ok (.iconst 3, 1) := by decide +kernel
theorem d_330 : decode code 330 = .ok (.iadd, 1) := by decide +kernel
theorem d_331 : decode code 331 = .ok (.iaload, 1) := by decide +kernel
theorem d_332 : decode code 332 = .ok (.i2l, 1) := by decide +kernel
theorem d_333 : decode code 333 = .ok (.bipush 32, 2) := by decide +kernel
theorem d_335 : decode code 335 = .ok (.lshl, 1) := by decide +kernel
theorem d_336 : decode code 336 = .ok (.aload_n 0, 1) := by decide +kernel
theorem d_337 : decode code 337 = .ok (.iload 4, 2) := by decide +kernel
theorem d_339 : decode code 339 = .ok (.iconst 4, 1) := by decide +kernel
theorem d_340 : decode code 340 = .ok (.iadd, 1) := by decide +kernel
theorem d_341 : decode code 341 = .ok (.iaload, 1) := by decide +kernel
theorem d_342 : decode code 342 = .ok (.i2l, 1) := by decide +kernel
theorem d_343 : decode code 343 = .ok (.ldc2_w 83, 3) := by decide +kernel
theorem d_346 : decode code 346 = .ok (.land, 1) := by decide +kernel
theorem d_347 : decode code 347 = .ok (.lor, 1) := by decide +kernel
set_option maxRecDepth 100000 in
theorem w_2538 : (Cond.code ({ cls := "NumberHouseModel", name := "put", desc := "(IIJ)V" } : MethodName) prog_14_method_16_code (5 : Nat) (none : Option ClassFile.FieldType)) ∈ q_tbl := q_of11 138 rfl (by decide +kernel)
set_option maxRecDepth 100000 in
theorem w_2535 : (Cond.methodLink "NumberHouseLaw" (102 : Nat) ({ cls := "NumberHouseModel", name := "put", desc := "(IIJ)V" } : MethodName)) ∈ q_tbl := q_of11 135 rfl (by decide +kernel)
set_option maxRecDepth 100000 in
theorem w_2536 : (Cond.instanceMethod ({ cls := "NumberHouseModel", name := "put", desc := "(IIJ)V" } : MethodName)) ∈ q_tbl := q_of11 136 rfl (by decide +kernel)
set_option maxRecDepth 100000 in
theorem w_2537 : (Cond.selects "NumberHouseModel" ({ cls := "NumberHouseModel", name := "put", desc := "(IIJ)V" } : MethodName) ({ cls := "NumberHouseModel", name := "put", desc := "(IIJ)V" } : MethodName)) ∈ q_tbl := q_of11 137 rfl (by decide +kernel)
theorem LV_NL_102 : q_LV "NumberHouseLaw" 102 y_NM_put prog_14_method_16_code 5 none 3 := ⟨w_2538, w_14, w_2535, w_2536, w_2537, ⟨by decide, by decide, by decide +kernel⟩⟩
theorem d_348 : decode code 348 = .ok (.invokevirtual 102, 3) := by decide +kernel
theorem d_351 : decode code 351 = .ok (.aload_n 2, 1) := by decide +kernel
set_option maxRecDepth 100000 in
theorem w_2338 : (Cond.code ({ cls := "NumberHouseModel", name := "thrown", desc := "()I" } : MethodName) prog_14_method_2_code (1 : Nat) (some .int)) ∈ q_tbl := q_of10 178 rfl (by decide +kernel)
set_option maxRecDepth 100000 in
theorem w_2335 : (Cond.methodLink "NumberHouseLaw" (103 : Nat) ({ cls := "NumberHouseModel", name := "thrown", desc := "()I" } : MethodName)) ∈ q_tbl := q_of10 175 rfl (by decide +kernel)
set_option maxRecDepth 100000 in
theorem w_2336 : (Cond.instanceMethod ({ cls := "NumberHouseModel", name := "thrown", desc := "()I" } : MethodName)) ∈ q_tbl := q_of10 176 rfl (by decide +kernel)
set_option maxRecDepth 100000 in
theorem w_2337 : (Cond.selects "NumberHouseModel" ({ cls := "NumberHouseModel", name := "thrown", desc := "()I" } : MethodName) ({ cls := "NumberHouseModel", name := "thrown", desc := "()I" } : MethodName)) ∈ q_tbl := q_of10 177 rfl (by decide +kernel)
theorem LV_NL_103 : q_LV "NumberHouseLaw" 103 y_NM_thrown prog_14_method_2_code 1 (some .int) 0 := ⟨w_2338, w_14, w_2335, w_2336, w_2337, ⟨by decide, by decide, by decide +kernel⟩⟩
theorem d_352 : decode code 352 = .ok (.invokevirtual 103, 3) := by decide +kernel
theorem d_355 : decode code 355 = .ok (.iload 5, 2) := by decide +kernel
theorem d_357 : decode code 357 = .ok (.if_icmp .eq 5, 3) := by decide +kernel
theorem d_362 : decode code 362 = .ok (.goto 917, 3) := by decide +kernel
set_option maxRecDepth 100000 in
set_option maxHeartbeats 4000000 in
theorem law_k3 {p : Program} {l : Launch} {e : Env} {s : State} {m : MethodId} {below : List Frame} {meth : Method} {c : Code} {b L : Nat} {xs : Nat → Int32} {D : va_G} {g : Nat → ClassId} {q : Nat → Nat} {qo : Nat} {A : Nat → Prop} {ws : va_W} {H : Heap} {locs : List Loc} {Q : State → Prop} {ls : Array Slot} {fo : Nat → Int64} {i0 : Int32} {cells slots : Nat} (hcb : cells ≤ 6000) (hsb : slots ≤ 300000) (hlt : l.stackTraces = false) (C0 : q_At p s m #[Value.ref b] meth c y_NL_law code 8 (some .boolean)) (hX : va_X b L xs s s.heap) (hbl : b < s.heap.size) (hbA : ¬ A b) (V : q_Wd D g A s ws H locs) (hI : q_I (nsh g q) q ws) (hC : iC g q ws) (hJ : q_I (msh g q) q ws) (hM : iM g q ws) (hO : ws[169]? = (some (qo, .inl (g 1, 1, .inr (.inl fo))) : Option (Nat × va_E))) (hi0 : 0 ≤ i0.toInt ∧ i0.toInt + 6 ≤ (L : Int) ∧ (L : Int) ≤ 3072) (hl : lv_has ls 8 [(4, .int i0), (3, .ref qo), (2, .ref (q 116)), (1, .ref (q 0)), (0, .ref b)]) (kend : ∀ (H : Heap) (locs : List Loc) (u : va_W) (f2 : Nat → Int64) (ls : Array Slot), q_Wd D g A s u H locs → q_I (nsh g q) q u → iC g q u → q_I (msh g q) q u → iM g q u → u[169]? = (some (qo, .inl (g 1, 1, .inr (.inl f2))) : Option (Nat × va_E)) → lv_has ls 8 [(4, .int i0), (3, .ref qo), (2, .ref (q 116)), (1, .ref (q 0)), (0, .ref b)] → W p l e room_1 s m #[Value.ref b] below meth c H locs (cells + 10) (slots + 100) Q (F0 m 1279 ls [])) : W p l e room_1 s m #[Value.ref b] below meth c H locs cells slots Q (F0 m 273 ls []) := by
  have hx := C0.1
  have hb := C0.2.1
  obtain ⟨a1, ha1⟩ : ∃ z : Int32, i0 + 1 = z := ⟨_, rfl⟩
  have hin1 : vp_in a1 L := w_in ha1 (by decide) hi0
  obtain ⟨s1, hs1⟩ : ∃ z : Int32, xs a1.toNatClampNeg = z := ⟨_, rfl⟩
  obtain ⟨a2, ha2⟩ : ∃ z : Int32, i0 + 2 = z := ⟨_, rfl⟩
  have hin2 : vp_in a2 L := w_in ha2 (by decide) hi0
  obtain ⟨s2, hs2⟩ : ∃ z : Int32, xs a2.toNatClampNeg = z := ⟨_, rfl⟩
  obtain ⟨a3, ha3⟩ : ∃ z : Int32, i0 + 3 = z := ⟨_, rfl⟩
  have hin3 : vp_in a3 L := w_in ha3 (by decide) hi0
  obtain ⟨s3, hs3⟩ : ∃ z : Int32, xs a3.toNatClampNeg = z := ⟨_, rfl⟩
  obtain ⟨a4, ha4⟩ : ∃ z : Int32, i0 + 4 = z := ⟨_, rfl⟩
  have hin4 : vp_in a4 L := w_in ha4 (by decide) hi0
  obtain ⟨s4, hs4⟩ : ∃ z : Int32, xs a4.toNatClampNeg = z := ⟨_, rfl⟩
  refine lv_aload_n hx hb d_273 rfl (lv_at hl 3 rfl) ?_
  refine lv_aload_n hx hb d_274 rfl (lv_at hl 4 rfl) ?_
  refine lv_iload hx hb d_275 (lv_at hl 0 rfl) ?_
  refine lv_iconst (v := 1) hx hb d_277 (by decide) ?_
  refine lv_iadd hx hb d_278 ?_
  refine q_ti (v := a1) ha1 ?_
  refine va_sld hx hb hX hbl hbA V.2.2.1 hin1 d_279 ?_
  refine q_ti (v := s1) hs1 ?_
  refine lv_aload_n hx hb d_280 rfl (lv_at hl 4 rfl) ?_
  refine lv_iload hx hb d_281 (lv_at hl 0 rfl) ?_
  refine lv_iconst (v := 2) hx hb d_283 (by decide) ?_
  refine lv_iadd hx hb d_284 ?_
  refine q_ti (v := a2) ha2 ?_
  refine va_sld hx hb hX hbl hbA V.2.2.1 hin2 d_285 ?_
  refine q_ti (v := s2) hs2 ?_
  refine lv_aload_n hx hb d_286 rfl (lv_at hl 4 rfl) ?_
  refine lv_iload hx hb d_287 (lv_at hl 0 rfl) ?_
  refine lv_iconst (v := 3) hx hb d_289 (by decide) ?_
  refine lv_iadd hx hb d_290 ?_
  refine q_ti (v := a3) ha3 ?_
  refine va_sld hx hb hX hbl hbA V.2.2.1 hin3 d_291 ?_
  refine q_ti (v := s3) hs3 ?_
  refine lv_i2l hx hb d_292 rfl ?_
  refine lv_bipush (v := 32) hx hb d_293 (by decide) ?_
  refine lv_lshl hx hb d_295 rfl ?_
  refine lv_aload_n hx hb d_296 rfl (lv_at hl 4 rfl) ?_
  refine lv_iload hx hb d_297 (lv_at hl 0 rfl) ?_
  refine lv_iconst (v := 4) hx hb d_299 (by decide) ?_
  refine lv_iadd hx hb d_300 ?_
  refine q_ti (v := a4) ha4 ?_
  refine va_sld hx hb hX hbl hbA V.2.2.1 hin4 d_301 ?_
  refine q_ti (v := s4) hs4 ?_
  refine lv_i2l hx hb d_302 rfl ?_
  refine q_ldc2 C0 rfl w_3232 d_303 ?_
  refine lv_land hx hb d_306 ?_
  refine lv_lor hx hb d_307 ?_
  refine q_goi V (q_runSW (As := [.ref (q 0), .int s1, .int s2, .long (((s3.toInt64) <<< ((32 : Int32).toInt64 &&& 63)) ||| ((s4.toInt64) &&& 4294967295))]) (rest := []) (d := 10) (mc := 2) (ms := 12) C0 V rfl LW_NL_99 (w_NL_put l D g q ws s1 s2 (((s3.toInt64) <<< ((32 : Int32).toInt64 &&& 63)) ||| ((s4.toInt64) &&& 4294967295)) hlt hI hC _) rfl hl.1 rfl (Nat.le_of_ble_eq_true rfl) ⟨by decide, by decide⟩ ⟨w_rc (by omega) (by decide), w_rs (by omega) (by decide)⟩ d_308) (fun k1 u1 H locs hp V => ?_)
  obtain ⟨hI, hC, hF, hK⟩ := hp
  obtain ⟨hJ, hM⟩ : q_I (msh g q) q u1 ∧ iM g q u1 := w_cM hJ hM hI (fun i h _ => hF i h)
  have hO : u1[169]? = (some (qo, .inl (g 1, 1, .inr (.inl fo))) : Option (Nat × va_E)) := (hF 169 (Nat.le_of_ble_eq_true rfl)).trans hO
  refine lv_istore (lv' := [(5, .int k1), (4, .int i0), (3, .ref qo), (2, .ref (q 116)), (1, .ref (q 0)), (0, .ref b)]) hx hb d_311 hl (by decide) rfl (fun ls hl => ?_)
  refine lv_aload_n hx hb d_313 rfl (lv_at hl 3 rfl) ?_
  refine lv_aload_n hx hb d_314 rfl (lv_at hl 5 rfl) ?_
  refine lv_iload hx hb d_315 (lv_at hl 1 rfl) ?_
  refine lv_iconst (v := 1) hx hb d_317 (by decide) ?_
  refine lv_iadd hx hb d_318 ?_
  refine q_ti (v := a1) ha1 ?_
  refine va_sld hx hb hX hbl hbA V.2.2.1 hin1 d_319 ?_
  refine q_ti (v := s1) hs1 ?_
  refine lv_aload_n hx hb d_320 rfl (lv_at hl 5 rfl) ?_
  refine lv_iload hx hb d_321 (lv_at hl 1 rfl) ?_
  refine lv_iconst (v := 2) hx hb d_323 (by decide) ?_
  refine lv_iadd hx hb d_324 ?_
  refine q_ti (v := a2) ha2 ?_
  refine va_sld hx hb hX hbl hbA V.2.2.1 hin2 d_325 ?_
  refine q_ti (v := s2) hs2 ?_
  refine lv_aload_n hx hb d_326 rfl (lv_at hl 5 rfl) ?_
  refine lv_iload hx hb d_327 (lv_at hl 1 rfl) ?_
  refine lv_iconst (v := 3) hx hb d_329 (by decide) ?_
  refine lv_iadd hx hb d_330 ?_
  refine q_ti (v := a3) ha3 ?_
  refine va_sld hx hb hX hbl hbA V.2.2.1 hin3 d_331 ?_
  refine q_ti (v := s3) hs3 ?_
  refine lv_i2l hx hb d_332 rfl ?_
  refine lv_bipush (v := 32) hx hb d_333 (by decide) ?_
  refine lv_lshl hx hb d_335 rfl ?_
  refine lv_aload_n hx hb d_336 rfl (lv_at hl 5 rfl) ?_
  refine lv_iload hx hb d_337 (lv_at hl 1 rfl) ?_
  refine lv_iconst (v := 4) hx hb d_339 (by decide) ?_
  refine lv_iadd hx hb d_340 ?_
  refine q_ti (v := a4) ha4 ?_
  refine va_sld hx hb hX hbl hbA V.2.2.1 hin4 d_341 ?_
  refine q_ti (v := s4) hs4 ?_
  refine lv_i2l hx hb d_342 rfl ?_
  refine q_ldc2 C0 rfl w_3232 d_343 ?_
  refine lv_land hx hb d_346 ?_
  refine lv_lor hx hb d_347 ?_
  obtain ⟨rA, rB, rC, hP0, -⟩ := n_o116 hJ
  refine q_gov V (q_runV (As := [.int s1, .int s2, .long (((s3.toInt64) <<< ((32 : Int32).toInt64 &&& 63)) ||| ((s4.toInt64) &&& 4294967295))]) (rest := []) (d := 4) (mc := 0) (ms := 0) (ci := 12) C0 V rfl LV_NL_102 (CM_put l D g q u1 s1 s2 (((s3.toInt64) <<< ((32 : Int32).toInt64 &&& 63)) ||| ((s4.toInt64) &&& 4294967295)) hJ hM _) rfl rfl hP0 rfl hl.1 rfl (Nat.le_of_ble_eq_true rfl) ⟨by decide, by decide⟩ ⟨w_rc (by omega) (by decide), w_rs (by omega) (by decide)⟩ d_348) (fun u3 H locs hp V => ?_)
  obtain ⟨⟨hJ, hM, hF⟩, hth⟩ := hp
  obtain ⟨hI, hC⟩ : q_I (nsh g q) q u3 ∧ iC g q u3 := w_cC hI hC (fun i h => hF i (by omega))
  have hO : u3[169]? = (some (qo, .inl (g 1, 1, .inr (.inl fo))) : Option (Nat × va_E)) := (hF 169 (by decide)).trans hO
  refine lv_aload_n hx hb d_351 rfl (lv_at hl 3 rfl) ?_
  obtain ⟨tA, tB, tC, hP116, hth⟩ := hth
  refine q_goi V (q_runV (As := []) (rest := []) (d := 1) (mc := 0) (ms := 0) (ci := 12) C0 V rfl LV_NL_103 (X_NM_thrown l D g q u3 hJ tA tB tC hP116 _) rfl rfl hP116 rfl hl.1 rfl (Nat.le_of_ble_eq_true rfl) ⟨by decide, by decide⟩ ⟨w_rc (by omega) (by decide), w_rs (by omega) (by decide)⟩ d_352) (fun v9 u9 H locs hp V => ?_)
  obtain ⟨rfl, -, -, hv9⟩ := hp
  refine lv_iload hx hb d_355 (lv_at hl 0 rfl) ?_
  refine lv_icmp_eq (tgt := 362) hx hb d_357 (by decide) (fun c4 => ?_) (fun c4 => absurd (hv9.trans (hth.trans hK.symm)) c4)
  refine lv_goto (tgt := 1279) hx hb d_362 (by decide) ?_
  refine W.widen (k := cells + 10) (n := slots + 100) (by omega) (by omega) ?_
  exact kend _ _ _ _ _ V hI hC hJ hM hO (q_lw hl (q_lw1 1 rfl (q_lw1 2 rfl (q_lw1 3 rfl (q_lw1 4 rfl (q_lw1 5 rfl q_lw0))))))
/-! the law, case 4: told -/
theorem d_365 : decode code 365 = .ok (.aload_n 1, 1) := by decide +kernel
theorem d_366 : decode code 366 = .ok (.aload_n 0, 1) := by decide +kernel
theorem d_367 : decode code 367 = .ok (.iload 4, 2) := by decide +kernel
theorem d_369 : decode code 369 = .ok (.iconst 1, 1) := by decide +kernel
theorem d_370 : decode code 370 = .ok (.iadd, 1) := by decide +kernel
theorem d_371 : decode code 371 = .ok (.iaload, 1) := by decide +kernel
theorem d_372 : decode code 372 = .ok (.aload_n 0, 1) := by decide +kernel
theorem d_373 : decode code 373 = .ok (.iload 4, 2) := by decide +kernel
theorem d_375 : decode code 375 = .ok (.iconst 2, 1) := by decide +kernel
theorem d_376 : decode code 376 = .ok (.iadd, 1) := by decide +kernel
theorem d_377 : decode code 377 = .ok (.iaload, 1) := by decide +kernel
theorem d_378 : decode code 378 = .ok (.aload_n 0, 1) := by decide +kernel
theorem d_379 : decode code 379 = .ok (.iload 4, 2) := by decide +kernel
theorem d_381 : decode code 381 = .ok (.iconst 3, 1) := by decide +kernel
theorem d_382 : decode code 382 = .ok (.iadd, 1) := by decide +kernel
theorem d_383 : decode code 383 = .ok (.iaload, 1) := by decide +kernel
theorem d_384 : decode code 384 = .ok (.aload_n 3, 1) := by decide +kernel
set_option maxRecDepth 100000 in
theorem w_1106 : (Cond.codeWith ({ cls := "NumberHouseLaw", name := "told", desc := "(LNumberHouse;III[J)I" } : MethodName) method_6_code (6 : Nat) (some .int) [((0 : Nat), (11 : Nat), (14 : Nat), (13 : Nat)), ((0 : Nat), (11 : Nat), (18 : Nat), (19 : Nat))]) ∈ q_tbl := q_of5 146 rfl (by decide +kernel)
set_option maxRecDepth 100000 in
theorem w_1104 : (Cond.methodLink "NumberHouseLaw" (106 : Nat) ({ cls := "NumberHouseLaw", name := "told", desc := "(LNumberHouse;III[J)I" } : MethodName)) ∈ q_tbl := q_of5 144 rfl (by decide +kernel)
set_option maxRecDepth 100000 in
theorem w_1105 : (Cond.static ({ cls := "NumberHouseLaw", name := "told", desc := "(LNumberHouse;III[J)I" } : MethodName)) ∈ q_tbl := q_of5 145 rfl (by decide +kernel)
theorem LW_NL_106 : q_LW "NumberHouseLaw" 106 y_NL_told method_6_code 6 (some .int) [(0, 11, 14, 13), (0, 11, 18, 19)] 5 := ⟨w_1106, w_0, w_1104, w_1105, ⟨by decide, by decide, by decide +kernel⟩⟩
theorem d_385 : decode code 385 = .ok (.invokestatic 106, 3) := by decide +kernel
theorem d_388 : decode code 388 = .ok (.istore 5, 2) := by decide +kernel
theorem d_390 : decode code 390 = .ok (.aload_n 2, 1) := by decide +kernel
theorem d_391 : decode code 391 = .ok (.aload_n 0, 1) := by decide +kernel
theorem d_392 : decode code 392 = .ok (.iload 4, 2) := by decide +kernel
theorem d_394 : decode code 394 = .ok (.iconst 1, 1) := by decide +kernel
theorem d_395 : decode code 395 = .ok (.iadd, 1) := by decide +kernel
theorem d_396 : decode code 396 = .ok (.iaload, 1) := by decide +kernel
theorem d_397 : decode code 397 = .ok (.aload_n 0, 1) := by decide +kernel
theorem d_398 : decode code 398 = .ok (.iload 4, 2) := by decide +kernel
theorem d_400 : decode code 400 = .ok (.iconst 2, 1) := by decide +kernel
theorem d_401 : decode code 401 = .ok (.iadd, 1) := by decide +kernel
theorem d_402 : decode code 402 = .ok (.iaload, 1) := by decide +kernel
theorem d_403 : decode code 403 = .ok (.aload_n 0, 1) := by decide +kernel
theorem d_404 : decode code 404 = .ok (.iload 4, 2) := by decide +kernel
theorem d_406 : decode code 406 = .ok (.iconst 3, 1) := by decide +kernel
theorem d_407 : decode code 407 = .ok (.iadd, 1) := by decide +kernel
theorem d_408 : decode code 408 = .ok (.iaload, 1) := by decide +kernel
set_option maxRecDepth 100000 in
theorem w_2550 : (Cond.code ({ cls := "NumberHouseModel", name := "told", desc := "(III)J" } : MethodName) prog_14_method_17_code (6 : Nat) (some .long)) ∈ q_tbl := q_of11 150 rfl (by decide +kernel)
set_option maxRecDepth 100000 in
theorem w_2547 : (Cond.methodLink "NumberHouseLaw" (108 : Nat) ({ cls := "NumberHouseModel", name := "told", desc := "(III)J" } : MethodName)) ∈ q_tbl := q_of11 147 rfl (by decide +kernel)
set_option maxRecDepth 100000 in
theorem w_2548 : (Cond.instanceMethod ({ cls := "NumberHouseModel", name := "told", desc := "(III)J" } : MethodName)) ∈ q_tbl := q_of11 148 rfl (by decide +kernel)
set_option maxRecDepth 100000 in
theorem w_2549 : (Cond.selects "NumberHouseModel" ({ cls := "NumberHouseModel", name := "told", desc := "(III)J" } : MethodName) ({ cls := "NumberHouseModel", name := "told", desc := "(III)J" } : MethodName)) ∈ q_tbl := q_of11 149 rfl (by decide +kernel)
theorem LV_NL_108 : q_LV "NumberHouseLaw" 108 y_NM_told prog_14_method_17_code 6 (some .long) 3 := ⟨w_2550, w_14, w_2547, w_2548, w_2549, ⟨by decide, by decide, by decide +kernel⟩⟩
theorem d_409 : decode code 409 = .ok (.invokevirtual 108, 3) := by decide +kernel
theorem d_412 : decode code 412 = .ok (.lstore 6, 2) := by decide +kernel
theorem d_414 : decode code 414 = .ok (.goto 865, 3) := by decide +kernel
set_option maxRecDepth 100000 in
set_option maxHeartbeats 4000000 in
theorem law_k4 {p : Program} {l : Launch} {e : Env} {s : State} {m : MethodId} {below : List Frame} {meth : Method} {c : Code} {b L : Nat} {xs : Nat → Int32} {D : va_G} {g : Nat → ClassId} {q : Nat → Nat} {qo : Nat} {A : Nat → Prop} {ws : va_W} {H : Heap} {locs : List Loc} {Q : State → Prop} {ls : Array Slot} {fo : Nat → Int64} {i0 : Int32} {cells slots : Nat} (hcb : cells ≤ 6000) (hsb : slots ≤ 300000) (hlt : l.stackTraces = false) (C0 : q_At p s m #[Value.ref b] meth c y_NL_law code 8 (some .boolean)) (hX : va_X b L xs s s.heap) (hbl : b < s.heap.size) (hbA : ¬ A b) (V : q_Wd D g A s ws H locs) (hI : q_I (nsh g q) q ws) (hC : iC g q ws) (hJ : q_I (msh g q) q ws) (hM : iM g q ws) (hO : ws[169]? = (some (qo, .inl (g 1, 1, .inr (.inl fo))) : Option (Nat × va_E))) (hi0 : 0 ≤ i0.toInt ∧ i0.toInt + 6 ≤ (L : Int) ∧ (L : Int) ≤ 3072) (hl : lv_has ls 8 [(4, .int i0), (3, .ref qo), (2, .ref (q 116)), (1, .ref (q 0)), (0, .ref b)]) (kend : ∀ (H : Heap) (locs : List Loc) (u : va_W) (f2 : Nat → Int64) (ls : Array Slot), q_Wd D g A s u H locs → q_I (nsh g q) q u → iC g q u → q_I (msh g q) q u → iM g q u → u[169]? = (some (qo, .inl (g 1, 1, .inr (.inl f2))) : Option (Nat × va_E)) → lv_has ls 8 [(4, .int i0), (3, .ref qo), (2, .ref (q 116)), (1, .ref (q 0)), (0, .ref b)] → W p l e room_1 s m #[Value.ref b] below meth c H locs (cells + 10) (slots + 100) Q (F0 m 1279 ls [])) : W p l e room_1 s m #[Value.ref b] below meth c H locs cells slots Q (F0 m 365 ls []) := by
  have hx := C0.1
  have hb := C0.2.1
  obtain ⟨a1, ha1⟩ : ∃ z : Int32, i0 + 1 = z := ⟨_, rfl⟩
  have hin1 : vp_in a1 L := w_in ha1 (by decide) hi0
  obtain ⟨s1, hs1⟩ : ∃ z : Int32, xs a1.toNatClampNeg = z := ⟨_, rfl⟩
  obtain ⟨a2, ha2⟩ : ∃ z : Int32, i0 + 2 = z := ⟨_, rfl⟩
  have hin2 : vp_in a2 L := w_in ha2 (by decide) hi0
  obtain ⟨s2, hs2⟩ : ∃ z : Int32, xs a2.toNatClampNeg = z := ⟨_, rfl⟩
  obtain ⟨a3, ha3⟩ : ∃ z : Int32, i0 + 3 = z := ⟨_, rfl⟩
  have hin3 : vp_in a3 L := w_in ha3 (by decide) hi0
  obtain ⟨s3, hs3⟩ : ∃ z : Int32, xs a3.toNatClampNeg = z := ⟨_, rfl⟩
  refine lv_aload_n hx hb d_365 rfl (lv_at hl 3 rfl) ?_
  refine lv_aload_n hx hb d_366 rfl (lv_at hl 4 rfl) ?_
  refine lv_iload hx hb d_367 (lv_at hl 0 rfl) ?_
  refine lv_iconst (v := 1) hx hb d_369 (by decide) ?_
  refine lv_iadd hx hb d_370 ?_
  refine q_ti (v := a1) ha1 ?_
  refine va_sld hx hb hX hbl hbA V.2.2.1 hin1 d_371 ?_
  refine q_ti (v := s1) hs1 ?_
  refine lv_aload_n hx hb d_372 rfl (lv_at hl 4 rfl) ?_
  refine lv_iload hx hb d_373 (lv_at hl 0 rfl) ?_
  refine lv_iconst (v := 2) hx hb d_375 (by decide) ?_
  refine lv_iadd hx hb d_376 ?_
  refine q_ti (v := a2) ha2 ?_
  refine va_sld hx hb hX hbl hbA V.2.2.1 hin2 d_377 ?_
  refine q_ti (v := s2) hs2 ?_
  refine lv_aload_n hx hb d_378 rfl (lv_at hl 4 rfl) ?_
  refine lv_iload hx hb d_379 (lv_at hl 0 rfl) ?_
  refine lv_iconst (v := 3) hx hb d_381 (by decide) ?_
  refine lv_iadd hx hb d_382 ?_
  refine q_ti (v := a3) ha3 ?_
  refine va_sld hx hb hX hbl hbA V.2.2.1 hin3 d_383 ?_
  refine q_ti (v := s3) hs3 ?_
  refine lv_aload_n hx hb d_384 rfl (lv_at hl 1 rfl) ?_
  refine q_goi V (q_runSW (As := [.ref (q 0), .int s1, .int s2, .int s3, .ref qo]) (rest := []) (d := 10) (mc := 4) (ms := 24) C0 V rfl LW_NL_106 (w_NL_told l D g q ws qo fo s1 s2 s3 hlt hI hC hO _) rfl hl.1 rfl (Nat.le_of_ble_eq_true rfl) ⟨by decide, by decide⟩ ⟨w_rc (by omega) (by decide), w_rs (by omega) (by decide)⟩ d_385) (fun k1 u1 H locs hp V => ?_)
  obtain ⟨hI, hC, ⟨fo, hO⟩, hF⟩ := hp
  obtain ⟨hJ, hM⟩ : q_I (msh g q) q u1 ∧ iM g q u1 := w_cM hJ hM hI hF
  refine lv_istore (lv' := [(5, .int k1), (4, .int i0), (3, .ref qo), (2, .ref (q 116)), (1, .ref (q 0)), (0, .ref b)]) hx hb d_388 hl (by decide) rfl (fun ls hl => ?_)
  refine lv_aload_n hx hb d_390 rfl (lv_at hl 3 rfl) ?_
  refine lv_aload_n hx hb d_391 rfl (lv_at hl 5 rfl) ?_
  refine lv_iload hx hb d_392 (lv_at hl 1 rfl) ?_
  refine lv_iconst (v := 1) hx hb d_394 (by decide) ?_
  refine lv_iadd hx hb d_395 ?_
  refine q_ti (v := a1) ha1 ?_
  refine va_sld hx hb hX hbl hbA V.2.2.1 hin1 d_396 ?_
  refine q_ti (v := s1) hs1 ?_
  refine lv_aload_n hx hb d_397 rfl (lv_at hl 5 rfl) ?_
  refine lv_iload hx hb d_398 (lv_at hl 1 rfl) ?_
  refine lv_iconst (v := 2) hx hb d_400 (by decide) ?_
  refine lv_iadd hx hb d_401 ?_
  refine q_ti (v := a2) ha2 ?_
  refine va_sld hx hb hX hbl hbA V.2.2.1 hin2 d_402 ?_
  refine q_ti (v := s2) hs2 ?_
  refine lv_aload_n hx hb d_403 rfl (lv_at hl 5 rfl) ?_
  refine lv_iload hx hb d_404 (lv_at hl 1 rfl) ?_
  refine lv_iconst (v := 3) hx hb d_406 (by decide) ?_
  refine lv_iadd hx hb d_407 ?_
  refine q_ti (v := a3) ha3 ?_
  refine va_sld hx hb hX hbl hbA V.2.2.1 hin3 d_408 ?_
  refine q_ti (v := s3) hs3 ?_
  obtain ⟨rA, rB, rC, hP0, -⟩ := n_o116 hJ
  refine q_gol V (q_runV (As := [.int s1, .int s2, .int s3]) (rest := []) (d := 6) (mc := 0) (ms := 0) (ci := 12) C0 V rfl LV_NL_108 (CM_told l D g q u1 s1 s2 s3 hJ hM _) rfl rfl hP0 rfl hl.1 rfl (Nat.le_of_ble_eq_true rfl) ⟨by decide, by decide⟩ ⟨w_rc (by omega) (by decide), w_rs (by omega) (by decide)⟩ d_409) (fun r2 u3 H locs hp V => ?_)
  obtain ⟨hJ, hM, hF⟩ := hp
  obtain ⟨hI, hC⟩ : q_I (nsh g q) q u3 ∧ iC g q u3 := w_cC hI hC (fun i h => hF i (by omega))
  have hO : u3[169]? = (some (qo, .inl (g 1, 1, .inr (.inl fo))) : Option (Nat × va_E)) := (hF 169 (by decide)).trans hO
  refine lv_lstore (lv' := [(6, .long r2), (5, .int k1), (4, .int i0), (3, .ref qo), (2, .ref (q 116)), (1, .ref (q 0)), (0, .ref b)]) hx hb d_412 hl (by decide) rfl (fun ls hl => ?_)
  refine lv_goto (tgt := 1279) hx hb d_414 (by decide) ?_
  refine W.widen (k := cells + 10) (n := slots + 100) (by omega) (by omega) ?_
  exact kend _ _ _ _ _ V hI hC hJ hM hO (q_lw hl (q_lw1 2 rfl (q_lw1 3 rfl (q_lw1 4 rfl (q_lw1 5 rfl (q_lw1 6 rfl q_lw0))))))
/-! the law, case 5: compare -/
theorem d_417 : decode code 417 = .ok (.aload_n 1, 1) := by decide +kernel
theorem d_418 : decode code 418 = .ok (.aload_n 0, 1) := by decide +kernel
theorem d_419 : decode code 419 = .ok (.iload 4, 2) := by decide +kernel
theorem d_421 : decode code 421 = .ok (.iconst 1, 1) := by decide +kernel
theorem d_422 : decode code 422 = .ok (.iadd, 1) := by decide +kernel
theorem d_423 : decode code 423 = .ok (.iaload, 1) := by decide +kernel
theorem d_424 : decode code 424 = .ok (.aload_n 0, 1) := by decide +kernel
theorem d_425 : decode code 425 = .ok (.iload 4, 2) := by decide +kernel
theorem d_427 : decode code 427 = .ok (.iconst 2, 1) := by decide +kernel
theorem d_428 : decode code 428 = .ok (.iadd, 1) := by decide +kernel
theorem d_429 : decode code 429 = .ok (.iaload, 1) := by decide +kernel
theorem d_430 : decode code 430 = .ok (.aload_n 0, 1) := by decide +kernel
theorem d_431 : decode code 431 = .ok (.iload 4, 2) := by decide +kernel
theorem d_433 : decode code 433 = .ok (.iconst 3, 1) := by decide +kernel
theorem d_434 : decode code 434 = .ok (.iadd, 1) := by decide +kernel
theorem d_435 : decode code 435 = .ok (.iaload, 1) := by decide +kernel
theorem d_436 : decode code 436 = .ok (.aload_n 3, 1) := by decide +kernel
set_option maxRecDepth 100000 in
theorem w_1213 : (Cond.codeWith ({ cls := "NumberHouseLaw", name := "compare", desc := "(LNumberHouse;III[J)I" } : MethodName) method_7_code (6 : Nat) (some .int) [((0 : Nat), (12 : Nat), (15 : Nat), (13 : Nat)), ((0 : Nat), (12 : Nat), (19 : Nat), (19 : Nat))]) ∈ q_tbl := q_of6 13 rfl (by decide +kernel)
set_option maxRecDepth 100000 in
theorem w_1211 : (Cond.methodLink "NumberHouseLaw" (109 : Nat) ({ cls := "NumberHouseLaw", name := "compare", desc := "(LNumberHouse;III[J)I" } : MethodName)) ∈ q_tbl := q_of6 11 rfl (by decide +kernel)
set_option maxRecDepth 100000 in
theorem w_1212 : (Cond.static ({ cls := "NumberHouseLaw", name := "compare", desc := "(LNumberHouse;III[J)I" } : MethodName)) ∈ q_tbl := q_of6 12 rfl (by decide +kernel)
theorem LW_NL_109 : q_LW "NumberHouseLaw" 109 y_NL_compare method_7_code 6 (some .int) [(0, 12, 15, 13), (0, 12, 19, 19)] 5 := ⟨w_1213, w_0, w_1211, w_1212, ⟨by decide, by decide, by decide +kernel⟩⟩
theorem d_437 : decode code 437 = .ok (.invokestatic 109, 3) := by decide +kernel
theorem d_440 : decode code 440 = .ok (.istore 5, 2) := by decide +kernel
theorem d_442 : decode code 442 = .ok (.aload_n 2, 1) := by decide +kernel
theorem d_443 : decode code 443 = .ok (.aload_n 0, 1) := by decide +kernel
theorem d_444 : decode code 444 = .ok (.iload 4, 2) := by decide +kernel
theorem d_446 : decode code 446 = .ok (.iconst 1, 1) := by decide +kernel
theorem d_447 : decode code 447 = .ok (.iadd, 1) := by decide +kernel
theorem d_448 : decode code 448 = .ok (.iaload, 1) := by decide +kernel
theorem d_449 : decode code 449 = .ok (.aload_n 0, 1) := by decide +kernel
theorem d_450 : decode code 450 = .ok (.iload 4, 2) := by decide +kernel
theorem d_452 : decode code 452 = .ok (.iconst 2, 1) := by decide +kernel
theorem d_453 : decode code 453 = .ok (.iadd, 1) := by decide +kernel
theorem d_454 : decode code 454 = .ok (.iaload, 1) := by decide +kernel
theorem d_455 : decode code 455 = .ok (.aload_n 0, 1) := by decide +kernel
theorem d_456 : decode code 456 = .ok (.iload 4, 2) := by decide +kernel
theorem d_458 : decode code 458 = .ok (.iconst 3, 1) := by decide +kernel
theorem d_459 : decode code 459 = .ok (.iadd, 1) := by decide +kernel
theorem d_460 : decode code 460 = .ok (.iaload, 1) := by decide +kernel
set_option maxRecDepth 100000 in
theorem w_2647 : (Cond.code ({ cls := "NumberHouseModel", name := "compare", desc := "(III)I" } : MethodName) prog_14_method_19_code (12 : Nat) (some .int)) ∈ q_tbl := q_of12 7 rfl (by decide +kernel)
set_option maxRecDepth 100000 in
theorem w_2644 : (Cond.methodLink "NumberHouseLaw" (111 : Nat) ({ cls := "NumberHouseModel", name := "compare", desc := "(III)I" } : MethodName)) ∈ q_tbl := q_of12 4 rfl (by decide +kernel)
set_option maxRecDepth 100000 in
theorem w_2645 : (Cond.instanceMethod ({ cls := "NumberHouseModel", name := "compare", desc := "(III)I" } : MethodName)) ∈ q_tbl := q_of12 5 rfl (by decide +kernel)
set_option maxRecDepth 100000 in
theorem w_2646 : (Cond.selects "NumberHouseModel" ({ cls := "NumberHouseModel", name := "compare", desc := "(III)I" } : MethodName) ({ cls := "NumberHouseModel", name := "compare", desc := "(III)I" } : MethodName)) ∈ q_tbl := q_of12 6 rfl (by decide +kernel)
theorem LV_NL_111 : q_LV "NumberHouseLaw" 111 y_NM_compare prog_14_method_19_code 12 (some .int) 3 := ⟨w_2647, w_14, w_2644, w_2645, w_2646, ⟨by decide, by decide, by decide +kernel⟩⟩
theorem d_461 : decode code 461 = .ok (.invokevirtual 111, 3) := by decide +kernel
theorem d_464 : decode code 464 = .ok (.istore 6, 2) := by decide +kernel
theorem d_466 : decode code 466 = .ok (.goto 813, 3) := by decide +kernel
set_option maxRecDepth 100000 in
set_option maxHeartbeats 4000000 in
theorem law_k5 {p : Program} {l : Launch} {e : Env} {s : State} {m : MethodId} {below : List Frame} {meth : Method} {c : Code} {b L : Nat} {xs : Nat → Int32} {D : va_G} {g : Nat → ClassId} {q : Nat → Nat} {qo : Nat} {A : Nat → Prop} {ws : va_W} {H : Heap} {locs : List Loc} {Q : State → Prop} {ls : Array Slot} {fo : Nat → Int64} {i0 : Int32} {cells slots : Nat} (hcb : cells ≤ 6000) (hsb : slots ≤ 300000) (hlt : l.stackTraces = false) (C0 : q_At p s m #[Value.ref b] meth c y_NL_law code 8 (some .boolean)) (hX : va_X b L xs s s.heap) (hbl : b < s.heap.size) (hbA : ¬ A b) (V : q_Wd D g A s ws H locs) (hI : q_I (nsh g q) q ws) (hC : iC g q ws) (hJ : q_I (msh g q) q ws) (hM : iM g q ws) (hO : ws[169]? = (some (qo, .inl (g 1, 1, .inr (.inl fo))) : Option (Nat × va_E))) (hi0 : 0 ≤ i0.toInt ∧ i0.toInt + 6 ≤ (L : Int) ∧ (L : Int) ≤ 3072) (hl : lv_has ls 8 [(4, .int i0), (3, .ref qo), (2, .ref (q 116)), (1, .ref (q 0)), (0, .ref b)]) (kend : ∀ (H : Heap) (locs : List Loc) (u : va_W) (f2 : Nat → Int64) (ls : Array Slot), q_Wd D g A s u H locs → q_I (nsh g q) q u → iC g q u → q_I (msh g q) q u → iM g q u → u[169]? = (some (qo, .inl (g 1, 1, .inr (.inl f2))) : Option (Nat × va_E)) → lv_has ls 8 [(4, .int i0), (3, .ref qo), (2, .ref (q 116)), (1, .ref (q 0)), (0, .ref b)] → W p l e room_1 s m #[Value.ref b] below meth c H locs (cells + 10) (slots + 100) Q (F0 m 1279 ls [])) : W p l e room_1 s m #[Value.ref b] below meth c H locs cells slots Q (F0 m 417 ls []) := by
  have hx := C0.1
  have hb := C0.2.1
  obtain ⟨a1, ha1⟩ : ∃ z : Int32, i0 + 1 = z := ⟨_, rfl⟩
  have hin1 : vp_in a1 L := w_in ha1 (by decide) hi0
  obtain ⟨s1, hs1⟩ : ∃ z : Int32, xs a1.toNatClampNeg = z := ⟨_, rfl⟩
  obtain ⟨a2, ha2⟩ : ∃ z : Int32, i0 + 2 = z := ⟨_, rfl⟩
  have hin2 : vp_in a2 L := w_in ha2 (by decide) hi0
  obtain ⟨s2, hs2⟩ : ∃ z : Int32, xs a2.toNatClampNeg = z := ⟨_, rfl⟩
  obtain ⟨a3, ha3⟩ : ∃ z : Int32, i0 + 3 = z := ⟨_, rfl⟩
  have hin3 : vp_in a3 L := w_in ha3 (by decide) hi0
  obtain ⟨s3, hs3⟩ : ∃ z : Int32, xs a3.toNatClampNeg = z := ⟨_, rfl⟩
  refine lv_aload_n hx hb d_417 rfl (lv_at hl 3 rfl) ?_
  refine lv_aload_n hx hb d_418 rfl (lv_at hl 4 rfl) ?_
  refine lv_iload hx hb d_419 (lv_at hl 0 rfl) ?_
  refine lv_iconst (v := 1) hx hb d_421 (by decide) ?_
  refine lv_iadd hx hb d_422 ?_
  refine q_ti (v := a1) ha1 ?_
  refine va_sld hx hb hX hbl hbA V.2.2.1 hin1 d_423 ?_
  refine q_ti (v := s1) hs1 ?_
  refine lv_aload_n hx hb d_424 rfl (lv_at hl 4 rfl) ?_
  refine lv_iload hx hb d_425 (lv_at hl 0 rfl) ?_
  refine lv_iconst (v := 2) hx hb d_427 (by decide) ?_
  refine lv_iadd hx hb d_428 ?_
  refine q_ti (v := a2) ha2 ?_
  refine va_sld hx hb hX hbl hbA V.2.2.1 hin2 d_429 ?_
  refine q_ti (v := s2) hs2 ?_
  refine lv_aload_n hx hb d_430 rfl (lv_at hl 4 rfl) ?_
  refine lv_iload hx hb d_431 (lv_at hl 0 rfl) ?_
  refine lv_iconst (v := 3) hx hb d_433 (by decide) ?_
  refine lv_iadd hx hb d_434 ?_
  refine q_ti (v := a3) ha3 ?_
  refine va_sld hx hb hX hbl hbA V.2.2.1 hin3 d_435 ?_
  refine q_ti (v := s3) hs3 ?_
  refine lv_aload_n hx hb d_436 rfl (lv_at hl 1 rfl) ?_
  refine q_goi V (q_runSW (As := [.ref (q 0), .int s1, .int s2, .int s3, .ref qo]) (rest := []) (d := 10) (mc := 3) (ms := 18) C0 V rfl LW_NL_109 (w_NL_compare l D g q ws qo fo s1 s2 s3 hlt hI hC hO _) rfl hl.1 rfl (Nat.le_of_ble_eq_true rfl) ⟨by decide, by decide⟩ ⟨w_rc (by omega) (by decide), w_rs (by omega) (by decide)⟩ d_437) (fun k1 u1 H locs hp V => ?_)
  obtain ⟨hI, hC, ⟨fo, hO⟩, hF⟩ := hp
  obtain ⟨hJ, hM⟩ : q_I (msh g q) q u1 ∧ iM g q u1 := w_cM hJ hM hI hF
  refine lv_istore (lv' := [(5, .int k1), (4, .int i0), (3, .ref qo), (2, .ref (q 116)), (1, .ref (q 0)), (0, .ref b)]) hx hb d_440 hl (by decide) rfl (fun ls hl => ?_)
  refine lv_aload_n hx hb d_442 rfl (lv_at hl 3 rfl) ?_
  refine lv_aload_n hx hb d_443 rfl (lv_at hl 5 rfl) ?_
  refine lv_iload hx hb d_444 (lv_at hl 1 rfl) ?_
  refine lv_iconst (v := 1) hx hb d_446 (by decide) ?_
  refine lv_iadd hx hb d_447 ?_
  refine q_ti (v := a1) ha1 ?_
  refine va_sld hx hb hX hbl hbA V.2.2.1 hin1 d_448 ?_
  refine q_ti (v := s1) hs1 ?_
  refine lv_aload_n hx hb d_449 rfl (lv_at hl 5 rfl) ?_
  refine lv_iload hx hb d_450 (lv_at hl 1 rfl) ?_
  refine lv_iconst (v := 2) hx hb d_452 (by decide) ?_
  refine lv_iadd hx hb d_453 ?_
  refine q_ti (v := a2) ha2 ?_
  refine va_sld hx hb hX hbl hbA V.2.2.1 hin2 d_454 ?_
  refine q_ti (v := s2) hs2 ?_
  refine lv_aload_n hx hb d_455 rfl (lv_at hl 5 rfl) ?_
  refine lv_iload hx hb d_456 (lv_at hl 1 rfl) ?_
  refine lv_iconst (v := 3) hx hb d_458 (by decide) ?_
  refine lv_iadd hx hb d_459 ?_
  refine q_ti (v := a3) ha3 ?_
  refine va_sld hx hb hX hbl hbA V.2.2.1 hin3 d_460 ?_
  refine q_ti (v := s3) hs3 ?_
  obtain ⟨rA, rB, rC, hP0, -⟩ := n_o116 hJ
  refine q_goi V (q_runV (As := [.int s1, .int s2, .int s3]) (rest := []) (d := 3) (mc := 0) (ms := 0) (ci := 12) C0 V rfl LV_NL_111 (CM_compare l D g q u1 s1 s2 s3 hJ hM _) rfl rfl hP0 rfl hl.1 rfl (Nat.le_of_ble_eq_true rfl) ⟨by decide, by decide⟩ ⟨w_rc (by omega) (by decide), w_rs (by omega) (by decide)⟩ d_461) (fun r2 u3 H locs hp V => ?_)
  obtain ⟨hJ, hM, hF⟩ := hp
  obtain ⟨hI, hC⟩ : q_I (nsh g q) q u3 ∧ iC g q u3 := w_cC hI hC (fun i h => hF i (by omega))
  have hO : u3[169]? = (some (qo, .inl (g 1, 1, .inr (.inl fo))) : Option (Nat × va_E)) := (hF 169 (by decide)).trans hO
  refine lv_istore (lv' := [(6, .int r2), (5, .int k1), (4, .int i0), (3, .ref qo), (2, .ref (q 116)), (1, .ref (q 0)), (0, .ref b)]) hx hb d_464 hl (by decide) rfl (fun ls hl => ?_)
  refine lv_goto (tgt := 1279) hx hb d_466 (by decide) ?_
  refine W.widen (k := cells + 10) (n := slots + 100) (by omega) (by omega) ?_
  exact kend _ _ _ _ _ V hI hC hJ hM hO (q_lw hl (q_lw1 2 rfl (q_lw1 3 rfl (q_lw1 4 rfl (q_lw1 5 rfl (q_lw1 6 rfl q_lw0))))))
/-! the law, case 6: whole -/
theorem d_469 : decode code 469 = .ok (.aload_n 1, 1) := by decide +kernel
theorem d_470 : decode code 470 = .ok (.aload_n 0, 1) := by decide +kernel
theorem d_471 : decode code 471 = .ok (.iload 4, 2) := by decide +kernel
theorem d_473 : decode code 473 = .ok (.iconst 1, 1) := by decide +kernel
theorem d_474 : decode code 474 = .ok (.iadd, 1) := by decide +kernel
theorem d_475 : decode code 475 = .ok (.iaload, 1) := by decide +kernel
theorem d_476 : decode code 476 = .ok (.aload_n 0, 1) := by decide +kernel
theorem d_477 : decode code 477 = .ok (.iload 4, 2) := by decide +kernel
theorem d_479 : decode code 479 = .ok (.iconst 2, 1) := by decide +kernel
theorem d_480 : decode code 480 = .ok (.iadd, 1) := by decide +kernel
theorem d_481 : decode code 481 = .ok (.iaload, 1) := by decide +kernel
theorem d_482 : decode code 482 = .ok (.aload_n 0, 1) := by decide +kernel
theorem d_483 : decode code 483 = .ok (.iload 4, 2) := by decide +kernel
theorem d_485 : decode code 485 = .ok (.iconst 3, 1) := by decide +kernel
theorem d_486 : decode code 486 = .ok (.iadd, 1) := by decide +kernel
theorem d_487 : decode code 487 = .ok (.iaload, 1) := by decide +kernel
theorem d_488 : decode code 488 = .ok (.aload_n 0, 1) := by decide +kernel
theorem d_489 : decode code 489 = .ok (.iload 4, 2) := by decide +kernel
theorem d_491 : decode code 491 = .ok (.iconst 4, 1) := by decide +kernel
theorem d_492 : decode code 492 = .ok (.iadd, 1) := by decide +kernel
theorem d_493 : decode code 493 = .ok (.iaload, 1) := by decide +kernel
set_option maxRecDepth 100000 in
theorem w_1250 : (Cond.codeWith ({ cls := "NumberHouseLaw", name := "whole", desc := "(LNumberHouse;IIII)I" } : MethodName) method_8_code (6 : Nat) (some .int) [((0 : Nat), (9 : Nat), (12 : Nat), (13 : Nat)), ((0 : Nat), (9 : Nat), (16 : Nat), (19 : Nat))]) ∈ q_tbl := q_of6 50 rfl (by decide +kernel)
set_option maxRecDepth 100000 in
theorem w_1248 : (Cond.methodLink "NumberHouseLaw" (112 : Nat) ({ cls := "NumberHouseLaw", name := "whole", desc := "(LNumberHouse;IIII)I" } : MethodName)) ∈ q_tbl := q_of6 48 rfl (by decide +kernel)
set_option maxRecDepth 100000 in
theorem w_1249 : (Cond.static ({ cls := "NumberHouseLaw", name := "whole", desc := "(LNumberHouse;IIII)I" } : MethodName)) ∈ q_tbl := q_of6 49 rfl (by decide +kernel)
theorem LW_NL_112 : q_LW "NumberHouseLaw" 112 y_NL_whole method_8_code 6 (some .int) [(0, 9, 12, 13), (0, 9, 16, 19)] 5 := ⟨w_1250, w_0, w_1248, w_1249, ⟨by decide, by decide, by decide +kernel⟩⟩
theorem d_494 : decode code 494 = .ok (.invokestatic 112, 3) := by decide +kernel
theorem d_497 : decode code 497 = .ok (.istore 5, 2) := by decide +kernel
theorem d_499 : decode code 499 = .ok (.aload_n 2, 1) := by decide +kernel
theorem d_500 : decode code 500 = .ok (.aload_n 0, 1) := by decide +kernel
theorem d_501 : decode code 501 = .ok (.iload 4, 2) := by decide +kernel
theorem d_503 : decode code 503 = .ok (.iconst 1, 1) := by decide +kernel
theorem d_504 : decode code 504 = .ok (.iadd, 1) := by decide +kernel
theorem d_505 : decode code 505 = .ok (.iaload, 1) := by decide +kernel
theorem d_506 : decode code 506 = .ok (.aload_n 0, 1) := by decide +kernel
theorem d_507 : decode code 507 = .ok (.iload 4, 2) := by decide +kernel
theorem d_509 : decode code 509 = .ok (.iconst 2, 1) := by decide +kernel
theorem d_510 : decode code 510 = .ok (.iadd, 1) := by decide +kernel
theorem d_511 : decode code 511 = .ok (.iaload, 1) := by decide +kernel
theorem d_512 : decode code 512 = .ok (.aload_n 0, 1) := by decide +kernel
theorem d_513 : decode code 513 = .ok (.iload 4, 2) := by decide +kernel
theorem d_515 : decode code 515 = .ok (.iconst 3, 1) := by decide +kernel
theorem d_516 : decode code 516 = .ok (.iadd, 1) := by decide +kernel
theorem d_517 : decode code 517 = .ok (.iaload, 1) := by decide +kernel
theorem d_518 : decode code 518 = .ok (.aload_n 0, 1) := by decide +kernel
theorem d_519 : decode code 519 = .ok (.iload 4, 2) := by decide +kernel
theorem d_521 : decode code 521 = .ok (.iconst 4, 1) := by decide +kernel
theorem d_522 : decode code 522 = .ok (.iadd, 1) := by decide +kernel
theorem d_523 : decode code 523 = .ok (.iaload, 1) := by decide +kernel
set_option maxRecDepth 100000 in
theorem w_2681 : (Cond.code ({ cls := "NumberHouseModel", name := "whole", desc := "(IIII)V" } : MethodName) prog_14_method_20_code (5 : Nat) (none : Option ClassFile.FieldType)) ∈ q_tbl := q_of12 41 rfl (by decide +kernel)
set_option maxRecDepth 100000 in
theorem w_2678 : (Cond.methodLink "NumberHouseLaw" (115 : Nat) ({ cls := "NumberHouseModel", name := "whole", desc := "(IIII)V" } : MethodName)) ∈ q_tbl := q_of12 38 rfl (by decide +kernel)
set_option maxRecDepth 100000 in
theorem w_2679 : (Cond.instanceMethod ({ cls := "NumberHouseModel", name := "whole", desc := "(IIII)V" } : MethodName)) ∈ q_tbl := q_of12 39 rfl (by decide +kernel)
set_option maxRecDepth 100000 in
theorem w_2680 : (Cond.selects "NumberHouseModel" ({ cls := "NumberHouseModel", name := "whole", desc := "(IIII)V" } : MethodName) ({ cls := "NumberHouseModel", name := "whole", desc := "(IIII)V" } : MethodName)) ∈ q_tbl := q_of12 40 rfl (by decide +kernel)
theorem LV_NL_115 : q_LV "NumberHouseLaw" 115 y_NM_whole prog_14_method_20_code 5 none 4 := ⟨w_2681, w_14, w_2678, w_2679, w_2680, ⟨by decide, by decide, by decide +kernel⟩⟩
theorem d_524 : decode code 524 = .ok (.invokevirtual 115, 3) := by decide +kernel
theorem d_527 : decode code 527 = .ok (.goto 752, 3) := by decide +kernel
set_option maxRecDepth 100000 in
set_option maxHeartbeats 4000000 in
theorem law_k6 {p : Program} {l : Launch} {e : Env} {s : State} {m : MethodId} {below : List Frame} {meth : Method} {c : Code} {b L : Nat} {xs : Nat → Int32} {D : va_G} {g : Nat → ClassId} {q : Nat → Nat} {qo : Nat} {A : Nat → Prop} {ws : va_W} {H : Heap} {locs : List Loc} {Q : State → Prop} {ls : Array Slot} {fo : Nat → Int64} {i0 : Int32} {cells slots : Nat} (hcb : cells ≤ 6000) (hsb : slots ≤ 300000) (hlt : l.stackTraces = false) (C0 : q_At p s m #[Value.ref b] meth c y_NL_law code 8 (some .boolean)) (hX : va_X b L xs s s.heap) (hbl : b < s.heap.size) (hbA : ¬ A b) (V : q_Wd D g A s ws H locs) (hI : q_I (nsh g q) q ws) (hC : iC g q ws) (hJ : q_I (msh g q) q ws) (hM : iM g q ws) (hO : ws[169]? = (some (qo, .inl (g 1, 1, .inr (.inl fo))) : Option (Nat × va_E))) (hi0 : 0 ≤ i0.toInt ∧ i0.toInt + 6 ≤ (L : Int) ∧ (L : Int) ≤ 3072) (hl : lv_has ls 8 [(4, .int i0), (3, .ref qo), (2, .ref (q 116)), (1, .ref (q 0)), (0, .ref b)]) (kend : ∀ (H : Heap) (locs : List Loc) (u : va_W) (f2 : Nat → Int64) (ls : Array Slot), q_Wd D g A s u H locs → q_I (nsh g q) q u → iC g q u → q_I (msh g q) q u → iM g q u → u[169]? = (some (qo, .inl (g 1, 1, .inr (.inl f2))) : Option (Nat × va_E)) → lv_has ls 8 [(4, .int i0), (3, .ref qo), (2, .ref (q 116)), (1, .ref (q 0)), (0, .ref b)] → W p l e room_1 s m #[Value.ref b] below meth c H locs (cells + 10) (slots + 100) Q (F0 m 1279 ls [])) : W p l e room_1 s m #[Value.ref b] below meth c H locs cells slots Q (F0 m 469 ls []) := by
  have hx := C0.1
  have hb := C0.2.1
  obtain ⟨a1, ha1⟩ : ∃ z : Int32, i0 + 1 = z := ⟨_, rfl⟩
  have hin1 : vp_in a1 L := w_in ha1 (by decide) hi0
  obtain ⟨s1, hs1⟩ : ∃ z : Int32, xs a1.toNatClampNeg = z := ⟨_, rfl⟩
  obtain ⟨a2, ha2⟩ : ∃ z : Int32, i0 + 2 = z := ⟨_, rfl⟩
  have hin2 : vp_in a2 L := w_in ha2 (by decide) hi0
  obtain ⟨s2, hs2⟩ : ∃ z : Int32, xs a2.toNatClampNeg = z := ⟨_, rfl⟩
  obtain ⟨a3, ha3⟩ : ∃ z : Int32, i0 + 3 = z := ⟨_, rfl⟩
  have hin3 : vp_in a3 L := w_in ha3 (by decide) hi0
  obtain ⟨s3, hs3⟩ : ∃ z : Int32, xs a3.toNatClampNeg = z := ⟨_, rfl⟩
  obtain ⟨a4, ha4⟩ : ∃ z : Int32, i0 + 4 = z := ⟨_, rfl⟩
  have hin4 : vp_in a4 L := w_in ha4 (by decide) hi0
  obtain ⟨s4, hs4⟩ : ∃ z : Int32, xs a4.toNatClampNeg = z := ⟨_, rfl⟩
  refine lv_aload_n hx hb d_469 rfl (lv_at hl 3 rfl) ?_
  refine lv_aload_n hx hb d_470 rfl (lv_at hl 4 rfl) ?_
  refine lv_iload hx hb d_471 (lv_at hl 0 rfl) ?_
  refine lv_iconst (v := 1) hx hb d_473 (by decide) ?_
  refine lv_iadd hx hb d_474 ?_
  refine q_ti (v := a1) ha1 ?_
  refine va_sld hx hb hX hbl hbA V.2.2.1 hin1 d_475 ?_
  refine q_ti (v := s1) hs1 ?_
  refine lv_aload_n hx hb d_476 rfl (lv_at hl 4 rfl) ?_
  refine lv_iload hx hb d_477 (lv_at hl 0 rfl) ?_
  refine lv_iconst (v := 2) hx hb d_479 (by decide) ?_
  refine lv_iadd hx hb d_480 ?_
  refine q_ti (v := a2) ha2 ?_
  refine va_sld hx hb hX hbl hbA V.2.2.1 hin2 d_481 ?_
  refine q_ti (v := s2) hs2 ?_
  refine lv_aload_n hx hb d_482 rfl (lv_at hl 4 rfl) ?_
  refine lv_iload hx hb d_483 (lv_at hl 0 rfl) ?_
  refine lv_iconst (v := 3) hx hb d_485 (by decide) ?_
  refine lv_iadd hx hb d_486 ?_
  refine q_ti (v := a3) ha3 ?_
  refine va_sld hx hb hX hbl hbA V.2.2.1 hin3 d_487 ?_
  refine q_ti (v := s3) hs3 ?_
  refine lv_aload_n hx hb d_488 rfl (lv_at hl 4 rfl) ?_
  refine lv_iload hx hb d_489 (lv_at hl 0 rfl) ?_
  refine lv_iconst (v := 4) hx hb d_491 (by decide) ?_
  refine lv_iadd hx hb d_492 ?_
  refine q_ti (v := a4) ha4 ?_
  refine va_sld hx hb hX hbl hbA V.2.2.1 hin4 d_493 ?_
  refine q_ti (v := s4) hs4 ?_
  refine q_goi V (q_runSW (As := [.ref (q 0), .int s1, .int s2, .int s3, .int s4]) (rest := []) (d := 10) (mc := 4) (ms := 24) C0 V rfl LW_NL_112 (w_NL_whole l D g q ws s1 s2 s3 s4 hlt hI hC _) rfl hl.1 rfl (Nat.le_of_ble_eq_true rfl) ⟨by decide, by decide⟩ ⟨w_rc (by omega) (by decide), w_rs (by omega) (by decide)⟩ d_494) (fun k1 u1 H locs hp V => ?_)
  obtain ⟨hI, hC, hF⟩ := hp
  obtain ⟨hJ, hM⟩ : q_I (msh g q) q u1 ∧ iM g q u1 := w_cM hJ hM hI (fun i h _ => hF i h)
  have hO : u1[169]? = (some (qo, .inl (g 1, 1, .inr (.inl fo))) : Option (Nat × va_E)) := (hF 169 (Nat.le_of_ble_eq_true rfl)).trans hO
  refine lv_istore (lv' := [(5, .int k1), (4, .int i0), (3, .ref qo), (2, .ref (q 116)), (1, .ref (q 0)), (0, .ref b)]) hx hb d_497 hl (by decide) rfl (fun ls hl => ?_)
  refine lv_aload_n hx hb d_499 rfl (lv_at hl 3 rfl) ?_
  refine lv_aload_n hx hb d_500 rfl (lv_at hl 5 rfl) ?_
  refine lv_iload hx hb d_501 (lv_at hl 1 rfl) ?_
  refine lv_iconst (v := 1) hx hb d_503 (by decide) ?_
  refine lv_iadd hx hb d_504 ?_
  refine q_ti (v := a1) ha1 ?_
  refine va_sld hx hb hX hbl hbA V.2.2.1 hin1 d_505 ?_
  refine q_ti (v := s1) hs1 ?_
  refine lv_aload_n hx hb d_506 rfl (lv_at hl 5 rfl) ?_
  refine lv_iload hx hb d_507 (lv_at hl 1 rfl) ?_
  refine lv_iconst (v := 2) hx hb d_509 (by decide) ?_
  refine lv_iadd hx hb d_510 ?_
  refine q_ti (v := a2) ha2 ?_
  refine va_sld hx hb hX hbl hbA V.2.2.1 hin2 d_511 ?_
  refine q_ti (v := s2) hs2 ?_
  refine lv_aload_n hx hb d_512 rfl (lv_at hl 5 rfl) ?_
  refine lv_iload hx hb d_513 (lv_at hl 1 rfl) ?_
  refine lv_iconst (v := 3) hx hb d_515 (by decide) ?_
  refine lv_iadd hx hb d_516 ?_
  refine q_ti (v := a3) ha3 ?_
  refine va_sld hx hb hX hbl hbA V.2.2.1 hin3 d_517 ?_
  refine q_ti (v := s3) hs3 ?_
  refine lv_aload_n hx hb d_518 rfl (lv_at hl 5 rfl) ?_
  refine lv_iload hx hb d_519 (lv_at hl 1 rfl) ?_
  refine lv_iconst (v := 4) hx hb d_521 (by decide) ?_
  refine lv_iadd hx hb d_522 ?_
  refine q_ti (v := a4) ha4 ?_
  refine va_sld hx hb hX hbl hbA V.2.2.1 hin4 d_523 ?_
  refine q_ti (v := s4) hs4 ?_
  obtain ⟨rA, rB, rC, hP0, -⟩ := n_o116 hJ
  refine q_gov V (q_runV (As := [.int s1, .int s2, .int s3, .int s4]) (rest := []) (d := 5) (mc := 0) (ms := 0) (ci := 12) C0 V rfl LV_NL_115 (CM_whole l D g q u1 s1 s2 s3 s4 hJ hM _) rfl rfl hP0 rfl hl.1 rfl (Nat.le_of_ble_eq_true rfl) ⟨by decide, by decide⟩ ⟨w_rc (by omega) (by decide), w_rs (by omega) (by decide)⟩ d_524) (fun u3 H locs hp V => ?_)
  obtain ⟨hJ, hM, hF⟩ := hp
  obtain ⟨hI, hC⟩ : q_I (nsh g q) q u3 ∧ iC g q u3 := w_cC hI hC (fun i h => hF i (by omega))
  have hO : u3[169]? = (some (qo, .inl (g 1, 1, .inr (.inl fo))) : Option (Nat × va_E)) := (hF 169 (by decide)).trans hO
  refine lv_goto (tgt := 1279) hx hb d_527 (by decide) ?_
  refine W.widen (k := cells + 10) (n := slots + 100) (by omega) (by omega) ?_
  exact kend _ _ _ _ _ V hI hC hJ hM hO (q_lw hl (q_lw1 1 rfl (q_lw1 2 rfl (q_lw1 3 rfl (q_lw1 4 rfl (q_lw1 5 rfl q_lw0))))))
/-! the law, case 7: wholeBy -/
theorem d_530 : decode code 530 = .ok (.aload_n 1, 1) := by decide +kernel
theorem d_531 : decode code 531 = .ok (.aload_n 0, 1) := by decide +kernel
theorem d_532 : decode code 532 = .ok (.iload 4, 2) := by decide +kernel
theorem d_534 : decode code 534 = .ok (.iconst 1, 1) := by decide +kernel
theorem d_535 : decode code 535 = .ok (.iadd, 1) := by decide +kernel
theorem d_536 : decode code 536 = .ok (.iaload, 1) := by decide +kernel
theorem d_537 : decode code 537 = .ok (.aload_n 0, 1) := by decide +kernel
theorem d_538 : decode code 538 = .ok (.iload 4, 2) := by decide +kernel
theorem d_540 : decode code 540 = .ok (.iconst 2, 1) := by decide +kernel
theorem d_541 : decode code 541 = .ok (.iadd, 1) := by decide +kernel
theorem d_542 : decode code 542 = .ok (.iaload, 1) := by decide +kernel
theorem d_543 : decode code 543 = .ok (.aload_n 0, 1) := by decide +kernel
theorem d_544 : decode code 544 = .ok (.iload 4, 2) := by decide +kernel
theorem d_546 : decode code 546 = .ok (.iconst 3, 1) := by decide +kernel
theorem d_547 : decode code 547 = .ok (.iadd, 1) := by decide +kernel
theorem d_548 : decode code 548 = .ok (.iaload, 1) := by decide +kernel
theorem d_549 : decode code 549 = .ok (.aload_n 0, 1) := by decide +kernel
theorem d_550 : decode code 550 = .ok (.iload 4, 2) := by decide +kernel
theorem d_552 : decode code 552 = .ok (.iconst 4, 1) := by decide +kernel
theorem d_553 : decode code 553 = .ok (.iadd, 1) := by decide +kernel
theorem d_554 : decode code 554 = .ok (.iaload, 1) := by decide +kernel
set_option maxRecDepth 100000 in
theorem w_1323 : (Cond.codeWith ({ cls := "NumberHouseLaw", name := "wholeBy", desc := "(LNumberHouse;IIII)I" } : MethodName) method_9_code (6 : Nat) (some .int) [((0 : Nat), (9 : Nat), (12 : Nat), (13 : Nat)), ((0 : Nat), (9 : Nat), (16 : Nat), (19 : Nat))]) ∈ q_tbl := q_of6 123 rfl (by decide +kernel)
set_option maxRecDepth 100000 in
theorem w_1321 : (Cond.methodLink "NumberHouseLaw" (116 : Nat) ({ cls := "NumberHouseLaw", name := "wholeBy", desc := "(LNumberHouse;IIII)I" } : MethodName)) ∈ q_tbl := q_of6 121 rfl (by decide +kernel)
set_option maxRecDepth 100000 in
theorem w_1322 : (Cond.static ({ cls := "NumberHouseLaw", name := "wholeBy", desc := "(LNumberHouse;IIII)I" } : MethodName)) ∈ q_tbl := q_of6 122 rfl (by decide +kernel)
theorem LW_NL_116 : q_LW "NumberHouseLaw" 116 y_NL_wholeBy method_9_code 6 (some .int) [(0, 9, 12, 13), (0, 9, 16, 19)] 5 := ⟨w_1323, w_0, w_1321, w_1322, ⟨by decide, by decide, by decide +kernel⟩⟩
theorem d_555 : decode code 555 = .ok (.invokestatic 116, 3) := by decide +kernel
theorem d_558 : decode code 558 = .ok (.istore 5, 2) := by decide +kernel
theorem d_560 : decode code 560 = .ok (.aload_n 2, 1) := by decide +kernel
theorem d_561 : decode code 561 = .ok (.aload_n 0, 1) := by decide +kernel
theorem d_562 : decode code 562 = .ok (.iload 4, 2) := by decide +kernel
theorem d_564 : decode code 564 = .ok (.iconst 1, 1) := by decide +kernel
theorem d_565 : decode code 565 = .ok (.iadd, 1) := by decide +kernel
theorem d_566 : decode code 566 = .ok (.iaload, 1) := by decide +kernel
theorem d_567 : decode code 567 = .ok (.aload_n 0, 1) := by decide +kernel
theorem d_568 : decode code 568 = .ok (.iload 4, 2) := by decide +kernel
theorem d_570 : decode code 570 = .ok (.iconst 2, 1) := by decide +kernel
theorem d_571 : decode code 571 = .ok (.iadd, 1) := by decide +kernel
theorem d_572 : decode code 572 = .ok (.iaload, 1) := by decide +kernel
theorem d_573 : decode code 573 = .ok (.aload_n 0, 1) := by decide +kernel
theorem d_574 : decode code 574 = .ok (.iload 4, 2) := by decide +kernel
theorem d_576 : decode code 576 = .ok (.iconst 3, 1) := by decide +kernel
theorem d_577 : decode code 577 = .ok (.iadd, 1) := by decide +kernel
theorem d_578 : decode code 578 = .ok (.iaload, 1) := by decide +kernel
theorem d_579 : decode code 579 = .ok (.aload_n 0, 1) := by decide +kernel
theorem d_580 : decode code 580 = .ok (.iload 4, 2) := by decide +kernel
theorem d_582 : decode code 582 = .ok (.iconst 4, 1) := by decide +kernel
theorem d_583 : decode code 583 = .ok (.iadd, 1) := by decide +kernel
theorem d_584 : decode code 584 = .ok (.iaload, 1) := by decide +kernel
set_option maxRecDepth 100000 in
theorem w_2748 : (Cond.code ({ cls := "NumberHouseModel", name := "wholeBy", desc := "(IIII)V" } : MethodName) prog_14_method_21_code (5 : Nat) (none : Option ClassFile.FieldType)) ∈ q_tbl := q_of12 108 rfl (by decide +kernel)
set_option maxRecDepth 100000 in
theorem w_2745 : (Cond.methodLink "NumberHouseLaw" (118 : Nat) ({ cls := "NumberHouseModel", name := "wholeBy", desc := "(IIII)V" } : MethodName)) ∈ q_tbl := q_of12 105 rfl (by decide +kernel)
set_option maxRecDepth 100000 in
theorem w_2746 : (Cond.instanceMethod ({ cls := "NumberHouseModel", name := "wholeBy", desc := "(IIII)V" } : MethodName)) ∈ q_tbl := q_of12 106 rfl (by decide +kernel)
set_option maxRecDepth 100000 in
theorem w_2747 : (Cond.selects "NumberHouseModel" ({ cls := "NumberHouseModel", name := "wholeBy", desc := "(IIII)V" } : MethodName) ({ cls := "NumberHouseModel", name := "wholeBy", desc := "(IIII)V" } : MethodName)) ∈ q_tbl := q_of12 107 rfl (by decide +kernel)
theorem LV_NL_118 : q_LV "NumberHouseLaw" 118 y_NM_wholeBy prog_14_method_21_code 5 none 4 := ⟨w_2748, w_14, w_2745, w_2746, w_2747, ⟨by decide, by decide, by decide +kernel⟩⟩
theorem d_585 : decode code 585 = .ok (.invokevirtual 118, 3) := by decide +kernel
theorem d_588 : decode code 588 = .ok (.goto 691, 3) := by decide +kernel
set_option maxRecDepth 100000 in
set_option maxHeartbeats 4000000 in
theorem law_k7 {p : Program} {l : Launch} {e : Env} {s : State} {m : MethodId} {below : List Frame} {meth : Method} {c : Code} {b L : Nat} {xs : Nat → Int32} {D : va_G} {g : Nat → ClassId} {q : Nat → Nat} {qo : Nat} {A : Nat → Prop} {ws : va_W} {H : Heap} {locs : List Loc} {Q : State → Prop} {ls : Array Slot} {fo : Nat → Int64} {i0 : Int32} {cells slots : Nat} (hcb : cells ≤ 6000) (hsb : slots ≤ 300000) (hlt : l.stackTraces = false) (C0 : q_At p s m #[Value.ref b] meth c y_NL_law code 8 (some .boolean)) (hX : va_X b L xs s s.heap) (hbl : b < s.heap.size) (hbA : ¬ A b) (V : q_Wd D g A s ws H locs) (hI : q_I (nsh g q) q ws) (hC : iC g q ws) (hJ : q_I (msh g q) q ws) (hM : iM g q ws) (hO : ws[169]? = (some (qo, .inl (g 1, 1, .inr (.inl fo))) : Option (Nat × va_E))) (hi0 : 0 ≤ i0.toInt ∧ i0.toInt + 6 ≤ (L : Int) ∧ (L : Int) ≤ 3072) (hl : lv_has ls 8 [(4, .int i0), (3, .ref qo), (2, .ref (q 116)), (1, .ref (q 0)), (0, .ref b)]) (kend : ∀ (H : Heap) (locs : List Loc) (u : va_W) (f2 : Nat → Int64) (ls : Array Slot), q_Wd D g A s u H locs → q_I (nsh g q) q u → iC g q u → q_I (msh g q) q u → iM g q u → u[169]? = (some (qo, .inl (g 1, 1, .inr (.inl f2))) : Option (Nat × va_E)) → lv_has ls 8 [(4, .int i0), (3, .ref qo), (2, .ref (q 116)), (1, .ref (q 0)), (0, .ref b)] → W p l e room_1 s m #[Value.ref b] below meth c H locs (cells + 10) (slots + 100) Q (F0 m 1279 ls [])) : W p l e room_1 s m #[Value.ref b] below meth c H locs cells slots Q (F0 m 530 ls []) := by
  have hx := C0.1
  have hb := C0.2.1
  obtain ⟨a1, ha1⟩ : ∃ z : Int32, i0 + 1 = z := ⟨_, rfl⟩
  have hin1 : vp_in a1 L := w_in ha1 (by decide) hi0
  obtain ⟨s1, hs1⟩ : ∃ z : Int32, xs a1.toNatClampNeg = z := ⟨_, rfl⟩
  obtain ⟨a2, ha2⟩ : ∃ z : Int32, i0 + 2 = z := ⟨_, rfl⟩
  have hin2 : vp_in a2 L := w_in ha2 (by decide) hi0
  obtain ⟨s2, hs2⟩ : ∃ z : Int32, xs a2.toNatClampNeg = z := ⟨_, rfl⟩
  obtain ⟨a3, ha3⟩ : ∃ z : Int32, i0 + 3 = z := ⟨_, rfl⟩
  have hin3 : vp_in a3 L := w_in ha3 (by decide) hi0
  obtain ⟨s3, hs3⟩ : ∃ z : Int32, xs a3.toNatClampNeg = z := ⟨_, rfl⟩
  obtain ⟨a4, ha4⟩ : ∃ z : Int32, i0 + 4 = z := ⟨_, rfl⟩
  have hin4 : vp_in a4 L := w_in ha4 (by decide) hi0
  obtain ⟨s4, hs4⟩ : ∃ z : Int32, xs a4.toNatClampNeg = z := ⟨_, rfl⟩
  refine lv_aload_n hx hb d_530 rfl (lv_at hl 3 rfl) ?_
  refine lv_aload_n hx hb d_531 rfl (lv_at hl 4 rfl) ?_
  refine lv_iload hx hb d_532 (lv_at hl 0 rfl) ?_
  refine lv_iconst (v := 1) hx hb d_534 (by decide) ?_
  refine lv_iadd hx hb d_535 ?_
  refine q_ti (v := a1) ha1 ?_
  refine va_sld hx hb hX hbl hbA V.2.2.1 hin1 d_536 ?_
  refine q_ti (v := s1) hs1 ?_
  refine lv_aload_n hx hb d_537 rfl (lv_at hl 4 rfl) ?_
  refine lv_iload hx hb d_538 (lv_at hl 0 rfl) ?_
  refine lv_iconst (v := 2) hx hb d_540 (by decide) ?_
  refine lv_iadd hx hb d_541 ?_
  refine q_ti (v := a2) ha2 ?_
  refine va_sld hx hb hX hbl hbA V.2.2.1 hin2 d_542 ?_
  refine q_ti (v := s2) hs2 ?_
  refine lv_aload_n hx hb d_543 rfl (lv_at hl 4 rfl) ?_
  refine lv_iload hx hb d_544 (lv_at hl 0 rfl) ?_
  refine lv_iconst (v := 3) hx hb d_546 (by decide) ?_
  refine lv_iadd hx hb d_547 ?_
  refine q_ti (v := a3) ha3 ?_
  refine va_sld hx hb hX hbl hbA V.2.2.1 hin3 d_548 ?_
  refine q_ti (v := s3) hs3 ?_
  refine lv_aload_n hx hb d_549 rfl (lv_at hl 4 rfl) ?_
  refine lv_iload hx hb d_550 (lv_at hl 0 rfl) ?_
  refine lv_iconst (v := 4) hx hb d_552 (by decide) ?_
  refine lv_iadd hx hb d_553 ?_
  refine q_ti (v := a4) ha4 ?_
  refine va_sld hx hb hX hbl hbA V.2.2.1 hin4 d_554 ?_
  refine q_ti (v := s4) hs4 ?_
  refine q_goi V (q_runSW (As := [.ref (q 0), .int s1, .int s2, .int s3, .int s4]) (rest := []) (d := 10) (mc := 5) (ms := 30) C0 V rfl LW_NL_116 (w_NL_wholeBy l D g q ws s1 s2 s3 s4 hlt hI hC _) rfl hl.1 rfl (Nat.le_of_ble_eq_true rfl) ⟨by decide, by decide⟩ ⟨w_rc (by omega) (by decide), w_rs (by omega) (by decide)⟩ d_555) (fun k1 u1 H locs hp V => ?_)
  obtain ⟨hI, hC, hF⟩ := hp
  obtain ⟨hJ, hM⟩ : q_I (msh g q) q u1 ∧ iM g q u1 := w_cM hJ hM hI (fun i h _ => hF i h)
  have hO : u1[169]? = (some (qo, .inl (g 1, 1, .inr (.inl fo))) : Option (Nat × va_E)) := (hF 169 (Nat.le_of_ble_eq_true rfl)).trans hO
  refine lv_istore (lv' := [(5, .int k1), (4, .int i0), (3, .ref qo), (2, .ref (q 116)), (1, .ref (q 0)), (0, .ref b)]) hx hb d_558 hl (by decide) rfl (fun ls hl => ?_)
  refine lv_aload_n hx hb d_560 rfl (lv_at hl 3 rfl) ?_
  refine lv_aload_n hx hb d_561 rfl (lv_at hl 5 rfl) ?_
  refine lv_iload hx hb d_562 (lv_at hl 1 rfl) ?_
  refine lv_iconst (v := 1) hx hb d_564 (by decide) ?_
  refine lv_iadd hx hb d_565 ?_
  refine q_ti (v := a1) ha1 ?_
  refine va_sld hx hb hX hbl hbA V.2.2.1 hin1 d_566 ?_
  refine q_ti (v := s1) hs1 ?_
  refine lv_aload_n hx hb d_567 rfl (lv_at hl 5 rfl) ?_
  refine lv_iload hx hb d_568 (lv_at hl 1 rfl) ?_
  refine lv_iconst (v := 2) hx hb d_570 (by decide) ?_
  refine lv_iadd hx hb d_571 ?_
  refine q_ti (v := a2) ha2 ?_
  refine va_sld hx hb hX hbl hbA V.2.2.1 hin2 d_572 ?_
  refine q_ti (v := s2) hs2 ?_
  refine lv_aload_n hx hb d_573 rfl (lv_at hl 5 rfl) ?_
  refine lv_iload hx hb d_574 (lv_at hl 1 rfl) ?_
  refine lv_iconst (v := 3) hx hb d_576 (by decide) ?_
  refine lv_iadd hx hb d_577 ?_
  refine q_ti (v := a3) ha3 ?_
  refine va_sld hx hb hX hbl hbA V.2.2.1 hin3 d_578 ?_
  refine q_ti (v := s3) hs3 ?_
  refine lv_aload_n hx hb d_579 rfl (lv_at hl 5 rfl) ?_
  refine lv_iload hx hb d_580 (lv_at hl 1 rfl) ?_
  refine lv_iconst (v := 4) hx hb d_582 (by decide) ?_
  refine lv_iadd hx hb d_583 ?_
  refine q_ti (v := a4) ha4 ?_
  refine va_sld hx hb hX hbl hbA V.2.2.1 hin4 d_584 ?_
  refine q_ti (v := s4) hs4 ?_
  obtain ⟨rA, rB, rC, hP0, -⟩ := n_o116 hJ
  refine q_gov V (q_runV (As := [.int s1, .int s2, .int s3, .int s4]) (rest := []) (d := 5) (mc := 0) (ms := 0) (ci := 12) C0 V rfl LV_NL_118 (CM_wholeBy l D g q u1 s1 s2 s3 s4 hJ hM _) rfl rfl hP0 rfl hl.1 rfl (Nat.le_of_ble_eq_true rfl) ⟨by decide, by decide⟩ ⟨w_rc (by omega) (by decide), w_rs (by omega) (by decide)⟩ d_585) (fun u3 H locs hp V => ?_)
  obtain ⟨hJ, hM, hF⟩ := hp
  obtain ⟨hI, hC⟩ : q_I (nsh g q) q u3 ∧ iC g q u3 := w_cC hI hC (fun i h => hF i (by omega))
  have hO : u3[169]? = (some (qo, .inl (g 1, 1, .inr (.inl fo))) : Option (Nat × va_E)) := (hF 169 (by decide)).trans hO
  refine lv_goto (tgt := 1279) hx hb d_588 (by decide) ?_
  refine W.widen (k := cells + 10) (n := slots + 100) (by omega) (by omega) ?_
  exact kend _ _ _ _ _ V hI hC hJ hM hO (q_lw hl (q_lw1 1 rfl (q_lw1 2 rfl (q_lw1 3 rfl (q_lw1 4 rfl (q_lw1 5 rfl q_lw0))))))
/-! the law, case 8: powerModulo -/
theorem d_591 : decode code 591 = .ok (.aload_n 1, 1) := by decide +kernel
theorem d_592 : decode code 592 = .ok (.aload_n 0, 1) := by decide +kernel
theorem d_593 : decode code 593 = .ok (.iload 4, 2) := by decide +kernel
theorem d_595 : decode code 595 = .ok (.iconst 1, 1) := by decide +kernel
theorem d_596 : decode code 596 = .ok (.iadd, 1) := by decide +kernel
theorem d_597 : decode code 597 = .ok (.iaload, 1) := by decide +kernel
theorem d_598 : decode code 598 = .ok (.aload_n 0, 1) := by decide +kernel
theorem d_599 : decode code 599 = .ok (.iload 4, 2) := by decide +kernel
theorem d_601 : decode code 601 = .ok (.iconst 2, 1) := by decide +kernel
theorem d_602 : decode code 602 = .ok (.iadd, 1) := by decide +kernel
theorem d_603 : decode code 603 = .ok (.iaload, 1) := by decide +kernel
theorem d_604 : decode code 604 = .ok (.aload_n 0, 1) := by decide +kernel
theorem d_605 : decode code 605 = .ok (.iload 4, 2) := by decide +kernel
theorem d_607 : decode code 607 = .ok (.iconst 3, 1) := by decide +kernel
theorem d_608 : decode code 608 = .ok (.iadd, 1) := by decide +kernel
theorem d_609 : decode code 609 = .ok (.iaload, 1) := by decide +kernel
theorem d_610 : decode code 610 = .ok (.aload_n 0, 1) := by decide +kernel
theorem d_611 : decode code 611 = .ok (.iload 4, 2) := by decide +kernel
theorem d_613 : decode code 613 = .ok (.iconst 4, 1) := by decide +kernel
theorem d_614 : decode code 614 = .ok (.iadd, 1) := by decide +kernel
theorem d_615 : decode code 615 = .ok (.iaload, 1) := by decide +kernel
set_option maxRecDepth 100000 in
theorem w_1349 : (Cond.codeWith ({ cls := "NumberHouseLaw", name := "powerModulo", desc := "(LNumberHouse;IIII)I" } : MethodName) method_10_code (6 : Nat) (some .int) [((0 : Nat), (9 : Nat), (12 : Nat), (13 : Nat)), ((0 : Nat), (9 : Nat), (16 : Nat), (19 : Nat))]) ∈ q_tbl := q_of6 149 rfl (by decide +kernel)
set_option maxRecDepth 100000 in
theorem w_1347 : (Cond.methodLink "NumberHouseLaw" (119 : Nat) ({ cls := "NumberHouseLaw", name := "powerModulo", desc := "(LNumberHouse;IIII)I" } : MethodName)) ∈ q_tbl := q_of6 147 rfl (by decide +kernel)
set_option maxRecDepth 100000 in
theorem w_1348 : (Cond.static ({ cls := "NumberHouseLaw", name := "powerModulo", desc := "(LNumberHouse;IIII)I" } : MethodName)) ∈ q_tbl := q_of6 148 rfl (by decide +kernel)
theorem LW_NL_119 : q_LW "NumberHouseLaw" 119 y_NL_powerModulo method_10_code 6 (some .int) [(0, 9, 12, 13), (0, 9, 16, 19)] 5 := ⟨w_1349, w_0, w_1347, w_1348, ⟨by decide, by decide, by decide +kernel⟩⟩
theorem d_616 : decode code 616 = .ok (.invokestatic 119, 3) := by decide +kernel
theorem d_619 : decode code 619 = .ok (.istore 5, 2) := by decide +kernel
theorem d_621 : decode code 621 = .ok (.aload_n 2, 1) := by decide +kernel
theorem d_622 : decode code 622 = .ok (.aload_n 0, 1) := by decide +kernel
theorem d_623 : decode code 623 = .ok (.iload 4, 2) := by decide +kernel
theorem d_625 : decode code 625 = .ok (.iconst 1, 1) := by decide +kernel
theorem d_626 : decode code 626 = .ok (.iadd, 1) := by decide +kernel
theorem d_627 : decode code 627 = .ok (.iaload, 1) := by decide +kernel
theorem d_628 : decode code 628 = .ok (.aload_n 0, 1) := by decide +kernel
theorem d_629 : decode code 629 = .ok (.iload 4, 2) := by decide +kernel
theorem d_631 : decode code 631 = .ok (.iconst 2, 1) := by decide +kernel
theorem d_632 : decode code 632 = .ok (.iadd, 1) := by decide +kernel
theorem d_633 : decode code 633 = .ok (.iaload, 1) := by decide +kernel
theorem d_634 : decode code 634 = .ok (.aload_n 0, 1) := by decide +kernel
theorem d_635 : decode code 635 = .ok (.iload 4, 2) := by decide +kernel
theorem d_637 : decode code 637 = .ok (.iconst 3, 1) := by decide +kernel
theorem d_638 : decode code 638 = .ok (.iadd, 1) := by decide +kernel
theorem d_639 : decode code 639 = .ok (.iaload, 1) := by decide +kernel
theorem d_640 : decode code 640 = .ok (.aload_n 0, 1) := by decide +kernel
theorem d_641 : decode code 641 = .ok (.iload 4, 2) := by decide +kernel
theorem d_643 : decode code 643 = .ok (.iconst 4, 1) := by decide +kernel
theorem d_644 : decode code 644 = .ok (.iadd, 1) := by decide +kernel
theorem d_645 : decode code 645 = .ok (.iaload, 1) := by decide +kernel
set_option maxRecDepth 100000 in
theorem w_2768 : (Cond.code ({ cls := "NumberHouseModel", name := "powerModulo", desc := "(IIII)V" } : MethodName) prog_14_method_22_code (5 : Nat) (none : Option ClassFile.FieldType)) ∈ q_tbl := q_of12 128 rfl (by decide +kernel)
set_option maxRecDepth 100000 in
theorem w_2765 : (Cond.methodLink "NumberHouseLaw" (121 : Nat) ({ cls := "NumberHouseModel", name := "powerModulo", desc := "(IIII)V" } : MethodName)) ∈ q_tbl := q_of12 125 rfl (by decide +kernel)
set_option maxRecDepth 100000 in
theorem w_2766 : (Cond.instanceMethod ({ cls := "NumberHouseModel", name := "powerModulo", desc := "(IIII)V" } : MethodName)) ∈ q_tbl := q_of12 126 rfl (by decide +kernel)
set_option maxRecDepth 100000 in
theorem w_2767 : (Cond.selects "NumberHouseModel" ({ cls := "NumberHouseModel", name := "powerModulo", desc := "(IIII)V" } : MethodName) ({ cls := "NumberHouseModel", name := "powerModulo", desc := "(IIII)V" } : MethodName)) ∈ q_tbl := q_of12 127 rfl (by decide +kernel)
theorem LV_NL_121 : q_LV "NumberHouseLaw" 121 y_NM_powerModulo prog_14_method_22_code 5 none 4 := ⟨w_2768, w_14, w_2765, w_2766, w_2767, ⟨by decide, by decide, by decide +kernel⟩⟩
theorem d_646 : decode code 646 = .ok (.invokevirtual 121, 3) := by decide +kernel
theorem d_649 : decode code 649 = .ok (.goto 630, 3) := by decide +kernel
set_option maxRecDepth 100000 in
set_option maxHeartbeats 4000000 in
theorem law_k8 {p : Program} {l : Launch} {e : Env} {s : State} {m : MethodId} {below : List Frame} {meth : Method} {c : Code} {b L : Nat} {xs : Nat → Int32} {D : va_G} {g : Nat → ClassId} {q : Nat → Nat} {qo : Nat} {A : Nat → Prop} {ws : va_W} {H : Heap} {locs : List Loc} {Q : State → Prop} {ls : Array Slot} {fo : Nat → Int64} {i0 : Int32} {cells slots : Nat} (hcb : cells ≤ 6000) (hsb : slots ≤ 300000) (hlt : l.stackTraces = false) (C0 : q_At p s m #[Value.ref b] meth c y_NL_law code 8 (some .boolean)) (hX : va_X b L xs s s.heap) (hbl : b < s.heap.size) (hbA : ¬ A b) (V : q_Wd D g A s ws H locs) (hI : q_I (nsh g q) q ws) (hC : iC g q ws) (hJ : q_I (msh g q) q ws) (hM : iM g q ws) (hO : ws[169]? = (some (qo, .inl (g 1, 1, .inr (.inl fo))) : Option (Nat × va_E))) (hi0 : 0 ≤ i0.toInt ∧ i0.toInt + 6 ≤ (L : Int) ∧ (L : Int) ≤ 3072) (hl : lv_has ls 8 [(4, .int i0), (3, .ref qo), (2, .ref (q 116)), (1, .ref (q 0)), (0, .ref b)]) (kend : ∀ (H : Heap) (locs : List Loc) (u : va_W) (f2 : Nat → Int64) (ls : Array Slot), q_Wd D g A s u H locs → q_I (nsh g q) q u → iC g q u → q_I (msh g q) q u → iM g q u → u[169]? = (some (qo, .inl (g 1, 1, .inr (.inl f2))) : Option (Nat × va_E)) → lv_has ls 8 [(4, .int i0), (3, .ref qo), (2, .ref (q 116)), (1, .ref (q 0)), (0, .ref b)] → W p l e room_1 s m #[Value.ref b] below meth c H locs (cells + 10) (slots + 100) Q (F0 m 1279 ls [])) : W p l e room_1 s m #[Value.ref b] below meth c H locs cells slots Q (F0 m 591 ls []) := by
  have hx := C0.1
  have hb := C0.2.1
  obtain ⟨a1, ha1⟩ : ∃ z : Int32, i0 + 1 = z := ⟨_, rfl⟩
  have hin1 : vp_in a1 L := w_in ha1 (by decide) hi0
  obtain ⟨s1, hs1⟩ : ∃ z : Int32, xs a1.toNatClampNeg = z := ⟨_, rfl⟩
  obtain ⟨a2, ha2⟩ : ∃ z : Int32, i0 + 2 = z := ⟨_, rfl⟩
  have hin2 : vp_in a2 L := w_in ha2 (by decide) hi0
  obtain ⟨s2, hs2⟩ : ∃ z : Int32, xs a2.toNatClampNeg = z := ⟨_, rfl⟩
  obtain ⟨a3, ha3⟩ : ∃ z : Int32, i0 + 3 = z := ⟨_, rfl⟩
  have hin3 : vp_in a3 L := w_in ha3 (by decide) hi0
  obtain ⟨s3, hs3⟩ : ∃ z : Int32, xs a3.toNatClampNeg = z := ⟨_, rfl⟩
  obtain ⟨a4, ha4⟩ : ∃ z : Int32, i0 + 4 = z := ⟨_, rfl⟩
  have hin4 : vp_in a4 L := w_in ha4 (by decide) hi0
  obtain ⟨s4, hs4⟩ : ∃ z : Int32, xs a4.toNatClampNeg = z := ⟨_, rfl⟩
  refine lv_aload_n hx hb d_591 rfl (lv_at hl 3 rfl) ?_
  refine lv_aload_n hx hb d_592 rfl (lv_at hl 4 rfl) ?_
  refine lv_iload hx hb d_593 (lv_at hl 0 rfl) ?_
  refine lv_iconst (v := 1) hx hb d_595 (by decide) ?_
  refine lv_iadd hx hb d_596 ?_
  refine q_ti (v := a1) ha1 ?_
  refine va_sld hx hb hX hbl hbA V.2.2.1 hin1 d_597 ?_
  refine q_ti (v := s1) hs1 ?_
  refine lv_aload_n hx hb d_598 rfl (lv_at hl 4 rfl) ?_
  refine lv_iload hx hb d_599 (lv_at hl 0 rfl) ?_
  refine lv_iconst (v := 2) hx hb d_601 (by decide) ?_
  refine lv_iadd hx hb d_602 ?_
  refine q_ti (v := a2) ha2 ?_
  refine va_sld hx hb hX hbl hbA V.2.2.1 hin2 d_603 ?_
  refine q_ti (v := s2) hs2 ?_
  refine lv_aload_n hx hb d_604 rfl (lv_at hl 4 rfl) ?_
  refine lv_iload hx hb d_605 (lv_at hl 0 rfl) ?_
  refine lv_iconst (v := 3) hx hb d_607 (by decide) ?_
  refine lv_iadd hx hb d_608 ?_
  refine q_ti (v := a3) ha3 ?_
  refine va_sld hx hb hX hbl hbA V.2.2.1 hin3 d_609 ?_
  refine q_ti (v := s3) hs3 ?_
  refine lv_aload_n hx hb d_610 rfl (lv_at hl 4 rfl) ?_
  refine lv_iload hx hb d_611 (lv_at hl 0 rfl) ?_
  refine lv_iconst (v := 4) hx hb d_613 (by decide) ?_
  refine lv_iadd hx hb d_614 ?_
  refine q_ti (v := a4) ha4 ?_
  refine va_sld hx hb hX hbl hbA V.2.2.1 hin4 d_615 ?_
  refine q_ti (v := s4) hs4 ?_
  refine q_goi V (q_runSW (As := [.ref (q 0), .int s1, .int s2, .int s3, .int s4]) (rest := []) (d := 10) (mc := 4) (ms := 24) C0 V rfl LW_NL_119 (w_NL_powerModulo l D g q ws s1 s2 s3 s4 hlt hI hC _) rfl hl.1 rfl (Nat.le_of_ble_eq_true rfl) ⟨by decide, by decide⟩ ⟨w_rc (by omega) (by decide), w_rs (by omega) (by decide)⟩ d_616) (fun k1 u1 H locs hp V => ?_)
  obtain ⟨hI, hC, hF⟩ := hp
  obtain ⟨hJ, hM⟩ : q_I (msh g q) q u1 ∧ iM g q u1 := w_cM hJ hM hI (fun i h _ => hF i h)
  have hO : u1[169]? = (some (qo, .inl (g 1, 1, .inr (.inl fo))) : Option (Nat × va_E)) := (hF 169 (Nat.le_of_ble_eq_true rfl)).trans hO
  refine lv_istore (lv' := [(5, .int k1), (4, .int i0), (3, .ref qo), (2, .ref (q 116)), (1, .ref (q 0)), (0, .ref b)]) hx hb d_619 hl (by decide) rfl (fun ls hl => ?_)
  refine lv_aload_n hx hb d_621 rfl (lv_at hl 3 rfl) ?_
  refine lv_aload_n hx hb d_622 rfl (lv_at hl 5 rfl) ?_
  refine lv_iload hx hb d_623 (lv_at hl 1 rfl) ?_
  refine lv_iconst (v := 1) hx hb d_625 (by decide) ?_
  refine lv_iadd hx hb d_626 ?_
  refine q_ti (v := a1) ha1 ?_
  refine va_sld hx hb hX hbl hbA V.2.2.1 hin1 d_627 ?_
  refine q_ti (v := s1) hs1 ?_
  refine lv_aload_n hx hb d_628 rfl (lv_at hl 5 rfl) ?_
  refine lv_iload hx hb d_629 (lv_at hl 1 rfl) ?_
  refine lv_iconst (v := 2) hx hb d_631 (by decide) ?_
  refine lv_iadd hx hb d_632 ?_
  refine q_ti (v := a2) ha2 ?_
  refine va_sld hx hb hX hbl hbA V.2.2.1 hin2 d_633 ?_
  refine q_ti (v := s2) hs2 ?_
  refine lv_aload_n hx hb d_634 rfl (lv_at hl 5 rfl) ?_
  refine lv_iload hx hb d_635 (lv_at hl 1 rfl) ?_
  refine lv_iconst (v := 3) hx hb d_637 (by decide) ?_
  refine lv_iadd hx hb d_638 ?_
  refine q_ti (v := a3) ha3 ?_
  refine va_sld hx hb hX hbl hbA V.2.2.1 hin3 d_639 ?_
  refine q_ti (v := s3) hs3 ?_
  refine lv_aload_n hx hb d_640 rfl (lv_at hl 5 rfl) ?_
  refine lv_iload hx hb d_641 (lv_at hl 1 rfl) ?_
  refine lv_iconst (v := 4) hx hb d_643 (by decide) ?_
  refine lv_iadd hx hb d_644 ?_
  refine q_ti (v := a4) ha4 ?_
  refine va_sld hx hb hX hbl hbA V.2.2.1 hin4 d_645 ?_
  refine q_ti (v := s4) hs4 ?_
  obtain ⟨rA, rB, rC, hP0, -⟩ := n_o116 hJ
  refine q_gov V (q_runV (As := [.int s1, .int s2, .int s3, .int s4]) (rest := []) (d := 5) (mc := 0) (ms := 0) (ci := 12) C0 V rfl LV_NL_121 (CM_powerModulo l D g q u1 s1 s2 s3 s4 hJ hM _) rfl rfl hP0 rfl hl.1 rfl (Nat.le_of_ble_eq_true rfl) ⟨by decide, by decide⟩ ⟨w_rc (by omega) (by decide), w_rs (by omega) (by decide)⟩ d_646) (fun u3 H locs hp V => ?_)
  obtain ⟨hJ, hM, hF⟩ := hp
  obtain ⟨hI, hC⟩ : q_I (nsh g q) q u3 ∧ iC g q u3 := w_cC hI hC (fun i h => hF i (by omega))
  have hO : u3[169]? = (some (qo, .inl (g 1, 1, .inr (.inl fo))) : Option (Nat × va_E)) := (hF 169 (by decide)).trans hO
  refine lv_goto (tgt := 1279) hx hb d_649 (by decide) ?_
  refine W.widen (k := cells + 10) (n := slots + 100) (by omega) (by omega) ?_
  exact kend _ _ _ _ _ V hI hC hJ hM hO (q_lw hl (q_lw1 1 rfl (q_lw1 2 rfl (q_lw1 3 rfl (q_lw1 4 rfl (q_lw1 5 rfl q_lw0))))))
/-! the law, case 9: decimal -/
theorem d_652 : decode code 652 = .ok (.aload_n 1, 1) := by decide +kernel
theorem d_653 : decode code 653 = .ok (.aload_n 0, 1) := by decide +kernel
theorem d_654 : decode code 654 = .ok (.iload 4, 2) := by decide +kernel
theorem d_656 : decode code 656 = .ok (.iconst 1, 1) := by decide +kernel
theorem d_657 : decode code 657 = .ok (.iadd, 1) := by decide +kernel
theorem d_658 : decode code 658 = .ok (.iaload, 1) := by decide +kernel
theorem d_659 : decode code 659 = .ok (.aload_n 0, 1) := by decide +kernel
theorem d_660 : decode code 660 = .ok (.iload 4, 2) := by decide +kernel
theorem d_662 : decode code 662 = .ok (.iconst 2, 1) := by decide +kernel
theorem d_663 : decode code 663 = .ok (.iadd, 1) := by decide +kernel
theorem d_664 : decode code 664 = .ok (.iaload, 1) := by decide +kernel
theorem d_665 : decode code 665 = .ok (.aload_n 0, 1) := by decide +kernel
theorem d_666 : decode code 666 = .ok (.iload 4, 2) := by decide +kernel
theorem d_668 : decode code 668 = .ok (.iconst 3, 1) := by decide +kernel
theorem d_669 : decode code 669 = .ok (.iadd, 1) := by decide +kernel
theorem d_670 : decode code 670 = .ok (.iaload, 1) := by decide +kernel
theorem d_671 : decode code 671 = .ok (.aload_n 0, 1) := by decide +kernel
theorem d_672 : decode code 672 = .ok (.iload 4, 2) := by decide +kernel
theorem d_674 : decode code 674 = .ok (.iconst 4, 1) := by decide +kernel
theorem d_675 : decode code 675 = .ok (.iadd, 1) := by decide +kernel
theorem d_676 : decode code 676 = .ok (.iaload, 1) := by decide +kernel
set_option maxRecDepth 100000 in
theorem w_1361 : (Cond.codeWith ({ cls := "NumberHouseLaw", name := "decimal", desc := "(LNumberHouse;IIII)I" } : MethodName) method_11_code (6 : Nat) (some .int) [((0 : Nat), (9 : Nat), (12 : Nat), (13 : Nat)), ((0 : Nat), (9 : Nat), (16 : Nat), (19 : Nat))]) ∈ q_tbl := q_of6 161 rfl (by decide +kernel)
set_option maxRecDepth 100000 in
theorem w_1359 : (Cond.methodLink "NumberHouseLaw" (122 : Nat) ({ cls := "NumberHouseLaw", name := "decimal", desc := "(LNumberHouse;IIII)I" } : MethodName)) ∈ q_tbl := q_of6 159 rfl (by decide +kernel)
set_option maxRecDepth 100000 in
theorem w_1360 : (Cond.static ({ cls := "NumberHouseLaw", name := "decimal", desc := "(LNumberHouse;IIII)I" } : MethodName)) ∈ q_tbl := q_of6 160 rfl (by decide +kernel)
theorem LW_NL_122 : q_LW "NumberHouseLaw" 122 y_NL_decimal method_11_code 6 (some .int) [(0, 9, 12, 13), (0, 9, 16, 19)] 5 := ⟨w_1361, w_0, w_1359, w_1360, ⟨by decide, by decide, by decide +kernel⟩⟩
theorem d_677 : decode code 677 = .ok (.invokestatic 122, 3) := by decide +kernel
theorem d_680 : decode code 680 = .ok (.istore 5, 2) := by decide +kernel
theorem d_682 : decode code 682 = .ok (.aload_n 2, 1) := by decide +kernel
theorem d_683 : decode code 683 = .ok (.aload_n 0, 1) := by decide +kernel
theorem d_684 : decode code 684 = .ok (.iload 4, 2) := by decide +kernel
theorem d_686 : decode code 686 = .ok (.iconst 1, 1) := by decide +kernel
theorem d_687 : decode code 687 = .ok (.iadd, 1) := by decide +kernel
theorem d_688 : decode code 688 = .ok (.iaload, 1) := by decide +kernel
theorem d_689 : decode code 689 = .ok (.aload_n 0, 1) := by decide +kernel
theorem d_690 : decode code 690 = .ok (.iload 4, 2) := by decide +kernel
theorem d_692 : decode code 692 = .ok (.iconst 2, 1) := by decide +kernel
theorem d_693 : decode code 693 = .ok (.iadd, 1) := by decide +kernel
theorem d_694 : decode code 694 = .ok (.iaload, 1) := by decide +kernel
theorem d_695 : decode code 695 = .ok (.aload_n 0, 1) := by decide +kernel
theorem d_696 : decode code 696 = .ok (.iload 4, 2) := by decide +kernel
theorem d_698 : decode code 698 = .ok (.iconst 3, 1) := by decide +kernel
theorem d_699 : decode code 699 = .ok (.iadd, 1) := by decide +kernel
theorem d_700 : decode code 700 = .ok (.iaload, 1) := by decide +kernel
theorem d_701 : decode code 701 = .ok (.aload_n 0, 1) := by decide +kernel
theorem d_702 : decode code 702 = .ok (.iload 4, 2) := by decide +kernel
theorem d_704 : decode code 704 = .ok (.iconst 4, 1) := by decide +kernel
theorem d_705 : decode code 705 = .ok (.iadd, 1) := by decide +kernel
theorem d_706 : decode code 706 = .ok (.iaload, 1) := by decide +kernel
set_option maxRecDepth 100000 in
theorem w_2776 : (Cond.code ({ cls := "NumberHouseModel", name := "decimal", desc := "(IIII)V" } : MethodName) prog_14_method_23_code (5 : Nat) (none : Option ClassFile.FieldType)) ∈ q_tbl := q_of12 136 rfl (by decide +kernel)
set_option maxRecDepth 100000 in
theorem w_2773 : (Cond.methodLink "NumberHouseLaw" (124 : Nat) ({ cls := "NumberHouseModel", name := "decimal", desc := "(IIII)V" } : MethodName)) ∈ q_tbl := q_of12 133 rfl (by decide +kernel)
set_option maxRecDepth 100000 in
theorem w_2774 : (Cond.instanceMethod ({ cls := "NumberHouseModel", name := "decimal", desc := "(IIII)V" } : MethodName)) ∈ q_tbl := q_of12 134 rfl (by decide +kernel)
set_option maxRecDepth 100000 in
theorem w_2775 : (Cond.selects "NumberHouseModel" ({ cls := "NumberHouseModel", name := "decimal", desc := "(IIII)V" } : MethodName) ({ cls := "NumberHouseModel", name := "decimal", desc := "(IIII)V" } : MethodName)) ∈ q_tbl := q_of12 135 rfl (by decide +kernel)
theorem LV_NL_124 : q_LV "NumberHouseLaw" 124 y_NM_decimal prog_14_method_23_code 5 none 4 := ⟨w_2776, w_14, w_2773, w_2774, w_2775, ⟨by decide, by decide, by decide +kernel⟩⟩
theorem d_707 : decode code 707 = .ok (.invokevirtual 124, 3) := by decide +kernel
theorem d_710 : decode code 710 = .ok (.goto 569, 3) := by decide +kernel
set_option maxRecDepth 100000 in
set_option maxHeartbeats 4000000 in
theorem law_k9 {p : Program} {l : Launch} {e : Env} {s : State} {m : MethodId} {below : List Frame} {meth : Method} {c : Code} {b L : Nat} {xs : Nat → Int32} {D : va_G} {g : Nat → ClassId} {q : Nat → Nat} {qo : Nat} {A : Nat → Prop} {ws : va_W} {H : Heap} {locs : List Loc} {Q : State → Prop} {ls : Array Slot} {fo : Nat → Int64} {i0 : Int32} {cells slots : Nat} (hcb : cells ≤ 6000) (hsb : slots ≤ 300000) (hlt : l.stackTraces = false) (C0 : q_At p s m #[Value.ref b] meth c y_NL_law code 8 (some .boolean)) (hX : va_X b L xs s s.heap) (hbl : b < s.heap.size) (hbA : ¬ A b) (V : q_Wd D g A s ws H locs) (hI : q_I (nsh g q) q ws) (hC : iC g q ws) (hJ : q_I (msh g q) q ws) (hM : iM g q ws) (hO : ws[169]? = (some (qo, .inl (g 1, 1, .inr (.inl fo))) : Option (Nat × va_E))) (hi0 : 0 ≤ i0.toInt ∧ i0.toInt + 6 ≤ (L : Int) ∧ (L : Int) ≤ 3072) (hl : lv_has ls 8 [(4, .int i0), (3, .ref qo), (2, .ref (q 116)), (1, .ref (q 0)), (0, .ref b)]) (kend : ∀ (H : Heap) (locs : List Loc) (u : va_W) (f2 : Nat → Int64) (ls : Array Slot), q_Wd D g A s u H locs → q_I (nsh g q) q u → iC g q u → q_I (msh g q) q u → iM g q u → u[169]? = (some (qo, .inl (g 1, 1, .inr (.inl f2))) : Option (Nat × va_E)) → lv_has ls 8 [(4, .int i0), (3, .ref qo), (2, .ref (q 116)), (1, .ref (q 0)), (0, .ref b)] → W p l e room_1 s m #[Value.ref b] below meth c H locs (cells + 10) (slots + 100) Q (F0 m 1279 ls [])) : W p l e room_1 s m #[Value.ref b] below meth c H locs cells slots Q (F0 m 652 ls []) := by
  have hx := C0.1
  have hb := C0.2.1
  obtain ⟨a1, ha1⟩ : ∃ z : Int32, i0 + 1 = z := ⟨_, rfl⟩
  have hin1 : vp_in a1 L := w_in ha1 (by decide) hi0
  obtain ⟨s1, hs1⟩ : ∃ z : Int32, xs a1.toNatClampNeg = z := ⟨_, rfl⟩
  obtain ⟨a2, ha2⟩ : ∃ z : Int32, i0 + 2 = z := ⟨_, rfl⟩
  have hin2 : vp_in a2 L := w_in ha2 (by decide) hi0
  obtain ⟨s2, hs2⟩ : ∃ z : Int32, xs a2.toNatClampNeg = z := ⟨_, rfl⟩
  obtain ⟨a3, ha3⟩ : ∃ z : Int32, i0 + 3 = z := ⟨_, rfl⟩
  have hin3 : vp_in a3 L := w_in ha3 (by decide) hi0
  obtain ⟨s3, hs3⟩ : ∃ z : Int32, xs a3.toNatClampNeg = z := ⟨_, rfl⟩
  obtain ⟨a4, ha4⟩ : ∃ z : Int32, i0 + 4 = z := ⟨_, rfl⟩
  have hin4 : vp_in a4 L := w_in ha4 (by decide) hi0
  obtain ⟨s4, hs4⟩ : ∃ z : Int32, xs a4.toNatClampNeg = z := ⟨_, rfl⟩
  refine lv_aload_n hx hb d_652 rfl (lv_at hl 3 rfl) ?_
  refine lv_aload_n hx hb d_653 rfl (lv_at hl 4 rfl) ?_
  refine lv_iload hx hb d_654 (lv_at hl 0 rfl) ?_
  refine lv_iconst (v := 1) hx hb d_656 (by decide) ?_
  refine lv_iadd hx hb d_657 ?_
  refine q_ti (v := a1) ha1 ?_
  refine va_sld hx hb hX hbl hbA V.2.2.1 hin1 d_658 ?_
  refine q_ti (v := s1) hs1 ?_
  refine lv_aload_n hx hb d_659 rfl (lv_at hl 4 rfl) ?_
  refine lv_iload hx hb d_660 (lv_at hl 0 rfl) ?_
  refine lv_iconst (v := 2) hx hb d_662 (by decide) ?_
  refine lv_iadd hx hb d_663 ?_
  refine q_ti (v := a2) ha2 ?_
  refine va_sld hx hb hX hbl hbA V.2.2.1 hin2 d_664 ?_
  refine q_ti (v := s2) hs2 ?_
  refine lv_aload_n hx hb d_665 rfl (lv_at hl 4 rfl) ?_
  refine lv_iload hx hb d_666 (lv_at hl 0 rfl) ?_
  refine lv_iconst (v := 3) hx hb d_668 (by decide) ?_
  refine lv_iadd hx hb d_669 ?_
  refine q_ti (v := a3) ha3 ?_
  refine va_sld hx hb hX hbl hbA V.2.2.1 hin3 d_670 ?_
  refine q_ti (v := s3) hs3 ?_
  refine lv_aload_n hx hb d_671 rfl (lv_at hl 4 rfl) ?_
  refine lv_iload hx hb d_672 (lv_at hl 0 rfl) ?_
  refine lv_iconst (v := 4) hx hb d_674 (by decide) ?_
  refine lv_iadd hx hb d_675 ?_
  refine q_ti (v := a4) ha4 ?_
  refine va_sld hx hb hX hbl hbA V.2.2.1 hin4 d_676 ?_
  refine q_ti (v := s4) hs4 ?_
  refine q_goi V (q_runSW (As := [.ref (q 0), .int s1, .int s2, .int s3, .int s4]) (rest := []) (d := 10) (mc := 3) (ms := 18) C0 V rfl LW_NL_122 (w_NL_decimal l D g q ws s1 s2 s3 s4 hlt hI hC _) rfl hl.1 rfl (Nat.le_of_ble_eq_true rfl) ⟨by decide, by decide⟩ ⟨w_rc (by omega) (by decide), w_rs (by omega) (by decide)⟩ d_677) (fun k1 u1 H locs hp V => ?_)
  obtain ⟨hI, hC, hF⟩ := hp
  obtain ⟨hJ, hM⟩ : q_I (msh g q) q u1 ∧ iM g q u1 := w_cM hJ hM hI (fun i h _ => hF i h)
  have hO : u1[169]? = (some (qo, .inl (g 1, 1, .inr (.inl fo))) : Option (Nat × va_E)) := (hF 169 (Nat.le_of_ble_eq_true rfl)).trans hO
  refine lv_istore (lv' := [(5, .int k1), (4, .int i0), (3, .ref qo), (2, .ref (q 116)), (1, .ref (q 0)), (0, .ref b)]) hx hb d_680 hl (by decide) rfl (fun ls hl => ?_)
  refine lv_aload_n hx hb d_682 rfl (lv_at hl 3 rfl) ?_
  refine lv_aload_n hx hb d_683 rfl (lv_at hl 5 rfl) ?_
  refine lv_iload hx hb d_684 (lv_at hl 1 rfl) ?_
  refine lv_iconst (v := 1) hx hb d_686 (by decide) ?_
  refine lv_iadd hx hb d_687 ?_
  refine q_ti (v := a1) ha1 ?_
  refine va_sld hx hb hX hbl hbA V.2.2.1 hin1 d_688 ?_
  refine q_ti (v := s1) hs1 ?_
  refine lv_aload_n hx hb d_689 rfl (lv_at hl 5 rfl) ?_
  refine lv_iload hx hb d_690 (lv_at hl 1 rfl) ?_
  refine lv_iconst (v := 2) hx hb d_692 (by decide) ?_
  refine lv_iadd hx hb d_693 ?_
  refine q_ti (v := a2) ha2 ?_
  refine va_sld hx hb hX hbl hbA V.2.2.1 hin2 d_694 ?_
  refine q_ti (v := s2) hs2 ?_
  refine lv_aload_n hx hb d_695 rfl (lv_at hl 5 rfl) ?_
  refine lv_iload hx hb d_696 (lv_at hl 1 rfl) ?_
  refine lv_iconst (v := 3) hx hb d_698 (by decide) ?_
  refine lv_iadd hx hb d_699 ?_
  refine q_ti (v := a3) ha3 ?_
  refine va_sld hx hb hX hbl hbA V.2.2.1 hin3 d_700 ?_
  refine q_ti (v := s3) hs3 ?_
  refine lv_aload_n hx hb d_701 rfl (lv_at hl 5 rfl) ?_
  refine lv_iload hx hb d_702 (lv_at hl 1 rfl) ?_
  refine lv_iconst (v := 4) hx hb d_704 (by decide) ?_
  refine lv_iadd hx hb d_705 ?_
  refine q_ti (v := a4) ha4 ?_
  refine va_sld hx hb hX hbl hbA V.2.2.1 hin4 d_706 ?_
  refine q_ti (v := s4) hs4 ?_
  obtain ⟨rA, rB, rC, hP0, -⟩ := n_o116 hJ
  refine q_gov V (q_runV (As := [.int s1, .int s2, .int s3, .int s4]) (rest := []) (d := 6) (mc := 0) (ms := 0) (ci := 12) C0 V rfl LV_NL_124 (CM_decimal l D g q u1 s1 s2 s3 s4 hJ hM _) rfl rfl hP0 rfl hl.1 rfl (Nat.le_of_ble_eq_true rfl) ⟨by decide, by decide⟩ ⟨w_rc (by omega) (by decide), w_rs (by omega) (by decide)⟩ d_707) (fun u3 H locs hp V => ?_)
  obtain ⟨hJ, hM, hF⟩ := hp
  obtain ⟨hI, hC⟩ : q_I (nsh g q) q u3 ∧ iC g q u3 := w_cC hI hC (fun i h => hF i (by omega))
  have hO : u3[169]? = (some (qo, .inl (g 1, 1, .inr (.inl fo))) : Option (Nat × va_E)) := (hF 169 (by decide)).trans hO
  refine lv_goto (tgt := 1279) hx hb d_710 (by decide) ?_
  refine W.widen (k := cells + 10) (n := slots + 100) (by omega) (by omega) ?_
  exact kend _ _ _ _ _ V hI hC hJ hM hO (q_lw hl (q_lw1 1 rfl (q_lw1 2 rfl (q_lw1 3 rfl (q_lw1 4 rfl (q_lw1 5 rfl q_lw0))))))
/-! the law, case 10: decimalBy -/
theorem d_713 : decode code 713 = .ok (.aload_n 1, 1) := by decide +kernel
theorem d_714 : decode code 714 = .ok (.aload_n 0, 1) := by decide +kernel
theorem d_715 : decode code 715 = .ok (.iload 4, 2) := by decide +kernel
theorem d_717 : decode code 717 = .ok (.iconst 1, 1) := by decide +kernel
theorem d_718 : decode code 718 = .ok (.iadd, 1) := by decide +kernel
theorem d_719 : decode code 719 = .ok (.iaload, 1) := by decide +kernel
theorem d_720 : decode code 720 = .ok (.aload_n 0, 1) := by decide +kernel
theorem d_721 : decode code 721 = .ok (.iload 4, 2) := by decide +kernel
theorem d_723 : decode code 723 = .ok (.iconst 2, 1) := by decide +kernel
theorem d_724 : decode code 724 = .ok (.iadd, 1) := by decide +kernel
theorem d_725 : decode code 725 = .ok (.iaload, 1) := by decide +kernel
theorem d_726 : decode code 726 = .ok (.aload_n 0, 1) := by decide +kernel
theorem d_727 : decode code 727 = .ok (.iload 4, 2) := by decide +kernel
theorem d_729 : decode code 729 = .ok (.iconst 3, 1) := by decide +kernel
theorem d_730 : decode code 730 = .ok (.iadd, 1) := by decide +kernel
theorem d_731 : decode code 731 = .ok (.iaload, 1) := by decide +kernel
theorem d_732 : decode code 732 = .ok (.aload_n 0, 1) := by decide +kernel
theorem d_733 : decode code 733 = .ok (.iload 4, 2) := by decide +kernel
theorem d_735 : decode code 735 = .ok (.iconst 4, 1) := by decide +kernel
theorem d_736 : decode code 736 = .ok (.iadd, 1) := by decide +kernel
theorem d_737 : decode code 737 = .ok (.iaload, 1) := by decide +kernel
set_option maxRecDepth 100000 in
theorem w_1397 : (Cond.codeWith ({ cls := "NumberHouseLaw", name := "decimalBy", desc := "(LNumberHouse;IIII)I" } : MethodName) method_12_code (6 : Nat) (some .int) [((0 : Nat), (9 : Nat), (12 : Nat), (13 : Nat)), ((0 : Nat), (9 : Nat), (16 : Nat), (19 : Nat))]) ∈ q_tbl := q_of6 197 rfl (by decide +kernel)
set_option maxRecDepth 100000 in
theorem w_1395 : (Cond.methodLink "NumberHouseLaw" (125 : Nat) ({ cls := "NumberHouseLaw", name := "decimalBy", desc := "(LNumberHouse;IIII)I" } : MethodName)) ∈ q_tbl := q_of6 195 rfl (by decide +kernel)
set_option maxRecDepth 100000 in
theorem w_1396 : (Cond.static ({ cls := "NumberHouseLaw", name := "decimalBy", desc := "(LNumberHouse;IIII)I" } : MethodName)) ∈ q_tbl := q_of6 196 rfl (by decide +kernel)
theorem LW_NL_125 : q_LW "NumberHouseLaw" 125 y_NL_decimalBy method_12_code 6 (some .int) [(0, 9, 12, 13), (0, 9, 16, 19)] 5 := ⟨w_1397, w_0, w_1395, w_1396, ⟨by decide, by decide, by decide +kernel⟩⟩
theorem d_738 : decode code 738 = .ok (.invokestatic 125, 3) := by decide +kernel
theorem d_741 : decode code 741 = .ok (.istore 5, 2) := by decide +kernel
theorem d_743 : decode code 743 = .ok (.aload_n 2, 1) := by decide +kernel
theorem d_744 : decode code 744 = .ok (.aload_n 0, 1) := by decide +kernel
theorem d_745 : decode code 745 = .ok (.iload 4, 2) := by decide +kernel
theorem d_747 : decode code 747 = .ok (.iconst 1, 1) := by decide +kernel
theorem d_748 : decode code 748 = .ok (.iadd, 1) := by decide +kernel
theorem d_749 : decode code 749 = .ok (.iaload, 1) := by decide +kernel
theorem d_750 : decode code 750 = .ok (.aload_n 0, 1) := by decide +kernel
theorem d_751 : decode code 751 = .ok (.iload 4, 2) := by decide +kernel
theorem d_753 : decode code 753 = .ok (.iconst 2, 1) := by decide +kernel
theorem d_754 : decode code 754 = .ok (.iadd, 1) := by decide +kernel
theorem d_755 : decode code 755 = .ok (.iaload, 1) := by decide +kernel
theorem d_756 : decode code 756 = .ok (.aload_n 0, 1) := by decide +kernel
theorem d_757 : decode code 757 = .ok (.iload 4, 2) := by decide +kernel
theorem d_759 : decode code 759 = .ok (.iconst 3, 1) := by decide +kernel
theorem d_760 : decode code 760 = .ok (.iadd, 1) := by decide +kernel
theorem d_761 : decode code 761 = .ok (.iaload, 1) := by decide +kernel
theorem d_762 : decode code 762 = .ok (.aload_n 0, 1) := by decide +kernel
theorem d_763 : decode code 763 = .ok (.iload 4, 2) := by decide +kernel
theorem d_765 : decode code 765 = .ok (.iconst 4, 1) := by decide +kernel
theorem d_766 : decode code 766 = .ok (.iadd, 1) := by decide +kernel
theorem d_767 : decode code 767 = .ok (.iaload, 1) := by decide +kernel
set_option maxRecDepth 100000 in
theorem w_2847 : (Cond.code ({ cls := "NumberHouseModel", name := "decimalBy", desc := "(IIII)V" } : MethodName) prog_14_method_24_code (5 : Nat) (none : Option ClassFile.FieldType)) ∈ q_tbl := q_of12 207 rfl (by decide +kernel)
set_option maxRecDepth 100000 in
theorem w_2844 : (Cond.methodLink "NumberHouseLaw" (127 : Nat) ({ cls := "NumberHouseModel", name := "decimalBy", desc := "(IIII)V" } : MethodName)) ∈ q_tbl := q_of12 204 rfl (by decide +kernel)
set_option maxRecDepth 100000 in
theorem w_2845 : (Cond.instanceMethod ({ cls := "NumberHouseModel", name := "decimalBy", desc := "(IIII)V" } : MethodName)) ∈ q_tbl := q_of12 205 rfl (by decide +kernel)
set_option maxRecDepth 100000 in
theorem w_2846 : (Cond.selects "NumberHouseModel" ({ cls := "NumberHouseModel", name := "decimalBy", desc := "(IIII)V" } : MethodName) ({ cls := "NumberHouseModel", name := "decimalBy", desc := "(IIII)V" } : MethodName)) ∈ q_tbl := q_of12 206 rfl (by decide +kernel)
theorem LV_NL_127 : q_LV "NumberHouseLaw" 127 y_NM_decimalBy prog_14_method_24_code 5 none 4 := ⟨w_2847, w_14, w_2844, w_2845, w_2846, ⟨by decide, by decide, by decide +kernel⟩⟩
theorem d_768 : decode code 768 = .ok (.invokevirtual 127, 3) := by decide +kernel
theorem d_771 : decode code 771 = .ok (.goto 508, 3) := by decide +kernel
set_option maxRecDepth 100000 in
set_option maxHeartbeats 4000000 in
theorem law_k10 {p : Program} {l : Launch} {e : Env} {s : State} {m : MethodId} {below : List Frame} {meth : Method} {c : Code} {b L : Nat} {xs : Nat → Int32} {D : va_G} {g : Nat → ClassId} {q : Nat → Nat} {qo : Nat} {A : Nat → Prop} {ws : va_W} {H : Heap} {locs : List Loc} {Q : State → Prop} {ls : Array Slot} {fo : Nat → Int64} {i0 : Int32} {cells slots : Nat} (hcb : cells ≤ 6000) (hsb : slots ≤ 300000) (hlt : l.stackTraces = false) (C0 : q_At p s m #[Value.ref b] meth c y_NL_law code 8 (some .boolean)) (hX : va_X b L xs s s.heap) (hbl : b < s.heap.size) (hbA : ¬ A b) (V : q_Wd D g A s ws H locs) (hI : q_I (nsh g q) q ws) (hC : iC g q ws) (hJ : q_I (msh g q) q ws) (hM : iM g q ws) (hO : ws[169]? = (some (qo, .inl (g 1, 1, .inr (.inl fo))) : Option (Nat × va_E))) (hi0 : 0 ≤ i0.toInt ∧ i0.toInt + 6 ≤ (L : Int) ∧ (L : Int) ≤ 3072) (hl : lv_has ls 8 [(4, .int i0), (3, .ref qo), (2, .ref (q 116)), (1, .ref (q 0)), (0, .ref b)]) (kend : ∀ (H : Heap) (locs : List Loc) (u : va_W) (f2 : Nat → Int64) (ls : Array Slot), q_Wd D g A s u H locs → q_I (nsh g q) q u → iC g q u → q_I (msh g q) q u → iM g q u → u[169]? = (some (qo, .inl (g 1, 1, .inr (.inl f2))) : Option (Nat × va_E)) → lv_has ls 8 [(4, .int i0), (3, .ref qo), (2, .ref (q 116)), (1, .ref (q 0)), (0, .ref b)] → W p l e room_1 s m #[Value.ref b] below meth c H locs (cells + 10) (slots + 100) Q (F0 m 1279 ls [])) : W p l e room_1 s m #[Value.ref b] below meth c H locs cells slots Q (F0 m 713 ls []) := by
  have hx := C0.1
  have hb := C0.2.1
  obtain ⟨a1, ha1⟩ : ∃ z : Int32, i0 + 1 = z := ⟨_, rfl⟩
  have hin1 : vp_in a1 L := w_in ha1 (by decide) hi0
  obtain ⟨s1, hs1⟩ : ∃ z : Int32, xs a1.toNatClampNeg = z := ⟨_, rfl⟩
  obtain ⟨a2, ha2⟩ : ∃ z : Int32, i0 + 2 = z := ⟨_, rfl⟩
  have hin2 : vp_in a2 L := w_in ha2 (by decide) hi0
  obtain ⟨s2, hs2⟩ : ∃ z : Int32, xs a2.toNatClampNeg = z := ⟨_, rfl⟩
  obtain ⟨a3, ha3⟩ : ∃ z : Int32, i0 + 3 = z := ⟨_, rfl⟩
  have hin3 : vp_in a3 L := w_in ha3 (by decide) hi0
  obtain ⟨s3, hs3⟩ : ∃ z : Int32, xs a3.toNatClampNeg = z := ⟨_, rfl⟩
  obtain ⟨a4, ha4⟩ : ∃ z : Int32, i0 + 4 = z := ⟨_, rfl⟩
  have hin4 : vp_in a4 L := w_in ha4 (by decide) hi0
  obtain ⟨s4, hs4⟩ : ∃ z : Int32, xs a4.toNatClampNeg = z := ⟨_, rfl⟩
  refine lv_aload_n hx hb d_713 rfl (lv_at hl 3 rfl) ?_
  refine lv_aload_n hx hb d_714 rfl (lv_at hl 4 rfl) ?_
  refine lv_iload hx hb d_715 (lv_at hl 0 rfl) ?_
  refine lv_iconst (v := 1) hx hb d_717 (by decide) ?_
  refine lv_iadd hx hb d_718 ?_
  refine q_ti (v := a1) ha1 ?_
  refine va_sld hx hb hX hbl hbA V.2.2.1 hin1 d_719 ?_
  refine q_ti (v := s1) hs1 ?_
  refine lv_aload_n hx hb d_720 rfl (lv_at hl 4 rfl) ?_
  refine lv_iload hx hb d_721 (lv_at hl 0 rfl) ?_
  refine lv_iconst (v := 2) hx hb d_723 (by decide) ?_
  refine lv_iadd hx hb d_724 ?_
  refine q_ti (v := a2) ha2 ?_
  refine va_sld hx hb hX hbl hbA V.2.2.1 hin2 d_725 ?_
  refine q_ti (v := s2) hs2 ?_
  refine lv_aload_n hx hb d_726 rfl (lv_at hl 4 rfl) ?_
  refine lv_iload hx hb d_727 (lv_at hl 0 rfl) ?_
  refine lv_iconst (v := 3) hx hb d_729 (by decide) ?_
  refine lv_iadd hx hb d_730 ?_
  refine q_ti (v := a3) ha3 ?_
  refine va_sld hx hb hX hbl hbA V.2.2.1 hin3 d_731 ?_
  refine q_ti (v := s3) hs3 ?_
  refine lv_aload_n hx hb d_732 rfl (lv_at hl 4 rfl) ?_
  refine lv_iload hx hb d_733 (lv_at hl 0 rfl) ?_
  refine lv_iconst (v := 4) hx hb d_735 (by decide) ?_
  refine lv_iadd hx hb d_736 ?_
  refine q_ti (v := a4) ha4 ?_
  refine va_sld hx hb hX hbl hbA V.2.2.1 hin4 d_737 ?_
  refine q_ti (v := s4) hs4 ?_
  refine q_goi V (q_runSW (As := [.ref (q 0), .int s1, .int s2, .int s3, .int s4]) (rest := []) (d := 10) (mc := 4) (ms := 24) C0 V rfl LW_NL_125 (w_NL_decimalBy l D g q ws s1 s2 s3 s4 hlt hI hC _) rfl hl.1 rfl (Nat.le_of_ble_eq_true rfl) ⟨by decide, by decide⟩ ⟨w_rc (by omega) (by decide), w_rs (by omega) (by decide)⟩ d_738) (fun k1 u1 H locs hp V => ?_)
  obtain ⟨hI, hC, hF⟩ := hp
  obtain ⟨hJ, hM⟩ : q_I (msh g q) q u1 ∧ iM g q u1 := w_cM hJ hM hI (fun i h _ => hF i h)
  have hO : u1[169]? = (some (qo, .inl (g 1, 1, .inr (.inl fo))) : Option (Nat × va_E)) := (hF 169 (Nat.le_of_ble_eq_true rfl)).trans hO
  refine lv_istore (lv' := [(5, .int k1), (4, .int i0), (3, .ref qo), (2, .ref (q 116)), (1, .ref (q 0)), (0, .ref b)]) hx hb d_741 hl (by decide) rfl (fun ls hl => ?_)
  refine lv_aload_n hx hb d_743 rfl (lv_at hl 3 rfl) ?_
  refine lv_aload_n hx hb d_744 rfl (lv_at hl 5 rfl) ?_
  refine lv_iload hx hb d_745 (lv_at hl 1 rfl) ?_
  refine lv_iconst (v := 1) hx hb d_747 (by decide) ?_
  refine lv_iadd hx hb d_748 ?_
  refine q_ti (v := a1) ha1 ?_
  refine va_sld hx hb hX hbl hbA V.2.2.1 hin1 d_749 ?_
  refine q_ti (v := s1) hs1 ?_
  refine lv_aload_n hx hb d_750 rfl (lv_at hl 5 rfl) ?_
  refine lv_iload hx hb d_751 (lv_at hl 1 rfl) ?_
  refine lv_iconst (v := 2) hx hb d_753 (by decide) ?_
  refine lv_iadd hx hb d_754 ?_
  refine q_ti (v := a2) ha2 ?_
  refine va_sld hx hb hX hbl hbA V.2.2.1 hin2 d_755 ?_
  refine q_ti (v := s2) hs2 ?_
  refine lv_aload_n hx hb d_756 rfl (lv_at hl 5 rfl) ?_
  refine lv_iload hx hb d_757 (lv_at hl 1 rfl) ?_
  refine lv_iconst (v := 3) hx hb d_759 (by decide) ?_
  refine lv_iadd hx hb d_760 ?_
  refine q_ti (v := a3) ha3 ?_
  refine va_sld hx hb hX hbl hbA V.2.2.1 hin3 d_761 ?_
  refine q_ti (v := s3) hs3 ?_
  refine lv_aload_n hx hb d_762 rfl (lv_at hl 5 rfl) ?_
  refine lv_iload hx hb d_763 (lv_at hl 1 rfl) ?_
  refine lv_iconst (v := 4) hx hb d_765 (by decide) ?_
  refine lv_iadd hx hb d_766 ?_
  refine q_ti (v := a4) ha4 ?_
  refine va_sld hx hb hX hbl hbA V.2.2.1 hin4 d_767 ?_
  refine q_ti (v := s4) hs4 ?_
  obtain ⟨rA, rB, rC, hP0, -⟩ := n_o116 hJ
  refine q_gov V (q_runV (As := [.int s1, .int s2, .int s3, .int s4]) (rest := []) (d := 4) (mc := 0) (ms := 0) (ci := 12) C0 V rfl LV_NL_127 (CM_decimalBy l D g q u1 s1 s2 s3 s4 hJ hM _) rfl rfl hP0 rfl hl.1 rfl (Nat.le_of_ble_eq_true rfl) ⟨by decide, by decide⟩ ⟨w_rc (by omega) (by decide), w_rs (by omega) (by decide)⟩ d_768) (fun u3 H locs hp V => ?_)
  obtain ⟨hJ, hM, hF⟩ := hp
  obtain ⟨hI, hC⟩ : q_I (nsh g q) q u3 ∧ iC g q u3 := w_cC hI hC (fun i h => hF i (by omega))
  have hO : u3[169]? = (some (qo, .inl (g 1, 1, .inr (.inl fo))) : Option (Nat × va_E)) := (hF 169 (by decide)).trans hO
  refine lv_goto (tgt := 1279) hx hb d_771 (by decide) ?_
  refine W.widen (k := cells + 10) (n := slots + 100) (by omega) (by omega) ?_
  exact kend _ _ _ _ _ V hI hC hJ hM hO (q_lw hl (q_lw1 1 rfl (q_lw1 2 rfl (q_lw1 3 rfl (q_lw1 4 rfl (q_lw1 5 rfl q_lw0))))))
/-! the law, case 11: divide -/
theorem d_774 : decode code 774 = .ok (.aload_n 1, 1) := by decide +kernel
theorem d_775 : decode code 775 = .ok (.aload_n 0, 1) := by decide +kernel
theorem d_776 : decode code 776 = .ok (.iload 4, 2) := by decide +kernel
theorem d_778 : decode code 778 = .ok (.iconst 1, 1) := by decide +kernel
theorem d_779 : decode code 779 = .ok (.iadd, 1) := by decide +kernel
theorem d_780 : decode code 780 = .ok (.iaload, 1) := by decide +kernel
theorem d_781 : decode code 781 = .ok (.aload_n 0, 1) := by decide +kernel
theorem d_782 : decode code 782 = .ok (.iload 4, 2) := by decide +kernel
theorem d_784 : decode code 784 = .ok (.iconst 2, 1) := by decide +kernel
theorem d_785 : decode code 785 = .ok (.iadd, 1) := by decide +kernel
theorem d_786 : decode code 786 = .ok (.iaload, 1) := by decide +kernel
theorem d_787 : decode code 787 = .ok (.aload_n 0, 1) := by decide +kernel
theorem d_788 : decode code 788 = .ok (.iload 4, 2) := by decide +kernel
theorem d_790 : decode code 790 = .ok (.iconst 3, 1) := by decide +kernel
theorem d_791 : decode code 791 = .ok (.iadd, 1) := by decide +kernel
theorem d_792 : decode code 792 = .ok (.iaload, 1) := by decide +kernel
theorem d_793 : decode code 793 = .ok (.aload_n 0, 1) := by decide +kernel
theorem d_794 : decode code 794 = .ok (.iload 4, 2) := by decide +kernel
theorem d_796 : decode code 796 = .ok (.iconst 4, 1) := by decide +kernel
theorem d_797 : decode code 797 = .ok (.iadd, 1) := by decide +kernel
theorem d_798 : decode code 798 = .ok (.iaload, 1) := by decide +kernel
theorem d_799 : decode code 799 = .ok (.aload_n 0, 1) := by decide +kernel
theorem d_800 : decode code 800 = .ok (.iload 4, 2) := by decide +kernel
theorem d_802 : decode code 802 = .ok (.iconst 5, 1) := by decide +kernel
theorem d_803 : decode code 803 = .ok (.iadd, 1) := by decide +kernel
theorem d_804 : decode code 804 = .ok (.iaload, 1) := by decide +kernel
set_option maxRecDepth 100000 in
theorem w_1423 : (Cond.codeWith ({ cls := "NumberHouseLaw", name := "divide", desc := "(LNumberHouse;IIIII)I" } : MethodName) method_13_code (7 : Nat) (some .int) [((0 : Nat), (11 : Nat), (14 : Nat), (13 : Nat)), ((0 : Nat), (11 : Nat), (18 : Nat), (19 : Nat))]) ∈ q_tbl := q_of6 223 rfl (by decide +kernel)
set_option maxRecDepth 100000 in
theorem w_1421 : (Cond.methodLink "NumberHouseLaw" (128 : Nat) ({ cls := "NumberHouseLaw", name := "divide", desc := "(LNumberHouse;IIIII)I" } : MethodName)) ∈ q_tbl := q_of6 221 rfl (by decide +kernel)
set_option maxRecDepth 100000 in
theorem w_1422 : (Cond.static ({ cls := "NumberHouseLaw", name := "divide", desc := "(LNumberHouse;IIIII)I" } : MethodName)) ∈ q_tbl := q_of6 222 rfl (by decide +kernel)
theorem LW_NL_128 : q_LW "NumberHouseLaw" 128 y_NL_divide method_13_code 7 (some .int) [(0, 11, 14, 13), (0, 11, 18, 19)] 6 := ⟨w_1423, w_0, w_1421, w_1422, ⟨by decide, by decide, by decide +kernel⟩⟩
theorem d_805 : decode code 805 = .ok (.invokestatic 128, 3) := by decide +kernel
theorem d_808 : decode code 808 = .ok (.istore 5, 2) := by decide +kernel
theorem d_810 : decode code 810 = .ok (.aload_n 2, 1) := by decide +kernel
theorem d_811 : decode code 811 = .ok (.aload_n 0, 1) := by decide +kernel
theorem d_812 : decode code 812 = .ok (.iload 4, 2) := by decide +kernel
theorem d_814 : decode code 814 = .ok (.iconst 1, 1) := by decide +kernel
theorem d_815 : decode code 815 = .ok (.iadd, 1) := by decide +kernel
theorem d_816 : decode code 816 = .ok (.iaload, 1) := by decide +kernel
theorem d_817 : decode code 817 = .ok (.aload_n 0, 1) := by decide +kernel
theorem d_818 : decode code 818 = .ok (.iload 4, 2) := by decide +kernel
theorem d_820 : decode code 820 = .ok (.iconst 2, 1) := by decide +kernel
theorem d_821 : decode code 821 = .ok (.iadd, 1) := by decide +kernel
theorem d_822 : decode code 822 = .ok (.iaload, 1) := by decide +kernel
theorem d_823 : decode code 823 = .ok (.aload_n 0, 1) := by decide +kernel
theorem d_824 : decode code 824 = .ok (.iload 4, 2) := by decide +kernel
theorem d_826 : decode code 826 = .ok (.iconst 3, 1) := by decide +kernel
theorem d_827 : decode code 827 = .ok (.iadd, 1) := by decide +kernel
theorem d_828 : decode code 828 = .ok (.iaload, 1) := by decide +kernel
theorem d_829 : decode code 829 = .ok (.aload_n 0, 1) := by decide +kernel
theorem d_830 : decode code 830 = .ok (.iload 4, 2) := by decide +kernel
theorem d_832 : decode code 832 = .ok (.iconst 4, 1) := by decide +kernel
theorem d_833 : decode code 833 = .ok (.iadd, 1) := by decide +kernel
theorem d_834 : decode code 834 = .ok (.iaload, 1) := by decide +kernel
theorem d_835 : decode code 835 = .ok (.aload_n 0, 1) := by decide +kernel
theorem d_836 : decode code 836 = .ok (.iload 4, 2) := by decide +kernel
theorem d_838 : decode code 838 = .ok (.iconst 5, 1) := by decide +kernel
theorem d_839 : decode code 839 = .ok (.iadd, 1) := by decide +kernel
theorem d_840 : decode code 840 = .ok (.iaload, 1) := by decide +kernel
set_option maxRecDepth 100000 in
theorem w_2867 : (Cond.code ({ cls := "NumberHouseModel", name := "divide", desc := "(IIIII)V" } : MethodName) prog_14_method_25_code (6 : Nat) (none : Option ClassFile.FieldType)) ∈ q_tbl := q_of12 227 rfl (by decide +kernel)
set_option maxRecDepth 100000 in
theorem w_2864 : (Cond.methodLink "NumberHouseLaw" (131 : Nat) ({ cls := "NumberHouseModel", name := "divide", desc := "(IIIII)V" } : MethodName)) ∈ q_tbl := q_of12 224 rfl (by decide +kernel)
set_option maxRecDepth 100000 in
theorem w_2865 : (Cond.instanceMethod ({ cls := "NumberHouseModel", name := "divide", desc := "(IIIII)V" } : MethodName)) ∈ q_tbl := q_of12 225 rfl (by decide +kernel)
set_option maxRecDepth 100000 in
theorem w_2866 : (Cond.selects "NumberHouseModel" ({ cls := "NumberHouseModel", name := "divide", desc := "(IIIII)V" } : MethodName) ({ cls := "NumberHouseModel", name := "divide", desc := "(IIIII)V" } : MethodName)) ∈ q_tbl := q_of12 226 rfl (by decide +kernel)
theorem LV_NL_131 : q_LV "NumberHouseLaw" 131 y_NM_divide prog_14_method_25_code 6 none 5 := ⟨w_2867, w_14, w_2864, w_2865, w_2866, ⟨by decide, by decide, by decide +kernel⟩⟩
theorem d_841 : decode code 841 = .ok (.invokevirtual 131, 3) := by decide +kernel
theorem d_844 : decode code 844 = .ok (.goto 435, 3) := by decide +kernel
set_option maxRecDepth 100000 in
set_option maxHeartbeats 4000000 in
theorem law_k11 {p : Program} {l : Launch} {e : Env} {s : State} {m : MethodId} {below : List Frame} {meth : Method} {c : Code} {b L : Nat} {xs : Nat → Int32} {D : va_G} {g : Nat → ClassId} {q : Nat → Nat} {qo : Nat} {A : Nat → Prop} {ws : va_W} {H : Heap} {locs : List Loc} {Q : State → Prop} {ls : Array Slot} {fo : Nat → Int64} {i0 : Int32} {cells slots : Nat} (hcb : cells ≤ 6000) (hsb : slots ≤ 300000) (hlt : l.stackTraces = false) (C0 : q_At p s m #[Value.ref b] meth c y_NL_law code 8 (some .boolean)) (hX : va_X b L xs s s.heap) (hbl : b < s.heap.size) (hbA : ¬ A b) (V : q_Wd D g A s ws H locs) (hI : q_I (nsh g q) q ws) (hC : iC g q ws) (hJ : q_I (msh g q) q ws) (hM : iM g q ws) (hO : ws[169]? = (some (qo, .inl (g 1, 1, .inr (.inl fo))) : Option (Nat × va_E))) (hi0 : 0 ≤ i0.toInt ∧ i0.toInt + 6 ≤ (L : Int) ∧ (L : Int) ≤ 3072) (hl : lv_has ls 8 [(4, .int i0), (3, .ref qo), (2, .ref (q 116)), (1, .ref (q 0)), (0, .ref b)]) (kend : ∀ (H : Heap) (locs : List Loc) (u : va_W) (f2 : Nat → Int64) (ls : Array Slot), q_Wd D g A s u H locs → q_I (nsh g q) q u → iC g q u → q_I (msh g q) q u → iM g q u → u[169]? = (some (qo, .inl (g 1, 1, .inr (.inl f2))) : Option (Nat × va_E)) → lv_has ls 8 [(4, .int i0), (3, .ref qo), (2, .ref (q 116)), (1, .ref (q 0)), (0, .ref b)] → W p l e room_1 s m #[Value.ref b] below meth c H locs (cells + 10) (slots + 100) Q (F0 m 1279 ls [])) : W p l e room_1 s m #[Value.ref b] below meth c H locs cells slots Q (F0 m 774 ls []) := by
  have hx := C0.1
  have hb := C0.2.1
  obtain ⟨a1, ha1⟩ : ∃ z : Int32, i0 + 1 = z := ⟨_, rfl⟩
  have hin1 : vp_in a1 L := w_in ha1 (by decide) hi0
  obtain ⟨s1, hs1⟩ : ∃ z : Int32, xs a1.toNatClampNeg = z := ⟨_, rfl⟩
  obtain ⟨a2, ha2⟩ : ∃ z : Int32, i0 + 2 = z := ⟨_, rfl⟩
  have hin2 : vp_in a2 L := w_in ha2 (by decide) hi0
  obtain ⟨s2, hs2⟩ : ∃ z : Int32, xs a2.toNatClampNeg = z := ⟨_, rfl⟩
  obtain ⟨a3, ha3⟩ : ∃ z : Int32, i0 + 3 = z := ⟨_, rfl⟩
  have hin3 : vp_in a3 L := w_in ha3 (by decide) hi0
  obtain ⟨s3, hs3⟩ : ∃ z : Int32, xs a3.toNatClampNeg = z := ⟨_, rfl⟩
  obtain ⟨a4, ha4⟩ : ∃ z : Int32, i0 + 4 = z := ⟨_, rfl⟩
  have hin4 : vp_in a4 L := w_in ha4 (by decide) hi0
  obtain ⟨s4, hs4⟩ : ∃ z : Int32, xs a4.toNatClampNeg = z := ⟨_, rfl⟩
  obtain ⟨a5, ha5⟩ : ∃ z : Int32, i0 + 5 = z := ⟨_, rfl⟩
  have hin5 : vp_in a5 L := w_in ha5 (by decide) hi0
  obtain ⟨s5, hs5⟩ : ∃ z : Int32, xs a5.toNatClampNeg = z := ⟨_, rfl⟩
  refine lv_aload_n hx hb d_774 rfl (lv_at hl 3 rfl) ?_
  refine lv_aload_n hx hb d_775 rfl (lv_at hl 4 rfl) ?_
  refine lv_iload hx hb d_776 (lv_at hl 0 rfl) ?_
  refine lv_iconst (v := 1) hx hb d_778 (by decide) ?_
  refine lv_iadd hx hb d_779 ?_
  refine q_ti (v := a1) ha1 ?_
  refine va_sld hx hb hX hbl hbA V.2.2.1 hin1 d_780 ?_
  refine q_ti (v := s1) hs1 ?_
  refine lv_aload_n hx hb d_781 rfl (lv_at hl 4 rfl) ?_
  refine lv_iload hx hb d_782 (lv_at hl 0 rfl) ?_
  refine lv_iconst (v := 2) hx hb d_784 (by decide) ?_
  refine lv_iadd hx hb d_785 ?_
  refine q_ti (v := a2) ha2 ?_
  refine va_sld hx hb hX hbl hbA V.2.2.1 hin2 d_786 ?_
  refine q_ti (v := s2) hs2 ?_
  refine lv_aload_n hx hb d_787 rfl (lv_at hl 4 rfl) ?_
  refine lv_iload hx hb d_788 (lv_at hl 0 rfl) ?_
  refine lv_iconst (v := 3) hx hb d_790 (by decide) ?_
  refine lv_iadd hx hb d_791 ?_
  refine q_ti (v := a3) ha3 ?_
  refine va_sld hx hb hX hbl hbA V.2.2.1 hin3 d_792 ?_
  refine q_ti (v := s3) hs3 ?_
  refine lv_aload_n hx hb d_793 rfl (lv_at hl 4 rfl) ?_
  refine lv_iload hx hb d_794 (lv_at hl 0 rfl) ?_
  refine lv_iconst (v := 4) hx hb d_796 (by decide) ?_
  refine lv_iadd hx hb d_797 ?_
  refine q_ti (v := a4) ha4 ?_
  refine va_sld hx hb hX hbl hbA V.2.2.1 hin4 d_798 ?_
  refine q_ti (v := s4) hs4 ?_
  refine lv_aload_n hx hb d_799 rfl (lv_at hl 4 rfl) ?_
  refine lv_iload hx hb d_800 (lv_at hl 0 rfl) ?_
  refine lv_iconst (v := 5) hx hb d_802 (by decide) ?_
  refine lv_iadd hx hb d_803 ?_
  refine q_ti (v := a5) ha5 ?_
  refine va_sld hx hb hX hbl hbA V.2.2.1 hin5 d_804 ?_
  refine q_ti (v := s5) hs5 ?_
  refine q_goi V (q_runSW (As := [.ref (q 0), .int s1, .int s2, .int s3, .int s4, .int s5]) (rest := []) (d := 10) (mc := 4) (ms := 24) C0 V rfl LW_NL_128 (w_NL_divide l D g q ws s1 s2 s3 s4 s5 hlt hI hC _) rfl hl.1 rfl (Nat.le_of_ble_eq_true rfl) ⟨by decide, by decide⟩ ⟨w_rc (by omega) (by decide), w_rs (by omega) (by decide)⟩ d_805) (fun k1 u1 H locs hp V => ?_)
  obtain ⟨hI, hC, hF⟩ := hp
  obtain ⟨hJ, hM⟩ : q_I (msh g q) q u1 ∧ iM g q u1 := w_cM hJ hM hI (fun i h _ => hF i h)
  have hO : u1[169]? = (some (qo, .inl (g 1, 1, .inr (.inl fo))) : Option (Nat × va_E)) := (hF 169 (Nat.le_of_ble_eq_true rfl)).trans hO
  refine lv_istore (lv' := [(5, .int k1), (4, .int i0), (3, .ref qo), (2, .ref (q 116)), (1, .ref (q 0)), (0, .ref b)]) hx hb d_808 hl (by decide) rfl (fun ls hl => ?_)
  refine lv_aload_n hx hb d_810 rfl (lv_at hl 3 rfl) ?_
  refine lv_aload_n hx hb d_811 rfl (lv_at hl 5 rfl) ?_
  refine lv_iload hx hb d_812 (lv_at hl 1 rfl) ?_
  refine lv_iconst (v := 1) hx hb d_814 (by decide) ?_
  refine lv_iadd hx hb d_815 ?_
  refine q_ti (v := a1) ha1 ?_
  refine va_sld hx hb hX hbl hbA V.2.2.1 hin1 d_816 ?_
  refine q_ti (v := s1) hs1 ?_
  refine lv_aload_n hx hb d_817 rfl (lv_at hl 5 rfl) ?_
  refine lv_iload hx hb d_818 (lv_at hl 1 rfl) ?_
  refine lv_iconst (v := 2) hx hb d_820 (by decide) ?_
  refine lv_iadd hx hb d_821 ?_
  refine q_ti (v := a2) ha2 ?_
  refine va_sld hx hb hX hbl hbA V.2.2.1 hin2 d_822 ?_
  refine q_ti (v := s2) hs2 ?_
  refine lv_aload_n hx hb d_823 rfl (lv_at hl 5 rfl) ?_
  refine lv_iload hx hb d_824 (lv_at hl 1 rfl) ?_
  refine lv_iconst (v := 3) hx hb d_826 (by decide) ?_
  refine lv_iadd hx hb d_827 ?_
  refine q_ti (v := a3) ha3 ?_
  refine va_sld hx hb hX hbl hbA V.2.2.1 hin3 d_828 ?_
  refine q_ti (v := s3) hs3 ?_
  refine lv_aload_n hx hb d_829 rfl (lv_at hl 5 rfl) ?_
  refine lv_iload hx hb d_830 (lv_at hl 1 rfl) ?_
  refine lv_iconst (v := 4) hx hb d_832 (by decide) ?_
  refine lv_iadd hx hb d_833 ?_
  refine q_ti (v := a4) ha4 ?_
  refine va_sld hx hb hX hbl hbA V.2.2.1 hin4 d_834 ?_
  refine q_ti (v := s4) hs4 ?_
  refine lv_aload_n hx hb d_835 rfl (lv_at hl 5 rfl) ?_
  refine lv_iload hx hb d_836 (lv_at hl 1 rfl) ?_
  refine lv_iconst (v := 5) hx hb d_838 (by decide) ?_
  refine lv_iadd hx hb d_839 ?_
  refine q_ti (v := a5) ha5 ?_
  refine va_sld hx hb hX hbl hbA V.2.2.1 hin5 d_840 ?_
  refine q_ti (v := s5) hs5 ?_
  obtain ⟨rA, rB, rC, hP0, -⟩ := n_o116 hJ
  refine q_gov V (q_runV (As := [.int s1, .int s2, .int s3, .int s4, .int s5]) (rest := []) (d := 5) (mc := 0) (ms := 0) (ci := 12) C0 V rfl LV_NL_131 (CM_divide l D g q u1 s1 s2 s3 s4 s5 hJ hM _) rfl rfl hP0 rfl hl.1 rfl (Nat.le_of_ble_eq_true rfl) ⟨by decide, by decide⟩ ⟨w_rc (by omega) (by decide), w_rs (by omega) (by decide)⟩ d_841) (fun u3 H locs hp V => ?_)
  obtain ⟨hJ, hM, hF⟩ := hp
  obtain ⟨hI, hC⟩ : q_I (nsh g q) q u3 ∧ iC g q u3 := w_cC hI hC (fun i h => hF i (by omega))
  have hO : u3[169]? = (some (qo, .inl (g 1, 1, .inr (.inl fo))) : Option (Nat × va_E)) := (hF 169 (by decide)).trans hO
  refine lv_goto (tgt := 1279) hx hb d_844 (by decide) ?_
  refine W.widen (k := cells + 10) (n := slots + 100) (by omega) (by omega) ?_
  exact kend _ _ _ _ _ V hI hC hJ hM hO (q_lw hl (q_lw1 1 rfl (q_lw1 2 rfl (q_lw1 3 rfl (q_lw1 4 rfl (q_lw1 5 rfl q_lw0))))))
/-! the law, case 12: quotient -/
theorem d_847 : decode code 847 = .ok (.aload_n 1, 1) := by decide +kernel
theorem d_848 : decode code 848 = .ok (.aload_n 0, 1) := by decide +kernel
theorem d_849 : decode code 849 = .ok (.iload 4, 2) := by decide +kernel
theorem d_851 : decode code 851 = .ok (.iconst 1, 1) := by decide +kernel
theorem d_852 : decode code 852 = .ok (.iadd, 1) := by decide +kernel
theorem d_853 : decode code 853 = .ok (.iaload, 1) := by decide +kernel
theorem d_854 : decode code 854 = .ok (.aload_n 0, 1) := by decide +kernel
theorem d_855 : decode code 855 = .ok (.iload 4, 2) := by decide +kernel
theorem d_857 : decode code 857 = .ok (.iconst 2, 1) := by decide +kernel
theorem d_858 : decode code 858 = .ok (.iadd, 1) := by decide +kernel
theorem d_859 : decode code 859 = .ok (.iaload, 1) := by decide +kernel
theorem d_860 : decode code 860 = .ok (.aload_n 0, 1) := by decide +kernel
theorem d_861 : decode code 861 = .ok (.iload 4, 2) := by decide +kernel
theorem d_863 : decode code 863 = .ok (.iconst 3, 1) := by decide +kernel
theorem d_864 : decode code 864 = .ok (.iadd, 1) := by decide +kernel
theorem d_865 : decode code 865 = .ok (.iaload, 1) := by decide +kernel
theorem d_866 : decode code 866 = .ok (.aload_n 0, 1) := by decide +kernel
theorem d_867 : decode code 867 = .ok (.iload 4, 2) := by decide +kernel
theorem d_869 : decode code 869 = .ok (.iconst 4, 1) := by decide +kernel
theorem d_870 : decode code 870 = .ok (.iadd, 1) := by decide +kernel
theorem d_871 : decode code 871 = .ok (.iaload, 1) := by decide +kernel
theorem d_872 : decode code 872 = .ok (.aload_n 0, 1) := by decide +kernel
theorem d_873 : decode code 873 = .ok (.iload 4, 2) := by decide +kernel
theorem d_875 : decode code 875 = .ok (.iconst 5, 1) := by decide +kernel
theorem d_876 : decode code 876 = .ok (.iadd, 1) := by decide +kernel
theorem d_877 : decode code 877 = .ok (.iaload, 1) := by decide +kernel
set_option maxRecDepth 100000 in
theorem w_1460 : (Cond.codeWith ({ cls := "NumberHouseLaw", name := "quotient", desc := "(LNumberHouse;IIIII)I" } : MethodName) method_14_code (7 : Nat) (some .int) [((0 : Nat), (11 : Nat), (14 : Nat), (13 : Nat)), ((0 : Nat), (11 : Nat), (18 : Nat), (19 : Nat))]) ∈ q_tbl := q_of7 20 rfl (by decide +kernel)
set_option maxRecDepth 100000 in
theorem w_1458 : (Cond.methodLink "NumberHouseLaw" (132 : Nat) ({ cls := "NumberHouseLaw", name := "quotient", desc := "(LNumberHouse;IIIII)I" } : MethodName)) ∈ q_tbl := q_of7 18 rfl (by decide +kernel)
set_option maxRecDepth 100000 in
theorem w_1459 : (Cond.static ({ cls := "NumberHouseLaw", name := "quotient", desc := "(LNumberHouse;IIIII)I" } : MethodName)) ∈ q_tbl := q_of7 19 rfl (by decide +kernel)
theorem LW_NL_132 : q_LW "NumberHouseLaw" 132 y_NL_quotient method_14_code 7 (some .int) [(0, 11, 14, 13), (0, 11, 18, 19)] 6 := ⟨w_1460, w_0, w_1458, w_1459, ⟨by decide, by decide, by decide +kernel⟩⟩
theorem d_878 : decode code 878 = .ok (.invokestatic 132, 3) := by decide +kernel
theorem d_881 : decode code 881 = .ok (.istore 5, 2) := by decide +kernel
theorem d_883 : decode code 883 = .ok (.aload_n 2, 1) := by decide +kernel
theorem d_884 : decode code 884 = .ok (.aload_n 0, 1) := by decide +kernel
theorem d_885 : decode code 885 = .ok (.iload 4, 2) := by decide +kernel
theorem d_887 : decode code 887 = .ok (.iconst 1, 1) := by decide +kernel
theorem d_888 : decode code 888 = .ok (.iadd, 1) := by decide +kernel
theorem d_889 : decode code 889 = .ok (.iaload, 1) := by decide +kernel
theorem d_890 : decode code 890 = .ok (.aload_n 0, 1) := by decide +kernel
theorem d_891 : decode code 891 = .ok (.iload 4, 2) := by decide +kernel
theorem d_893 : decode code 893 = .ok (.iconst 2, 1) := by decide +kernel
theorem d_894 : decode code 894 = .ok (.iadd, 1) := by decide +kernel
theorem d_895 : decode code 895 = .ok (.iaload, 1) := by decide +kernel
theorem d_896 : decode code 896 = .ok (.aload_n 0, 1) := by decide +kernel
theorem d_897 : decode code 897 = .ok (.iload 4, 2) := by decide +kernel
theorem d_899 : decode code 899 = .ok (.iconst 3, 1) := by decide +kernel
theorem d_900 : decode code 900 = .ok (.iadd, 1) := by decide +kernel
theorem d_901 : decode code 901 = .ok (.iaload, 1) := by decide +kernel
theorem d_902 : decode code 902 = .ok (.aload_n 0, 1) := by decide +kernel
theorem d_903 : decode code 903 = .ok (.iload 4, 2) := by decide +kernel
theorem d_905 : decode code 905 = .ok (.iconst 4, 1) := by decide +kernel
theorem d_906 : decode code 906 = .ok (.iadd, 1) := by decide +kernel
theorem d_907 : decode code 907 = .ok (.iaload, 1) := by decide +kernel
theorem d_908 : decode code 908 = .ok (.aload_n 0, 1) := by decide +kernel
theorem d_909 : decode code 909 = .ok (.iload 4, 2) := by decide +kernel
theorem d_911 : decode code 911 = .ok (.iconst 5, 1) := by decide +kernel
theorem d_912 : decode code 912 = .ok (.iadd, 1) := by decide +kernel
theorem d_913 : decode code 913 = .ok (.iaload, 1) := by decide +kernel
set_option maxRecDepth 100000 in
theorem w_2886 : (Cond.code ({ cls := "NumberHouseModel", name := "quotient", desc := "(IIIII)V" } : MethodName) prog_14_method_26_code (6 : Nat) (none : Option ClassFile.FieldType)) ∈ q_tbl := q_of13 6 rfl (by decide +kernel)
set_option maxRecDepth 100000 in
theorem w_2883 : (Cond.methodLink "NumberHouseLaw" (134 : Nat) ({ cls := "NumberHouseModel", name := "quotient", desc := "(IIIII)V" } : MethodName)) ∈ q_tbl := q_of13 3 rfl (by decide +kernel)
set_option maxRecDepth 100000 in
theorem w_2884 : (Cond.instanceMethod ({ cls := "NumberHouseModel", name := "quotient", desc := "(IIIII)V" } : MethodName)) ∈ q_tbl := q_of13 4 rfl (by decide +kernel)
set_option maxRecDepth 100000 in
theorem w_2885 : (Cond.selects "NumberHouseModel" ({ cls := "NumberHouseModel", name := "quotient", desc := "(IIIII)V" } : MethodName) ({ cls := "NumberHouseModel", name := "quotient", desc := "(IIIII)V" } : MethodName)) ∈ q_tbl := q_of13 5 rfl (by decide +kernel)
theorem LV_NL_134 : q_LV "NumberHouseLaw" 134 y_NM_quotient prog_14_method_26_code 6 none 5 := ⟨w_2886, w_14, w_2883, w_2884, w_2885, ⟨by decide, by decide, by decide +kernel⟩⟩
theorem d_914 : decode code 914 = .ok (.invokevirtual 134, 3) := by decide +kernel
theorem d_917 : decode code 917 = .ok (.goto 362, 3) := by decide +kernel
set_option maxRecDepth 100000 in
set_option maxHeartbeats 4000000 in
theorem law_k12 {p : Program} {l : Launch} {e : Env} {s : State} {m : MethodId} {below : List Frame} {meth : Method} {c : Code} {b L : Nat} {xs : Nat → Int32} {D : va_G} {g : Nat → ClassId} {q : Nat → Nat} {qo : Nat} {A : Nat → Prop} {ws : va_W} {H : Heap} {locs : List Loc} {Q : State → Prop} {ls : Array Slot} {fo : Nat → Int64} {i0 : Int32} {cells slots : Nat} (hcb : cells ≤ 6000) (hsb : slots ≤ 300000) (hlt : l.stackTraces = false) (C0 : q_At p s m #[Value.ref b] meth c y_NL_law code 8 (some .boolean)) (hX : va_X b L xs s s.heap) (hbl : b < s.heap.size) (hbA : ¬ A b) (V : q_Wd D g A s ws H locs) (hI : q_I (nsh g q) q ws) (hC : iC g q ws) (hJ : q_I (msh g q) q ws) (hM : iM g q ws) (hO : ws[169]? = (some (qo, .inl (g 1, 1, .inr (.inl fo))) : Option (Nat × va_E))) (hi0 : 0 ≤ i0.toInt ∧ i0.toInt + 6 ≤ (L : Int) ∧ (L : Int) ≤ 3072) (hl : lv_has ls 8 [(4, .int i0), (3, .ref qo), (2, .ref (q 116)), (1, .ref (q 0)), (0, .ref b)]) (kend : ∀ (H : Heap) (locs : List Loc) (u : va_W) (f2 : Nat → Int64) (ls : Array Slot), q_Wd D g A s u H locs → q_I (nsh g q) q u → iC g q u → q_I (msh g q) q u → iM g q u → u[169]? = (some (qo, .inl (g 1, 1, .inr (.inl f2))) : Option (Nat × va_E)) → lv_has ls 8 [(4, .int i0), (3, .ref qo), (2, .ref (q 116)), (1, .ref (q 0)), (0, .ref b)] → W p l e room_1 s m #[Value.ref b] below meth c H locs (cells + 10) (slots + 100) Q (F0 m 1279 ls [])) : W p l e room_1 s m #[Value.ref b] below meth c H locs cells slots Q (F0 m 847 ls []) := by
  have hx := C0.1
  have hb := C0.2.1
  obtain ⟨a1, ha1⟩ : ∃ z : Int32, i0 + 1 = z := ⟨_, rfl⟩
  have hin1 : vp_in a1 L := w_in ha1 (by decide) hi0
  obtain ⟨s1, hs1⟩ : ∃ z : Int32, xs a1.toNatClampNeg = z := ⟨_, rfl⟩
  obtain ⟨a2, ha2⟩ : ∃ z : Int32, i0 + 2 = z := ⟨_, rfl⟩
  have hin2 : vp_in a2 L := w_in ha2 (by decide) hi0
  obtain ⟨s2, hs2⟩ : ∃ z : Int32, xs a2.toNatClampNeg = z := ⟨_, rfl⟩
  obtain ⟨a3, ha3⟩ : ∃ z : Int32, i0 + 3 = z := ⟨_, rfl⟩
  have hin3 : vp_in a3 L := w_in ha3 (by decide) hi0
  obtain ⟨s3, hs3⟩ : ∃ z : Int32, xs a3.toNatClampNeg = z := ⟨_, rfl⟩
  obtain ⟨a4, ha4⟩ : ∃ z : Int32, i0 + 4 = z := ⟨_, rfl⟩
  have hin4 : vp_in a4 L := w_in ha4 (by decide) hi0
  obtain ⟨s4, hs4⟩ : ∃ z : Int32, xs a4.toNatClampNeg = z := ⟨_, rfl⟩
  obtain ⟨a5, ha5⟩ : ∃ z : Int32, i0 + 5 = z := ⟨_, rfl⟩
  have hin5 : vp_in a5 L := w_in ha5 (by decide) hi0
  obtain ⟨s5, hs5⟩ : ∃ z : Int32, xs a5.toNatClampNeg = z := ⟨_, rfl⟩
  refine lv_aload_n hx hb d_847 rfl (lv_at hl 3 rfl) ?_
  refine lv_aload_n hx hb d_848 rfl (lv_at hl 4 rfl) ?_
  refine lv_iload hx hb d_849 (lv_at hl 0 rfl) ?_
  refine lv_iconst (v := 1) hx hb d_851 (by decide) ?_
  refine lv_iadd hx hb d_852 ?_
  refine q_ti (v := a1) ha1 ?_
  refine va_sld hx hb hX hbl hbA V.2.2.1 hin1 d_853 ?_
  refine q_ti (v := s1) hs1 ?_
  refine lv_aload_n hx hb d_854 rfl (lv_at hl 4 rfl) ?_
  refine lv_iload hx hb d_855 (lv_at hl 0 rfl) ?_
  refine lv_iconst (v := 2) hx hb d_857 (by decide) ?_
  refine lv_iadd hx hb d_858 ?_
  refine q_ti (v := a2) ha2 ?_
  refine va_sld hx hb hX hbl hbA V.2.2.1 hin2 d_859 ?_
  refine q_ti (v := s2) hs2 ?_
  refine lv_aload_n hx hb d_860 rfl (lv_at hl 4 rfl) ?_
  refine lv_iload hx hb d_861 (lv_at hl 0 rfl) ?_
  refine lv_iconst (v := 3) hx hb d_863 (by decide) ?_
  refine lv_iadd hx hb d_864 ?_
  refine q_ti (v := a3) ha3 ?_
  refine va_sld hx hb hX hbl hbA V.2.2.1 hin3 d_865 ?_
  refine q_ti (v := s3) hs3 ?_
  refine lv_aload_n hx hb d_866 rfl (lv_at hl 4 rfl) ?_
  refine lv_iload hx hb d_867 (lv_at hl 0 rfl) ?_
  refine lv_iconst (v := 4) hx hb d_869 (by decide) ?_
  refine lv_iadd hx hb d_870 ?_
  refine q_ti (v := a4) ha4 ?_
  refine va_sld hx hb hX hbl hbA V.2.2.1 hin4 d_871 ?_
  refine q_ti (v := s4) hs4 ?_
  refine lv_aload_n hx hb d_872 rfl (lv_at hl 4 rfl) ?_
  refine lv_iload hx hb d_873 (lv_at hl 0 rfl) ?_
  refine lv_iconst (v := 5) hx hb d_875 (by decide) ?_
  refine lv_iadd hx hb d_876 ?_
  refine q_ti (v := a5) ha5 ?_
  refine va_sld hx hb hX hbl hbA V.2.2.1 hin5 d_877 ?_
  refine q_ti (v := s5) hs5 ?_
  refine q_goi V (q_runSW (As := [.ref (q 0), .int s1, .int s2, .int s3, .int s4, .int s5]) (rest := []) (d := 10) (mc := 5) (ms := 30) C0 V rfl LW_NL_132 (w_NL_quotient l D g q ws s1 s2 s3 s4 s5 hlt hI hC _) rfl hl.1 rfl (Nat.le_of_ble_eq_true rfl) ⟨by decide, by decide⟩ ⟨w_rc (by omega) (by decide), w_rs (by omega) (by decide)⟩ d_878) (fun k1 u1 H locs hp V => ?_)
  obtain ⟨hI, hC, hF⟩ := hp
  obtain ⟨hJ, hM⟩ : q_I (msh g q) q u1 ∧ iM g q u1 := w_cM hJ hM hI (fun i h _ => hF i h)
  have hO : u1[169]? = (some (qo, .inl (g 1, 1, .inr (.inl fo))) : Option (Nat × va_E)) := (hF 169 (Nat.le_of_ble_eq_true rfl)).trans hO
  refine lv_istore (lv' := [(5, .int k1), (4, .int i0), (3, .ref qo), (2, .ref (q 116)), (1, .ref (q 0)), (0, .ref b)]) hx hb d_881 hl (by decide) rfl (fun ls hl => ?_)
  refine lv_aload_n hx hb d_883 rfl (lv_at hl 3 rfl) ?_
  refine lv_aload_n hx hb d_884 rfl (lv_at hl 5 rfl) ?_
  refine lv_iload hx hb d_885 (lv_at hl 1 rfl) ?_
  refine lv_iconst (v := 1) hx hb d_887 (by decide) ?_
  refine lv_iadd hx hb d_888 ?_
  refine q_ti (v := a1) ha1 ?_
  refine va_sld hx hb hX hbl hbA V.2.2.1 hin1 d_889 ?_
  refine q_ti (v := s1) hs1 ?_
  refine lv_aload_n hx hb d_890 rfl (lv_at hl 5 rfl) ?_
  refine lv_iload hx hb d_891 (lv_at hl 1 rfl) ?_
  refine lv_iconst (v := 2) hx hb d_893 (by decide) ?_
  refine lv_iadd hx hb d_894 ?_
  refine q_ti (v := a2) ha2 ?_
  refine va_sld hx hb hX hbl hbA V.2.2.1 hin2 d_895 ?_
  refine q_ti (v := s2) hs2 ?_
  refine lv_aload_n hx hb d_896 rfl (lv_at hl 5 rfl) ?_
  refine lv_iload hx hb d_897 (lv_at hl 1 rfl) ?_
  refine lv_iconst (v := 3) hx hb d_899 (by decide) ?_
  refine lv_iadd hx hb d_900 ?_
  refine q_ti (v := a3) ha3 ?_
  refine va_sld hx hb hX hbl hbA V.2.2.1 hin3 d_901 ?_
  refine q_ti (v := s3) hs3 ?_
  refine lv_aload_n hx hb d_902 rfl (lv_at hl 5 rfl) ?_
  refine lv_iload hx hb d_903 (lv_at hl 1 rfl) ?_
  refine lv_iconst (v := 4) hx hb d_905 (by decide) ?_
  refine lv_iadd hx hb d_906 ?_
  refine q_ti (v := a4) ha4 ?_
  refine va_sld hx hb hX hbl hbA V.2.2.1 hin4 d_907 ?_
  refine q_ti (v := s4) hs4 ?_
  refine lv_aload_n hx hb d_908 rfl (lv_at hl 5 rfl) ?_
  refine lv_iload hx hb d_909 (lv_at hl 1 rfl) ?_
  refine lv_iconst (v := 5) hx hb d_911 (by decide) ?_
  refine lv_iadd hx hb d_912 ?_
  refine q_ti (v := a5) ha5 ?_
  refine va_sld hx hb hX hbl hbA V.2.2.1 hin5 d_913 ?_
  refine q_ti (v := s5) hs5 ?_
  obtain ⟨rA, rB, rC, hP0, -⟩ := n_o116 hJ
  refine q_gov V (q_runV (As := [.int s1, .int s2, .int s3, .int s4, .int s5]) (rest := []) (d := 6) (mc := 0) (ms := 0) (ci := 12) C0 V rfl LV_NL_134 (CM_quotient l D g q u1 s1 s2 s3 s4 s5 hJ hM _) rfl rfl hP0 rfl hl.1 rfl (Nat.le_of_ble_eq_true rfl) ⟨by decide, by decide⟩ ⟨w_rc (by omega) (by decide), w_rs (by omega) (by decide)⟩ d_914) (fun u3 H locs hp V => ?_)
  obtain ⟨hJ, hM, hF⟩ := hp
  obtain ⟨hI, hC⟩ : q_I (nsh g q) q u3 ∧ iC g q u3 := w_cC hI hC (fun i h => hF i (by omega))
  have hO : u3[169]? = (some (qo, .inl (g 1, 1, .inr (.inl fo))) : Option (Nat × va_E)) := (hF 169 (by decide)).trans hO
  refine lv_goto (tgt := 1279) hx hb d_917 (by decide) ?_
  refine W.widen (k := cells + 10) (n := slots + 100) (by omega) (by omega) ?_
  exact kend _ _ _ _ _ V hI hC hJ hM hO (q_lw hl (q_lw1 1 rfl (q_lw1 2 rfl (q_lw1 3 rfl (q_lw1 4 rfl (q_lw1 5 rfl q_lw0))))))
/-! the law, case 13: shape -/
theorem d_920 : decode code 920 = .ok (.aload_n 1, 1) := by decide +kernel
theorem d_921 : decode code 921 = .ok (.aload_n 0, 1) := by decide +kernel
theorem d_922 : decode code 922 = .ok (.iload 4, 2) := by decide +kernel
theorem d_924 : decode code 924 = .ok (.iconst 1, 1) := by decide +kernel
theorem d_925 : decode code 925 = .ok (.iadd, 1) := by decide +kernel
theorem d_926 : decode code 926 = .ok (.iaload, 1) := by decide +kernel
theorem d_927 : decode code 927 = .ok (.aload_n 0, 1) := by decide +kernel
theorem d_928 : decode code 928 = .ok (.iload 4, 2) := by decide +kernel
theorem d_930 : decode code 930 = .ok (.iconst 2, 1) := by decide +kernel
theorem d_931 : decode code 931 = .ok (.iadd, 1) := by decide +kernel
theorem d_932 : decode code 932 = .ok (.iaload, 1) := by decide +kernel
theorem d_933 : decode code 933 = .ok (.aload_n 0, 1) := by decide +kernel
theorem d_934 : decode code 934 = .ok (.iload 4, 2) := by decide +kernel
theorem d_936 : decode code 936 = .ok (.iconst 3, 1) := by decide +kernel
theorem d_937 : decode code 937 = .ok (.iadd, 1) := by decide +kernel
theorem d_938 : decode code 938 = .ok (.iaload, 1) := by decide +kernel
theorem d_939 : decode code 939 = .ok (.aload_n 0, 1) := by decide +kernel
theorem d_940 : decode code 940 = .ok (.iload 4, 2) := by decide +kernel
theorem d_942 : decode code 942 = .ok (.iconst 4, 1) := by decide +kernel
theorem d_943 : decode code 943 = .ok (.iadd, 1) := by decide +kernel
theorem d_944 : decode code 944 = .ok (.iaload, 1) := by decide +kernel
theorem d_945 : decode code 945 = .ok (.aload_n 0, 1) := by decide +kernel
theorem d_946 : decode code 946 = .ok (.iload 4, 2) := by decide +kernel
theorem d_948 : decode code 948 = .ok (.iconst 5, 1) := by decide +kernel
theorem d_949 : decode code 949 = .ok (.iadd, 1) := by decide +kernel
theorem d_950 : decode code 950 = .ok (.iaload, 1) := by decide +kernel
set_option maxRecDepth 100000 in
theorem w_1475 : (Cond.codeWith ({ cls := "NumberHouseLaw", name := "shape", desc := "(LNumberHouse;IIIII)I" } : MethodName) method_15_code (7 : Nat) (some .int) [((0 : Nat), (11 : Nat), (14 : Nat), (13 : Nat)), ((0 : Nat), (11 : Nat), (18 : Nat), (19 : Nat))]) ∈ q_tbl := q_of7 35 rfl (by decide +kernel)
set_option maxRecDepth 100000 in
theorem w_1473 : (Cond.methodLink "NumberHouseLaw" (135 : Nat) ({ cls := "NumberHouseLaw", name := "shape", desc := "(LNumberHouse;IIIII)I" } : MethodName)) ∈ q_tbl := q_of7 33 rfl (by decide +kernel)
set_option maxRecDepth 100000 in
theorem w_1474 : (Cond.static ({ cls := "NumberHouseLaw", name := "shape", desc := "(LNumberHouse;IIIII)I" } : MethodName)) ∈ q_tbl := q_of7 34 rfl (by decide +kernel)
theorem LW_NL_135 : q_LW "NumberHouseLaw" 135 y_NL_shape method_15_code 7 (some .int) [(0, 11, 14, 13), (0, 11, 18, 19)] 6 := ⟨w_1475, w_0, w_1473, w_1474, ⟨by decide, by decide, by decide +kernel⟩⟩
theorem d_951 : decode code 951 = .ok (.invokestatic 135, 3) := by decide +kernel
theorem d_954 : decode code 954 = .ok (.istore 5, 2) := by decide +kernel
theorem d_956 : decode code 956 = .ok (.aload_n 2, 1) := by decide +kernel
theorem d_957 : decode code 957 = .ok (.aload_n 0, 1) := by decide +kernel
theorem d_958 : decode code 958 = .ok (.iload 4, 2) := by decide +kernel
theorem d_960 : decode code 960 = .ok (.iconst 1, 1) := by decide +kernel
theorem d_961 : decode code 961 = .ok (.iadd, 1) := by decide +kernel
theorem d_962 : decode code 962 = .ok (.iaload, 1) := by decide +kernel
theorem d_963 : decode code 963 = .ok (.aload_n 0, 1) := by decide +kernel
theorem d_964 : decode code 964 = .ok (.iload 4, 2) := by decide +kernel
theorem d_966 : decode code 966 = .ok (.iconst 2, 1) := by decide +kernel
theorem d_967 : decode code 967 = .ok (.iadd, 1) := by decide +kernel
theorem d_968 : decode code 968 = .ok (.iaload, 1) := by decide +kernel
theorem d_969 : decode code 969 = .ok (.aload_n 0, 1) := by decide +kernel
theorem d_970 : decode code 970 = .ok (.iload 4, 2) := by decide +kernel
theorem d_972 : decode code 972 = .ok (.iconst 3, 1) := by decide +kernel
theorem d_973 : decode code 973 = .ok (.iadd, 1) := by decide +kernel
theorem d_974 : decode code 974 = .ok (.iaload, 1) := by decide +kernel
theorem d_975 : decode code 975 = .ok (.aload_n 0, 1) := by decide +kernel
theorem d_976 : decode code 976 = .ok (.iload 4, 2) := by decide +kernel
theorem d_978 : decode code 978 = .ok (.iconst 4, 1) := by decide +kernel
theorem d_979 : decode code 979 = .ok (.iadd, 1) := by decide +kernel
theorem d_980 : decode code 980 = .ok (.iaload, 1) := by decide +kernel
theorem d_981 : decode code 981 = .ok (.aload_n 0, 1) := by decide +kernel
theorem d_982 : decode code 982 = .ok (.iload 4, 2) := by decide +kernel
theorem d_984 : decode code 984 = .ok (.iconst 5, 1) := by decide +kernel
theorem d_985 : decode code 985 = .ok (.iadd, 1) := by decide +kernel
theorem d_986 : decode code 986 = .ok (.iaload, 1) := by decide +kernel
set_option maxRecDepth 100000 in
theorem w_2898 : (Cond.code ({ cls := "NumberHouseModel", name := "shape", desc := "(IIIII)V" } : MethodName) prog_14_method_27_code (6 : Nat) (none : Option ClassFile.FieldType)) ∈ q_tbl := q_of13 18 rfl (by decide +kernel)
set_option maxRecDepth 100000 in
theorem w_2895 : (Cond.methodLink "NumberHouseLaw" (137 : Nat) ({ cls := "NumberHouseModel", name := "shape", desc := "(IIIII)V" } : MethodName)) ∈ q_tbl := q_of13 15 rfl (by decide +kernel)
set_option maxRecDepth 100000 in
theorem w_2896 : (Cond.instanceMethod ({ cls := "NumberHouseModel", name := "shape", desc := "(IIIII)V" } : MethodName)) ∈ q_tbl := q_of13 16 rfl (by decide +kernel)
set_option maxRecDepth 100000 in
theorem w_2897 : (Cond.selects "NumberHouseModel" ({ cls := "NumberHouseModel", name := "shape", desc := "(IIIII)V" } : MethodName) ({ cls := "NumberHouseModel", name := "shape", desc := "(IIIII)V" } : MethodName)) ∈ q_tbl := q_of13 17 rfl (by decide +kernel)
theorem LV_NL_137 : q_LV "NumberHouseLaw" 137 y_NM_shape prog_14_method_27_code 6 none 5 := ⟨w_2898, w_14, w_2895, w_2896, w_2897, ⟨by decide, by decide, by decide +kernel⟩⟩
theorem d_987 : decode code 987 = .ok (.invokevirtual 137, 3) := by decide +kernel
theorem d_990 : decode code 990 = .ok (.goto 289, 3) := by decide +kernel
set_option maxRecDepth 100000 in
set_option maxHeartbeats 4000000 in
theorem law_k13 {p : Program} {l : Launch} {e : Env} {s : State} {m : MethodId} {below : List Frame} {meth : Method} {c : Code} {b L : Nat} {xs : Nat → Int32} {D : va_G} {g : Nat → ClassId} {q : Nat → Nat} {qo : Nat} {A : Nat → Prop} {ws : va_W} {H : Heap} {locs : List Loc} {Q : State → Prop} {ls : Array Slot} {fo : Nat → Int64} {i0 : Int32} {cells slots : Nat} (hcb : cells ≤ 6000) (hsb : slots ≤ 300000) (hlt : l.stackTraces = false) (C0 : q_At p s m #[Value.ref b] meth c y_NL_law code 8 (some .boolean)) (hX : va_X b L xs s s.heap) (hbl : b < s.heap.size) (hbA : ¬ A b) (V : q_Wd D g A s ws H locs) (hI : q_I (nsh g q) q ws) (hC : iC g q ws) (hJ : q_I (msh g q) q ws) (hM : iM g q ws) (hO : ws[169]? = (some (qo, .inl (g 1, 1, .inr (.inl fo))) : Option (Nat × va_E))) (hi0 : 0 ≤ i0.toInt ∧ i0.toInt + 6 ≤ (L : Int) ∧ (L : Int) ≤ 3072) (hl : lv_has ls 8 [(4, .int i0), (3, .ref qo), (2, .ref (q 116)), (1, .ref (q 0)), (0, .ref b)]) (kend : ∀ (H : Heap) (locs : List Loc) (u : va_W) (f2 : Nat → Int64) (ls : Array Slot), q_Wd D g A s u H locs → q_I (nsh g q) q u → iC g q u → q_I (msh g q) q u → iM g q u → u[169]? = (some (qo, .inl (g 1, 1, .inr (.inl f2))) : Option (Nat × va_E)) → lv_has ls 8 [(4, .int i0), (3, .ref qo), (2, .ref (q 116)), (1, .ref (q 0)), (0, .ref b)] → W p l e room_1 s m #[Value.ref b] below meth c H locs (cells + 10) (slots + 100) Q (F0 m 1279 ls [])) : W p l e room_1 s m #[Value.ref b] below meth c H locs cells slots Q (F0 m 920 ls []) := by
  have hx := C0.1
  have hb := C0.2.1
  obtain ⟨a1, ha1⟩ : ∃ z : Int32, i0 + 1 = z := ⟨_, rfl⟩
  have hin1 : vp_in a1 L := w_in ha1 (by decide) hi0
  obtain ⟨s1, hs1⟩ : ∃ z : Int32, xs a1.toNatClampNeg = z := ⟨_, rfl⟩
  obtain ⟨a2, ha2⟩ : ∃ z : Int32, i0 + 2 = z := ⟨_, rfl⟩
  have hin2 : vp_in a2 L := w_in ha2 (by decide) hi0
  obtain ⟨s2, hs2⟩ : ∃ z : Int32, xs a2.toNatClampNeg = z := ⟨_, rfl⟩
  obtain ⟨a3, ha3⟩ : ∃ z : Int32, i0 + 3 = z := ⟨_, rfl⟩
  have hin3 : vp_in a3 L := w_in ha3 (by decide) hi0
  obtain ⟨s3, hs3⟩ : ∃ z : Int32, xs a3.toNatClampNeg = z := ⟨_, rfl⟩
  obtain ⟨a4, ha4⟩ : ∃ z : Int32, i0 + 4 = z := ⟨_, rfl⟩
  have hin4 : vp_in a4 L := w_in ha4 (by decide) hi0
  obtain ⟨s4, hs4⟩ : ∃ z : Int32, xs a4.toNatClampNeg = z := ⟨_, rfl⟩
  obtain ⟨a5, ha5⟩ : ∃ z : Int32, i0 + 5 = z := ⟨_, rfl⟩
  have hin5 : vp_in a5 L := w_in ha5 (by decide) hi0
  obtain ⟨s5, hs5⟩ : ∃ z : Int32, xs a5.toNatClampNeg = z := ⟨_, rfl⟩
  refine lv_aload_n hx hb d_920 rfl (lv_at hl 3 rfl) ?_
  refine lv_aload_n hx hb d_921 rfl (lv_at hl 4 rfl) ?_
  refine lv_iload hx hb d_922 (lv_at hl 0 rfl) ?_
  refine lv_iconst (v := 1) hx hb d_924 (by decide) ?_
  refine lv_iadd hx hb d_925 ?_
  refine q_ti (v := a1) ha1 ?_
  refine va_sld hx hb hX hbl hbA V.2.2.1 hin1 d_926 ?_
  refine q_ti (v := s1) hs1 ?_
  refine lv_aload_n hx hb d_927 rfl (lv_at hl 4 rfl) ?_
  refine lv_iload hx hb d_928 (lv_at hl 0 rfl) ?_
  refine lv_iconst (v := 2) hx hb d_930 (by decide) ?_
  refine lv_iadd hx hb d_931 ?_
  refine q_ti (v := a2) ha2 ?_
  refine va_sld hx hb hX hbl hbA V.2.2.1 hin2 d_932 ?_
  refine q_ti (v := s2) hs2 ?_
  refine lv_aload_n hx hb d_933 rfl (lv_at hl 4 rfl) ?_
  refine lv_iload hx hb d_934 (lv_at hl 0 rfl) ?_
  refine lv_iconst (v := 3) hx hb d_936 (by decide) ?_
  refine lv_iadd hx hb d_937 ?_
  refine q_ti (v := a3) ha3 ?_
  refine va_sld hx hb hX hbl hbA V.2.2.1 hin3 d_938 ?_
  refine q_ti (v := s3) hs3 ?_
  refine lv_aload_n hx hb d_939 rfl (lv_at hl 4 rfl) ?_
  refine lv_iload hx hb d_940 (lv_at hl 0 rfl) ?_
  refine lv_iconst (v := 4) hx hb d_942 (by decide) ?_
  refine lv_iadd hx hb d_943 ?_
  refine q_ti (v := a4) ha4 ?_
  refine va_sld hx hb hX hbl hbA V.2.2.1 hin4 d_944 ?_
  refine q_ti (v := s4) hs4 ?_
  refine lv_aload_n hx hb d_945 rfl (lv_at hl 4 rfl) ?_
  refine lv_iload hx hb d_946 (lv_at hl 0 rfl) ?_
  refine lv_iconst (v := 5) hx hb d_948 (by decide) ?_
  refine lv_iadd hx hb d_949 ?_
  refine q_ti (v := a5) ha5 ?_
  refine va_sld hx hb hX hbl hbA V.2.2.1 hin5 d_950 ?_
  refine q_ti (v := s5) hs5 ?_
  refine q_goi V (q_runSW (As := [.ref (q 0), .int s1, .int s2, .int s3, .int s4, .int s5]) (rest := []) (d := 10) (mc := 5) (ms := 30) C0 V rfl LW_NL_135 (w_NL_shape l D g q ws s1 s2 s3 s4 s5 hlt hI hC _) rfl hl.1 rfl (Nat.le_of_ble_eq_true rfl) ⟨by decide, by decide⟩ ⟨w_rc (by omega) (by decide), w_rs (by omega) (by decide)⟩ d_951) (fun k1 u1 H locs hp V => ?_)
  obtain ⟨hI, hC, hF⟩ := hp
  obtain ⟨hJ, hM⟩ : q_I (msh g q) q u1 ∧ iM g q u1 := w_cM hJ hM hI (fun i h _ => hF i h)
  have hO : u1[169]? = (some (qo, .inl (g 1, 1, .inr (.inl fo))) : Option (Nat × va_E)) := (hF 169 (Nat.le_of_ble_eq_true rfl)).trans hO
  refine lv_istore (lv' := [(5, .int k1), (4, .int i0), (3, .ref qo), (2, .ref (q 116)), (1, .ref (q 0)), (0, .ref b)]) hx hb d_954 hl (by decide) rfl (fun ls hl => ?_)
  refine lv_aload_n hx hb d_956 rfl (lv_at hl 3 rfl) ?_
  refine lv_aload_n hx hb d_957 rfl (lv_at hl 5 rfl) ?_
  refine lv_iload hx hb d_958 (lv_at hl 1 rfl) ?_
  refine lv_iconst (v := 1) hx hb d_960 (by decide) ?_
  refine lv_iadd hx hb d_961 ?_
  refine q_ti (v := a1) ha1 ?_
  refine va_sld hx hb hX hbl hbA V.2.2.1 hin1 d_962 ?_
  refine q_ti (v := s1) hs1 ?_
  refine lv_aload_n hx hb d_963 rfl (lv_at hl 5 rfl) ?_
  refine lv_iload hx hb d_964 (lv_at hl 1 rfl) ?_
  refine lv_iconst (v := 2) hx hb d_966 (by decide) ?_
  refine lv_iadd hx hb d_967 ?_
  refine q_ti (v := a2) ha2 ?_
  refine va_sld hx hb hX hbl hbA V.2.2.1 hin2 d_968 ?_
  refine q_ti (v := s2) hs2 ?_
  refine lv_aload_n hx hb d_969 rfl (lv_at hl 5 rfl) ?_
  refine lv_iload hx hb d_970 (lv_at hl 1 rfl) ?_
  refine lv_iconst (v := 3) hx hb d_972 (by decide) ?_
  refine lv_iadd hx hb d_973 ?_
  refine q_ti (v := a3) ha3 ?_
  refine va_sld hx hb hX hbl hbA V.2.2.1 hin3 d_974 ?_
  refine q_ti (v := s3) hs3 ?_
  refine lv_aload_n hx hb d_975 rfl (lv_at hl 5 rfl) ?_
  refine lv_iload hx hb d_976 (lv_at hl 1 rfl) ?_
  refine lv_iconst (v := 4) hx hb d_978 (by decide) ?_
  refine lv_iadd hx hb d_979 ?_
  refine q_ti (v := a4) ha4 ?_
  refine va_sld hx hb hX hbl hbA V.2.2.1 hin4 d_980 ?_
  refine q_ti (v := s4) hs4 ?_
  refine lv_aload_n hx hb d_981 rfl (lv_at hl 5 rfl) ?_
  refine lv_iload hx hb d_982 (lv_at hl 1 rfl) ?_
  refine lv_iconst (v := 5) hx hb d_984 (by decide) ?_
  refine lv_iadd hx hb d_985 ?_
  refine q_ti (v := a5) ha5 ?_
  refine va_sld hx hb hX hbl hbA V.2.2.1 hin5 d_986 ?_
  refine q_ti (v := s5) hs5 ?_
  obtain ⟨rA, rB, rC, hP0, -⟩ := n_o116 hJ
  refine q_gov V (q_runV (As := [.int s1, .int s2, .int s3, .int s4, .int s5]) (rest := []) (d := 6) (mc := 0) (ms := 0) (ci := 12) C0 V rfl LV_NL_137 (CM_shape l D g q u1 s1 s2 s3 s4 s5 hJ hM _) rfl rfl hP0 rfl hl.1 rfl (Nat.le_of_ble_eq_true rfl) ⟨by decide, by decide⟩ ⟨w_rc (by omega) (by decide), w_rs (by omega) (by decide)⟩ d_987) (fun u3 H locs hp V => ?_)
  obtain ⟨hJ, hM, hF⟩ := hp
  obtain ⟨hI, hC⟩ : q_I (nsh g q) q u3 ∧ iC g q u3 := w_cC hI hC (fun i h => hF i (by omega))
  have hO : u3[169]? = (some (qo, .inl (g 1, 1, .inr (.inl fo))) : Option (Nat × va_E)) := (hF 169 (by decide)).trans hO
  refine lv_goto (tgt := 1279) hx hb d_990 (by decide) ?_
  refine W.widen (k := cells + 10) (n := slots + 100) (by omega) (by omega) ?_
  exact kend _ _ _ _ _ V hI hC hJ hM hO (q_lw hl (q_lw1 1 rfl (q_lw1 2 rfl (q_lw1 3 rfl (q_lw1 4 rfl (q_lw1 5 rfl q_lw0))))))
/-! the law, case 14: convert -/
theorem d_993 : decode code 993 = .ok (.aload_n 1, 1) := by decide +kernel
theorem d_994 : decode code 994 = .ok (.aload_n 0, 1) := by decide +kernel
theorem d_995 : decode code 995 = .ok (.iload 4, 2) := by decide +kernel
theorem d_997 : decode code 997 = .ok (.iconst 1, 1) := by decide +kernel
theorem d_998 : decode code 998 = .ok (.iadd, 1) := by decide +kernel
theorem d_999 : decode code 999 = .ok (.iaload, 1) := by decide +kernel
theorem d_1000 : decode code 1000 = .ok (.aload_n 0, 1) := by decide +kernel
theorem d_1001 : decode code 1001 = .ok (.iload 4, 2) := by decide +kernel
theorem d_1003 : decode code 1003 = .ok (.iconst 2, 1) := by decide +kernel
theorem d_1004 : decode code 1004 = .ok (.iadd, 1) := by decide +kernel
theorem d_1005 : decode code 1005 = .ok (.iaload, 1) := by decide +kernel
theorem d_1006 : decode code 1006 = .ok (.aload_n 0, 1) := by decide +kernel
theorem d_1007 : decode code 1007 = .ok (.iload 4, 2) := by decide +kernel
theorem d_1009 : decode code 1009 = .ok (.iconst 3, 1) := by decide +kernel
theorem d_1010 : decode code 1010 = .ok (.iadd, 1) := by decide +kernel
theorem d_1011 : decode code 1011 = .ok (.iaload, 1) := by decide +kernel
theorem d_1012 : decode code 1012 = .ok (.aload_n 0, 1) := by decide +kernel
theorem d_1013 : decode code 1013 = .ok (.iload 4, 2) := by decide +kernel
theorem d_1015 : decode code 1015 = .ok (.iconst 4, 1) := by decide +kernel
theorem d_1016 : decode code 1016 = .ok (.iadd, 1) := by decide +kernel
theorem d_1017 : decode code 1017 = .ok (.iaload, 1) := by decide +kernel
set_option maxRecDepth 100000 in
theorem w_1491 : (Cond.codeWith ({ cls := "NumberHouseLaw", name := "convert", desc := "(LNumberHouse;IIII)I" } : MethodName) method_16_code (6 : Nat) (some .int) [((0 : Nat), (9 : Nat), (12 : Nat), (13 : Nat)), ((0 : Nat), (9 : Nat), (16 : Nat), (19 : Nat))]) ∈ q_tbl := q_of7 51 rfl (by decide +kernel)
set_option maxRecDepth 100000 in
theorem w_1489 : (Cond.methodLink "NumberHouseLaw" (138 : Nat) ({ cls := "NumberHouseLaw", name := "convert", desc := "(LNumberHouse;IIII)I" } : MethodName)) ∈ q_tbl := q_of7 49 rfl (by decide +kernel)
set_option maxRecDepth 100000 in
theorem w_1490 : (Cond.static ({ cls := "NumberHouseLaw", name := "convert", desc := "(LNumberHouse;IIII)I" } : MethodName)) ∈ q_tbl := q_of7 50 rfl (by decide +kernel)
theorem LW_NL_138 : q_LW "NumberHouseLaw" 138 y_NL_convert method_16_code 6 (some .int) [(0, 9, 12, 13), (0, 9, 16, 19)] 5 := ⟨w_1491, w_0, w_1489, w_1490, ⟨by decide, by decide, by decide +kernel⟩⟩
theorem d_1018 : decode code 1018 = .ok (.invokestatic 138, 3) := by decide +kernel
theorem d_1021 : decode code 1021 = .ok (.istore 5, 2) := by decide +kernel
theorem d_1023 : decode code 1023 = .ok (.aload_n 2, 1) := by decide +kernel
theorem d_1024 : decode code 1024 = .ok (.aload_n 0, 1) := by decide +kernel
theorem d_1025 : decode code 1025 = .ok (.iload 4, 2) := by decide +kernel
theorem d_1027 : decode code 1027 = .ok (.iconst 1, 1) := by decide +kernel
theorem d_1028 : decode code 1028 = .ok (.iadd, 1) := by decide +kernel
theorem d_1029 : decode code 1029 = .ok (.iaload, 1) := by decide +kernel
theorem d_1030 : decode code 1030 = .ok (.aload_n 0, 1) := by decide +kernel
theorem d_1031 : decode code 1031 = .ok (.iload 4, 2) := by decide +kernel
theorem d_1033 : decode code 1033 = .ok (.iconst 2, 1) := by decide +kernel
theorem d_1034 : decode code 1034 = .ok (.iadd, 1) := by decide +kernel
theorem d_1035 : decode code 1035 = .ok (.iaload, 1) := by decide +kernel
theorem d_1036 : decode code 1036 = .ok (.aload_n 0, 1) := by decide +kernel
theorem d_1037 : decode code 1037 = .ok (.iload 4, 2) := by decide +kernel
theorem d_1039 : decode code 1039 = .ok (.iconst 3, 1) := by decide +kernel
theorem d_1040 : decode code 1040 = .ok (.iadd, 1) := by decide +kernel
theorem d_1041 : decode code 1041 = .ok (.iaload, 1) := by decide +kernel
theorem d_1042 : decode code 1042 = .ok (.aload_n 0, 1) := by decide +kernel
theorem d_1043 : decode code 1043 = .ok (.iload 4, 2) := by decide +kernel
theorem d_1045 : decode code 1045 = .ok (.iconst 4, 1) := by decide +kernel
theorem d_1046 : decode code 1046 = .ok (.iadd, 1) := by decide +kernel
theorem d_1047 : decode code 1047 = .ok (.iaload, 1) := by decide +kernel
set_option maxRecDepth 100000 in
theorem w_2922 : (Cond.code ({ cls := "NumberHouseModel", name := "convert", desc := "(IIII)V" } : MethodName) prog_14_method_32_code (5 : Nat) (none : Option ClassFile.FieldType)) ∈ q_tbl := q_of13 42 rfl (by decide +kernel)
set_option maxRecDepth 100000 in
theorem w_2919 : (Cond.methodLink "NumberHouseLaw" (140 : Nat) ({ cls := "NumberHouseModel", name := "convert", desc := "(IIII)V" } : MethodName)) ∈ q_tbl := q_of13 39 rfl (by decide +kernel)
set_option maxRecDepth 100000 in
theorem w_2920 : (Cond.instanceMethod ({ cls := "NumberHouseModel", name := "convert", desc := "(IIII)V" } : MethodName)) ∈ q_tbl := q_of13 40 rfl (by decide +kernel)
set_option maxRecDepth 100000 in
theorem w_2921 : (Cond.selects "NumberHouseModel" ({ cls := "NumberHouseModel", name := "convert", desc := "(IIII)V" } : MethodName) ({ cls := "NumberHouseModel", name := "convert", desc := "(IIII)V" } : MethodName)) ∈ q_tbl := q_of13 41 rfl (by decide +kernel)
theorem LV_NL_140 : q_LV "NumberHouseLaw" 140 y_NM_convert prog_14_method_32_code 5 none 4 := ⟨w_2922, w_14, w_2919, w_2920, w_2921, ⟨by decide, by decide, by decide +kernel⟩⟩
theorem d_1048 : decode code 1048 = .ok (.invokevirtual 140, 3) := by decide +kernel
theorem d_1051 : decode code 1051 = .ok (.goto 228, 3) := by decide +kernel
set_option maxRecDepth 100000 in
set_option maxHeartbeats 4000000 in
theorem law_k14 {p : Program} {l : Launch} {e : Env} {s : State} {m : MethodId} {below : List Frame} {meth : Method} {c : Code} {b L : Nat} {xs : Nat → Int32} {D : va_G} {g : Nat → ClassId} {q : Nat → Nat} {qo : Nat} {A : Nat → Prop} {ws : va_W} {H : Heap} {locs : List Loc} {Q : State → Prop} {ls : Array Slot} {fo : Nat → Int64} {i0 : Int32} {cells slots : Nat} (hcb : cells ≤ 6000) (hsb : slots ≤ 300000) (hlt : l.stackTraces = false) (C0 : q_At p s m #[Value.ref b] meth c y_NL_law code 8 (some .boolean)) (hX : va_X b L xs s s.heap) (hbl : b < s.heap.size) (hbA : ¬ A b) (V : q_Wd D g A s ws H locs) (hI : q_I (nsh g q) q ws) (hC : iC g q ws) (hJ : q_I (msh g q) q ws) (hM : iM g q ws) (hO : ws[169]? = (some (qo, .inl (g 1, 1, .inr (.inl fo))) : Option (Nat × va_E))) (hi0 : 0 ≤ i0.toInt ∧ i0.toInt + 6 ≤ (L : Int) ∧ (L : Int) ≤ 3072) (hl : lv_has ls 8 [(4, .int i0), (3, .ref qo), (2, .ref (q 116)), (1, .ref (q 0)), (0, .ref b)]) (kend : ∀ (H : Heap) (locs : List Loc) (u : va_W) (f2 : Nat → Int64) (ls : Array Slot), q_Wd D g A s u H locs → q_I (nsh g q) q u → iC g q u → q_I (msh g q) q u → iM g q u → u[169]? = (some (qo, .inl (g 1, 1, .inr (.inl f2))) : Option (Nat × va_E)) → lv_has ls 8 [(4, .int i0), (3, .ref qo), (2, .ref (q 116)), (1, .ref (q 0)), (0, .ref b)] → W p l e room_1 s m #[Value.ref b] below meth c H locs (cells + 10) (slots + 100) Q (F0 m 1279 ls [])) : W p l e room_1 s m #[Value.ref b] below meth c H locs cells slots Q (F0 m 993 ls []) := by
  have hx := C0.1
  have hb := C0.2.1
  obtain ⟨a1, ha1⟩ : ∃ z : Int32, i0 + 1 = z := ⟨_, rfl⟩
  have hin1 : vp_in a1 L := w_in ha1 (by decide) hi0
  obtain ⟨s1, hs1⟩ : ∃ z : Int32, xs a1.toNatClampNeg = z := ⟨_, rfl⟩
  obtain ⟨a2, ha2⟩ : ∃ z : Int32, i0 + 2 = z := ⟨_, rfl⟩
  have hin2 : vp_in a2 L := w_in ha2 (by decide) hi0
  obtain ⟨s2, hs2⟩ : ∃ z : Int32, xs a2.toNatClampNeg = z := ⟨_, rfl⟩
  obtain ⟨a3, ha3⟩ : ∃ z : Int32, i0 + 3 = z := ⟨_, rfl⟩
  have hin3 : vp_in a3 L := w_in ha3 (by decide) hi0
  obtain ⟨s3, hs3⟩ : ∃ z : Int32, xs a3.toNatClampNeg = z := ⟨_, rfl⟩
  obtain ⟨a4, ha4⟩ : ∃ z : Int32, i0 + 4 = z := ⟨_, rfl⟩
  have hin4 : vp_in a4 L := w_in ha4 (by decide) hi0
  obtain ⟨s4, hs4⟩ : ∃ z : Int32, xs a4.toNatClampNeg = z := ⟨_, rfl⟩
  refine lv_aload_n hx hb d_993 rfl (lv_at hl 3 rfl) ?_
  refine lv_aload_n hx hb d_994 rfl (lv_at hl 4 rfl) ?_
  refine lv_iload hx hb d_995 (lv_at hl 0 rfl) ?_
  refine lv_iconst (v := 1) hx hb d_997 (by decide) ?_
  refine lv_iadd hx hb d_998 ?_
  refine q_ti (v := a1) ha1 ?_
  refine va_sld hx hb hX hbl hbA V.2.2.1 hin1 d_999 ?_
  refine q_ti (v := s1) hs1 ?_
  refine lv_aload_n hx hb d_1000 rfl (lv_at hl 4 rfl) ?_
  refine lv_iload hx hb d_1001 (lv_at hl 0 rfl) ?_
  refine lv_iconst (v := 2) hx hb d_1003 (by decide) ?_
  refine lv_iadd hx hb d_1004 ?_
  refine q_ti (v := a2) ha2 ?_
  refine va_sld hx hb hX hbl hbA V.2.2.1 hin2 d_1005 ?_
  refine q_ti (v := s2) hs2 ?_
  refine lv_aload_n hx hb d_1006 rfl (lv_at hl 4 rfl) ?_
  refine lv_iload hx hb d_1007 (lv_at hl 0 rfl) ?_
  refine lv_iconst (v := 3) hx hb d_1009 (by decide) ?_
  refine lv_iadd hx hb d_1010 ?_
  refine q_ti (v := a3) ha3 ?_
  refine va_sld hx hb hX hbl hbA V.2.2.1 hin3 d_1011 ?_
  refine q_ti (v := s3) hs3 ?_
  refine lv_aload_n hx hb d_1012 rfl (lv_at hl 4 rfl) ?_
  refine lv_iload hx hb d_1013 (lv_at hl 0 rfl) ?_
  refine lv_iconst (v := 4) hx hb d_1015 (by decide) ?_
  refine lv_iadd hx hb d_1016 ?_
  refine q_ti (v := a4) ha4 ?_
  refine va_sld hx hb hX hbl hbA V.2.2.1 hin4 d_1017 ?_
  refine q_ti (v := s4) hs4 ?_
  refine q_goi V (q_runSW (As := [.ref (q 0), .int s1, .int s2, .int s3, .int s4]) (rest := []) (d := 10) (mc := 4) (ms := 24) C0 V rfl LW_NL_138 (w_NL_convert l D g q ws s1 s2 s3 s4 hlt hI hC _) rfl hl.1 rfl (Nat.le_of_ble_eq_true rfl) ⟨by decide, by decide⟩ ⟨w_rc (by omega) (by decide), w_rs (by omega) (by decide)⟩ d_1018) (fun k1 u1 H locs hp V => ?_)
  obtain ⟨hI, hC, hF⟩ := hp
  obtain ⟨hJ, hM⟩ : q_I (msh g q) q u1 ∧ iM g q u1 := w_cM hJ hM hI (fun i h _ => hF i h)
  have hO : u1[169]? = (some (qo, .inl (g 1, 1, .inr (.inl fo))) : Option (Nat × va_E)) := (hF 169 (Nat.le_of_ble_eq_true rfl)).trans hO
  refine lv_istore (lv' := [(5, .int k1), (4, .int i0), (3, .ref qo), (2, .ref (q 116)), (1, .ref (q 0)), (0, .ref b)]) hx hb d_1021 hl (by decide) rfl (fun ls hl => ?_)
  refine lv_aload_n hx hb d_1023 rfl (lv_at hl 3 rfl) ?_
  refine lv_aload_n hx hb d_1024 rfl (lv_at hl 5 rfl) ?_
  refine lv_iload hx hb d_1025 (lv_at hl 1 rfl) ?_
  refine lv_iconst (v := 1) hx hb d_1027 (by decide) ?_
  refine lv_iadd hx hb d_1028 ?_
  refine q_ti (v := a1) ha1 ?_
  refine va_sld hx hb hX hbl hbA V.2.2.1 hin1 d_1029 ?_
  refine q_ti (v := s1) hs1 ?_
  refine lv_aload_n hx hb d_1030 rfl (lv_at hl 5 rfl) ?_
  refine lv_iload hx hb d_1031 (lv_at hl 1 rfl) ?_
  refine lv_iconst (v := 2) hx hb d_1033 (by decide) ?_
  refine lv_iadd hx hb d_1034 ?_
  refine q_ti (v := a2) ha2 ?_
  refine va_sld hx hb hX hbl hbA V.2.2.1 hin2 d_1035 ?_
  refine q_ti (v := s2) hs2 ?_
  refine lv_aload_n hx hb d_1036 rfl (lv_at hl 5 rfl) ?_
  refine lv_iload hx hb d_1037 (lv_at hl 1 rfl) ?_
  refine lv_iconst (v := 3) hx hb d_1039 (by decide) ?_
  refine lv_iadd hx hb d_1040 ?_
  refine q_ti (v := a3) ha3 ?_
  refine va_sld hx hb hX hbl hbA V.2.2.1 hin3 d_1041 ?_
  refine q_ti (v := s3) hs3 ?_
  refine lv_aload_n hx hb d_1042 rfl (lv_at hl 5 rfl) ?_
  refine lv_iload hx hb d_1043 (lv_at hl 1 rfl) ?_
  refine lv_iconst (v := 4) hx hb d_1045 (by decide) ?_
  refine lv_iadd hx hb d_1046 ?_
  refine q_ti (v := a4) ha4 ?_
  refine va_sld hx hb hX hbl hbA V.2.2.1 hin4 d_1047 ?_
  refine q_ti (v := s4) hs4 ?_
  obtain ⟨rA, rB, rC, hP0, -⟩ := n_o116 hJ
  refine q_gov V (q_runV (As := [.int s1, .int s2, .int s3, .int s4]) (rest := []) (d := 8) (mc := 0) (ms := 0) (ci := 12) C0 V rfl LV_NL_140 (CM_convert l D g q u1 s1 s2 s3 s4 hJ hM _) rfl rfl hP0 rfl hl.1 rfl (Nat.le_of_ble_eq_true rfl) ⟨by decide, by decide⟩ ⟨w_rc (by omega) (by decide), w_rs (by omega) (by decide)⟩ d_1048) (fun u3 H locs hp V => ?_)
  obtain ⟨hJ, hM, hF⟩ := hp
  obtain ⟨hI, hC⟩ : q_I (nsh g q) q u3 ∧ iC g q u3 := w_cC hI hC (fun i h => hF i (by omega))
  have hO : u3[169]? = (some (qo, .inl (g 1, 1, .inr (.inl fo))) : Option (Nat × va_E)) := (hF 169 (by decide)).trans hO
  refine lv_goto (tgt := 1279) hx hb d_1051 (by decide) ?_
  refine W.widen (k := cells + 10) (n := slots + 100) (by omega) (by omega) ?_
  exact kend _ _ _ _ _ V hI hC hJ hM hO (q_lw hl (q_lw1 1 rfl (q_lw1 2 rfl (q_lw1 3 rfl (q_lw1 4 rfl (q_lw1 5 rfl q_lw0))))))
/-! the law, case 15: print -/
theorem d_1054 : decode code 1054 = .ok (.aload_n 1, 1) := by decide +kernel
theorem d_1055 : decode code 1055 = .ok (.aload_n 0, 1) := by decide +kernel
theorem d_1056 : decode code 1056 = .ok (.iload 4, 2) := by decide +kernel
theorem d_1058 : decode code 1058 = .ok (.iconst 1, 1) := by decide +kernel
theorem d_1059 : decode code 1059 = .ok (.iadd, 1) := by decide +kernel
theorem d_1060 : decode code 1060 = .ok (.iaload, 1) := by decide +kernel
theorem d_1061 : decode code 1061 = .ok (.aload_n 0, 1) := by decide +kernel
theorem d_1062 : decode code 1062 = .ok (.iload 4, 2) := by decide +kernel
theorem d_1064 : decode code 1064 = .ok (.iconst 2, 1) := by decide +kernel
theorem d_1065 : decode code 1065 = .ok (.iadd, 1) := by decide +kernel
theorem d_1066 : decode code 1066 = .ok (.iaload, 1) := by decide +kernel
theorem d_1067 : decode code 1067 = .ok (.aload_n 0, 1) := by decide +kernel
theorem d_1068 : decode code 1068 = .ok (.iload 4, 2) := by decide +kernel
theorem d_1070 : decode code 1070 = .ok (.iconst 3, 1) := by decide +kernel
theorem d_1071 : decode code 1071 = .ok (.iadd, 1) := by decide +kernel
theorem d_1072 : decode code 1072 = .ok (.iaload, 1) := by decide +kernel
theorem d_1073 : decode code 1073 = .ok (.aload_n 3, 1) := by decide +kernel
set_option maxRecDepth 100000 in
theorem w_1532 : (Cond.codeWith ({ cls := "NumberHouseLaw", name := "print", desc := "(LNumberHouse;III[J)I" } : MethodName) method_17_code (6 : Nat) (some .int) [((0 : Nat), (12 : Nat), (15 : Nat), (13 : Nat))]) ∈ q_tbl := q_of7 92 rfl (by decide +kernel)
set_option maxRecDepth 100000 in
theorem w_1530 : (Cond.methodLink "NumberHouseLaw" (141 : Nat) ({ cls := "NumberHouseLaw", name := "print", desc := "(LNumberHouse;III[J)I" } : MethodName)) ∈ q_tbl := q_of7 90 rfl (by decide +kernel)
set_option maxRecDepth 100000 in
theorem w_1531 : (Cond.static ({ cls := "NumberHouseLaw", name := "print", desc := "(LNumberHouse;III[J)I" } : MethodName)) ∈ q_tbl := q_of7 91 rfl (by decide +kernel)
theorem LW_NL_141 : q_LW "NumberHouseLaw" 141 y_NL_print method_17_code 6 (some .int) [(0, 12, 15, 13)] 5 := ⟨w_1532, w_0, w_1530, w_1531, ⟨by decide, by decide, by decide +kernel⟩⟩
theorem d_1074 : decode code 1074 = .ok (.invokestatic 141, 3) := by decide +kernel
theorem d_1077 : decode code 1077 = .ok (.istore 5, 2) := by decide +kernel
theorem d_1079 : decode code 1079 = .ok (.aload_n 2, 1) := by decide +kernel
theorem d_1080 : decode code 1080 = .ok (.aload_n 0, 1) := by decide +kernel
theorem d_1081 : decode code 1081 = .ok (.iload 4, 2) := by decide +kernel
theorem d_1083 : decode code 1083 = .ok (.iconst 1, 1) := by decide +kernel
theorem d_1084 : decode code 1084 = .ok (.iadd, 1) := by decide +kernel
theorem d_1085 : decode code 1085 = .ok (.iaload, 1) := by decide +kernel
theorem d_1086 : decode code 1086 = .ok (.aload_n 0, 1) := by decide +kernel
theorem d_1087 : decode code 1087 = .ok (.iload 4, 2) := by decide +kernel
theorem d_1089 : decode code 1089 = .ok (.iconst 2, 1) := by decide +kernel
theorem d_1090 : decode code 1090 = .ok (.iadd, 1) := by decide +kernel
theorem d_1091 : decode code 1091 = .ok (.iaload, 1) := by decide +kernel
theorem d_1092 : decode code 1092 = .ok (.aload_n 0, 1) := by decide +kernel
theorem d_1093 : decode code 1093 = .ok (.iload 4, 2) := by decide +kernel
theorem d_1095 : decode code 1095 = .ok (.iconst 3, 1) := by decide +kernel
theorem d_1096 : decode code 1096 = .ok (.iadd, 1) := by decide +kernel
theorem d_1097 : decode code 1097 = .ok (.iaload, 1) := by decide +kernel
set_option maxRecDepth 100000 in
theorem w_3014 : (Cond.code ({ cls := "NumberHouseModel", name := "print", desc := "(III)I" } : MethodName) prog_14_method_33_code (7 : Nat) (some .int)) ∈ q_tbl := q_of13 134 rfl (by decide +kernel)
set_option maxRecDepth 100000 in
theorem w_3011 : (Cond.methodLink "NumberHouseLaw" (143 : Nat) ({ cls := "NumberHouseModel", name := "print", desc := "(III)I" } : MethodName)) ∈ q_tbl := q_of13 131 rfl (by decide +kernel)
set_option maxRecDepth 100000 in
theorem w_3012 : (Cond.instanceMethod ({ cls := "NumberHouseModel", name := "print", desc := "(III)I" } : MethodName)) ∈ q_tbl := q_of13 132 rfl (by decide +kernel)
set_option maxRecDepth 100000 in
theorem w_3013 : (Cond.selects "NumberHouseModel" ({ cls := "NumberHouseModel", name := "print", desc := "(III)I" } : MethodName) ({ cls := "NumberHouseModel", name := "print", desc := "(III)I" } : MethodName)) ∈ q_tbl := q_of13 133 rfl (by decide +kernel)
theorem LV_NL_143 : q_LV "NumberHouseLaw" 143 y_NM_print prog_14_method_33_code 7 (some .int) 3 := ⟨w_3014, w_14, w_3011, w_3012, w_3013, ⟨by decide, by decide, by decide +kernel⟩⟩
theorem d_1098 : decode code 1098 = .ok (.invokevirtual 143, 3) := by decide +kernel
theorem d_1101 : decode code 1101 = .ok (.istore 6, 2) := by decide +kernel
theorem d_1103 : decode code 1103 = .ok (.goto 176, 3) := by decide +kernel
set_option maxRecDepth 100000 in
set_option maxHeartbeats 4000000 in
theorem law_k15 {p : Program} {l : Launch} {e : Env} {s : State} {m : MethodId} {below : List Frame} {meth : Method} {c : Code} {b L : Nat} {xs : Nat → Int32} {D : va_G} {g : Nat → ClassId} {q : Nat → Nat} {qo : Nat} {A : Nat → Prop} {ws : va_W} {H : Heap} {locs : List Loc} {Q : State → Prop} {ls : Array Slot} {fo : Nat → Int64} {i0 : Int32} {cells slots : Nat} (hcb : cells ≤ 6000) (hsb : slots ≤ 300000) (hlt : l.stackTraces = false) (C0 : q_At p s m #[Value.ref b] meth c y_NL_law code 8 (some .boolean)) (hX : va_X b L xs s s.heap) (hbl : b < s.heap.size) (hbA : ¬ A b) (V : q_Wd D g A s ws H locs) (hI : q_I (nsh g q) q ws) (hC : iC g q ws) (hJ : q_I (msh g q) q ws) (hM : iM g q ws) (hO : ws[169]? = (some (qo, .inl (g 1, 1, .inr (.inl fo))) : Option (Nat × va_E))) (hi0 : 0 ≤ i0.toInt ∧ i0.toInt + 6 ≤ (L : Int) ∧ (L : Int) ≤ 3072) (hl : lv_has ls 8 [(4, .int i0), (3, .ref qo), (2, .ref (q 116)), (1, .ref (q 0)), (0, .ref b)]) (kend : ∀ (H : Heap) (locs : List Loc) (u : va_W) (f2 : Nat → Int64) (ls : Array Slot), q_Wd D g A s u H locs → q_I (nsh g q) q u → iC g q u → q_I (msh g q) q u → iM g q u → u[169]? = (some (qo, .inl (g 1, 1, .inr (.inl f2))) : Option (Nat × va_E)) → lv_has ls 8 [(4, .int i0), (3, .ref qo), (2, .ref (q 116)), (1, .ref (q 0)), (0, .ref b)] → W p l e room_1 s m #[Value.ref b] below meth c H locs (cells + 10) (slots + 100) Q (F0 m 1279 ls [])) : W p l e room_1 s m #[Value.ref b] below meth c H locs cells slots Q (F0 m 1054 ls []) := by
  have hx := C0.1
  have hb := C0.2.1
  obtain ⟨a1, ha1⟩ : ∃ z : Int32, i0 + 1 = z := ⟨_, rfl⟩
  have hin1 : vp_in a1 L := w_in ha1 (by decide) hi0
  obtain ⟨s1, hs1⟩ : ∃ z : Int32, xs a1.toNatClampNeg = z := ⟨_, rfl⟩
  obtain ⟨a2, ha2⟩ : ∃ z : Int32, i0 + 2 = z := ⟨_, rfl⟩
  have hin2 : vp_in a2 L := w_in ha2 (by decide) hi0
  obtain ⟨s2, hs2⟩ : ∃ z : Int32, xs a2.toNatClampNeg = z := ⟨_, rfl⟩
  obtain ⟨a3, ha3⟩ : ∃ z : Int32, i0 + 3 = z := ⟨_, rfl⟩
  have hin3 : vp_in a3 L := w_in ha3 (by decide) hi0
  obtain ⟨s3, hs3⟩ : ∃ z : Int32, xs a3.toNatClampNeg = z := ⟨_, rfl⟩
  refine lv_aload_n hx hb d_1054 rfl (lv_at hl 3 rfl) ?_
  refine lv_aload_n hx hb d_1055 rfl (lv_at hl 4 rfl) ?_
  refine lv_iload hx hb d_1056 (lv_at hl 0 rfl) ?_
  refine lv_iconst (v := 1) hx hb d_1058 (by decide) ?_
  refine lv_iadd hx hb d_1059 ?_
  refine q_ti (v := a1) ha1 ?_
  refine va_sld hx hb hX hbl hbA V.2.2.1 hin1 d_1060 ?_
  refine q_ti (v := s1) hs1 ?_
  refine lv_aload_n hx hb d_1061 rfl (lv_at hl 4 rfl) ?_
  refine lv_iload hx hb d_1062 (lv_at hl 0 rfl) ?_
  refine lv_iconst (v := 2) hx hb d_1064 (by decide) ?_
  refine lv_iadd hx hb d_1065 ?_
  refine q_ti (v := a2) ha2 ?_
  refine va_sld hx hb hX hbl hbA V.2.2.1 hin2 d_1066 ?_
  refine q_ti (v := s2) hs2 ?_
  refine lv_aload_n hx hb d_1067 rfl (lv_at hl 4 rfl) ?_
  refine lv_iload hx hb d_1068 (lv_at hl 0 rfl) ?_
  refine lv_iconst (v := 3) hx hb d_1070 (by decide) ?_
  refine lv_iadd hx hb d_1071 ?_
  refine q_ti (v := a3) ha3 ?_
  refine va_sld hx hb hX hbl hbA V.2.2.1 hin3 d_1072 ?_
  refine q_ti (v := s3) hs3 ?_
  refine lv_aload_n hx hb d_1073 rfl (lv_at hl 1 rfl) ?_
  refine q_goi V (q_runSW (As := [.ref (q 0), .int s1, .int s2, .int s3, .ref qo]) (rest := []) (d := 10) (mc := 2) (ms := 12) C0 V rfl LW_NL_141 (w_NL_print l D g q ws qo fo s1 s2 s3 hlt hI hC hO _) rfl hl.1 rfl (Nat.le_of_ble_eq_true rfl) ⟨by decide, by decide⟩ ⟨w_rc (by omega) (by decide), w_rs (by omega) (by decide)⟩ d_1074) (fun k1 u1 H locs hp V => ?_)
  obtain ⟨hI, hC, ⟨fo, hO⟩, hF⟩ := hp
  obtain ⟨hJ, hM⟩ : q_I (msh g q) q u1 ∧ iM g q u1 := w_cM hJ hM hI hF
  refine lv_istore (lv' := [(5, .int k1), (4, .int i0), (3, .ref qo), (2, .ref (q 116)), (1, .ref (q 0)), (0, .ref b)]) hx hb d_1077 hl (by decide) rfl (fun ls hl => ?_)
  refine lv_aload_n hx hb d_1079 rfl (lv_at hl 3 rfl) ?_
  refine lv_aload_n hx hb d_1080 rfl (lv_at hl 5 rfl) ?_
  refine lv_iload hx hb d_1081 (lv_at hl 1 rfl) ?_
  refine lv_iconst (v := 1) hx hb d_1083 (by decide) ?_
  refine lv_iadd hx hb d_1084 ?_
  refine q_ti (v := a1) ha1 ?_
  refine va_sld hx hb hX hbl hbA V.2.2.1 hin1 d_1085 ?_
  refine q_ti (v := s1) hs1 ?_
  refine lv_aload_n hx hb d_1086 rfl (lv_at hl 5 rfl) ?_
  refine lv_iload hx hb d_1087 (lv_at hl 1 rfl) ?_
  refine lv_iconst (v := 2) hx hb d_1089 (by decide) ?_
  refine lv_iadd hx hb d_1090 ?_
  refine q_ti (v := a2) ha2 ?_
  refine va_sld hx hb hX hbl hbA V.2.2.1 hin2 d_1091 ?_
  refine q_ti (v := s2) hs2 ?_
  refine lv_aload_n hx hb d_1092 rfl (lv_at hl 5 rfl) ?_
  refine lv_iload hx hb d_1093 (lv_at hl 1 rfl) ?_
  refine lv_iconst (v := 3) hx hb d_1095 (by decide) ?_
  refine lv_iadd hx hb d_1096 ?_
  refine q_ti (v := a3) ha3 ?_
  refine va_sld hx hb hX hbl hbA V.2.2.1 hin3 d_1097 ?_
  refine q_ti (v := s3) hs3 ?_
  obtain ⟨rA, rB, rC, hP0, -⟩ := n_o116 hJ
  refine q_goi V (q_runV (As := [.int s1, .int s2, .int s3]) (rest := []) (d := 6) (mc := 0) (ms := 0) (ci := 12) C0 V rfl LV_NL_143 (CM_print l D g q u1 s1 s2 s3 hJ hM _) rfl rfl hP0 rfl hl.1 rfl (Nat.le_of_ble_eq_true rfl) ⟨by decide, by decide⟩ ⟨w_rc (by omega) (by decide), w_rs (by omega) (by decide)⟩ d_1098) (fun r2 u3 H locs hp V => ?_)
  obtain ⟨hJ, hM, hF⟩ := hp
  obtain ⟨hI, hC⟩ : q_I (nsh g q) q u3 ∧ iC g q u3 := w_cC hI hC (fun i h => hF i (by omega))
  have hO : u3[169]? = (some (qo, .inl (g 1, 1, .inr (.inl fo))) : Option (Nat × va_E)) := (hF 169 (by decide)).trans hO
  refine lv_istore (lv' := [(6, .int r2), (5, .int k1), (4, .int i0), (3, .ref qo), (2, .ref (q 116)), (1, .ref (q 0)), (0, .ref b)]) hx hb d_1101 hl (by decide) rfl (fun ls hl => ?_)
  refine lv_goto (tgt := 1279) hx hb d_1103 (by decide) ?_
  refine W.widen (k := cells + 10) (n := slots + 100) (by omega) (by omega) ?_
  exact kend _ _ _ _ _ V hI hC hJ hM hO (q_lw hl (q_lw1 2 rfl (q_lw1 3 rfl (q_lw1 4 rfl (q_lw1 5 rfl (q_lw1 6 rfl q_lw0))))))
/-! the law, case 16: figures -/
theorem d_1106 : decode code 1106 = .ok (.aload_n 1, 1) := by decide +kernel
theorem d_1107 : decode code 1107 = .ok (.aload_n 0, 1) := by decide +kernel
theorem d_1108 : decode code 1108 = .ok (.iload 4, 2) := by decide +kernel
theorem d_1110 : decode code 1110 = .ok (.iconst 1, 1) := by decide +kernel
theorem d_1111 : decode code 1111 = .ok (.iadd, 1) := by decide +kernel
theorem d_1112 : decode code 1112 = .ok (.iaload, 1) := by decide +kernel
theorem d_1113 : decode code 1113 = .ok (.aload_n 0, 1) := by decide +kernel
theorem d_1114 : decode code 1114 = .ok (.iload 4, 2) := by decide +kernel
theorem d_1116 : decode code 1116 = .ok (.iconst 2, 1) := by decide +kernel
theorem d_1117 : decode code 1117 = .ok (.iadd, 1) := by decide +kernel
theorem d_1118 : decode code 1118 = .ok (.iaload, 1) := by decide +kernel
theorem d_1119 : decode code 1119 = .ok (.aload_n 0, 1) := by decide +kernel
theorem d_1120 : decode code 1120 = .ok (.iload 4, 2) := by decide +kernel
theorem d_1122 : decode code 1122 = .ok (.iconst 3, 1) := by decide +kernel
theorem d_1123 : decode code 1123 = .ok (.iadd, 1) := by decide +kernel
theorem d_1124 : decode code 1124 = .ok (.iaload, 1) := by decide +kernel
theorem d_1125 : decode code 1125 = .ok (.ifCond .eq 7, 3) := by decide +kernel
theorem d_1132 : decode code 1132 = .ok (.iconst 0, 1) := by decide +kernel
theorem d_1133 : decode code 1133 = .ok (.aload_n 0, 1) := by decide +kernel
theorem d_1134 : decode code 1134 = .ok (.iload 4, 2) := by decide +kernel
theorem d_1136 : decode code 1136 = .ok (.iconst 4, 1) := by decide +kernel
theorem d_1137 : decode code 1137 = .ok (.iadd, 1) := by decide +kernel
theorem d_1138 : decode code 1138 = .ok (.iaload, 1) := by decide +kernel
theorem d_1139 : decode code 1139 = .ok (.aload_n 0, 1) := by decide +kernel
theorem d_1140 : decode code 1140 = .ok (.iload 4, 2) := by decide +kernel
theorem d_1142 : decode code 1142 = .ok (.iconst 5, 1) := by decide +kernel
theorem d_1143 : decode code 1143 = .ok (.iadd, 1) := by decide +kernel
theorem d_1144 : decode code 1144 = .ok (.iaload, 1) := by decide +kernel
theorem d_1145 : decode code 1145 = .ok (.aload_n 3, 1) := by decide +kernel
set_option maxRecDepth 100000 in
theorem w_1642 : (Cond.codeWith ({ cls := "NumberHouseLaw", name := "figures", desc := "(LNumberHouse;IIZII[J)I" } : MethodName) method_18_code (8 : Nat) (some .int) [((0 : Nat), (16 : Nat), (19 : Nat), (13 : Nat)), ((0 : Nat), (16 : Nat), (23 : Nat), (19 : Nat))]) ∈ q_tbl := q_of7 202 rfl (by decide +kernel)
set_option maxRecDepth 100000 in
theorem w_1640 : (Cond.methodLink "NumberHouseLaw" (144 : Nat) ({ cls := "NumberHouseLaw", name := "figures", desc := "(LNumberHouse;IIZII[J)I" } : MethodName)) ∈ q_tbl := q_of7 200 rfl (by decide +kernel)
set_option maxRecDepth 100000 in
theorem w_1641 : (Cond.static ({ cls := "NumberHouseLaw", name := "figures", desc := "(LNumberHouse;IIZII[J)I" } : MethodName)) ∈ q_tbl := q_of7 201 rfl (by decide +kernel)
theorem LW_NL_144 : q_LW "NumberHouseLaw" 144 y_NL_figures method_18_code 8 (some .int) [(0, 16, 19, 13), (0, 16, 23, 19)] 7 := ⟨w_1642, w_0, w_1640, w_1641, ⟨by decide, by decide, by decide +kernel⟩⟩
theorem d_1146 : decode code 1146 = .ok (.invokestatic 144, 3) := by decide +kernel
theorem d_1149 : decode code 1149 = .ok (.istore 5, 2) := by decide +kernel
theorem d_1151 : decode code 1151 = .ok (.aload_n 2, 1) := by decide +kernel
theorem d_1152 : decode code 1152 = .ok (.aload_n 0, 1) := by decide +kernel
theorem d_1153 : decode code 1153 = .ok (.iload 4, 2) := by decide +kernel
theorem d_1155 : decode code 1155 = .ok (.iconst 1, 1) := by decide +kernel
theorem d_1156 : decode code 1156 = .ok (.iadd, 1) := by decide +kernel
theorem d_1157 : decode code 1157 = .ok (.iaload, 1) := by decide +kernel
theorem d_1158 : decode code 1158 = .ok (.aload_n 0, 1) := by decide +kernel
theorem d_1159 : decode code 1159 = .ok (.iload 4, 2) := by decide +kernel
theorem d_1161 : decode code 1161 = .ok (.iconst 2, 1) := by decide +kernel
theorem d_1162 : decode code 1162 = .ok (.iadd, 1) := by decide +kernel
theorem d_1163 : decode code 1163 = .ok (.iaload, 1) := by decide +kernel
theorem d_1164 : decode code 1164 = .ok (.aload_n 0, 1) := by decide +kernel
theorem d_1165 : decode code 1165 = .ok (.iload 4, 2) := by decide +kernel
theorem d_1167 : decode code 1167 = .ok (.iconst 3, 1) := by decide +kernel
theorem d_1168 : decode code 1168 = .ok (.iadd, 1) := by decide +kernel
theorem d_1169 : decode code 1169 = .ok (.iaload, 1) := by decide +kernel
theorem d_1170 : decode code 1170 = .ok (.ifCond .eq 7, 3) := by decide +kernel
theorem d_1177 : decode code 1177 = .ok (.iconst 0, 1) := by decide +kernel
theorem d_1178 : decode code 1178 = .ok (.aload_n 0, 1) := by decide +kernel
theorem d_1179 : decode code 1179 = .ok (.iload 4, 2) := by decide +kernel
theorem d_1181 : decode code 1181 = .ok (.iconst 4, 1) := by decide +kernel
theorem d_1182 : decode code 1182 = .ok (.iadd, 1) := by decide +kernel
theorem d_1183 : decode code 1183 = .ok (.iaload, 1) := by decide +kernel
theorem d_1184 : decode code 1184 = .ok (.aload_n 0, 1) := by decide +kernel
theorem d_1185 : decode code 1185 = .ok (.iload 4, 2) := by decide +kernel
theorem d_1187 : decode code 1187 = .ok (.iconst 5, 1) := by decide +kernel
theorem d_1188 : decode code 1188 = .ok (.iadd, 1) := by decide +kernel
theorem d_1189 : decode code 1189 = .ok (.iaload, 1) := by decide +kernel
set_option maxRecDepth 100000 in
theorem w_3060 : (Cond.code ({ cls := "NumberHouseModel", name := "figures", desc := "(IIZII)I" } : MethodName) prog_14_method_34_code (9 : Nat) (some .int)) ∈ q_tbl := q_of13 180 rfl (by decide +kernel)
set_option maxRecDepth 100000 in
theorem w_3057 : (Cond.methodLink "NumberHouseLaw" (147 : Nat) ({ cls := "NumberHouseModel", name := "figures", desc := "(IIZII)I" } : MethodName)) ∈ q_tbl := q_of13 177 rfl (by decide +kernel)
set_option maxRecDepth 100000 in
theorem w_3058 : (Cond.instanceMethod ({ cls := "NumberHouseModel", name := "figures", desc := "(IIZII)I" } : MethodName)) ∈ q_tbl := q_of13 178 rfl (by decide +kernel)
set_option maxRecDepth 100000 in
theorem w_3059 : (Cond.selects "NumberHouseModel" ({ cls := "NumberHouseModel", name := "figures", desc := "(IIZII)I" } : MethodName) ({ cls := "NumberHouseModel", name := "figures", desc := "(IIZII)I" } : MethodName)) ∈ q_tbl := q_of13 179 rfl (by decide +kernel)
theorem LV_NL_147 : q_LV "NumberHouseLaw" 147 y_NM_figures prog_14_method_34_code 9 (some .int) 5 := ⟨w_3060, w_14, w_3057, w_3058, w_3059, ⟨by decide, by decide, by decide +kernel⟩⟩
theorem d_1190 : decode code 1190 = .ok (.invokevirtual 147, 3) := by decide +kernel
theorem d_1193 : decode code 1193 = .ok (.istore 6, 2) := by decide +kernel
theorem d_1195 : decode code 1195 = .ok (.goto 84, 3) := by decide +kernel
theorem d_1128 : decode code 1128 = .ok (.iconst 1, 1) := by decide +kernel
theorem d_1129 : decode code 1129 = .ok (.goto 4, 3) := by decide +kernel
theorem d_1173 : decode code 1173 = .ok (.iconst 1, 1) := by decide +kernel
theorem d_1174 : decode code 1174 = .ok (.goto 4, 3) := by decide +kernel
set_option maxRecDepth 100000 in
set_option maxHeartbeats 4000000 in
theorem law_k16 {p : Program} {l : Launch} {e : Env} {s : State} {m : MethodId} {below : List Frame} {meth : Method} {c : Code} {b L : Nat} {xs : Nat → Int32} {D : va_G} {g : Nat → ClassId} {q : Nat → Nat} {qo : Nat} {A : Nat → Prop} {ws : va_W} {H : Heap} {locs : List Loc} {Q : State → Prop} {ls : Array Slot} {fo : Nat → Int64} {i0 : Int32} {cells slots : Nat} (hcb : cells ≤ 6000) (hsb : slots ≤ 300000) (hlt : l.stackTraces = false) (C0 : q_At p s m #[Value.ref b] meth c y_NL_law code 8 (some .boolean)) (hX : va_X b L xs s s.heap) (hbl : b < s.heap.size) (hbA : ¬ A b) (V : q_Wd D g A s ws H locs) (hI : q_I (nsh g q) q ws) (hC : iC g q ws) (hJ : q_I (msh g q) q ws) (hM : iM g q ws) (hO : ws[169]? = (some (qo, .inl (g 1, 1, .inr (.inl fo))) : Option (Nat × va_E))) (hi0 : 0 ≤ i0.toInt ∧ i0.toInt + 6 ≤ (L : Int) ∧ (L : Int) ≤ 3072) (hl : lv_has ls 8 [(4, .int i0), (3, .ref qo), (2, .ref (q 116)), (1, .ref (q 0)), (0, .ref b)]) (kend : ∀ (H : Heap) (locs : List Loc) (u : va_W) (f2 : Nat → Int64) (ls : Array Slot), q_Wd D g A s u H locs → q_I (nsh g q) q u → iC g q u → q_I (msh g q) q u → iM g q u → u[169]? = (some (qo, .inl (g 1, 1, .inr (.inl f2))) : Option (Nat × va_E)) → lv_has ls 8 [(4, .int i0), (3, .ref qo), (2, .ref (q 116)), (1, .ref (q 0)), (0, .ref b)] → W p l e room_1 s m #[Value.ref b] below meth c H locs (cells + 10) (slots + 100) Q (F0 m 1279 ls [])) : W p l e room_1 s m #[Value.ref b] below meth c H locs cells slots Q (F0 m 1106 ls []) := by
  have hx := C0.1
  have hb := C0.2.1
  obtain ⟨a1, ha1⟩ : ∃ z : Int32, i0 + 1 = z := ⟨_, rfl⟩
  have hin1 : vp_in a1 L := w_in ha1 (by decide) hi0
  obtain ⟨s1, hs1⟩ : ∃ z : Int32, xs a1.toNatClampNeg = z := ⟨_, rfl⟩
  obtain ⟨a2, ha2⟩ : ∃ z : Int32, i0 + 2 = z := ⟨_, rfl⟩
  have hin2 : vp_in a2 L := w_in ha2 (by decide) hi0
  obtain ⟨s2, hs2⟩ : ∃ z : Int32, xs a2.toNatClampNeg = z := ⟨_, rfl⟩
  obtain ⟨a3, ha3⟩ : ∃ z : Int32, i0 + 3 = z := ⟨_, rfl⟩
  have hin3 : vp_in a3 L := w_in ha3 (by decide) hi0
  obtain ⟨s3, hs3⟩ : ∃ z : Int32, xs a3.toNatClampNeg = z := ⟨_, rfl⟩
  obtain ⟨a4, ha4⟩ : ∃ z : Int32, i0 + 4 = z := ⟨_, rfl⟩
  have hin4 : vp_in a4 L := w_in ha4 (by decide) hi0
  obtain ⟨s4, hs4⟩ : ∃ z : Int32, xs a4.toNatClampNeg = z := ⟨_, rfl⟩
  obtain ⟨a5, ha5⟩ : ∃ z : Int32, i0 + 5 = z := ⟨_, rfl⟩
  have hin5 : vp_in a5 L := w_in ha5 (by decide) hi0
  obtain ⟨s5, hs5⟩ : ∃ z : Int32, xs a5.toNatClampNeg = z := ⟨_, rfl⟩
  refine lv_aload_n hx hb d_1106 rfl (lv_at hl 3 rfl) ?_
  refine lv_aload_n hx hb d_1107 rfl (lv_at hl 4 rfl) ?_
  refine lv_iload hx hb d_1108 (lv_at hl 0 rfl) ?_
  refine lv_iconst (v := 1) hx hb d_1110 (by decide) ?_
  refine lv_iadd hx hb d_1111 ?_
  refine q_ti (v := a1) ha1 ?_
  refine va_sld hx hb hX hbl hbA V.2.2.1 hin1 d_1112 ?_
  refine q_ti (v := s1) hs1 ?_
  refine lv_aload_n hx hb d_1113 rfl (lv_at hl 4 rfl) ?_
  refine lv_iload hx hb d_1114 (lv_at hl 0 rfl) ?_
  refine lv_iconst (v := 2) hx hb d_1116 (by decide) ?_
  refine lv_iadd hx hb d_1117 ?_
  refine q_ti (v := a2) ha2 ?_
  refine va_sld hx hb hX hbl hbA V.2.2.1 hin2 d_1118 ?_
  refine q_ti (v := s2) hs2 ?_
  refine lv_aload_n hx hb d_1119 rfl (lv_at hl 4 rfl) ?_
  refine lv_iload hx hb d_1120 (lv_at hl 0 rfl) ?_
  refine lv_iconst (v := 3) hx hb d_1122 (by decide) ?_
  refine lv_iadd hx hb d_1123 ?_
  refine q_ti (v := a3) ha3 ?_
  refine va_sld hx hb hX hbl hbA V.2.2.1 hin3 d_1124 ?_
  refine q_ti (v := s3) hs3 ?_
  refine lv_if_eq (tgt := 1132) hx hb d_1125 (by decide) (fun c1 => ?_) (fun c1 => ?_)
  ·
    refine lv_iconst (v := 0) hx hb d_1132 (by decide) ?_
    refine lv_aload_n hx hb d_1133 rfl (lv_at hl 4 rfl) ?_
    refine lv_iload hx hb d_1134 (lv_at hl 0 rfl) ?_
    refine lv_iconst (v := 4) hx hb d_1136 (by decide) ?_
    refine lv_iadd hx hb d_1137 ?_
    refine q_ti (v := a4) ha4 ?_
    refine va_sld hx hb hX hbl hbA V.2.2.1 hin4 d_1138 ?_
    refine q_ti (v := s4) hs4 ?_
    refine lv_aload_n hx hb d_1139 rfl (lv_at hl 4 rfl) ?_
    refine lv_iload hx hb d_1140 (lv_at hl 0 rfl) ?_
    refine lv_iconst (v := 5) hx hb d_1142 (by decide) ?_
    refine lv_iadd hx hb d_1143 ?_
    refine q_ti (v := a5) ha5 ?_
    refine va_sld hx hb hX hbl hbA V.2.2.1 hin5 d_1144 ?_
    refine q_ti (v := s5) hs5 ?_
    refine lv_aload_n hx hb d_1145 rfl (lv_at hl 1 rfl) ?_
    refine q_goi V (q_runSW (As := [.ref (q 0), .int s1, .int s2, .int 0, .int s4, .int s5, .ref qo]) (rest := []) (d := 9) (mc := 3) (ms := 18) C0 V rfl LW_NL_144 (w_NL_figures l D g q ws qo fo s1 s2 0 s4 s5 (by decide) hlt hI hC hO _) rfl hl.1 rfl (Nat.le_of_ble_eq_true rfl) ⟨by decide, by decide⟩ ⟨w_rc (by omega) (by decide), w_rs (by omega) (by decide)⟩ d_1146) (fun k1 u1 H locs hp V => ?_)
    obtain ⟨hI, hC, ⟨fo, hO⟩, hF⟩ := hp
    obtain ⟨hJ, hM⟩ : q_I (msh g q) q u1 ∧ iM g q u1 := w_cM hJ hM hI hF
    refine lv_istore (lv' := [(5, .int k1), (4, .int i0), (3, .ref qo), (2, .ref (q 116)), (1, .ref (q 0)), (0, .ref b)]) hx hb d_1149 hl (by decide) rfl (fun ls hl => ?_)
    refine lv_aload_n hx hb d_1151 rfl (lv_at hl 3 rfl) ?_
    refine lv_aload_n hx hb d_1152 rfl (lv_at hl 5 rfl) ?_
    refine lv_iload hx hb d_1153 (lv_at hl 1 rfl) ?_
    refine lv_iconst (v := 1) hx hb d_1155 (by decide) ?_
    refine lv_iadd hx hb d_1156 ?_
    refine q_ti (v := a1) ha1 ?_
    refine va_sld hx hb hX hbl hbA V.2.2.1 hin1 d_1157 ?_
    refine q_ti (v := s1) hs1 ?_
    refine lv_aload_n hx hb d_1158 rfl (lv_at hl 5 rfl) ?_
    refine lv_iload hx hb d_1159 (lv_at hl 1 rfl) ?_
    refine lv_iconst (v := 2) hx hb d_1161 (by decide) ?_
    refine lv_iadd hx hb d_1162 ?_
    refine q_ti (v := a2) ha2 ?_
    refine va_sld hx hb hX hbl hbA V.2.2.1 hin2 d_1163 ?_
    refine q_ti (v := s2) hs2 ?_
    refine lv_aload_n hx hb d_1164 rfl (lv_at hl 5 rfl) ?_
    refine lv_iload hx hb d_1165 (lv_at hl 1 rfl) ?_
    refine lv_iconst (v := 3) hx hb d_1167 (by decide) ?_
    refine lv_iadd hx hb d_1168 ?_
    refine q_ti (v := a3) ha3 ?_
    refine va_sld hx hb hX hbl hbA V.2.2.1 hin3 d_1169 ?_
    refine q_ti (v := s3) hs3 ?_
    refine lv_if_eq (tgt := 1177) hx hb d_1170 (by decide) (fun c3 => ?_) (fun c3 => absurd c1 c3)
    refine lv_iconst (v := 0) hx hb d_1177 (by decide) ?_
    refine lv_aload_n hx hb d_1178 rfl (lv_at hl 5 rfl) ?_
    refine lv_iload hx hb d_1179 (lv_at hl 1 rfl) ?_
    refine lv_iconst (v := 4) hx hb d_1181 (by decide) ?_
    refine lv_iadd hx hb d_1182 ?_
    refine q_ti (v := a4) ha4 ?_
    refine va_sld hx hb hX hbl hbA V.2.2.1 hin4 d_1183 ?_
    refine q_ti (v := s4) hs4 ?_
    refine lv_aload_n hx hb d_1184 rfl (lv_at hl 5 rfl) ?_
    refine lv_iload hx hb d_1185 (lv_at hl 1 rfl) ?_
    refine lv_iconst (v := 5) hx hb d_1187 (by decide) ?_
    refine lv_iadd hx hb d_1188 ?_
    refine q_ti (v := a5) ha5 ?_
    refine va_sld hx hb hX hbl hbA V.2.2.1 hin5 d_1189 ?_
    refine q_ti (v := s5) hs5 ?_
    obtain ⟨rA, rB, rC, hP0, -⟩ := n_o116 hJ
    refine q_goi V (q_runV (As := [.int s1, .int s2, .int 0, .int s4, .int s5]) (rest := []) (d := 4) (mc := 0) (ms := 0) (ci := 12) C0 V rfl LV_NL_147 (CM_figures l D g q u1 s1 s2 0 s4 s5 (by decide) hJ hM _) rfl rfl hP0 rfl hl.1 rfl (Nat.le_of_ble_eq_true rfl) ⟨by decide, by decide⟩ ⟨w_rc (by omega) (by decide), w_rs (by omega) (by decide)⟩ d_1190) (fun r4 u5 H locs hp V => ?_)
    obtain ⟨hJ, hM, hF⟩ := hp
    obtain ⟨hI, hC⟩ : q_I (nsh g q) q u5 ∧ iC g q u5 := w_cC hI hC (fun i h => hF i (by omega))
    have hO : u5[169]? = (some (qo, .inl (g 1, 1, .inr (.inl fo))) : Option (Nat × va_E)) := (hF 169 (by decide)).trans hO
    refine lv_istore (lv' := [(6, .int r4), (5, .int k1), (4, .int i0), (3, .ref qo), (2, .ref (q 116)), (1, .ref (q 0)), (0, .ref b)]) hx hb d_1193 hl (by decide) rfl (fun ls hl => ?_)
    refine lv_goto (tgt := 1279) hx hb d_1195 (by decide) ?_
    refine W.widen (k := cells + 10) (n := slots + 100) (by omega) (by omega) ?_
    exact kend _ _ _ _ _ V hI hC hJ hM hO (q_lw hl (q_lw1 2 rfl (q_lw1 3 rfl (q_lw1 4 rfl (q_lw1 5 rfl (q_lw1 6 rfl q_lw0))))))
  ·
    refine lv_iconst (v := 1) hx hb d_1128 (by decide) ?_
    refine lv_goto (tgt := 1133) hx hb d_1129 (by decide) ?_
    refine lv_aload_n hx hb d_1133 rfl (lv_at hl 4 rfl) ?_
    refine lv_iload hx hb d_1134 (lv_at hl 0 rfl) ?_
    refine lv_iconst (v := 4) hx hb d_1136 (by decide) ?_
    refine lv_iadd hx hb d_1137 ?_
    refine q_ti (v := a4) ha4 ?_
    refine va_sld hx hb hX hbl hbA V.2.2.1 hin4 d_1138 ?_
    refine q_ti (v := s4) hs4 ?_
    refine lv_aload_n hx hb d_1139 rfl (lv_at hl 4 rfl) ?_
    refine lv_iload hx hb d_1140 (lv_at hl 0 rfl) ?_
    refine lv_iconst (v := 5) hx hb d_1142 (by decide) ?_
    refine lv_iadd hx hb d_1143 ?_
    refine q_ti (v := a5) ha5 ?_
    refine va_sld hx hb hX hbl hbA V.2.2.1 hin5 d_1144 ?_
    refine q_ti (v := s5) hs5 ?_
    refine lv_aload_n hx hb d_1145 rfl (lv_at hl 1 rfl) ?_
    refine q_goi V (q_runSW (As := [.ref (q 0), .int s1, .int s2, .int 1, .int s4, .int s5, .ref qo]) (rest := []) (d := 9) (mc := 3) (ms := 18) C0 V rfl LW_NL_144 (w_NL_figures l D g q ws qo fo s1 s2 1 s4 s5 (by decide) hlt hI hC hO _) rfl hl.1 rfl (Nat.le_of_ble_eq_true rfl) ⟨by decide, by decide⟩ ⟨w_rc (by omega) (by decide), w_rs (by omega) (by decide)⟩ d_1146) (fun k1 u1 H locs hp V => ?_)
    obtain ⟨hI, hC, ⟨fo, hO⟩, hF⟩ := hp
    obtain ⟨hJ, hM⟩ : q_I (msh g q) q u1 ∧ iM g q u1 := w_cM hJ hM hI hF
    refine lv_istore (lv' := [(5, .int k1), (4, .int i0), (3, .ref qo), (2, .ref (q 116)), (1, .ref (q 0)), (0, .ref b)]) hx hb d_1149 hl (by decide) rfl (fun ls hl => ?_)
    refine lv_aload_n hx hb d_1151 rfl (lv_at hl 3 rfl) ?_
    refine lv_aload_n hx hb d_1152 rfl (lv_at hl 5 rfl) ?_
    refine lv_iload hx hb d_1153 (lv_at hl 1 rfl) ?_
    refine lv_iconst (v := 1) hx hb d_1155 (by decide) ?_
    refine lv_iadd hx hb d_1156 ?_
    refine q_ti (v := a1) ha1 ?_
    refine va_sld hx hb hX hbl hbA V.2.2.1 hin1 d_1157 ?_
    refine q_ti (v := s1) hs1 ?_
    refine lv_aload_n hx hb d_1158 rfl (lv_at hl 5 rfl) ?_
    refine lv_iload hx hb d_1159 (lv_at hl 1 rfl) ?_
    refine lv_iconst (v := 2) hx hb d_1161 (by decide) ?_
    refine lv_iadd hx hb d_1162 ?_
    refine q_ti (v := a2) ha2 ?_
    refine va_sld hx hb hX hbl hbA V.2.2.1 hin2 d_1163 ?_
    refine q_ti (v := s2) hs2 ?_
    refine lv_aload_n hx hb d_1164 rfl (lv_at hl 5 rfl) ?_
    refine lv_iload hx hb d_1165 (lv_at hl 1 rfl) ?_
    refine lv_iconst (v := 3) hx hb d_1167 (by decide) ?_
    refine lv_iadd hx hb d_1168 ?_
    refine q_ti (v := a3) ha3 ?_
    refine va_sld hx hb hX hbl hbA V.2.2.1 hin3 d_1169 ?_
    refine q_ti (v := s3) hs3 ?_
    refine lv_if_eq (tgt := 1177) hx hb d_1170 (by decide) (fun c6 => absurd c6 c1) (fun c6 => ?_)
    refine lv_iconst (v := 1) hx hb d_1173 (by decide) ?_
    refine lv_goto (tgt := 1178) hx hb d_1174 (by decide) ?_
    refine lv_aload_n hx hb d_1178 rfl (lv_at hl 5 rfl) ?_
    refine lv_iload hx hb d_1179 (lv_at hl 1 rfl) ?_
    refine lv_iconst (v := 4) hx hb d_1181 (by decide) ?_
    refine lv_iadd hx hb d_1182 ?_
    refine q_ti (v := a4) ha4 ?_
    refine va_sld hx hb hX hbl hbA V.2.2.1 hin4 d_1183 ?_
    refine q_ti (v := s4) hs4 ?_
    refine lv_aload_n hx hb d_1184 rfl (lv_at hl 5 rfl) ?_
    refine lv_iload hx hb d_1185 (lv_at hl 1 rfl) ?_
    refine lv_iconst (v := 5) hx hb d_1187 (by decide) ?_
    refine lv_iadd hx hb d_1188 ?_
    refine q_ti (v := a5) ha5 ?_
    refine va_sld hx hb hX hbl hbA V.2.2.1 hin5 d_1189 ?_
    refine q_ti (v := s5) hs5 ?_
    obtain ⟨rA, rB, rC, hP0, -⟩ := n_o116 hJ
    refine q_goi V (q_runV (As := [.int s1, .int s2, .int 1, .int s4, .int s5]) (rest := []) (d := 4) (mc := 0) (ms := 0) (ci := 12) C0 V rfl LV_NL_147 (CM_figures l D g q u1 s1 s2 1 s4 s5 (by decide) hJ hM _) rfl rfl hP0 rfl hl.1 rfl (Nat.le_of_ble_eq_true rfl) ⟨by decide, by decide⟩ ⟨w_rc (by omega) (by decide), w_rs (by omega) (by decide)⟩ d_1190) (fun r7 u8 H locs hp V => ?_)
    obtain ⟨hJ, hM, hF⟩ := hp
    obtain ⟨hI, hC⟩ : q_I (nsh g q) q u8 ∧ iC g q u8 := w_cC hI hC (fun i h => hF i (by omega))
    have hO : u8[169]? = (some (qo, .inl (g 1, 1, .inr (.inl fo))) : Option (Nat × va_E)) := (hF 169 (by decide)).trans hO
    refine lv_istore (lv' := [(6, .int r7), (5, .int k1), (4, .int i0), (3, .ref qo), (2, .ref (q 116)), (1, .ref (q 0)), (0, .ref b)]) hx hb d_1193 hl (by decide) rfl (fun ls hl => ?_)
    refine lv_goto (tgt := 1279) hx hb d_1195 (by decide) ?_
    refine W.widen (k := cells + 10) (n := slots + 100) (by omega) (by omega) ?_
    exact kend _ _ _ _ _ V hI hC hJ hM hO (q_lw hl (q_lw1 2 rfl (q_lw1 3 rfl (q_lw1 4 rfl (q_lw1 5 rfl (q_lw1 6 rfl q_lw0))))))
/-! the law, case 17: argument -/
theorem d_1198 : decode code 1198 = .ok (.aload_n 1, 1) := by decide +kernel
theorem d_1199 : decode code 1199 = .ok (.aload_n 0, 1) := by decide +kernel
theorem d_1200 : decode code 1200 = .ok (.iload 4, 2) := by decide +kernel
theorem d_1202 : decode code 1202 = .ok (.iconst 1, 1) := by decide +kernel
theorem d_1203 : decode code 1203 = .ok (.iadd, 1) := by decide +kernel
theorem d_1204 : decode code 1204 = .ok (.iaload, 1) := by decide +kernel
theorem d_1205 : decode code 1205 = .ok (.aload_n 0, 1) := by decide +kernel
theorem d_1206 : decode code 1206 = .ok (.iload 4, 2) := by decide +kernel
theorem d_1208 : decode code 1208 = .ok (.iconst 2, 1) := by decide +kernel
theorem d_1209 : decode code 1209 = .ok (.iadd, 1) := by decide +kernel
theorem d_1210 : decode code 1210 = .ok (.iaload, 1) := by decide +kernel
theorem d_1211 : decode code 1211 = .ok (.aload_n 3, 1) := by decide +kernel
set_option maxRecDepth 100000 in
theorem w_1672 : (Cond.codeWith ({ cls := "NumberHouseLaw", name := "argument", desc := "(LNumberHouse;II[J)I" } : MethodName) method_19_code (5 : Nat) (some .int) [((0 : Nat), (10 : Nat), (13 : Nat), (13 : Nat)), ((0 : Nat), (10 : Nat), (17 : Nat), (19 : Nat)), ((0 : Nat), (10 : Nat), (21 : Nat), (73 : Nat))]) ∈ q_tbl := q_of7 232 rfl (by decide +kernel)
set_option maxRecDepth 100000 in
theorem w_1670 : (Cond.methodLink "NumberHouseLaw" (148 : Nat) ({ cls := "NumberHouseLaw", name := "argument", desc := "(LNumberHouse;II[J)I" } : MethodName)) ∈ q_tbl := q_of7 230 rfl (by decide +kernel)
set_option maxRecDepth 100000 in
theorem w_1671 : (Cond.static ({ cls := "NumberHouseLaw", name := "argument", desc := "(LNumberHouse;II[J)I" } : MethodName)) ∈ q_tbl := q_of7 231 rfl (by decide +kernel)
theorem LW_NL_148 : q_LW "NumberHouseLaw" 148 y_NL_argument method_19_code 5 (some .int) [(0, 10, 13, 13), (0, 10, 17, 19), (0, 10, 21, 73)] 4 := ⟨w_1672, w_0, w_1670, w_1671, ⟨by decide, by decide, by decide +kernel⟩⟩
theorem d_1212 : decode code 1212 = .ok (.invokestatic 148, 3) := by decide +kernel
theorem d_1215 : decode code 1215 = .ok (.istore 5, 2) := by decide +kernel
theorem d_1217 : decode code 1217 = .ok (.aload_n 2, 1) := by decide +kernel
theorem d_1218 : decode code 1218 = .ok (.aload_n 0, 1) := by decide +kernel
theorem d_1219 : decode code 1219 = .ok (.iload 4, 2) := by decide +kernel
theorem d_1221 : decode code 1221 = .ok (.iconst 1, 1) := by decide +kernel
theorem d_1222 : decode code 1222 = .ok (.iadd, 1) := by decide +kernel
theorem d_1223 : decode code 1223 = .ok (.iaload, 1) := by decide +kernel
theorem d_1224 : decode code 1224 = .ok (.aload_n 0, 1) := by decide +kernel
theorem d_1225 : decode code 1225 = .ok (.iload 4, 2) := by decide +kernel
theorem d_1227 : decode code 1227 = .ok (.iconst 2, 1) := by decide +kernel
theorem d_1228 : decode code 1228 = .ok (.iadd, 1) := by decide +kernel
theorem d_1229 : decode code 1229 = .ok (.iaload, 1) := by decide +kernel
set_option maxRecDepth 100000 in
theorem w_3068 : (Cond.code ({ cls := "NumberHouseModel", name := "argument", desc := "(II)I" } : MethodName) prog_14_method_37_code (5 : Nat) (some .int)) ∈ q_tbl := q_of13 188 rfl (by decide +kernel)
set_option maxRecDepth 100000 in
theorem w_3065 : (Cond.methodLink "NumberHouseLaw" (151 : Nat) ({ cls := "NumberHouseModel", name := "argument", desc := "(II)I" } : MethodName)) ∈ q_tbl := q_of13 185 rfl (by decide +kernel)
set_option maxRecDepth 100000 in
theorem w_3066 : (Cond.instanceMethod ({ cls := "NumberHouseModel", name := "argument", desc := "(II)I" } : MethodName)) ∈ q_tbl := q_of13 186 rfl (by decide +kernel)
set_option maxRecDepth 100000 in
theorem w_3067 : (Cond.selects "NumberHouseModel" ({ cls := "NumberHouseModel", name := "argument", desc := "(II)I" } : MethodName) ({ cls := "NumberHouseModel", name := "argument", desc := "(II)I" } : MethodName)) ∈ q_tbl := q_of13 187 rfl (by decide +kernel)
theorem LV_NL_151 : q_LV "NumberHouseLaw" 151 y_NM_argument prog_14_method_37_code 5 (some .int) 2 := ⟨w_3068, w_14, w_3065, w_3066, w_3067, ⟨by decide, by decide, by decide +kernel⟩⟩
theorem d_1230 : decode code 1230 = .ok (.invokevirtual 151, 3) := by decide +kernel
theorem d_1233 : decode code 1233 = .ok (.istore 6, 2) := by decide +kernel
theorem d_1235 : decode code 1235 = .ok (.goto 44, 3) := by decide +kernel
set_option maxRecDepth 100000 in
set_option maxHeartbeats 4000000 in
theorem law_k17 {p : Program} {l : Launch} {e : Env} {s : State} {m : MethodId} {below : List Frame} {meth : Method} {c : Code} {b L : Nat} {xs : Nat → Int32} {D : va_G} {g : Nat → ClassId} {q : Nat → Nat} {qo : Nat} {A : Nat → Prop} {ws : va_W} {H : Heap} {locs : List Loc} {Q : State → Prop} {ls : Array Slot} {fo : Nat → Int64} {i0 : Int32} {cells slots : Nat} (hcb : cells ≤ 6000) (hsb : slots ≤ 300000) (hlt : l.stackTraces = false) (C0 : q_At p s m #[Value.ref b] meth c y_NL_law code 8 (some .boolean)) (hX : va_X b L xs s s.heap) (hbl : b < s.heap.size) (hbA : ¬ A b) (V : q_Wd D g A s ws H locs) (hI : q_I (nsh g q) q ws) (hC : iC g q ws) (hJ : q_I (msh g q) q ws) (hM : iM g q ws) (hO : ws[169]? = (some (qo, .inl (g 1, 1, .inr (.inl fo))) : Option (Nat × va_E))) (hi0 : 0 ≤ i0.toInt ∧ i0.toInt + 6 ≤ (L : Int) ∧ (L : Int) ≤ 3072) (hl : lv_has ls 8 [(4, .int i0), (3, .ref qo), (2, .ref (q 116)), (1, .ref (q 0)), (0, .ref b)]) (kend : ∀ (H : Heap) (locs : List Loc) (u : va_W) (f2 : Nat → Int64) (ls : Array Slot), q_Wd D g A s u H locs → q_I (nsh g q) q u → iC g q u → q_I (msh g q) q u → iM g q u → u[169]? = (some (qo, .inl (g 1, 1, .inr (.inl f2))) : Option (Nat × va_E)) → lv_has ls 8 [(4, .int i0), (3, .ref qo), (2, .ref (q 116)), (1, .ref (q 0)), (0, .ref b)] → W p l e room_1 s m #[Value.ref b] below meth c H locs (cells + 10) (slots + 100) Q (F0 m 1279 ls [])) : W p l e room_1 s m #[Value.ref b] below meth c H locs cells slots Q (F0 m 1198 ls []) := by
  have hx := C0.1
  have hb := C0.2.1
  obtain ⟨a1, ha1⟩ : ∃ z : Int32, i0 + 1 = z := ⟨_, rfl⟩
  have hin1 : vp_in a1 L := w_in ha1 (by decide) hi0
  obtain ⟨s1, hs1⟩ : ∃ z : Int32, xs a1.toNatClampNeg = z := ⟨_, rfl⟩
  obtain ⟨a2, ha2⟩ : ∃ z : Int32, i0 + 2 = z := ⟨_, rfl⟩
  have hin2 : vp_in a2 L := w_in ha2 (by decide) hi0
  obtain ⟨s2, hs2⟩ : ∃ z : Int32, xs a2.toNatClampNeg = z := ⟨_, rfl⟩
  refine lv_aload_n hx hb d_1198 rfl (lv_at hl 3 rfl) ?_
  refine lv_aload_n hx hb d_1199 rfl (lv_at hl 4 rfl) ?_
  refine lv_iload hx hb d_1200 (lv_at hl 0 rfl) ?_
  refine lv_iconst (v := 1) hx hb d_1202 (by decide) ?_
  refine lv_iadd hx hb d_1203 ?_
  refine q_ti (v := a1) ha1 ?_
  refine va_sld hx hb hX hbl hbA V.2.2.1 hin1 d_1204 ?_
  refine q_ti (v := s1) hs1 ?_
  refine lv_aload_n hx hb d_1205 rfl (lv_at hl 4 rfl) ?_
  refine lv_iload hx hb d_1206 (lv_at hl 0 rfl) ?_
  refine lv_iconst (v := 2) hx hb d_1208 (by decide) ?_
  refine lv_iadd hx hb d_1209 ?_
  refine q_ti (v := a2) ha2 ?_
  refine va_sld hx hb hX hbl hbA V.2.2.1 hin2 d_1210 ?_
  refine q_ti (v := s2) hs2 ?_
  refine lv_aload_n hx hb d_1211 rfl (lv_at hl 1 rfl) ?_
  refine q_goi V (q_runSW (As := [.ref (q 0), .int s1, .int s2, .ref qo]) (rest := []) (d := 9) (mc := 6) (ms := 36) C0 V rfl LW_NL_148 (w_NL_argument l D g q ws qo fo s1 s2 hlt hI hC hO _) rfl hl.1 rfl (Nat.le_of_ble_eq_true rfl) ⟨by decide, by decide⟩ ⟨w_rc (by omega) (by decide), w_rs (by omega) (by decide)⟩ d_1212) (fun k1 u1 H locs hp V => ?_)
  obtain ⟨hI, hC, ⟨fo, hO⟩, hF⟩ := hp
  obtain ⟨hJ, hM⟩ : q_I (msh g q) q u1 ∧ iM g q u1 := w_cM hJ hM hI hF
  refine lv_istore (lv' := [(5, .int k1), (4, .int i0), (3, .ref qo), (2, .ref (q 116)), (1, .ref (q 0)), (0, .ref b)]) hx hb d_1215 hl (by decide) rfl (fun ls hl => ?_)
  refine lv_aload_n hx hb d_1217 rfl (lv_at hl 3 rfl) ?_
  refine lv_aload_n hx hb d_1218 rfl (lv_at hl 5 rfl) ?_
  refine lv_iload hx hb d_1219 (lv_at hl 1 rfl) ?_
  refine lv_iconst (v := 1) hx hb d_1221 (by decide) ?_
  refine lv_iadd hx hb d_1222 ?_
  refine q_ti (v := a1) ha1 ?_
  refine va_sld hx hb hX hbl hbA V.2.2.1 hin1 d_1223 ?_
  refine q_ti (v := s1) hs1 ?_
  refine lv_aload_n hx hb d_1224 rfl (lv_at hl 5 rfl) ?_
  refine lv_iload hx hb d_1225 (lv_at hl 1 rfl) ?_
  refine lv_iconst (v := 2) hx hb d_1227 (by decide) ?_
  refine lv_iadd hx hb d_1228 ?_
  refine q_ti (v := a2) ha2 ?_
  refine va_sld hx hb hX hbl hbA V.2.2.1 hin2 d_1229 ?_
  refine q_ti (v := s2) hs2 ?_
  obtain ⟨rA, rB, rC, hP0, -⟩ := n_o116 hJ
  refine q_goi V (q_runV (As := [.int s1, .int s2]) (rest := []) (d := 4) (mc := 0) (ms := 0) (ci := 12) C0 V rfl LV_NL_151 (CM_argument l D g q u1 s1 s2 hJ hM _) rfl rfl hP0 rfl hl.1 rfl (Nat.le_of_ble_eq_true rfl) ⟨by decide, by decide⟩ ⟨w_rc (by omega) (by decide), w_rs (by omega) (by decide)⟩ d_1230) (fun r2 u3 H locs hp V => ?_)
  obtain ⟨hJ, hM, hF⟩ := hp
  obtain ⟨hI, hC⟩ : q_I (nsh g q) q u3 ∧ iC g q u3 := w_cC hI hC (fun i h => hF i (by omega))
  have hO : u3[169]? = (some (qo, .inl (g 1, 1, .inr (.inl fo))) : Option (Nat × va_E)) := (hF 169 (by decide)).trans hO
  refine lv_istore (lv' := [(6, .int r2), (5, .int k1), (4, .int i0), (3, .ref qo), (2, .ref (q 116)), (1, .ref (q 0)), (0, .ref b)]) hx hb d_1233 hl (by decide) rfl (fun ls hl => ?_)
  refine lv_goto (tgt := 1279) hx hb d_1235 (by decide) ?_
  refine W.widen (k := cells + 10) (n := slots + 100) (by omega) (by omega) ?_
  exact kend _ _ _ _ _ V hI hC hJ hM hO (q_lw hl (q_lw1 2 rfl (q_lw1 3 rfl (q_lw1 4 rfl (q_lw1 5 rfl (q_lw1 6 rfl q_lw0))))))
/-! the law, case 18: format -/
theorem d_1238 : decode code 1238 = .ok (.aload_n 1, 1) := by decide +kernel
theorem d_1239 : decode code 1239 = .ok (.aload_n 3, 1) := by decide +kernel
set_option maxRecDepth 100000 in
theorem w_1725 : (Cond.codeWith ({ cls := "NumberHouseLaw", name := "format", desc := "(LNumberHouse;[J)I" } : MethodName) method_20_code (3 : Nat) (some .int) [((0 : Nat), (8 : Nat), (11 : Nat), (73 : Nat))]) ∈ q_tbl := q_of8 45 rfl (by decide +kernel)
set_option maxRecDepth 100000 in
theorem w_1723 : (Cond.methodLink "NumberHouseLaw" (152 : Nat) ({ cls := "NumberHouseLaw", name := "format", desc := "(LNumberHouse;[J)I" } : MethodName)) ∈ q_tbl := q_of8 43 rfl (by decide +kernel)
set_option maxRecDepth 100000 in
theorem w_1724 : (Cond.static ({ cls := "NumberHouseLaw", name := "format", desc := "(LNumberHouse;[J)I" } : MethodName)) ∈ q_tbl := q_of8 44 rfl (by decide +kernel)
theorem LW_NL_152 : q_LW "NumberHouseLaw" 152 y_NL_format method_20_code 3 (some .int) [(0, 8, 11, 73)] 2 := ⟨w_1725, w_0, w_1723, w_1724, ⟨by decide, by decide, by decide +kernel⟩⟩
theorem d_1240 : decode code 1240 = .ok (.invokestatic 152, 3) := by decide +kernel
theorem d_1243 : decode code 1243 = .ok (.istore 5, 2) := by decide +kernel
theorem d_1245 : decode code 1245 = .ok (.aload_n 2, 1) := by decide +kernel
set_option maxRecDepth 100000 in
theorem w_3111 : (Cond.code ({ cls := "NumberHouseModel", name := "format", desc := "()I" } : MethodName) prog_14_method_38_code (2 : Nat) (some .int)) ∈ q_tbl := q_of13 231 rfl (by decide +kernel)
set_option maxRecDepth 100000 in
theorem w_3108 : (Cond.methodLink "NumberHouseLaw" (155 : Nat) ({ cls := "NumberHouseModel", name := "format", desc := "()I" } : MethodName)) ∈ q_tbl := q_of13 228 rfl (by decide +kernel)
set_option maxRecDepth 100000 in
theorem w_3109 : (Cond.instanceMethod ({ cls := "NumberHouseModel", name := "format", desc := "()I" } : MethodName)) ∈ q_tbl := q_of13 229 rfl (by decide +kernel)
set_option maxRecDepth 100000 in
theorem w_3110 : (Cond.selects "NumberHouseModel" ({ cls := "NumberHouseModel", name := "format", desc := "()I" } : MethodName) ({ cls := "NumberHouseModel", name := "format", desc := "()I" } : MethodName)) ∈ q_tbl := q_of13 230 rfl (by decide +kernel)
theorem LV_NL_155 : q_LV "NumberHouseLaw" 155 y_NM_format prog_14_method_38_code 2 (some .int) 0 := ⟨w_3111, w_14, w_3108, w_3109, w_3110, ⟨by decide, by decide, by decide +kernel⟩⟩
theorem d_1246 : decode code 1246 = .ok (.invokevirtual 155, 3) := by decide +kernel
theorem d_1249 : decode code 1249 = .ok (.istore 6, 2) := by decide +kernel
theorem d_1251 : decode code 1251 = .ok (.goto 28, 3) := by decide +kernel
set_option maxRecDepth 100000 in
set_option maxHeartbeats 4000000 in
theorem law_k18 {p : Program} {l : Launch} {e : Env} {s : State} {m : MethodId} {below : List Frame} {meth : Method} {c : Code} {b L : Nat} {xs : Nat → Int32} {D : va_G} {g : Nat → ClassId} {q : Nat → Nat} {qo : Nat} {A : Nat → Prop} {ws : va_W} {H : Heap} {locs : List Loc} {Q : State → Prop} {ls : Array Slot} {fo : Nat → Int64} {i0 : Int32} {cells slots : Nat} (hcb : cells ≤ 6000) (hsb : slots ≤ 300000) (hlt : l.stackTraces = false) (C0 : q_At p s m #[Value.ref b] meth c y_NL_law code 8 (some .boolean)) (hX : va_X b L xs s s.heap) (hbl : b < s.heap.size) (hbA : ¬ A b) (V : q_Wd D g A s ws H locs) (hI : q_I (nsh g q) q ws) (hC : iC g q ws) (hJ : q_I (msh g q) q ws) (hM : iM g q ws) (hO : ws[169]? = (some (qo, .inl (g 1, 1, .inr (.inl fo))) : Option (Nat × va_E))) (hi0 : 0 ≤ i0.toInt ∧ i0.toInt + 6 ≤ (L : Int) ∧ (L : Int) ≤ 3072) (hl : lv_has ls 8 [(4, .int i0), (3, .ref qo), (2, .ref (q 116)), (1, .ref (q 0)), (0, .ref b)]) (kend : ∀ (H : Heap) (locs : List Loc) (u : va_W) (f2 : Nat → Int64) (ls : Array Slot), q_Wd D g A s u H locs → q_I (nsh g q) q u → iC g q u → q_I (msh g q) q u → iM g q u → u[169]? = (some (qo, .inl (g 1, 1, .inr (.inl f2))) : Option (Nat × va_E)) → lv_has ls 8 [(4, .int i0), (3, .ref qo), (2, .ref (q 116)), (1, .ref (q 0)), (0, .ref b)] → W p l e room_1 s m #[Value.ref b] below meth c H locs (cells + 10) (slots + 100) Q (F0 m 1279 ls [])) : W p l e room_1 s m #[Value.ref b] below meth c H locs cells slots Q (F0 m 1238 ls []) := by
  have hx := C0.1
  have hb := C0.2.1
  refine lv_aload_n hx hb d_1238 rfl (lv_at hl 3 rfl) ?_
  refine lv_aload_n hx hb d_1239 rfl (lv_at hl 1 rfl) ?_
  refine q_goi V (q_runSW (As := [.ref (q 0), .ref qo]) (rest := []) (d := 11) (mc := 1) (ms := 6) C0 V rfl LW_NL_152 (w_NL_format l D g q ws qo fo hlt hI hC hO _) rfl hl.1 rfl (Nat.le_of_ble_eq_true rfl) ⟨by decide, by decide⟩ ⟨w_rc (by omega) (by decide), w_rs (by omega) (by decide)⟩ d_1240) (fun k1 u1 H locs hp V => ?_)
  obtain ⟨hI, hC, ⟨fo, hO⟩, hF⟩ := hp
  obtain ⟨hJ, hM⟩ : q_I (msh g q) q u1 ∧ iM g q u1 := w_cM hJ hM hI hF
  refine lv_istore (lv' := [(5, .int k1), (4, .int i0), (3, .ref qo), (2, .ref (q 116)), (1, .ref (q 0)), (0, .ref b)]) hx hb d_1243 hl (by decide) rfl (fun ls hl => ?_)
  refine lv_aload_n hx hb d_1245 rfl (lv_at hl 3 rfl) ?_
  obtain ⟨rA, rB, rC, hP0, -⟩ := n_o116 hJ
  refine q_goi V (q_runV (As := []) (rest := []) (d := 10) (mc := 0) (ms := 0) (ci := 12) C0 V rfl LV_NL_155 (CM_format l D g q u1 hJ hM _) rfl rfl hP0 rfl hl.1 rfl (Nat.le_of_ble_eq_true rfl) ⟨by decide, by decide⟩ ⟨w_rc (by omega) (by decide), w_rs (by omega) (by decide)⟩ d_1246) (fun r2 u3 H locs hp V => ?_)
  obtain ⟨hJ, hM, hF⟩ := hp
  obtain ⟨hI, hC⟩ : q_I (nsh g q) q u3 ∧ iC g q u3 := w_cC hI hC (fun i h => hF i (by omega))
  have hO : u3[169]? = (some (qo, .inl (g 1, 1, .inr (.inl fo))) : Option (Nat × va_E)) := (hF 169 (by decide)).trans hO
  refine lv_istore (lv' := [(6, .int r2), (5, .int k1), (4, .int i0), (3, .ref qo), (2, .ref (q 116)), (1, .ref (q 0)), (0, .ref b)]) hx hb d_1249 hl (by decide) rfl (fun ls hl => ?_)
  refine lv_goto (tgt := 1279) hx hb d_1251 (by decide) ?_
  refine W.widen (k := cells + 10) (n := slots + 100) (by omega) (by omega) ?_
  exact kend _ _ _ _ _ V hI hC hJ hM hO (q_lw hl (q_lw1 2 rfl (q_lw1 3 rfl (q_lw1 4 rfl (q_lw1 5 rfl (q_lw1 6 rfl q_lw0))))))
/-! the law, case 19: paperAt -/
theorem d_1254 : decode code 1254 = .ok (.aload_n 1, 1) := by decide +kernel
theorem d_1255 : decode code 1255 = .ok (.aload_n 0, 1) := by decide +kernel
theorem d_1256 : decode code 1256 = .ok (.iload 4, 2) := by decide +kernel
theorem d_1258 : decode code 1258 = .ok (.iconst 1, 1) := by decide +kernel
theorem d_1259 : decode code 1259 = .ok (.iadd, 1) := by decide +kernel
theorem d_1260 : decode code 1260 = .ok (.iaload, 1) := by decide +kernel
set_option maxRecDepth 100000 in
theorem w_478 : (Cond.code ({ cls := "NumberHouse", name := "paperAt", desc := "(I)J" } : MethodName) prog_1_method_21_code (5 : Nat) (some .long)) ∈ q_tbl := q_of2 238 rfl (by decide +kernel)
set_option maxRecDepth 100000 in
theorem w_475 : (Cond.methodLink "NumberHouseLaw" (156 : Nat) ({ cls := "NumberHouse", name := "paperAt", desc := "(I)J" } : MethodName)) ∈ q_tbl := q_of2 235 rfl (by decide +kernel)
set_option maxRecDepth 100000 in
theorem w_476 : (Cond.instanceMethod ({ cls := "NumberHouse", name := "paperAt", desc := "(I)J" } : MethodName)) ∈ q_tbl := q_of2 236 rfl (by decide +kernel)
set_option maxRecDepth 100000 in
theorem w_477 : (Cond.selects "NumberHouse" ({ cls := "NumberHouse", name := "paperAt", desc := "(I)J" } : MethodName) ({ cls := "NumberHouse", name := "paperAt", desc := "(I)J" } : MethodName)) ∈ q_tbl := q_of2 237 rfl (by decide +kernel)
theorem LV_NL_156 : q_LV "NumberHouseLaw" 156 y_NH_paperAt prog_1_method_21_code 5 (some .long) 1 := ⟨w_478, w_1, w_475, w_476, w_477, ⟨by decide, by decide, by decide +kernel⟩⟩
theorem d_1261 : decode code 1261 = .ok (.invokevirtual 156, 3) := by decide +kernel
theorem d_1264 : decode code 1264 = .ok (.pop2, 1) := by decide +kernel
theorem d_1265 : decode code 1265 = .ok (.aload_n 2, 1) := by decide +kernel
theorem d_1266 : decode code 1266 = .ok (.aload_n 0, 1) := by decide +kernel
theorem d_1267 : decode code 1267 = .ok (.iload 4, 2) := by decide +kernel
theorem d_1269 : decode code 1269 = .ok (.iconst 1, 1) := by decide +kernel
theorem d_1270 : decode code 1270 = .ok (.iadd, 1) := by decide +kernel
theorem d_1271 : decode code 1271 = .ok (.iaload, 1) := by decide +kernel
set_option maxRecDepth 100000 in
theorem w_2351 : (Cond.code ({ cls := "NumberHouseModel", name := "paperAt", desc := "(I)J" } : MethodName) prog_14_method_6_code (7 : Nat) (some .long)) ∈ q_tbl := q_of10 191 rfl (by decide +kernel)
set_option maxRecDepth 100000 in
theorem w_2348 : (Cond.methodLink "NumberHouseLaw" (160 : Nat) ({ cls := "NumberHouseModel", name := "paperAt", desc := "(I)J" } : MethodName)) ∈ q_tbl := q_of10 188 rfl (by decide +kernel)
set_option maxRecDepth 100000 in
theorem w_2349 : (Cond.instanceMethod ({ cls := "NumberHouseModel", name := "paperAt", desc := "(I)J" } : MethodName)) ∈ q_tbl := q_of10 189 rfl (by decide +kernel)
set_option maxRecDepth 100000 in
theorem w_2350 : (Cond.selects "NumberHouseModel" ({ cls := "NumberHouseModel", name := "paperAt", desc := "(I)J" } : MethodName) ({ cls := "NumberHouseModel", name := "paperAt", desc := "(I)J" } : MethodName)) ∈ q_tbl := q_of10 190 rfl (by decide +kernel)
theorem LV_NL_160 : q_LV "NumberHouseLaw" 160 y_NM_paperAt prog_14_method_6_code 7 (some .long) 1 := ⟨w_2351, w_14, w_2348, w_2349, w_2350, ⟨by decide, by decide, by decide +kernel⟩⟩
theorem d_1272 : decode code 1272 = .ok (.invokevirtual 160, 3) := by decide +kernel
theorem d_1275 : decode code 1275 = .ok (.pop2, 1) := by decide +kernel
theorem d_1276 : decode code 1276 = .ok (.goto 3, 3) := by decide +kernel
set_option maxRecDepth 100000 in
set_option maxHeartbeats 4000000 in
theorem law_k19 {p : Program} {l : Launch} {e : Env} {s : State} {m : MethodId} {below : List Frame} {meth : Method} {c : Code} {b L : Nat} {xs : Nat → Int32} {D : va_G} {g : Nat → ClassId} {q : Nat → Nat} {qo : Nat} {A : Nat → Prop} {ws : va_W} {H : Heap} {locs : List Loc} {Q : State → Prop} {ls : Array Slot} {fo : Nat → Int64} {i0 : Int32} {cells slots : Nat} (hcb : cells ≤ 6000) (hsb : slots ≤ 300000) (hlt : l.stackTraces = false) (C0 : q_At p s m #[Value.ref b] meth c y_NL_law code 8 (some .boolean)) (hX : va_X b L xs s s.heap) (hbl : b < s.heap.size) (hbA : ¬ A b) (V : q_Wd D g A s ws H locs) (hI : q_I (nsh g q) q ws) (hC : iC g q ws) (hJ : q_I (msh g q) q ws) (hM : iM g q ws) (hO : ws[169]? = (some (qo, .inl (g 1, 1, .inr (.inl fo))) : Option (Nat × va_E))) (hi0 : 0 ≤ i0.toInt ∧ i0.toInt + 6 ≤ (L : Int) ∧ (L : Int) ≤ 3072) (hl : lv_has ls 8 [(4, .int i0), (3, .ref qo), (2, .ref (q 116)), (1, .ref (q 0)), (0, .ref b)]) (kend : ∀ (H : Heap) (locs : List Loc) (u : va_W) (f2 : Nat → Int64) (ls : Array Slot), q_Wd D g A s u H locs → q_I (nsh g q) q u → iC g q u → q_I (msh g q) q u → iM g q u → u[169]? = (some (qo, .inl (g 1, 1, .inr (.inl f2))) : Option (Nat × va_E)) → lv_has ls 8 [(4, .int i0), (3, .ref qo), (2, .ref (q 116)), (1, .ref (q 0)), (0, .ref b)] → W p l e room_1 s m #[Value.ref b] below meth c H locs (cells + 10) (slots + 100) Q (F0 m 1279 ls [])) : W p l e room_1 s m #[Value.ref b] below meth c H locs cells slots Q (F0 m 1254 ls []) := by
  have hx := C0.1
  have hb := C0.2.1
  obtain ⟨a1, ha1⟩ : ∃ z : Int32, i0 + 1 = z := ⟨_, rfl⟩
  have hin1 : vp_in a1 L := w_in ha1 (by decide) hi0
  obtain ⟨s1, hs1⟩ : ∃ z : Int32, xs a1.toNatClampNeg = z := ⟨_, rfl⟩
  refine lv_aload_n hx hb d_1254 rfl (lv_at hl 3 rfl) ?_
  refine lv_aload_n hx hb d_1255 rfl (lv_at hl 4 rfl) ?_
  refine lv_iload hx hb d_1256 (lv_at hl 0 rfl) ?_
  refine lv_iconst (v := 1) hx hb d_1258 (by decide) ?_
  refine lv_iadd hx hb d_1259 ?_
  refine q_ti (v := a1) ha1 ?_
  refine va_sld hx hb hX hbl hbA V.2.2.1 hin1 d_1260 ?_
  refine q_ti (v := s1) hs1 ?_
  obtain ⟨E0, hP0, hE0⟩ := hI 0 _ (n_s0 g q)
  unfold k_0 at hE0
  subst hE0
  refine q_gol V (q_runV (As := [.int s1]) (rest := []) (d := 2) (mc := 0) (ms := 0) (ci := 0) C0 V rfl LV_NL_156 (C_paperAt l D g q ws s1 hI hC _) rfl rfl hP0 rfl hl.1 rfl (Nat.le_of_ble_eq_true rfl) ⟨by decide, by decide⟩ ⟨w_rc (by omega) (by decide), w_rs (by omega) (by decide)⟩ d_1261) (fun r1 u2 H locs hp V => ?_)
  obtain ⟨hI, hC, hF⟩ := hp
  obtain ⟨hJ, hM⟩ : q_I (msh g q) q u2 ∧ iM g q u2 := w_cM hJ hM hI (fun i h _ => hF i h)
  have hO : u2[169]? = (some (qo, .inl (g 1, 1, .inr (.inl fo))) : Option (Nat × va_E)) := (hF 169 (Nat.le_of_ble_eq_true rfl)).trans hO
  refine lv_pop2_2 hx hb d_1264 rfl ?_
  refine lv_aload_n hx hb d_1265 rfl (lv_at hl 2 rfl) ?_
  refine lv_aload_n hx hb d_1266 rfl (lv_at hl 4 rfl) ?_
  refine lv_iload hx hb d_1267 (lv_at hl 0 rfl) ?_
  refine lv_iconst (v := 1) hx hb d_1269 (by decide) ?_
  refine lv_iadd hx hb d_1270 ?_
  refine q_ti (v := a1) ha1 ?_
  refine va_sld hx hb hX hbl hbA V.2.2.1 hin1 d_1271 ?_
  refine q_ti (v := s1) hs1 ?_
  obtain ⟨rA, rB, rC, hP0, -⟩ := n_o116 hJ
  refine q_gol V (q_runV (As := [.int s1]) (rest := []) (d := 1) (mc := 0) (ms := 0) (ci := 12) C0 V rfl LV_NL_160 (CM_paperAt l D g q u2 s1 hJ hM _) rfl rfl hP0 rfl hl.1 rfl (Nat.le_of_ble_eq_true rfl) ⟨by decide, by decide⟩ ⟨w_rc (by omega) (by decide), w_rs (by omega) (by decide)⟩ d_1272) (fun r2 u3 H locs hp V => ?_)
  obtain ⟨hJ, hM, hF⟩ := hp
  obtain ⟨hI, hC⟩ : q_I (nsh g q) q u3 ∧ iC g q u3 := w_cC hI hC (fun i h => hF i (by omega))
  have hO : u3[169]? = (some (qo, .inl (g 1, 1, .inr (.inl fo))) : Option (Nat × va_E)) := (hF 169 (by decide)).trans hO
  refine lv_pop2_2 hx hb d_1275 rfl ?_
  refine lv_goto (tgt := 1279) hx hb d_1276 (by decide) ?_
  refine W.widen (k := cells + 10) (n := slots + 100) (by omega) (by omega) ?_
  exact kend _ _ _ _ _ V hI hC hJ hM hO (q_lw hl (q_lw1 0 rfl (q_lw1 1 rfl (q_lw1 2 rfl (q_lw1 3 rfl (q_lw1 4 rfl q_lw0))))))
/-! the law's loop -/
/-! THE CLAIM OUT OF ONE WALK OF THE LAW'S BODY. Your part is whole_start (and what it stands on); all else here is the same for every law, but numbers. -/
def R_law : String := "NumberHouseLaw"
def lw_P (b : Addr) (xs : List Int32) (args : Array Value) (s : State) : Prop := args = #[.ref b] ∧ s.IntsAt b xs ∧ xs.length ≤ 3072 ∧ (Jvm.Cond.and given_1 narrow_1).before args s = true
def lw_Q (_ : Array Value) (s : State) (o : Outcome) (t : State) : Prop := o = .returned (some (.int 1)) ∧ Framed s o t [] 601024 7293034
def lw_Z (below : List Frame) (a : Array Value) (s : State) : State → Prop := fun t => ∃ o, t.status = .running ∧ Ended t below o ∧ lw_Q a s o t
/-- the law's own end, with 1 on the stack, nothing written that was there before, its room as the claim has it -/
theorem lw_ret {p : Program} {l : Launch} {e : Env} {s : State} {m : MethodId} {below : List Frame} {meth : Method} {c : Code} {b : Nat} (hx : p.tables.exec = Jvm.exec) (hb : c.code = code) (hr : meth.sig.returnType = ret) (hlocks : meth.locks = false) {pc : Nat} {H : Heap} {ls : Array Slot} (hdg : decode code pc = .ok (.ireturn, 1)) : W p l e room_1 s m #[Value.ref b] below meth c H [] 601024 7293034 (lw_Z below #[Value.ref b] s) (F0 m pc ls [.int 1]) := by
  intro T hT X
  obtain ⟨fs, hret, hrun, hended, hW, hframe⟩ := X.leave (v := some (.int 1)) (hlocks := hlocks) (fun h => by rw [hr] at h; cases h)
  have hmeth' : T.vm.method? m = some meth := X.method'
  refine ⟨T.setFrames fs, ?_, .returned (some (.int 1)), hrun, hended, rfl, ⟨_, rfl⟩, hW, hframe⟩
  jvm_step X.here [X.here.top, hx, hb, hdg, hmeth', hr, ret, narrow_b1]
  (try refine ⟨rfl, ?_⟩); (try refine ⟨rfl, ?_⟩)
  first | (intro acts; rw [hret _ acts rfl rfl rfl]) | rw [hret _ _ rfl rfl rfl]
  exact Steps.refl _
/-- what holds at the law's entry: the machine, the code, the tables' words (any of lw_tbl by 'hts w (by decide +kernel)'), the script of L ints xs at the cell b, what the Statement gives of the start (any of its parts by flat_of_before) -/
def lw_At (p : Program) (s : State) (m : MethodId) (meth : Method) (c : Code) (b L : Nat) (xs : Nat → Int32) : Prop :=
  p.tables.exec = Jvm.exec ∧ c.code = code ∧ meth.sig.returnType = ret ∧ c.maxLocals = 8 ∧ s.vm.findClass R_law = some m.cls ∧ (∀ w ∈ lw_tbl, w.before #[Value.ref b] s = true) ∧ va_X b L xs s s.heap ∧ b < s.heap.size ∧ meth.locks = false ∧ (Jvm.Cond.and given_1 narrow_1).before #[Value.ref b] s = true
theorem d_1285 : decode code 1285 = .ok (.iconst 1, 1) := by decide +kernel
theorem d_1286 : decode code 1286 = .ok (.ireturn, 1) := by decide +kernel
theorem d_23 : decode code 23 = .ok (.iload 4, 2) := by decide +kernel
theorem d_25 : decode code 25 = .ok (.aload_n 0, 1) := by decide +kernel
theorem d_26 : decode code 26 = .ok (.arraylength, 1) := by decide +kernel
theorem d_27 : decode code 27 = .ok (.bipush 6, 2) := by decide +kernel
theorem d_29 : decode code 29 = .ok (.isub, 1) := by decide +kernel
theorem d_33 : decode code 33 = .ok (.aload_n 0, 1) := by decide +kernel
theorem d_34 : decode code 34 = .ok (.iload 4, 2) := by decide +kernel
theorem d_36 : decode code 36 = .ok (.iaload, 1) := by decide +kernel
theorem d_37 : decode code 37 = .ok (.bipush 31, 2) := by decide +kernel
theorem d_39 : decode code 39 = .ok (.iand, 1) := by decide +kernel
theorem d_40 : decode code 40 = .ok (.tableswitch 1239 0 19 #[96, 168, 181, 233, 325, 377, 429, 490, 551, 612, 673, 734, 807, 880, 953, 1014, 1066, 1158, 1198, 1214], 96) := by decide +kernel
theorem d_1279 : decode code 1279 = .ok (.iinc 4 6, 3) := by decide +kernel
theorem d_1282 : decode code 1282 = .ok (.goto (-1259), 3) := by decide +kernel
theorem d_30 : decode code 30 = .ok (.if_icmp .gt 1255, 3) := by decide +kernel
set_option maxRecDepth 100000 in
set_option maxHeartbeats 4000000 in
theorem law_end {p : Program} {l : Launch} {e : Env} {s : State} {m : MethodId} {below : List Frame} {meth : Method} {c : Code} {b : Nat} {D : va_G} {g : Nat → ClassId} {H : Heap} {locs : List Loc} {u : va_W} {ls : Array Slot} {cells slots : Nat} (C0 : q_At p s m #[Value.ref b] meth c y_NL_law code 8 (some .boolean)) (hr : meth.sig.returnType = ret) (V : q_Wd D g (fun q : Nat => s.heap.size ≤ q) s u H locs) (hc : cells ≤ 601024) (hs : slots ≤ 7293034) : W p l e room_1 s m #[Value.ref b] below meth c H locs cells slots (lw_Z below #[Value.ref b] s) (F0 m 1285 ls []) := by
  have hx := C0.1
  have hb := C0.2.1
  refine lv_iconst (v := 1) hx hb d_1285 (by decide) ?_
  refine va_forget (fun q hq => V.2.2.1.2.2 q hq) ?_
  refine W.widen (k := 601024) (n := 7293034) hc hs ?_
  exact lw_ret hx hb hr C0.2.2.2.2.2.2.1 d_1286
theorem w_six {i0 : Int32} {k : Nat} (h : i0.toInt = 6 * (k : Int)) (hk : (k : Int) ≤ 600) : (i0 + 6 : Int32).toInt = 6 * ((k + 1 : Nat) : Int) := by
  have e : (i0 + 6 : Int32).toInt = i0.toInt + 6 := q_addI (y := 6) rfl (by decide) (by omega) (by omega)
  omega
theorem law_next {p : Program} {l : Launch} {e : Env} {s : State} {m : MethodId} {below : List Frame} {meth : Method} {c : Code} {b : Nat} {D : va_G} {g : Nat → ClassId} {q : Nat → Nat} {qo : Nat} {A : Nat → Prop} {H : Heap} {locs : List Loc} {u : va_W} {f2 : Nat → Int64} {ls : Array Slot} {Q : State → Prop} {i0 : Int32} {cells slots : Nat} (C0 : q_At p s m #[Value.ref b] meth c y_NL_law code 8 (some .boolean)) (V : q_Wd D g A s u H locs) (hI : q_I (nsh g q) q u) (hC : iC g q u) (hJ : q_I (msh g q) q u) (hM : iM g q u) (hO : u[169]? = (some (qo, .inl (g 1, 1, .inr (.inl f2))) : Option (Nat × va_E))) (hl : lv_has ls 8 [(4, .int i0), (3, .ref qo), (2, .ref (q 116)), (1, .ref (q 0)), (0, .ref b)]) (kk : ∀ ls : Array Slot, lv_has ls 8 [(4, .int (i0 + 6)), (3, .ref qo), (2, .ref (q 116)), (1, .ref (q 0)), (0, .ref b)] → W p l e room_1 s m #[Value.ref b] below meth c H locs cells slots Q (F0 m 23 ls [])) : W p l e room_1 s m #[Value.ref b] below meth c H locs cells slots Q (F0 m 1279 ls []) := by
  have hx := C0.1
  have hb := C0.2.1
  refine lv_iinc (v := i0 + 6) (lv' := [(4, .int (i0 + 6)), (3, .ref qo), (2, .ref (q 116)), (1, .ref (q 0)), (0, .ref b)]) hx hb d_1279 hl (k := 0) rfl rfl (by decide) rfl (fun ls hl => ?_)
  refine lv_goto (tgt := 23) hx hb d_1282 (by decide) ?_
  exact kk ls hl
set_option maxRecDepth 100000 in
set_option maxHeartbeats 4000000 in
theorem law_loop {p : Program} {l : Launch} {e : Env} {s : State} {m : MethodId} {below : List Frame} {meth : Method} {c : Code} {b L : Nat} {xs : Nat → Int32} {D : va_G} {g : Nat → ClassId} {q : Nat → Nat} {qo : Nat} (hlt : l.stackTraces = false) (C0 : q_At p s m #[Value.ref b] meth c y_NL_law code 8 (some .boolean)) (hr : meth.sig.returnType = ret) (hX : va_X b L xs s s.heap) (hbl : b < s.heap.size) (hL : L ≤ 3072) : ∀ (n k : Nat), (L < 6 * (k + n) ∧ k ≤ 513 ∧ k + n ≤ 600) → ∀ (H : Heap) (locs : List Loc) (ws : va_W) (fo : Nat → Int64) (ls : Array Slot) (i0 : Int32), q_Wd D g (fun q : Nat => s.heap.size ≤ q) s ws H locs → q_I (nsh g q) q ws → iC g q ws → q_I (msh g q) q ws → iM g q ws → ws[169]? = (some (qo, .inl (g 1, 1, .inr (.inl fo))) : Option (Nat × va_E)) → i0.toInt = 6 * (k : Int) → lv_has ls 8 [(4, .int i0), (3, .ref qo), (2, .ref (q 116)), (1, .ref (q 0)), (0, .ref b)] → W p l e room_1 s m #[Value.ref b] below meth c H locs (200 + 10 * k) (200000 + 100 * k) (lw_Z below #[Value.ref b] s) (F0 m 23 ls []) := by
  have hx := C0.1
  have hb := C0.2.1
  have hbA : ¬ (fun q : Nat => s.heap.size ≤ q) b := Nat.not_le.mpr hbl
  intro n
  induction n with
  | zero =>
    intro k hk H locs ws fo ls i0 V hI hC hJ hM hO hik hl
    refine lv_iload hx hb d_23 (lv_at hl 0 rfl) ?_
    refine lv_aload_n hx hb d_25 rfl (lv_at hl 4 rfl) ?_
    refine va_slen hx hb hX hbl hbA V.2.2.1 d_26 ?_
    refine lv_bipush (v := 6) hx hb d_27 (by decide) ?_
    refine lv_isub hx hb d_29 ?_
    refine lv_icmp_gt (tgt := 1285) hx hb d_30 (by decide) (fun c => ?_) (fun c => absurd (q_nltI c) (by rw [w_sub hL]; omega))
    exact law_end C0 hr V (by omega) (by omega)
  | succ n ih =>
    intro k hk H locs ws fo ls i0 V hI hC hJ hM hO hik hl
    refine lv_iload hx hb d_23 (lv_at hl 0 rfl) ?_
    refine lv_aload_n hx hb d_25 rfl (lv_at hl 4 rfl) ?_
    refine va_slen hx hb hX hbl hbA V.2.2.1 d_26 ?_
    refine lv_bipush (v := 6) hx hb d_27 (by decide) ?_
    refine lv_isub hx hb d_29 ?_
    refine lv_icmp_gt (tgt := 1285) hx hb d_30 (by decide) (fun c => law_end C0 hr V (by omega) (by omega)) (fun c => ?_)
    have hc := q_nltI c
    rw [w_sub hL] at hc
    have hi0 : 0 ≤ i0.toInt ∧ i0.toInt + 6 ≤ (L : Int) ∧ (L : Int) ≤ 3072 := ⟨by omega, by omega, by omega⟩
    refine lv_aload_n hx hb d_33 rfl (lv_at hl 4 rfl) ?_
    refine lv_iload hx hb d_34 (lv_at hl 0 rfl) ?_
    refine va_sld hx hb hX hbl hbA V.2.2.1 (w_in0 hi0) d_36 ?_
    obtain ⟨s0, hs0⟩ : ∃ z : Int32, xs i0.toNatClampNeg = z := ⟨_, rfl⟩
    refine q_ti (v := s0) hs0 ?_
    refine lv_bipush (v := 31) hx hb d_37 (by decide) ?_
    refine lv_iand hx hb d_39 ?_
    by_cases c0 : (s0 &&& 31) = 0
    ·
      refine q_ti (v := 0) c0 ?_
      refine lv_tableIn (tgt := 136) (off := 96) hx hb d_40 (by decide) (by decide) (by decide) (by decide) ?_
      exact law_k0 (cells := 200 + 10 * k) (slots := 200000 + 100 * k) (by omega) (by omega) hlt C0 hX hbl hbA V hI hC hJ hM hO hi0 hl (fun H locs u f2 ls V hI hC hJ hM hO hl => law_next C0 V hI hC hJ hM hO hl (fun ls hl => ih (k + 1) (by omega) H locs u f2 ls (i0 + 6) V hI hC hJ hM hO (w_six hik (by omega)) hl))
    by_cases c1 : (s0 &&& 31) = 1
    ·
      refine q_ti (v := 1) c1 ?_
      refine lv_tableIn (tgt := 208) (off := 168) hx hb d_40 (by decide) (by decide) (by decide) (by decide) ?_
      exact law_k1 (cells := 200 + 10 * k) (slots := 200000 + 100 * k) (by omega) (by omega) hlt C0 hX hbl hbA V hI hC hJ hM hO hi0 hl (fun H locs u f2 ls V hI hC hJ hM hO hl => law_next C0 V hI hC hJ hM hO hl (fun ls hl => ih (k + 1) (by omega) H locs u f2 ls (i0 + 6) V hI hC hJ hM hO (w_six hik (by omega)) hl))
    by_cases c2 : (s0 &&& 31) = 2
    ·
      refine q_ti (v := 2) c2 ?_
      refine lv_tableIn (tgt := 221) (off := 181) hx hb d_40 (by decide) (by decide) (by decide) (by decide) ?_
      exact law_k2 (cells := 200 + 10 * k) (slots := 200000 + 100 * k) (by omega) (by omega) hlt C0 hX hbl hbA V hI hC hJ hM hO hi0 hl (fun H locs u f2 ls V hI hC hJ hM hO hl => law_next C0 V hI hC hJ hM hO hl (fun ls hl => ih (k + 1) (by omega) H locs u f2 ls (i0 + 6) V hI hC hJ hM hO (w_six hik (by omega)) hl))
    by_cases c3 : (s0 &&& 31) = 3
    ·
      refine q_ti (v := 3) c3 ?_
      refine lv_tableIn (tgt := 273) (off := 233) hx hb d_40 (by decide) (by decide) (by decide) (by decide) ?_
      exact law_k3 (cells := 200 + 10 * k) (slots := 200000 + 100 * k) (by omega) (by omega) hlt C0 hX hbl hbA V hI hC hJ hM hO hi0 hl (fun H locs u f2 ls V hI hC hJ hM hO hl => law_next C0 V hI hC hJ hM hO hl (fun ls hl => ih (k + 1) (by omega) H locs u f2 ls (i0 + 6) V hI hC hJ hM hO (w_six hik (by omega)) hl))
    by_cases c4 : (s0 &&& 31) = 4
    ·
      refine q_ti (v := 4) c4 ?_
      refine lv_tableIn (tgt := 365) (off := 325) hx hb d_40 (by decide) (by decide) (by decide) (by decide) ?_
      exact law_k4 (cells := 200 + 10 * k) (slots := 200000 + 100 * k) (by omega) (by omega) hlt C0 hX hbl hbA V hI hC hJ hM hO hi0 hl (fun H locs u f2 ls V hI hC hJ hM hO hl => law_next C0 V hI hC hJ hM hO hl (fun ls hl => ih (k + 1) (by omega) H locs u f2 ls (i0 + 6) V hI hC hJ hM hO (w_six hik (by omega)) hl))
    by_cases c5 : (s0 &&& 31) = 5
    ·
      refine q_ti (v := 5) c5 ?_
      refine lv_tableIn (tgt := 417) (off := 377) hx hb d_40 (by decide) (by decide) (by decide) (by decide) ?_
      exact law_k5 (cells := 200 + 10 * k) (slots := 200000 + 100 * k) (by omega) (by omega) hlt C0 hX hbl hbA V hI hC hJ hM hO hi0 hl (fun H locs u f2 ls V hI hC hJ hM hO hl => law_next C0 V hI hC hJ hM hO hl (fun ls hl => ih (k + 1) (by omega) H locs u f2 ls (i0 + 6) V hI hC hJ hM hO (w_six hik (by omega)) hl))
    by_cases c6 : (s0 &&& 31) = 6
    ·
      refine q_ti (v := 6) c6 ?_
      refine lv_tableIn (tgt := 469) (off := 429) hx hb d_40 (by decide) (by decide) (by decide) (by decide) ?_
      exact law_k6 (cells := 200 + 10 * k) (slots := 200000 + 100 * k) (by omega) (by omega) hlt C0 hX hbl hbA V hI hC hJ hM hO hi0 hl (fun H locs u f2 ls V hI hC hJ hM hO hl => law_next C0 V hI hC hJ hM hO hl (fun ls hl => ih (k + 1) (by omega) H locs u f2 ls (i0 + 6) V hI hC hJ hM hO (w_six hik (by omega)) hl))
    by_cases c7 : (s0 &&& 31) = 7
    ·
      refine q_ti (v := 7) c7 ?_
      refine lv_tableIn (tgt := 530) (off := 490) hx hb d_40 (by decide) (by decide) (by decide) (by decide) ?_
      exact law_k7 (cells := 200 + 10 * k) (slots := 200000 + 100 * k) (by omega) (by omega) hlt C0 hX hbl hbA V hI hC hJ hM hO hi0 hl (fun H locs u f2 ls V hI hC hJ hM hO hl => law_next C0 V hI hC hJ hM hO hl (fun ls hl => ih (k + 1) (by omega) H locs u f2 ls (i0 + 6) V hI hC hJ hM hO (w_six hik (by omega)) hl))
    by_cases c8 : (s0 &&& 31) = 8
    ·
      refine q_ti (v := 8) c8 ?_
      refine lv_tableIn (tgt := 591) (off := 551) hx hb d_40 (by decide) (by decide) (by decide) (by decide) ?_
      exact law_k8 (cells := 200 + 10 * k) (slots := 200000 + 100 * k) (by omega) (by omega) hlt C0 hX hbl hbA V hI hC hJ hM hO hi0 hl (fun H locs u f2 ls V hI hC hJ hM hO hl => law_next C0 V hI hC hJ hM hO hl (fun ls hl => ih (k + 1) (by omega) H locs u f2 ls (i0 + 6) V hI hC hJ hM hO (w_six hik (by omega)) hl))
    by_cases c9 : (s0 &&& 31) = 9
    ·
      refine q_ti (v := 9) c9 ?_
      refine lv_tableIn (tgt := 652) (off := 612) hx hb d_40 (by decide) (by decide) (by decide) (by decide) ?_
      exact law_k9 (cells := 200 + 10 * k) (slots := 200000 + 100 * k) (by omega) (by omega) hlt C0 hX hbl hbA V hI hC hJ hM hO hi0 hl (fun H locs u f2 ls V hI hC hJ hM hO hl => law_next C0 V hI hC hJ hM hO hl (fun ls hl => ih (k + 1) (by omega) H locs u f2 ls (i0 + 6) V hI hC hJ hM hO (w_six hik (by omega)) hl))
    by_cases c10 : (s0 &&& 31) = 10
    ·
      refine q_ti (v := 10) c10 ?_
      refine lv_tableIn (tgt := 713) (off := 673) hx hb d_40 (by decide) (by decide) (by decide) (by decide) ?_
      exact law_k10 (cells := 200 + 10 * k) (slots := 200000 + 100 * k) (by omega) (by omega) hlt C0 hX hbl hbA V hI hC hJ hM hO hi0 hl (fun H locs u f2 ls V hI hC hJ hM hO hl => law_next C0 V hI hC hJ hM hO hl (fun ls hl => ih (k + 1) (by omega) H locs u f2 ls (i0 + 6) V hI hC hJ hM hO (w_six hik (by omega)) hl))
    by_cases c11 : (s0 &&& 31) = 11
    ·
      refine q_ti (v := 11) c11 ?_
      refine lv_tableIn (tgt := 774) (off := 734) hx hb d_40 (by decide) (by decide) (by decide) (by decide) ?_
      exact law_k11 (cells := 200 + 10 * k) (slots := 200000 + 100 * k) (by omega) (by omega) hlt C0 hX hbl hbA V hI hC hJ hM hO hi0 hl (fun H locs u f2 ls V hI hC hJ hM hO hl => law_next C0 V hI hC hJ hM hO hl (fun ls hl => ih (k + 1) (by omega) H locs u f2 ls (i0 + 6) V hI hC hJ hM hO (w_six hik (by omega)) hl))
    by_cases c12 : (s0 &&& 31) = 12
    ·
      refine q_ti (v := 12) c12 ?_
      refine lv_tableIn (tgt := 847) (off := 807) hx hb d_40 (by decide) (by decide) (by decide) (by decide) ?_
      exact law_k12 (cells := 200 + 10 * k) (slots := 200000 + 100 * k) (by omega) (by omega) hlt C0 hX hbl hbA V hI hC hJ hM hO hi0 hl (fun H locs u f2 ls V hI hC hJ hM hO hl => law_next C0 V hI hC hJ hM hO hl (fun ls hl => ih (k + 1) (by omega) H locs u f2 ls (i0 + 6) V hI hC hJ hM hO (w_six hik (by omega)) hl))
    by_cases c13 : (s0 &&& 31) = 13
    ·
      refine q_ti (v := 13) c13 ?_
      refine lv_tableIn (tgt := 920) (off := 880) hx hb d_40 (by decide) (by decide) (by decide) (by decide) ?_
      exact law_k13 (cells := 200 + 10 * k) (slots := 200000 + 100 * k) (by omega) (by omega) hlt C0 hX hbl hbA V hI hC hJ hM hO hi0 hl (fun H locs u f2 ls V hI hC hJ hM hO hl => law_next C0 V hI hC hJ hM hO hl (fun ls hl => ih (k + 1) (by omega) H locs u f2 ls (i0 + 6) V hI hC hJ hM hO (w_six hik (by omega)) hl))
    by_cases c14 : (s0 &&& 31) = 14
    ·
      refine q_ti (v := 14) c14 ?_
      refine lv_tableIn (tgt := 993) (off := 953) hx hb d_40 (by decide) (by decide) (by decide) (by decide) ?_
      exact law_k14 (cells := 200 + 10 * k) (slots := 200000 + 100 * k) (by omega) (by omega) hlt C0 hX hbl hbA V hI hC hJ hM hO hi0 hl (fun H locs u f2 ls V hI hC hJ hM hO hl => law_next C0 V hI hC hJ hM hO hl (fun ls hl => ih (k + 1) (by omega) H locs u f2 ls (i0 + 6) V hI hC hJ hM hO (w_six hik (by omega)) hl))
    by_cases c15 : (s0 &&& 31) = 15
    ·
      refine q_ti (v := 15) c15 ?_
      refine lv_tableIn (tgt := 1054) (off := 1014) hx hb d_40 (by decide) (by decide) (by decide) (by decide) ?_
      exact law_k15 (cells := 200 + 10 * k) (slots := 200000 + 100 * k) (by omega) (by omega) hlt C0 hX hbl hbA V hI hC hJ hM hO hi0 hl (fun H locs u f2 ls V hI hC hJ hM hO hl => law_next C0 V hI hC hJ hM hO hl (fun ls hl => ih (k + 1) (by omega) H locs u f2 ls (i0 + 6) V hI hC hJ hM hO (w_six hik (by omega)) hl))
    by_cases c16 : (s0 &&& 31) = 16
    ·
      refine q_ti (v := 16) c16 ?_
      refine lv_tableIn (tgt := 1106) (off := 1066) hx hb d_40 (by decide) (by decide) (by decide) (by decide) ?_
      exact law_k16 (cells := 200 + 10 * k) (slots := 200000 + 100 * k) (by omega) (by omega) hlt C0 hX hbl hbA V hI hC hJ hM hO hi0 hl (fun H locs u f2 ls V hI hC hJ hM hO hl => law_next C0 V hI hC hJ hM hO hl (fun ls hl => ih (k + 1) (by omega) H locs u f2 ls (i0 + 6) V hI hC hJ hM hO (w_six hik (by omega)) hl))
    by_cases c17 : (s0 &&& 31) = 17
    ·
      refine q_ti (v := 17) c17 ?_
      refine lv_tableIn (tgt := 1198) (off := 1158) hx hb d_40 (by decide) (by decide) (by decide) (by decide) ?_
      exact law_k17 (cells := 200 + 10 * k) (slots := 200000 + 100 * k) (by omega) (by omega) hlt C0 hX hbl hbA V hI hC hJ hM hO hi0 hl (fun H locs u f2 ls V hI hC hJ hM hO hl => law_next C0 V hI hC hJ hM hO hl (fun ls hl => ih (k + 1) (by omega) H locs u f2 ls (i0 + 6) V hI hC hJ hM hO (w_six hik (by omega)) hl))
    by_cases c18 : (s0 &&& 31) = 18
    ·
      refine q_ti (v := 18) c18 ?_
      refine lv_tableIn (tgt := 1238) (off := 1198) hx hb d_40 (by decide) (by decide) (by decide) (by decide) ?_
      exact law_k18 (cells := 200 + 10 * k) (slots := 200000 + 100 * k) (by omega) (by omega) hlt C0 hX hbl hbA V hI hC hJ hM hO hi0 hl (fun H locs u f2 ls V hI hC hJ hM hO hl => law_next C0 V hI hC hJ hM hO hl (fun ls hl => ih (k + 1) (by omega) H locs u f2 ls (i0 + 6) V hI hC hJ hM hO (w_six hik (by omega)) hl))
    by_cases c19 : (s0 &&& 31) = 19
    ·
      refine q_ti (v := 19) c19 ?_
      refine lv_tableIn (tgt := 1254) (off := 1214) hx hb d_40 (by decide) (by decide) (by decide) (by decide) ?_
      exact law_k19 (cells := 200 + 10 * k) (slots := 200000 + 100 * k) (by omega) (by omega) hlt C0 hX hbl hbA V hI hC hJ hM hO hi0 hl (fun H locs u f2 ls V hI hC hJ hM hO hl => law_next C0 V hI hC hJ hM hO hl (fun ls hl => ih (k + 1) (by omega) H locs u f2 ls (i0 + 6) V hI hC hJ hM hO (w_six hik (by omega)) hl))
    refine lv_tableOut (tgt := 1279) hx hb d_40 (by have z0 : (s0 &&& 31).toInt ≠ 0 := q_neI c0; have z1 : (s0 &&& 31).toInt ≠ 1 := q_neI c1; have z2 : (s0 &&& 31).toInt ≠ 2 := q_neI c2; have z3 : (s0 &&& 31).toInt ≠ 3 := q_neI c3; have z4 : (s0 &&& 31).toInt ≠ 4 := q_neI c4; have z5 : (s0 &&& 31).toInt ≠ 5 := q_neI c5; have z6 : (s0 &&& 31).toInt ≠ 6 := q_neI c6; have z7 : (s0 &&& 31).toInt ≠ 7 := q_neI c7; have z8 : (s0 &&& 31).toInt ≠ 8 := q_neI c8; have z9 : (s0 &&& 31).toInt ≠ 9 := q_neI c9; have z10 : (s0 &&& 31).toInt ≠ 10 := q_neI c10; have z11 : (s0 &&& 31).toInt ≠ 11 := q_neI c11; have z12 : (s0 &&& 31).toInt ≠ 12 := q_neI c12; have z13 : (s0 &&& 31).toInt ≠ 13 := q_neI c13; have z14 : (s0 &&& 31).toInt ≠ 14 := q_neI c14; have z15 : (s0 &&& 31).toInt ≠ 15 := q_neI c15; have z16 : (s0 &&& 31).toInt ≠ 16 := q_neI c16; have z17 : (s0 &&& 31).toInt ≠ 17 := q_neI c17; have z18 : (s0 &&& 31).toInt ≠ 18 := q_neI c18; have z19 : (s0 &&& 31).toInt ≠ 19 := q_neI c19; omega) (by decide) ?_
    refine W.widen (k := 200 + 10 * k + 10) (n := 200000 + 100 * k + 100) (by omega) (by omega) ?_
    exact law_next C0 V hI hC hJ hM hO hl (fun ls hl => ih (k + 1) (by omega) H locs ws fo ls (i0 + 6) V hI hC hJ hM hO (w_six hik (by omega)) hl)
/-! the reference's start -/
def w_q (q q2 : Nat → Nat) : Nat → Nat := fun k => if k < 116 then q k else q2 (k - 116)
theorem w_q1 (g : Nat → ClassId) (q q2 : Nat → Nat) : nh_w g (w_q q q2) = nh_w g q := rfl
theorem w_q2 (q q2 : Nat → Nat) : (fun i => w_q q q2 (116 + i)) = q2 := funext fun i => by
  show (if 116 + i < 116 then q (116 + i) else q2 (116 + i - 116)) = q2 i
  rw [if_neg (by omega), Nat.add_sub_cancel_left]
theorem jS116 (g : Nat → ClassId) (q : Nat → Nat) : (k_116 q) (.inr (12, [.int 0, .ref (q 117), .int 0, .ref (q 118), .int 0, .ref (q 119), .ref (q 134), .ref (q 145), .ref (q 153), .ref (q 157), .ref (q 167), .ref (q 168)]) : va_E) := ⟨0, 0, 0, rfl, by decide, by decide⟩
theorem jS117 (g : Nat → ClassId) (q : Nat → Nat) : (k_ai (g 0) (4100 : Int32).toNatClampNeg (-2147483648) 2147483647) (.inl (g 0, 4100, .inl (fun _ => 0)) : va_E) := ⟨_, rfl, fun _ => s_bnd⟩
theorem jS118 (g : Nat → ClassId) (q : Nat → Nat) : (k_ai (g 0) (12200 : Int32).toNatClampNeg (-2147483648) 2147483647) (.inl (g 0, 12200, .inl (fun _ => 0)) : va_E) := ⟨_, rfl, fun _ => s_bnd⟩
theorem jS119 (g : Nat → ClassId) (q : Nat → Nat) : (k_119 q) (.inr (13, [.int 0, .int 0, .ref (q 120), .int 0, .ref (q 121), .ref (q 122), .ref (q 123), .int 0, .ref (q 124), .ref (q 125), .ref (q 126), .ref (q 127), .ref (q 128), .ref (q 129), .ref (q 130), .ref (q 131), .int 0, .int 0, .ref (q 132), .ref (q 133), .int 0]) : va_E) := ⟨0, 0, 0, 0, 0, 0, 0, rfl, by decide, by decide, by decide, by decide, by decide⟩
theorem jS120 (g : Nat → ClassId) (q : Nat → Nat) : (k_ai (g 0) (4100 : Int32).toNatClampNeg (-2147483648) 2147483647) (.inl (g 0, 4100, .inl (fun _ => 0)) : va_E) := ⟨_, rfl, fun _ => s_bnd⟩
theorem jS121 (g : Nat → ClassId) (q : Nat → Nat) : (k_ai (g 0) (1408 : Int32).toNatClampNeg (-2147483648) 2147483647) (.inl (g 0, 1408, .inl (fun _ => 0)) : va_E) := ⟨_, rfl, fun _ => s_bnd⟩
theorem jS122 (g : Nat → ClassId) (q : Nat → Nat) : (k_ai (g 3) 11 (-2147483648) 2147483647) (.inl (g 3, 11, .inl (fun _ => 0)) : va_E) := ⟨_, rfl, fun _ => s_bnd⟩
theorem jS123 (g : Nat → ClassId) (q : Nat → Nat) : (k_ai (g 0) (264 : Int32).toNatClampNeg (-2147483648) 2147483647) (.inl (g 0, 264, .inl (fun _ => 0)) : va_E) := ⟨_, rfl, fun _ => s_bnd⟩
theorem jS124 (g : Nat → ClassId) (q : Nat → Nat) : (k_ai (g 0) (264 : Int32).toNatClampNeg (-2147483648) 2147483647) (.inl (g 0, 264, .inl (fun _ => 0)) : va_E) := ⟨_, rfl, fun _ => s_bnd⟩
theorem jS125 (g : Nat → ClassId) (q : Nat → Nat) : (k_ai (g 0) (528 : Int32).toNatClampNeg (-2147483648) 2147483647) (.inl (g 0, 528, .inl (fun _ => 0)) : va_E) := ⟨_, rfl, fun _ => s_bnd⟩
theorem jS126 (g : Nat → ClassId) (q : Nat → Nat) : (k_ai (g 0) (264 : Int32).toNatClampNeg (-2147483648) 2147483647) (.inl (g 0, 264, .inl (fun _ => 0)) : va_E) := ⟨_, rfl, fun _ => s_bnd⟩
theorem jS127 (g : Nat → ClassId) (q : Nat → Nat) : (k_ai (g 0) (264 : Int32).toNatClampNeg (-2147483648) 2147483647) (.inl (g 0, 264, .inl (fun _ => 0)) : va_E) := ⟨_, rfl, fun _ => s_bnd⟩
theorem jS128 (g : Nat → ClassId) (q : Nat → Nat) : (k_ai (g 0) (264 : Int32).toNatClampNeg (-2147483648) 2147483647) (.inl (g 0, 264, .inl (fun _ => 0)) : va_E) := ⟨_, rfl, fun _ => s_bnd⟩
theorem jS129 (g : Nat → ClassId) (q : Nat → Nat) : (k_ai (g 0) (264 : Int32).toNatClampNeg (-2147483648) 2147483647) (.inl (g 0, 264, .inl (fun _ => 0)) : va_E) := ⟨_, rfl, fun _ => s_bnd⟩
theorem jS130 (g : Nat → ClassId) (q : Nat → Nat) : (k_ai (g 0) (264 : Int32).toNatClampNeg (-2147483648) 2147483647) (.inl (g 0, 264, .inl (fun _ => 0)) : va_E) := ⟨_, rfl, fun _ => s_bnd⟩
theorem jS131 (g : Nat → ClassId) (q : Nat → Nat) : (k_ai (g 0) (264 : Int32).toNatClampNeg (-2147483648) 2147483647) (.inl (g 0, 264, .inl (fun _ => 0)) : va_E) := ⟨_, rfl, fun _ => s_bnd⟩
theorem jS132 (g : Nat → ClassId) (q : Nat → Nat) : (k_ai (g 0) (264 : Int32).toNatClampNeg (-2147483648) 2147483647) (.inl (g 0, 264, .inl (fun _ => 0)) : va_E) := ⟨_, rfl, fun _ => s_bnd⟩
theorem jS133 (g : Nat → ClassId) (q : Nat → Nat) : (k_ai (g 0) (2100 : Int32).toNatClampNeg (-2147483648) 2147483647) (.inl (g 0, 2100, .inl (fun _ => 0)) : va_E) := ⟨_, rfl, fun _ => s_bnd⟩
theorem jS134 (g : Nat → ClassId) (q : Nat → Nat) : (k_134 q) (.inr (14, [.int 0, .ref (q 135), .int 0, .ref (q 136), .ref (q 137), .ref (q 138), .ref (q 139), .ref (q 140), .int 0, .long 0, .int 0, .int 0, .ref (q 141), .int 0, .ref (q 142), .int 0, .ref (q 143), .int 0, .ref (q 144), .int 0, .int 0]) : va_E) := ⟨0, 0, 0, 0, 0, 0, 0, 0, 0, 0, 0, rfl, by decide, by decide, by decide, by decide⟩
theorem jS135 (g : Nat → ClassId) (q : Nat → Nat) : (k_ai (g 0) (4100 : Int32).toNatClampNeg (-2147483648) 2147483647) (.inl (g 0, 4100, .inl (fun _ => 0)) : va_E) := ⟨_, rfl, fun _ => s_bnd⟩
theorem jS136 (g : Nat → ClassId) (q : Nat → Nat) : (k_ai (g 0) (10000 : Int32).toNatClampNeg (-2147483648) 2147483647) (.inl (g 0, 10000, .inl (fun _ => 0)) : va_E) := ⟨_, rfl, fun _ => s_bnd⟩
theorem jS137 (g : Nat → ClassId) (q : Nat → Nat) : (k_ai (g 0) (10 : Int32).toNatClampNeg (-2147483648) 2147483647) (.inl (g 0, 10, .inl (upd (upd (upd (upd (upd (upd (upd (upd (upd (upd (fun _ => 0) 0 1) 1 1) 2 1) 3 1) 4 1) 5 1) 6 1) 7 1) 8 1) 9 1)) : va_E) := ⟨_, rfl, fun _ => s_bnd⟩
theorem jS138 (g : Nat → ClassId) (q : Nat → Nat) : (k_ai (g 3) 10 (-2147483648) 2147483647) (.inl (g 3, 10, .inl (fun _ => 0)) : va_E) := ⟨_, rfl, fun _ => s_bnd⟩
theorem jS139 (g : Nat → ClassId) (q : Nat → Nat) : (k_ai (g 0) (10 : Int32).toNatClampNeg (-2147483648) 2147483647) (.inl (g 0, 10, .inl (fun _ => 0)) : va_E) := ⟨_, rfl, fun _ => s_bnd⟩
theorem jS140 (g : Nat → ClassId) (q : Nat → Nat) : (k_ai (g 0) (4400 : Int32).toNatClampNeg (-2147483648) 2147483647) (.inl (g 0, 4400, .inl (fun _ => 0)) : va_E) := ⟨_, rfl, fun _ => s_bnd⟩
theorem jS141 (g : Nat → ClassId) (q : Nat → Nat) : (k_ai (g 0) (4400 : Int32).toNatClampNeg (-2147483648) 2147483647) (.inl (g 0, 4400, .inl (fun _ => 0)) : va_E) := ⟨_, rfl, fun _ => s_bnd⟩
theorem jS142 (g : Nat → ClassId) (q : Nat → Nat) : (k_ai (g 0) (2200 : Int32).toNatClampNeg (-2147483648) 2147483647) (.inl (g 0, 2200, .inl (fun _ => 0)) : va_E) := ⟨_, rfl, fun _ => s_bnd⟩
theorem jS143 (g : Nat → ClassId) (q : Nat → Nat) : (k_ai (g 0) (2202 : Int32).toNatClampNeg (-2147483648) 2147483647) (.inl (g 0, 2202, .inl (fun _ => 0)) : va_E) := ⟨_, rfl, fun _ => s_bnd⟩
theorem jS144 (g : Nat → ClassId) (q : Nat → Nat) : (k_ai (g 0) (12200 : Int32).toNatClampNeg (-2147483648) 2147483647) (.inl (g 0, 12200, .inl (fun _ => 0)) : va_E) := ⟨_, rfl, fun _ => s_bnd⟩
theorem jS145 (g : Nat → ClassId) (q : Nat → Nat) : (k_145 q) (.inr (15, [.int 0, .ref (q 146), .ref (q 147), .ref (q 148), .ref (q 149), .ref (q 150), .ref (q 151), .ref (q 152), .int 0, .int 0, .int 0, .long 0, .int 0, .int 0, .long 0, .int 0, .long 0, .int 0]) : va_E) := ⟨0, 0, 0, 0, 0, 0, 0, 0, 0, 0, 0, rfl, by decide⟩
theorem jS146 (g : Nat → ClassId) (q : Nat → Nat) : (k_ai (g 0) (156 : Int32).toNatClampNeg (-2147483648) 2147483647) (.inl (g 0, 156, .inl (fun _ => 0)) : va_E) := ⟨_, rfl, fun _ => s_bnd⟩
theorem jS147 (g : Nat → ClassId) (q : Nat → Nat) : (k_ai (g 0) (156 : Int32).toNatClampNeg (-2147483648) 2147483647) (.inl (g 0, 156, .inl (fun _ => 0)) : va_E) := ⟨_, rfl, fun _ => s_bnd⟩
theorem jS148 (g : Nat → ClassId) (q : Nat → Nat) : (k_ai (g 0) (1404 : Int32).toNatClampNeg (-2147483648) 2147483647) (.inl (g 0, 1404, .inl (fun _ => 0)) : va_E) := ⟨_, rfl, fun _ => s_bnd⟩
theorem jS149 (g : Nat → ClassId) (q : Nat → Nat) : (k_ai (g 0) (1404 : Int32).toNatClampNeg (-2147483648) 2147483647) (.inl (g 0, 1404, .inl (fun _ => 0)) : va_E) := ⟨_, rfl, fun _ => s_bnd⟩
theorem jS150 (g : Nat → ClassId) (q : Nat → Nat) : (k_ai (g 0) (1404 : Int32).toNatClampNeg (-2147483648) 2147483647) (.inl (g 0, 1404, .inl (fun _ => 0)) : va_E) := ⟨_, rfl, fun _ => s_bnd⟩
theorem jS151 (g : Nat → ClassId) (q : Nat → Nat) : (k_ai (g 0) (1404 : Int32).toNatClampNeg (-2147483648) 2147483647) (.inl (g 0, 1404, .inl (fun _ => 0)) : va_E) := ⟨_, rfl, fun _ => s_bnd⟩
theorem jS152 (g : Nat → ClassId) (q : Nat → Nat) : (k_ai (g 0) (1600 : Int32).toNatClampNeg (-2147483648) 2147483647) (.inl (g 0, 1600, .inl (fun _ => 0)) : va_E) := ⟨_, rfl, fun _ => s_bnd⟩
theorem jS153 (g : Nat → ClassId) (q : Nat → Nat) : (k_153 q) (.inr (16, [.int 0, .ref (q 154), .int 0, .int 0, .int 0, .int 0, .ref (q 155), .int 0, .int 0, .long 0, .ref (q 156), .int 0, .int 0, .long 0, .long 0, .int 0, .int 0]) : va_E) := ⟨0, 0, 0, 0, 0, 0, 0, 0, 0, 0, 0, 0, 0, 0, rfl, by decide, by decide, by decide⟩
theorem jS154 (g : Nat → ClassId) (q : Nat → Nat) : (k_ai (g 0) (4100 : Int32).toNatClampNeg (-2147483648) 2147483647) (.inl (g 0, 4100, .inl (fun _ => 0)) : va_E) := ⟨_, rfl, fun _ => s_bnd⟩
theorem jS155 (g : Nat → ClassId) (q : Nat → Nat) : (k_ai (g 0) (4100 : Int32).toNatClampNeg (-2147483648) 2147483647) (.inl (g 0, 4100, .inl (fun _ => 0)) : va_E) := ⟨_, rfl, fun _ => s_bnd⟩
theorem jS156 (g : Nat → ClassId) (q : Nat → Nat) : (k_ai (g 0) (800 : Int32).toNatClampNeg (-2147483648) 2147483647) (.inl (g 0, 800, .inl (fun _ => 0)) : va_E) := ⟨_, rfl, fun _ => s_bnd⟩
theorem jS157 (g : Nat → ClassId) (q : Nat → Nat) : (k_157 q) (.inr (17, [.int 0, .ref (q 158), .int 0, .int 0, .ref (q 159), .ref (q 160), .ref (q 161), .ref (q 162), .ref (q 163), .int 0, .ref (q 164), .int 0, .int 0, .int (-1), .int 0, .int 0, .int 0, .int 0, .int 0, .int 0, .int 0, .int 0, .int 0, .int 0, .ref (q 165), .int 0, .int 0, .int 0, .ref (q 166), .int 0, .int 0]) : va_E) := ⟨0, 0, 0, 0, 0, 0, (-1), 0, 0, 0, 0, 0, 0, 0, 0, 0, 0, 0, 0, 0, 0, 0, rfl, by decide, by decide, by decide, by decide, by decide⟩
theorem jS158 (g : Nat → ClassId) (q : Nat → Nat) : (k_ai (g 0) (256 : Int32).toNatClampNeg (-2147483648) 2147483647) (.inl (g 0, 256, .inl (fun _ => 0)) : va_E) := ⟨_, rfl, fun _ => s_bnd⟩
theorem jS159 (g : Nat → ClassId) (q : Nat → Nat) : (k_ai (g 0) (9 : Int32).toNatClampNeg (-2147483648) 2147483647) (.inl (g 0, 9, .inl (fun _ => 0)) : va_E) := ⟨_, rfl, fun _ => s_bnd⟩
theorem jS160 (g : Nat → ClassId) (q : Nat → Nat) : (k_ai (g 0) (9 : Int32).toNatClampNeg (-2147483648) 2147483647) (.inl (g 0, 9, .inl (fun _ => 0)) : va_E) := ⟨_, rfl, fun _ => s_bnd⟩
theorem jS161 (g : Nat → ClassId) (q : Nat → Nat) : (k_al (g 1) 9) (.inl (g 1, 9, .inr (.inl (fun _ => 0))) : va_E) := ⟨fun _ => 0, rfl⟩
theorem jS162 (g : Nat → ClassId) (q : Nat → Nat) : (k_ai (g 0) (576 : Int32).toNatClampNeg (-2147483648) 2147483647) (.inl (g 0, 576, .inl (fun _ => 0)) : va_E) := ⟨_, rfl, fun _ => s_bnd⟩
theorem jS163 (g : Nat → ClassId) (q : Nat → Nat) : (k_ai (g 0) (4096 : Int32).toNatClampNeg (-2147483648) 2147483647) (.inl (g 0, 4096, .inl (fun _ => 0)) : va_E) := ⟨_, rfl, fun _ => s_bnd⟩
theorem jS164 (g : Nat → ClassId) (q : Nat → Nat) : (k_ai (g 0) (4096 : Int32).toNatClampNeg (-2147483648) 2147483647) (.inl (g 0, 4096, .inl (fun _ => 0)) : va_E) := ⟨_, rfl, fun _ => s_bnd⟩
theorem jS165 (g : Nat → ClassId) (q : Nat → Nat) : (k_ai (g 0) (20200 : Int32).toNatClampNeg (-2147483648) 2147483647) (.inl (g 0, 20200, .inl (fun _ => 0)) : va_E) := ⟨_, rfl, fun _ => s_bnd⟩
theorem jS166 (g : Nat → ClassId) (q : Nat → Nat) : (k_ai (g 0) (64 : Int32).toNatClampNeg (-2147483648) 2147483647) (.inl (g 0, 64, .inl (fun _ => 0)) : va_E) := ⟨_, rfl, fun _ => s_bnd⟩
theorem jS167 (g : Nat → ClassId) (q : Nat → Nat) : (k_al (g 1) 20) (.inl (g 1, 20, .inr (.inl (fun _ => 0))) : va_E) := ⟨fun _ => 0, rfl⟩
theorem jS168 (g : Nat → ClassId) (q : Nat → Nat) : (k_al (g 1) 1) (.inl (g 1, 1, .inr (.inl (fun _ => 0))) : va_E) := ⟨fun _ => 0, rfl⟩
set_option maxRecDepth 100000 in
theorem jS (g : Nat → ClassId) (q : Nat → Nat) : iL q 116 ((msh g q).drop 116) (nm_w g (fun i => q (116 + i))) := ⟨⟨rfl, jS116 g q⟩, ⟨⟨rfl, jS117 g q⟩, ⟨⟨rfl, jS118 g q⟩, ⟨⟨rfl, jS119 g q⟩, ⟨⟨rfl, jS120 g q⟩, ⟨⟨rfl, jS121 g q⟩, ⟨⟨rfl, jS122 g q⟩, ⟨⟨rfl, jS123 g q⟩, ⟨⟨rfl, jS124 g q⟩, ⟨⟨rfl, jS125 g q⟩, ⟨⟨rfl, jS126 g q⟩, ⟨⟨rfl, jS127 g q⟩, ⟨⟨rfl, jS128 g q⟩, ⟨⟨rfl, jS129 g q⟩, ⟨⟨rfl, jS130 g q⟩, ⟨⟨rfl, jS131 g q⟩, ⟨⟨rfl, jS132 g q⟩, ⟨⟨rfl, jS133 g q⟩, ⟨⟨rfl, jS134 g q⟩, ⟨⟨rfl, jS135 g q⟩, ⟨⟨rfl, jS136 g q⟩, ⟨⟨rfl, jS137 g q⟩, ⟨⟨rfl, jS138 g q⟩, ⟨⟨rfl, jS139 g q⟩, ⟨⟨rfl, jS140 g q⟩, ⟨⟨rfl, jS141 g q⟩, ⟨⟨rfl, jS142 g q⟩, ⟨⟨rfl, jS143 g q⟩, ⟨⟨rfl, jS144 g q⟩, ⟨⟨rfl, jS145 g q⟩, ⟨⟨rfl, jS146 g q⟩, ⟨⟨rfl, jS147 g q⟩, ⟨⟨rfl, jS148 g q⟩, ⟨⟨rfl, jS149 g q⟩, ⟨⟨rfl, jS150 g q⟩, ⟨⟨rfl, jS151 g q⟩, ⟨⟨rfl, jS152 g q⟩, ⟨⟨rfl, jS153 g q⟩, ⟨⟨rfl, jS154 g q⟩, ⟨⟨rfl, jS155 g q⟩, ⟨⟨rfl, jS156 g q⟩, ⟨⟨rfl, jS157 g q⟩, ⟨⟨rfl, jS158 g q⟩, ⟨⟨rfl, jS159 g q⟩, ⟨⟨rfl, jS160 g q⟩, ⟨⟨rfl, jS161 g q⟩, ⟨⟨rfl, jS162 g q⟩, ⟨⟨rfl, jS163 g q⟩, ⟨⟨rfl, jS164 g q⟩, ⟨⟨rfl, jS165 g q⟩, ⟨⟨rfl, jS166 g q⟩, ⟨⟨rfl, jS167 g q⟩, ⟨⟨rfl, jS168 g q⟩, trivial⟩⟩⟩⟩⟩⟩⟩⟩⟩⟩⟩⟩⟩⟩⟩⟩⟩⟩⟩⟩⟩⟩⟩⟩⟩⟩⟩⟩⟩⟩⟩⟩⟩⟩⟩⟩⟩⟩⟩⟩⟩⟩⟩⟩⟩⟩⟩⟩⟩⟩⟩⟩⟩
theorem mI0 {g : Nat → ClassId} {q : Nat → Nat} {u : va_W} (hI : q_I (nsh g q) q u) (h : q_fl u 116 (nm_w g (fun i => q (116 + i)))) : q_I (msh g q) q u := fun k P hk => by
  by_cases c : k < 116
  · rw [m_any g q c] at hk
    cases hk
    obtain ⟨P', hP'⟩ := n_some g q c
    obtain ⟨E, a, -⟩ := hI k P' hP'
    exact ⟨E, a, trivial⟩
  · have hd : ((msh g q).drop 116)[k - 116]? = some P := by rw [List.getElem?_drop, show 116 + (k - 116) = k by omega]; exact hk
    have z := iL_I ((msh g q).drop 116) (nm_w g (fun i => q (116 + i))) 116 (jS g q) h (k - 116) P hd
    rw [show 116 + (k - 116) = k by omega] at z
    exact z
theorem mC0 {g : Nat → ClassId} {q : Nat → Nat} {u : va_W} (h : q_fl u 116 (nm_w g (fun i => q (116 + i)))) : iM g q u := by
  have z0 : (0 : Int32).toInt = 0 := rfl
  have z1 : (1 : Int32).toInt = 1 := rfl
  refine ⟨⟨fun _ => 0, fun _ => 0, h 5 _ rfl, h 6 _ rfl, fun i _ => (by decide : (0 : Int) ≤ (0 : Int32).toInt ∧ (0 : Int32).toInt < 65536), fun i _ => (by decide : (0 : Int) ≤ (0 : Int32).toInt ∧ (0 : Int32).toInt ≤ 1)⟩, ⟨fun _ => 0, _, fun _ => 0, fun _ => 0, h 20 _ rfl, h 21 _ rfl, h 22 _ rfl, h 23 _ rfl, fun i _ => (by decide : (0 : Int) ≤ (0 : Int32).toInt ∧ (0 : Int32).toInt ≤ 9), fun i hi => ⟨?_, (by decide : (0 : Int) ≤ (0 : Int32).toInt ∧ (0 : Int32).toInt ≤ 1), (by decide : (-10000 : Int) ≤ (0 : Int32).toInt ∧ (0 : Int32).toInt ≤ 10000)⟩⟩, ⟨fun _ => 0, h 44 _ rfl, fun i _ => (by decide : (0 : Int) ≤ (0 : Int32).toInt ∧ (0 : Int32).toInt ≤ 64)⟩, ⟨fun _ => 0, h 51 _ rfl, fun i _ _ => (by decide : (0 : Int) ≤ (0 : Int64).toInt ∧ (0 : Int64).toInt < 4294967296)⟩⟩
  match i, hi with
  | 0, _ => exact (by decide : (1 : Int) ≤ (1 : Int32).toInt ∧ (1 : Int32).toInt ≤ 1000)
  | 1, _ => exact (by decide : (1 : Int) ≤ (1 : Int32).toInt ∧ (1 : Int32).toInt ≤ 1000)
  | 2, _ => exact (by decide : (1 : Int) ≤ (1 : Int32).toInt ∧ (1 : Int32).toInt ≤ 1000)
  | 3, _ => exact (by decide : (1 : Int) ≤ (1 : Int32).toInt ∧ (1 : Int32).toInt ≤ 1000)
  | 4, _ => exact (by decide : (1 : Int) ≤ (1 : Int32).toInt ∧ (1 : Int32).toInt ≤ 1000)
  | 5, _ => exact (by decide : (1 : Int) ≤ (1 : Int32).toInt ∧ (1 : Int32).toInt ≤ 1000)
  | 6, _ => exact (by decide : (1 : Int) ≤ (1 : Int32).toInt ∧ (1 : Int32).toInt ≤ 1000)
  | 7, _ => exact (by decide : (1 : Int) ≤ (1 : Int32).toInt ∧ (1 : Int32).toInt ≤ 1000)
  | 8, _ => exact (by decide : (1 : Int) ≤ (1 : Int32).toInt ∧ (1 : Int32).toInt ≤ 1000)
  | 9, _ => exact (by decide : (1 : Int) ≤ (1 : Int32).toInt ∧ (1 : Int32).toInt ≤ 1000)
