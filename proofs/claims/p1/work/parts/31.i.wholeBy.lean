/-! the reference on a fresh object: wholeBy -/
theorem d_19_38_0 : decode prog_19_method_38_code 0 = .ok (.aload_n 0, 1) := by decide +kernel
theorem d_19_38_1 : decode prog_19_method_38_code 1 = .ok (.iload_n 1, 1) := by decide +kernel
theorem d_19_38_2 : decode prog_19_method_38_code 2 = .ok (.invokestatic 91, 3) := by decide +kernel
theorem d_19_38_5 : decode prog_19_method_38_code 5 = .ok (.ifCond .ne 10, 3) := by decide +kernel
theorem d_19_38_8 : decode prog_19_method_38_code 8 = .ok (.iload_n 3, 1) := by decide +kernel
theorem d_19_38_9 : decode prog_19_method_38_code 9 = .ok (.invokestatic 91, 3) := by decide +kernel
theorem d_19_38_12 : decode prog_19_method_38_code 12 = .ok (.ifCond .eq 7, 3) := by decide +kernel
theorem d_19_38_19 : decode prog_19_method_38_code 19 = .ok (.iconst 0, 1) := by decide +kernel
theorem d_19_38_20 : decode prog_19_method_38_code 20 = .ok (.putfield 53, 3) := by decide +kernel
theorem d_19_38_23 : decode prog_19_method_38_code 23 = .ok (.aload_n 0, 1) := by decide +kernel
theorem d_19_38_24 : decode prog_19_method_38_code 24 = .ok (.getfield 53, 3) := by decide +kernel
theorem d_19_38_27 : decode prog_19_method_38_code 27 = .ok (.ifCond .le 4, 3) := by decide +kernel
theorem d_19_38_31 : decode prog_19_method_38_code 31 = .ok (.aload_n 0, 1) := by decide +kernel
theorem d_19_38_32 : decode prog_19_method_38_code 32 = .ok (.iconst 2, 1) := by decide +kernel
theorem d_19_38_33 : decode prog_19_method_38_code 33 = .ok (.putfield 79, 3) := by decide +kernel
theorem d_19_38_36 : decode prog_19_method_38_code 36 = .ok (.aload_n 0, 1) := by decide +kernel
theorem d_19_38_37 : decode prog_19_method_38_code 37 = .ok (.iload_n 1, 1) := by decide +kernel
theorem d_19_38_38 : decode prog_19_method_38_code 38 = .ok (.aload_n 0, 1) := by decide +kernel
theorem d_19_38_39 : decode prog_19_method_38_code 39 = .ok (.getfield 35, 3) := by decide +kernel
theorem d_19_38_42 : decode prog_19_method_38_code 42 = .ok (.invokevirtual 107, 3) := by decide +kernel
theorem d_19_38_45 : decode prog_19_method_38_code 45 = .ok (.aload_n 0, 1) := by decide +kernel
theorem d_19_38_46 : decode prog_19_method_38_code 46 = .ok (.aload_n 0, 1) := by decide +kernel
theorem d_19_38_47 : decode prog_19_method_38_code 47 = .ok (.getfield 16, 3) := by decide +kernel
theorem d_19_38_50 : decode prog_19_method_38_code 50 = .ok (.iload_n 1, 1) := by decide +kernel
theorem d_19_38_51 : decode prog_19_method_38_code 51 = .ok (.baload, 1) := by decide +kernel
theorem d_19_38_52 : decode prog_19_method_38_code 52 = .ok (.putfield 82, 3) := by decide +kernel
theorem d_19_38_55 : decode prog_19_method_38_code 55 = .ok (.aload_n 0, 1) := by decide +kernel
theorem d_19_38_56 : decode prog_19_method_38_code 56 = .ok (.getfield 20, 3) := by decide +kernel
theorem d_19_38_59 : decode prog_19_method_38_code 59 = .ok (.invokestatic 63, 3) := by decide +kernel
theorem d_19_38_62 : decode prog_19_method_38_code 62 = .ok (.iload_n 2, 1) := by decide +kernel
theorem d_19_38_63 : decode prog_19_method_38_code 63 = .ok (.ifCond .lt 120, 3) := by decide +kernel
theorem d_19_38_183 : decode prog_19_method_38_code 183 = .ok (.iconst 0, 1) := by decide +kernel
theorem d_19_38_184 : decode prog_19_method_38_code 184 = .ok (.istore 4, 2) := by decide +kernel
theorem d_19_38_186 : decode prog_19_method_38_code 186 = .ok (.iconst 0, 1) := by decide +kernel
theorem d_19_38_187 : decode prog_19_method_38_code 187 = .ok (.istore 5, 2) := by decide +kernel
theorem d_19_38_189 : decode prog_19_method_38_code 189 = .ok (.iload 5, 2) := by decide +kernel
theorem d_19_38_191 : decode prog_19_method_38_code 191 = .ok (.sipush 2048, 3) := by decide +kernel
theorem d_19_38_194 : decode prog_19_method_38_code 194 = .ok (.if_icmp .ge 101, 3) := by decide +kernel
theorem d_19_38_295 : decode prog_19_method_38_code 295 = .ok (.aload_n 0, 1) := by decide +kernel
theorem d_19_38_296 : decode prog_19_method_38_code 296 = .ok (.getfield 82, 3) := by decide +kernel
theorem d_19_38_299 : decode prog_19_method_38_code 299 = .ok (.ifCond .eq 30, 3) := by decide +kernel
theorem d_19_38_329 : decode prog_19_method_38_code 329 = .ok (.aload_n 0, 1) := by decide +kernel
theorem d_19_38_330 : decode prog_19_method_38_code 330 = .ok (.iload_n 3, 1) := by decide +kernel
theorem d_19_38_331 : decode prog_19_method_38_code 331 = .ok (.invokevirtual 103, 3) := by decide +kernel
theorem d_19_38_334 : decode prog_19_method_38_code 334 = .ok (.return_, 1) := by decide +kernel
theorem d_19_38_197 : decode prog_19_method_38_code 197 = .ok (.aload_n 0, 1) := by decide +kernel
theorem d_19_38_198 : decode prog_19_method_38_code 198 = .ok (.getfield 35, 3) := by decide +kernel
theorem d_19_38_201 : decode prog_19_method_38_code 201 = .ok (.iload 5, 2) := by decide +kernel
theorem d_19_38_203 : decode prog_19_method_38_code 203 = .ok (.bipush 16, 2) := by decide +kernel
theorem d_19_38_205 : decode prog_19_method_38_code 205 = .ok (.idiv, 1) := by decide +kernel
theorem d_19_38_206 : decode prog_19_method_38_code 206 = .ok (.iaload, 1) := by decide +kernel
theorem d_19_38_207 : decode prog_19_method_38_code 207 = .ok (.iload 5, 2) := by decide +kernel
theorem d_19_38_209 : decode prog_19_method_38_code 209 = .ok (.bipush 16, 2) := by decide +kernel
theorem d_19_38_211 : decode prog_19_method_38_code 211 = .ok (.irem, 1) := by decide +kernel
theorem d_19_38_212 : decode prog_19_method_38_code 212 = .ok (.ishr, 1) := by decide +kernel
theorem d_19_38_213 : decode prog_19_method_38_code 213 = .ok (.iconst 1, 1) := by decide +kernel
theorem d_19_38_214 : decode prog_19_method_38_code 214 = .ok (.iand, 1) := by decide +kernel
theorem d_19_38_215 : decode prog_19_method_38_code 215 = .ok (.istore 6, 2) := by decide +kernel
theorem d_19_38_217 : decode prog_19_method_38_code 217 = .ok (.iload 5, 2) := by decide +kernel
theorem d_19_38_219 : decode prog_19_method_38_code 219 = .ok (.i2l, 1) := by decide +kernel
theorem d_19_38_220 : decode prog_19_method_38_code 220 = .ok (.iload_n 2, 1) := by decide +kernel
theorem d_19_38_221 : decode prog_19_method_38_code 221 = .ok (.i2l, 1) := by decide +kernel
theorem d_19_38_222 : decode prog_19_method_38_code 222 = .ok (.ladd, 1) := by decide +kernel
theorem d_19_38_223 : decode prog_19_method_38_code 223 = .ok (.lstore 7, 2) := by decide +kernel
theorem d_19_38_225 : decode prog_19_method_38_code 225 = .ok (.iload 4, 2) := by decide +kernel
theorem d_19_38_227 : decode prog_19_method_38_code 227 = .ok (.ifCond .ne 16, 3) := by decide +kernel
theorem d_19_38_230 : decode prog_19_method_38_code 230 = .ok (.iload 6, 2) := by decide +kernel
theorem d_19_38_232 : decode prog_19_method_38_code 232 = .ok (.iconst 1, 1) := by decide +kernel
theorem d_19_38_233 : decode prog_19_method_38_code 233 = .ok (.if_icmp .ne 14, 3) := by decide +kernel
theorem d_19_38_247 : decode prog_19_method_38_code 247 = .ok (.iconst 0, 1) := by decide +kernel
theorem d_19_38_248 : decode prog_19_method_38_code 248 = .ok (.istore 4, 2) := by decide +kernel
theorem d_19_38_250 : decode prog_19_method_38_code 250 = .ok (.lload 7, 2) := by decide +kernel
theorem d_19_38_252 : decode prog_19_method_38_code 252 = .ok (.lconst 0, 1) := by decide +kernel
theorem d_19_38_253 : decode prog_19_method_38_code 253 = .ok (.lcmp, 1) := by decide +kernel
theorem d_19_38_254 : decode prog_19_method_38_code 254 = .ok (.ifCond .lt 35, 3) := by decide +kernel
theorem d_19_38_289 : decode prog_19_method_38_code 289 = .ok (.iinc 5 1, 3) := by decide +kernel
theorem d_19_38_292 : decode prog_19_method_38_code 292 = .ok (.goto (-103), 3) := by decide +kernel
theorem d_19_38_257 : decode prog_19_method_38_code 257 = .ok (.aload_n 0, 1) := by decide +kernel
theorem d_19_38_258 : decode prog_19_method_38_code 258 = .ok (.getfield 20, 3) := by decide +kernel
theorem d_19_38_261 : decode prog_19_method_38_code 261 = .ok (.lload 7, 2) := by decide +kernel
theorem d_19_38_263 : decode prog_19_method_38_code 263 = .ok (.l2i, 1) := by decide +kernel
theorem d_19_38_264 : decode prog_19_method_38_code 264 = .ok (.bipush 16, 2) := by decide +kernel
theorem d_19_38_266 : decode prog_19_method_38_code 266 = .ok (.idiv, 1) := by decide +kernel
theorem d_19_38_267 : decode prog_19_method_38_code 267 = .ok (.aload_n 0, 1) := by decide +kernel
theorem d_19_38_268 : decode prog_19_method_38_code 268 = .ok (.getfield 20, 3) := by decide +kernel
theorem d_19_38_271 : decode prog_19_method_38_code 271 = .ok (.lload 7, 2) := by decide +kernel
theorem d_19_38_273 : decode prog_19_method_38_code 273 = .ok (.l2i, 1) := by decide +kernel
theorem d_19_38_274 : decode prog_19_method_38_code 274 = .ok (.bipush 16, 2) := by decide +kernel
theorem d_19_38_276 : decode prog_19_method_38_code 276 = .ok (.idiv, 1) := by decide +kernel
theorem d_19_38_277 : decode prog_19_method_38_code 277 = .ok (.iaload, 1) := by decide +kernel
theorem d_19_38_278 : decode prog_19_method_38_code 278 = .ok (.iload 6, 2) := by decide +kernel
theorem d_19_38_280 : decode prog_19_method_38_code 280 = .ok (.lload 7, 2) := by decide +kernel
theorem d_19_38_282 : decode prog_19_method_38_code 282 = .ok (.l2i, 1) := by decide +kernel
theorem d_19_38_283 : decode prog_19_method_38_code 283 = .ok (.bipush 16, 2) := by decide +kernel
theorem d_19_38_285 : decode prog_19_method_38_code 285 = .ok (.irem, 1) := by decide +kernel
theorem d_19_38_286 : decode prog_19_method_38_code 286 = .ok (.ishl, 1) := by decide +kernel
theorem d_19_38_287 : decode prog_19_method_38_code 287 = .ok (.ior, 1) := by decide +kernel
theorem d_19_38_288 : decode prog_19_method_38_code 288 = .ok (.iastore, 1) := by decide +kernel
theorem d_19_38_66 : decode prog_19_method_38_code 66 = .ok (.iload_n 2, 1) := by decide +kernel
theorem d_19_38_67 : decode prog_19_method_38_code 67 = .ok (.sipush 2048, 3) := by decide +kernel
theorem d_19_38_70 : decode prog_19_method_38_code 70 = .ok (.if_icmp .le 19, 3) := by decide +kernel
theorem d_19_38_89 : decode prog_19_method_38_code 89 = .ok (.iconst 0, 1) := by decide +kernel
theorem d_19_38_90 : decode prog_19_method_38_code 90 = .ok (.istore 4, 2) := by decide +kernel
theorem d_19_38_92 : decode prog_19_method_38_code 92 = .ok (.iload 4, 2) := by decide +kernel
theorem d_19_38_94 : decode prog_19_method_38_code 94 = .ok (.aload_n 0, 1) := by decide +kernel
theorem d_19_38_95 : decode prog_19_method_38_code 95 = .ok (.getfield 35, 3) := by decide +kernel
theorem d_19_38_98 : decode prog_19_method_38_code 98 = .ok (.invokestatic 59, 3) := by decide +kernel
theorem d_19_38_101 : decode prog_19_method_38_code 101 = .ok (.if_icmp .ge 76, 3) := by decide +kernel
theorem d_19_38_177 : decode prog_19_method_38_code 177 = .ok (.aload_n 0, 1) := by decide +kernel
theorem d_19_38_178 : decode prog_19_method_38_code 178 = .ok (.iload_n 3, 1) := by decide +kernel
theorem d_19_38_179 : decode prog_19_method_38_code 179 = .ok (.invokevirtual 103, 3) := by decide +kernel
theorem d_19_38_182 : decode prog_19_method_38_code 182 = .ok (.return_, 1) := by decide +kernel
theorem d_19_38_73 : decode prog_19_method_38_code 73 = .ok (.aload_n 0, 1) := by decide +kernel
theorem d_19_38_74 : decode prog_19_method_38_code 74 = .ok (.getfield 35, 3) := by decide +kernel
theorem d_19_38_77 : decode prog_19_method_38_code 77 = .ok (.invokestatic 59, 3) := by decide +kernel
theorem d_19_38_80 : decode prog_19_method_38_code 80 = .ok (.ifCond .le 9, 3) := by decide +kernel
def y_WR_shift : MethodName := ⟨"NumberHouseModel$WholeRows", "shift", "(III)V"⟩
set_option maxRecDepth 100000 in
set_option maxHeartbeats 4000000 in
theorem c_WR_shift (l : Launch) (D : va_G) (g : Nat → ClassId) (ws : va_W) (kO0 kA2 kA3 kA4 kA9 qO0 qA1 qA2 qA3 qA4 qA5 qA6 qA7 qA8 qA9 qA10 qA11 qA12 qA13 qA14 : Nat) (x1 : Int32) (x2 : Int32) (x3 : Int32) (hO0 : ws[kO0]? = (some (qO0, .inr (13, [.int 0, .int 0, .ref qA1, .int 0, .ref qA2, .ref qA3, .ref qA4, .int 0, .ref qA5, .ref qA6, .ref qA7, .ref qA8, .ref qA9, .ref qA10, .ref qA11, .ref qA12, .int 0, .int 0, .ref qA13, .ref qA14, .int 0])) : Option (Nat × va_E))) (hA2 : ws[kA2]? = (some (qA2, .inl (g 0, 1408, .inl (fun _ => 0))) : Option (Nat × va_E))) (hA3 : ws[kA3]? = (some (qA3, .inl (g 3, 11, .inl (fun _ => 0))) : Option (Nat × va_E))) (hA4 : ws[kA4]? = (some (qA4, .inl (g 0, 264, .inl (fun _ => 0))) : Option (Nat × va_E))) (hA9 : ws[kA9]? = (some (qA9, .inl (g 0, 264, .inl (fun _ => 0))) : Option (Nat × va_E))) (n_A2_A3 : kA2 ≠ kA3) (n_A2_A4 : kA2 ≠ kA4) (n_A2_A9 : kA2 ≠ kA9) (n_A3_A4 : kA3 ≠ kA4) (n_A3_A9 : kA3 ≠ kA9) (n_A4_A9 : kA4 ≠ kA9) (x1lo : 0 ≤ x1) (x1hi : x1 ≤ 9) (x3lo : 0 ≤ x3) (x3hi : x3 ≤ 9) : q_mV l y_WR_shift prog_19_method_38_code 9 3 0 0 D g [.ref qO0, .int x1, .int x2, .int x3] ws (fun u => (x2 < 0 ∧ q_un ws u [kO0, kA2, kA3, kA4, kA9] ∧ u[kO0]? = (some (qO0, .inr (13, [.int 0, .int 2, .ref qA1, .int 0, .ref qA2, .ref qA3, .ref qA4, .int 0, .ref qA5, .ref qA6, .ref qA7, .ref qA8, .ref qA9, .ref qA10, .ref qA11, .ref qA12, .int 0, .int 0, .ref qA13, .ref qA14, .int 0])) : Option (Nat × va_E)) ∧ u[kA2]? = (some (qA2, .inl (g 0, 1408, .inl (fun _ => 0))) : Option (Nat × va_E)) ∧ u[kA3]? = (some (qA3, .inl (g 3, 11, .inl (fun _ => 0))) : Option (Nat × va_E)) ∧ u[kA4]? = (some (qA4, .inl (g 0, 264, .inl (fun _ => 0))) : Option (Nat × va_E)) ∧ u[kA9]? = (some (qA9, .inl (g 0, 264, .inl (fun _ => 0))) : Option (Nat × va_E))) ∨ (¬ x2 < 0 ∧ q_un ws u [kO0, kA2, kA3, kA4, kA9] ∧ u[kO0]? = (some (qO0, .inr (13, [.int 0, .int 2, .ref qA1, .int 0, .ref qA2, .ref qA3, .ref qA4, .int 0, .ref qA5, .ref qA6, .ref qA7, .ref qA8, .ref qA9, .ref qA10, .ref qA11, .ref qA12, .int 0, .int 0, .ref qA13, .ref qA14, .int 0])) : Option (Nat × va_E)) ∧ u[kA2]? = (some (qA2, .inl (g 0, 1408, .inl (fun _ => 0))) : Option (Nat × va_E)) ∧ u[kA3]? = (some (qA3, .inl (g 3, 11, .inl (fun _ => 0))) : Option (Nat × va_E)) ∧ u[kA4]? = (some (qA4, .inl (g 0, 264, .inl (fun _ => 0))) : Option (Nat × va_E)) ∧ u[kA9]? = (some (qA9, .inl (g 0, 264, .inl (fun _ => 0))) : Option (Nat × va_E)))) := by
  intro sz
  refine q_into (by decide) (Nat.le_of_ble_eq_true rfl) ?_
  intro p e s m below meth c ls hsz C0 V hl
  have hx := C0.1
  have hb := C0.2.1
  have hl : lv_has ls 9 [(0, .ref qO0), (1, .int x1), (2, .int x2), (3, .int x3)] := hl
  have n_A2_O0 := q_df hA2 hO0
  have n_A3_O0 := q_df hA3 hO0
  have n_A4_A2 := Ne.symm n_A2_A4
  have n_A4_A3 := Ne.symm n_A3_A4
  have n_A4_O0 := q_df hA4 hO0
  have n_A9_A2 := Ne.symm n_A2_A9
  have n_A9_A3 := Ne.symm n_A3_A9
  have n_A9_A4 := Ne.symm n_A4_A9
  have n_A9_O0 := q_df hA9 hO0
  have n_O0_A2 := Ne.symm (q_df hA2 hO0)
  have n_O0_A3 := Ne.symm (q_df hA3 hO0)
  have n_O0_A4 := Ne.symm (q_df hA4 hO0)
  have n_O0_A9 := Ne.symm (q_df hA9 hO0)
  have hF : q_un ws ws [kO0, kA2, kA3, kA4, kA9] := q_u0
  refine lv_aload_n hx hb d_19_38_0 rfl (lv_at hl 0 rfl) ?_
  refine lv_iload_n hx hb d_19_38_1 rfl (lv_at hl 1 rfl) ?_
  refine q_goi V (q_runS (As := [.int x1]) (rest := [.ref qO0]) (d := 1) (mc := 0) (ms := 0) C0 V rfl LS_WR_91 (c_WR_no l D g ws x1 x1lo x1hi _) rfl hl.1 rfl (Nat.le_of_ble_eq_true rfl) ⟨by decide, by decide⟩ ⟨Nat.le_of_ble_eq_true rfl, Nat.le_of_ble_eq_true rfl⟩ d_19_38_2) (fun v3 u2 H locs hp1 V => ?_)
  obtain ⟨rfl, rfl⟩ := hp1
  refine lv_if_ne (tgt := 15) hx hb d_19_38_5 (by decide) (fun c5 => absurd (by decide) c5) (fun c5 => ?_)
  refine lv_iload_n hx hb d_19_38_8 rfl (lv_at hl 3 rfl) ?_
  refine q_goi V (q_runS (As := [.int x3]) (rest := [.ref qO0]) (d := 1) (mc := 0) (ms := 0) C0 V rfl LS_WR_91 (c_WR_no l D g ws x3 x3lo x3hi _) rfl hl.1 rfl (Nat.le_of_ble_eq_true rfl) ⟨by decide, by decide⟩ ⟨Nat.le_of_ble_eq_true rfl, Nat.le_of_ble_eq_true rfl⟩ d_19_38_9) (fun v8 u7 H locs hp6 V => ?_)
  obtain ⟨rfl, rfl⟩ := hp6
  refine lv_if_eq (tgt := 19) hx hb d_19_38_12 (by decide) (fun c10 => ?_) (fun c10 => absurd (by decide) c10)
  refine lv_iconst (v := 0) hx hb d_19_38_19 (by decide) ?_
  refine q_put (ci := 13) (j := 0) (v := .int 0) (ty := .int) C0 V i_WR o_WR n_WR rfl rfl hO0 (by decide) w_1921 rfl rfl rfl rfl (Nat.le_of_ble_eq_true rfl) d_19_38_20 (fun H locs w11 hu12 hO0 V => ?_)
  replace hO0 : w11[kO0]? = (some (qO0, .inr (13, [.int 0, .int 0, .ref qA1, .int 0, .ref qA2, .ref qA3, .ref qA4, .int 0, .ref qA5, .ref qA6, .ref qA7, .ref qA8, .ref qA9, .ref qA10, .ref qA11, .ref qA12, .int 0, .int 0, .ref qA13, .ref qA14, .int 0])) : Option (Nat × va_E)) := hO0
  replace hF := q_us hF hu12 (.head _)
  refine lv_aload_n hx hb d_19_38_23 rfl (lv_at hl 0 rfl) ?_
  refine q_get (ci := 13) (j := 0) (v := .int 0) C0 V i_WR rfl rfl hO0 (by decide) w_1921 rfl d_19_38_24 ?_
  refine lv_if_le (tgt := 31) hx hb d_19_38_27 (by decide) (fun c13 => ?_) (fun c13 => absurd (by decide) c13)
  refine lv_aload_n hx hb d_19_38_31 rfl (lv_at hl 0 rfl) ?_
  refine lv_iconst (v := 2) hx hb d_19_38_32 (by decide) ?_
  refine q_put (ci := 13) (j := 1) (v := .int 2) (ty := .int) C0 V i_WR o_WR n_WR rfl rfl hO0 (by decide) w_1923 rfl rfl rfl rfl (Nat.le_of_ble_eq_true rfl) d_19_38_33 (fun H locs w14 hu15 hO0 V => ?_)
  replace hO0 : w14[kO0]? = (some (qO0, .inr (13, [.int 0, .int 2, .ref qA1, .int 0, .ref qA2, .ref qA3, .ref qA4, .int 0, .ref qA5, .ref qA6, .ref qA7, .ref qA8, .ref qA9, .ref qA10, .ref qA11, .ref qA12, .int 0, .int 0, .ref qA13, .ref qA14, .int 0])) : Option (Nat × va_E)) := hO0
  replace hF := q_us hF hu15 (.head _)
  refine lv_aload_n hx hb d_19_38_36 rfl (lv_at hl 0 rfl) ?_
  refine lv_iload_n hx hb d_19_38_37 rfl (lv_at hl 1 rfl) ?_
  refine lv_aload_n hx hb d_19_38_38 rfl (lv_at hl 0 rfl) ?_
  refine q_get (ci := 13) (j := 12) (v := .ref qA9) C0 V i_WR rfl rfl hO0 (by decide) w_1936 rfl d_19_38_39 ?_
  replace hA9 := (hu15 _ n_A9_O0).trans ((hu12 _ n_A9_O0).trans (hA9))
  replace hA2 := (hu15 _ n_A2_O0).trans ((hu12 _ n_A2_O0).trans (hA2))
  refine q_gov V (q_runV (As := [.int x1, .ref qA9]) (rest := []) (d := 1) (mc := 0) (ms := 0) (ci := 13) C0 V rfl LV_WR_107 (c_WR_take_3 l D g w14 kO0 kA9 kA2 qO0 qA9 qA1 qA2 qA3 qA4 qA5 qA6 qA7 qA8 qA10 qA11 qA12 qA13 qA14 x1 hO0 hA9 hA2 n_A2_A9 x1lo x1hi _) rfl rfl hO0 rfl hl.1 rfl (Nat.le_of_ble_eq_true rfl) ⟨by decide, by decide⟩ ⟨Nat.le_of_ble_eq_true rfl, Nat.le_of_ble_eq_true rfl⟩ d_19_38_42) (fun u17 H locs hp16 V => ?_)
  obtain ⟨hg18, hA9⟩ := hp16
  replace hF := q_uc hF hg18 (q_sc (List.mem_of_getElem? (i := 4) rfl) (fun _ h => absurd h List.not_mem_nil))
  refine lv_aload_n hx hb d_19_38_45 rfl (lv_at hl 0 rfl) ?_
  refine lv_aload_n hx hb d_19_38_46 rfl (lv_at hl 0 rfl) ?_
  replace hO0 := (hg18 _ (q_nc n_O0_A9 List.not_mem_nil)).trans (hO0)
  refine q_get (ci := 13) (j := 5) (v := .ref qA3) C0 V i_WR rfl rfl hO0 (by decide) w_1929 rfl d_19_38_47 ?_
  refine lv_iload_n hx hb d_19_38_50 rfl (lv_at hl 1 rfl) ?_
  replace hA3 := (hg18 _ (q_nc n_A3_A9 List.not_mem_nil)).trans ((hu15 _ n_A3_O0).trans ((hu12 _ n_A3_O0).trans (hA3)))
  refine q_zald C0 V hA3 (q_ix (x := x1.toInt) rfl (by have t1 : 0 ≤ x1.toInt := q_leI x1lo; have t2 : x1.toInt ≤ 9 := q_leI x1hi; omega) (by have t1 : 0 ≤ x1.toInt := q_leI x1lo; have t2 : x1.toInt ≤ 9 := q_leI x1hi; omega)) d_19_38_51 ?_
  refine q_ti (v := 0) (by first | rfl | decide | simp [upd, vp_updL, sb_cl0]) ?_
  refine q_put (ci := 13) (j := 7) (v := .int 0) (ty := .boolean) C0 V i_WR o_WR n_WR rfl rfl hO0 (by decide) w_1931 rfl rfl rfl rfl (Nat.le_of_ble_eq_true rfl) d_19_38_52 (fun H locs w19 hu20 hO0 V => ?_)
  replace hO0 : w19[kO0]? = (some (qO0, .inr (13, [.int 0, .int 2, .ref qA1, .int 0, .ref qA2, .ref qA3, .ref qA4, .int 0, .ref qA5, .ref qA6, .ref qA7, .ref qA8, .ref qA9, .ref qA10, .ref qA11, .ref qA12, .int 0, .int 0, .ref qA13, .ref qA14, .int 0])) : Option (Nat × va_E)) := hO0
  replace hF := q_us hF hu20 (.head _)
  refine lv_aload_n hx hb d_19_38_55 rfl (lv_at hl 0 rfl) ?_
  refine q_get (ci := 13) (j := 6) (v := .ref qA4) C0 V i_WR rfl rfl hO0 (by decide) w_1930 rfl d_19_38_56 ?_
  replace hA4 := (hu20 _ n_A4_O0).trans ((hg18 _ (q_nc n_A4_A9 List.not_mem_nil)).trans ((hu15 _ n_A4_O0).trans ((hu12 _ n_A4_O0).trans (hA4))))
  refine q_gov V (q_runS (As := [.ref qA4]) (rest := []) (d := 1) (mc := 0) (ms := 0) C0 V rfl LS_WR_63 (c_WR_clear_2 l D g w19 kA4 qA4 hA4 _) rfl hl.1 rfl (Nat.le_of_ble_eq_true rfl) ⟨by decide, by decide⟩ ⟨Nat.le_of_ble_eq_true rfl, Nat.le_of_ble_eq_true rfl⟩ d_19_38_59) (fun u22 H locs hp21 V => ?_)
  obtain ⟨hg23, hA4⟩ := hp21
  replace hF := q_uc hF hg23 (q_sc (List.mem_of_getElem? (i := 3) rfl) (fun _ h => absurd h List.not_mem_nil))
  refine lv_iload_n hx hb d_19_38_62 rfl (lv_at hl 2 rfl) ?_
  refine lv_if_lt (tgt := 183) hx hb d_19_38_63 (by decide) (fun c24 => ?_) (fun c24 => ?_)
  ·
    refine lv_iconst (v := 0) hx hb d_19_38_183 (by decide) ?_
    refine lv_istore (lv' := [(4, .int 0), (0, .ref qO0), (1, .int x1), (2, .int x2), (3, .int x3)]) hx hb d_19_38_184 hl (by decide) rfl (fun ls hl => ?_)
    refine lv_iconst (v := 0) hx hb d_19_38_186 (by decide) ?_
    refine lv_istore (lv' := [(5, .int 0), (4, .int 0), (0, .ref qO0), (1, .int x1), (2, .int x2), (3, .int x3)]) hx hb d_19_38_187 hl (by decide) rfl (fun ls hl => ?_)
    replace hO0 := (hg23 _ (q_nc n_O0_A4 List.not_mem_nil)).trans (hO0)
    replace hA2 := (hg23 _ (q_nc n_A2_A4 List.not_mem_nil)).trans ((hu20 _ n_A2_O0).trans ((hg18 _ (q_nc n_A2_A9 List.not_mem_nil)).trans (hA2)))
    replace hA3 := (hg23 _ (q_nc n_A3_A4 List.not_mem_nil)).trans ((hu20 _ n_A3_O0).trans (hA3))
    replace hA9 := (hg23 _ (q_nc n_A9_A4 List.not_mem_nil)).trans ((hu20 _ n_A9_O0).trans (hA9))
    refine q_loop (X := Int32) (fun z H locs ls w26 => (0 ≤ z.toInt ∧ (z.toInt ≤ 2048 ∨ z.toInt = 0)) ∧ q_Wd D g (va_A ws sz) s w26 H locs ∧ lv_has ls 9 [(5, .int z), (4, .int 0), (0, .ref qO0), (1, .int x1), (2, .int x2), (3, .int x3)] ∧ q_un ws w26 [kO0, kA2, kA3, kA4, kA9] ∧ w26[kO0]? = (some (qO0, .inr (13, [.int 0, .int 2, .ref qA1, .int 0, .ref qA2, .ref qA3, .ref qA4, .int 0, .ref qA5, .ref qA6, .ref qA7, .ref qA8, .ref qA9, .ref qA10, .ref qA11, .ref qA12, .int 0, .int 0, .ref qA13, .ref qA14, .int 0])) : Option (Nat × va_E)) ∧ w26[kA2]? = (some (qA2, .inl (g 0, 1408, .inl (fun _ => 0))) : Option (Nat × va_E)) ∧ w26[kA3]? = (some (qA3, .inl (g 3, 11, .inl (fun _ => 0))) : Option (Nat × va_E)) ∧ w26[kA4]? = (some (qA4, .inl (g 0, 264, .inl (fun _ => 0))) : Option (Nat × va_E)) ∧ w26[kA9]? = (some (qA9, .inl (g 0, 264, .inl (fun _ => 0))) : Option (Nat × va_E))) (fun z => (2048 - z.toInt).toNat) ?_ ((0 : Int32)) _ _ _ u22 ⟨⟨by decide, Or.inr (by decide)⟩, V, hl, hF, hO0, hA2, hA3, hA4, hA9⟩
    rintro lx25 H locs ls w26 ⟨i27, V, hl, hF, hO0, hA2, hA3, hA4, hA9⟩ ih28
    replace i27 : 0 ≤ lx25.toInt ∧ (lx25.toInt ≤ 2048 ∨ lx25.toInt = 0) := i27
    replace hl : lv_has ls 9 [(5, .int lx25), (4, .int 0), (0, .ref qO0), (1, .int x1), (2, .int x2), (3, .int x3)] := hl
    replace hO0 : w26[kO0]? = (some (qO0, .inr (13, [.int 0, .int 2, .ref qA1, .int 0, .ref qA2, .ref qA3, .ref qA4, .int 0, .ref qA5, .ref qA6, .ref qA7, .ref qA8, .ref qA9, .ref qA10, .ref qA11, .ref qA12, .int 0, .int 0, .ref qA13, .ref qA14, .int 0])) : Option (Nat × va_E)) := hO0
    replace hA2 : w26[kA2]? = (some (qA2, .inl (g 0, 1408, .inl (fun _ => 0))) : Option (Nat × va_E)) := hA2
    replace hA3 : w26[kA3]? = (some (qA3, .inl (g 3, 11, .inl (fun _ => 0))) : Option (Nat × va_E)) := hA3
    replace hA4 : w26[kA4]? = (some (qA4, .inl (g 0, 264, .inl (fun _ => 0))) : Option (Nat × va_E)) := hA4
    replace hA9 : w26[kA9]? = (some (qA9, .inl (g 0, 264, .inl (fun _ => 0))) : Option (Nat × va_E)) := hA9
    refine lv_iload hx hb d_19_38_189 (lv_at hl 0 rfl) ?_
    refine lv_sipush (v := 2048) hx hb d_19_38_191 (by decide) ?_
    refine lv_icmp_ge (tgt := 295) hx hb d_19_38_194 (by decide) (fun c29 => ?_) (fun c29 => ?_)
    ·
      refine lv_aload_n hx hb d_19_38_295 rfl (lv_at hl 2 rfl) ?_
      refine q_get (ci := 13) (j := 7) (v := .int 0) C0 V i_WR rfl rfl hO0 (by decide) w_1931 rfl d_19_38_296 ?_
      refine lv_if_eq (tgt := 329) hx hb d_19_38_299 (by decide) (fun c30 => ?_) (fun c30 => absurd (by decide) c30)
      refine lv_aload_n hx hb d_19_38_329 rfl (lv_at hl 2 rfl) ?_
      refine lv_iload_n hx hb d_19_38_330 rfl (lv_at hl 5 rfl) ?_
      refine q_gov V (q_runV (As := [.int x3]) (rest := []) (d := 2) (mc := 0) (ms := 0) (ci := 13) C0 V rfl LV_WR_103 (c_WR_store l D g w26 kO0 kA2 kA3 kA4 qO0 qA1 qA2 qA3 qA4 qA5 qA6 qA7 qA8 qA9 qA10 qA11 qA12 qA13 qA14 x3 hO0 hA2 hA3 hA4 n_A2_A3 n_A4_A2 n_A4_A3 x3lo x3hi _) rfl rfl hO0 rfl hl.1 rfl (Nat.le_of_ble_eq_true rfl) ⟨by decide, by decide⟩ ⟨Nat.le_of_ble_eq_true rfl, Nat.le_of_ble_eq_true rfl⟩ d_19_38_331) (fun u32 H locs hp31 V => ?_)
      obtain ⟨hg33, hA2, hA3⟩ := hp31
      replace hF := q_uc hF hg33 (q_sc (.tail _ (.head _)) (q_sc (.tail _ (.tail _ (.head _))) (fun _ h => absurd h List.not_mem_nil)))
      replace hO0 := (hg33 _ (q_nc n_O0_A2 (q_nc n_O0_A3 List.not_mem_nil))).trans (hO0)
      replace hA4 := (hg33 _ (q_nc n_A4_A2 (q_nc n_A4_A3 List.not_mem_nil))).trans (hA4)
      replace hA9 := (hg33 _ (q_nc n_A9_A2 (q_nc n_A9_A3 List.not_mem_nil))).trans (hA9)
      exact q_retv C0 V (Or.inl ⟨c24, hF, hO0, hA2, hA3, hA4, hA9⟩) d_19_38_334
    ·
      refine lv_aload_n hx hb d_19_38_197 rfl (lv_at hl 2 rfl) ?_
      refine q_get (ci := 13) (j := 12) (v := .ref qA9) C0 V i_WR rfl rfl hO0 (by decide) w_1936 rfl d_19_38_198 ?_
      refine lv_iload hx hb d_19_38_201 (lv_at hl 0 rfl) ?_
      refine lv_bipush (v := 16) hx hb d_19_38_203 (by decide) ?_
      refine lv_idiv hx hb d_19_38_205 (by decide) ?_
      refine q_iald C0 V hA9 (q_ix (x := (lx25.toInt / 16)) (q_divI (x := lx25.toInt) (y := 16) rfl (by decide) (by have t1 : lx25.toInt < 2048 := q_nleI c29; omega) (by have t1 : lx25.toInt < 2048 := q_nleI c29; omega)) (by have t1 : lx25.toInt < 2048 := q_nleI c29; omega) (by have t1 : lx25.toInt < 2048 := q_nleI c29; omega)) d_19_38_206 ?_
      refine q_ti (v := 0) (by first | rfl | decide | simp [upd, vp_updL, sb_cl0]) ?_
      refine lv_iload hx hb d_19_38_207 (lv_at hl 0 rfl) ?_
      refine lv_bipush (v := 16) hx hb d_19_38_209 (by decide) ?_
      refine lv_irem hx hb d_19_38_211 (by decide) ?_
      refine lv_ishr hx hb d_19_38_212 ?_
      refine q_ti (v := 0) q_zishr ?_
      refine lv_iconst (v := 1) hx hb d_19_38_213 (by decide) ?_
      refine lv_iand hx hb d_19_38_214 ?_
      refine q_ti (v := 0) (by decide) ?_
      refine lv_istore (lv' := [(6, .int 0), (5, .int lx25), (4, .int 0), (0, .ref qO0), (1, .int x1), (2, .int x2), (3, .int x3)]) hx hb d_19_38_215 hl (by decide) rfl (fun ls hl => ?_)
      refine lv_iload hx hb d_19_38_217 (lv_at hl 1 rfl) ?_
      refine lv_i2l hx hb d_19_38_219 rfl ?_
      refine lv_iload_n hx hb d_19_38_220 rfl (lv_at hl 5 rfl) ?_
      refine lv_i2l hx hb d_19_38_221 rfl ?_
      refine lv_ladd hx hb d_19_38_222 ?_
      refine lv_lstore (lv' := [(7, .long (lx25.toInt64 + x2.toInt64)), (6, .int 0), (5, .int lx25), (4, .int 0), (0, .ref qO0), (1, .int x1), (2, .int x2), (3, .int x3)]) hx hb d_19_38_223 hl (by decide) rfl (fun ls hl => ?_)
      refine lv_iload hx hb d_19_38_225 (lv_at hl 3 rfl) ?_
      refine lv_if_ne (tgt := 243) hx hb d_19_38_227 (by decide) (fun c34 => absurd (by decide) c34) (fun c34 => ?_)
      refine lv_iload hx hb d_19_38_230 (lv_at hl 1 rfl) ?_
      refine lv_iconst (v := 1) hx hb d_19_38_232 (by decide) ?_
      refine lv_icmp_ne (tgt := 247) hx hb d_19_38_233 (by decide) (fun c35 => ?_) (fun c35 => absurd c35 (by decide))
      refine lv_iconst (v := 0) hx hb d_19_38_247 (by decide) ?_
      refine lv_istore (lv' := [(4, .int 0), (7, .long (lx25.toInt64 + x2.toInt64)), (6, .int 0), (5, .int lx25), (0, .ref qO0), (1, .int x1), (2, .int x2), (3, .int x3)]) hx hb d_19_38_248 hl (by decide) rfl (fun ls hl => ?_)
      refine lv_lload hx hb d_19_38_250 (lv_at hl 1 rfl) ?_
      refine lv_lconst (v := 0) hx hb d_19_38_252 (by decide) ?_
      refine W.lcmp hx hb d_19_38_253 ?_
      by_cases c36 : (lx25.toInt + x2.toInt) < 0
      ·
        refine q_ti (v := (-1)) (q_cmL (x := (lx25.toInt + x2.toInt)) (y := 0) (q_addL (x := lx25.toInt) (y := x2.toInt) (q_i2l (x := lx25.toInt) rfl) (q_i2l (x := x2.toInt) rfl) (by have t1 : x2.toInt < 0 := q_ltI c24; have t2 : lx25.toInt < 2048 := q_nleI c29; have y1l := q_lo32 (x := x2); have b0l := q_lo32 (x := lx25); have b0h := q_hi32 (x := lx25); have b1l := q_lo32 (x := x2); have b1h := q_hi32 (x := x2); omega) (by have t1 : x2.toInt < 0 := q_ltI c24; have t2 : lx25.toInt < 2048 := q_nleI c29; have y1l := q_lo32 (x := x2); have b0l := q_lo32 (x := lx25); have b0h := q_hi32 (x := lx25); have b1l := q_lo32 (x := x2); have b1h := q_hi32 (x := x2); omega)) (by decide) (c36)) ?_
        refine lv_if_lt (tgt := 289) hx hb d_19_38_254 (by decide) (fun c37 => ?_) (fun c37 => absurd (by decide) c37)
        refine lv_iinc (v := lx25 + 1) (lv' := [(5, .int (lx25 + 1)), (4, .int 0), (7, .long (lx25.toInt64 + x2.toInt64)), (6, .int 0), (0, .ref qO0), (1, .int x1), (2, .int x2), (3, .int x3)]) hx hb d_19_38_289 hl (k := 3) rfl (rfl) (by decide) rfl (fun ls hl => ?_)
        refine lv_goto (tgt := 189) hx hb d_19_38_292 (by decide) ?_
        exact ih28 ((lx25 + 1 : Int32)) _ _ _ _ (show (2048 - (lx25 + 1).toInt).toNat < (2048 - lx25.toInt).toNat from by have t1 : lx25.toInt < 2048 := q_nleI c29; have e : (lx25 + 1).toInt = (lx25.toInt + 1) := (q_addI (x := lx25.toInt) (y := 1) rfl (by decide) (by have t1 : lx25.toInt < 2048 := q_nleI c29; omega) (by have t1 : lx25.toInt < 2048 := q_nleI c29; omega)); omega) ⟨(show 0 ≤ (lx25 + 1).toInt ∧ ((lx25 + 1).toInt ≤ 2048 ∨ (lx25 + 1).toInt = 0) from by have t1 : lx25.toInt < 2048 := q_nleI c29; have e : (lx25 + 1).toInt = (lx25.toInt + 1) := (q_addI (x := lx25.toInt) (y := 1) rfl (by decide) (by have t1 : lx25.toInt < 2048 := q_nleI c29; omega) (by have t1 : lx25.toInt < 2048 := q_nleI c29; omega)); omega), V, q_lw hl (q_lw1 0 rfl (q_lw1 1 rfl (q_lw1 4 rfl (q_lw1 5 rfl (q_lw1 6 rfl (q_lw1 7 rfl q_lw0)))))), hF, hO0, hA2, hA3, hA4, hA9⟩
      by_cases c38 : (lx25.toInt + x2.toInt) = 0
      ·
        refine q_ti (v := 0) (q_cmE (x := (lx25.toInt + x2.toInt)) (y := 0) (q_addL (x := lx25.toInt) (y := x2.toInt) (q_i2l (x := lx25.toInt) rfl) (q_i2l (x := x2.toInt) rfl) (by have t1 : x2.toInt < 0 := q_ltI c24; have t2 : lx25.toInt < 2048 := q_nleI c29; have y1l := q_lo32 (x := x2); have b0l := q_lo32 (x := lx25); have b0h := q_hi32 (x := lx25); have b1l := q_lo32 (x := x2); have b1h := q_hi32 (x := x2); omega) (by have t1 : x2.toInt < 0 := q_ltI c24; have t2 : lx25.toInt < 2048 := q_nleI c29; have y1l := q_lo32 (x := x2); have b0l := q_lo32 (x := lx25); have b0h := q_hi32 (x := lx25); have b1l := q_lo32 (x := x2); have b1h := q_hi32 (x := x2); omega)) (by decide) (c38)) ?_
        refine lv_if_lt (tgt := 289) hx hb d_19_38_254 (by decide) (fun c39 => absurd c39 (by decide)) (fun c39 => ?_)
        refine lv_aload_n hx hb d_19_38_257 rfl (lv_at hl 4 rfl) ?_
        refine q_get (ci := 13) (j := 6) (v := .ref qA4) C0 V i_WR rfl rfl hO0 (by decide) w_1930 rfl d_19_38_258 ?_
        refine lv_lload hx hb d_19_38_261 (lv_at hl 1 rfl) ?_
        refine lv_l2i hx hb d_19_38_263 rfl ?_
        refine q_ti (v := lx25 + x2) (by first | rfl | (simp only [Int64.toInt32_add, Int64.toInt32_sub, Int64.toInt32_mul, Int32.toInt32_toInt64]; done) | (simp only [Int64.toInt32_add, Int64.toInt32_sub, Int64.toInt32_mul, Int32.toInt32_toInt64]; rfl)) ?_
        refine lv_bipush (v := 16) hx hb d_19_38_264 (by decide) ?_
        refine lv_idiv hx hb d_19_38_266 (by decide) ?_
        refine lv_aload_n hx hb d_19_38_267 rfl (lv_at hl 4 rfl) ?_
        refine q_get (ci := 13) (j := 6) (v := .ref qA4) C0 V i_WR rfl rfl hO0 (by decide) w_1930 rfl d_19_38_268 ?_
        refine lv_lload hx hb d_19_38_271 (lv_at hl 1 rfl) ?_
        refine lv_l2i hx hb d_19_38_273 rfl ?_
        refine q_ti (v := lx25 + x2) (by first | rfl | (simp only [Int64.toInt32_add, Int64.toInt32_sub, Int64.toInt32_mul, Int32.toInt32_toInt64]; done) | (simp only [Int64.toInt32_add, Int64.toInt32_sub, Int64.toInt32_mul, Int32.toInt32_toInt64]; rfl)) ?_
        refine lv_bipush (v := 16) hx hb d_19_38_274 (by decide) ?_
        refine lv_idiv hx hb d_19_38_276 (by decide) ?_
        refine q_iald C0 V hA4 (q_ix (x := ((lx25.toInt + x2.toInt) / 16)) (q_divI (x := (lx25.toInt + x2.toInt)) (y := 16) (q_addI (x := lx25.toInt) (y := x2.toInt) rfl rfl (by have t1 : x2.toInt < 0 := q_ltI c24; have t2 : lx25.toInt < 2048 := q_nleI c29; have y1l := q_lo32 (x := x2); omega) (by have t1 : x2.toInt < 0 := q_ltI c24; have t2 : lx25.toInt < 2048 := q_nleI c29; have y1l := q_lo32 (x := x2); omega)) (by decide) (by have t1 : x2.toInt < 0 := q_ltI c24; have t2 : lx25.toInt < 2048 := q_nleI c29; have y1l := q_lo32 (x := x2); omega) (by have t1 : x2.toInt < 0 := q_ltI c24; have t2 : lx25.toInt < 2048 := q_nleI c29; have y1l := q_lo32 (x := x2); omega)) (by have t1 : x2.toInt < 0 := q_ltI c24; have t2 : lx25.toInt < 2048 := q_nleI c29; have y1l := q_lo32 (x := x2); omega) (by have t1 : x2.toInt < 0 := q_ltI c24; have t2 : lx25.toInt < 2048 := q_nleI c29; have y1l := q_lo32 (x := x2); omega)) d_19_38_277 ?_
        refine q_ti (v := 0) (by first | rfl | decide | simp [upd, vp_updL, sb_cl0]) ?_
        refine lv_iload hx hb d_19_38_278 (lv_at hl 2 rfl) ?_
        refine lv_lload hx hb d_19_38_280 (lv_at hl 1 rfl) ?_
        refine lv_l2i hx hb d_19_38_282 rfl ?_
        refine q_ti (v := lx25 + x2) (by first | rfl | (simp only [Int64.toInt32_add, Int64.toInt32_sub, Int64.toInt32_mul, Int32.toInt32_toInt64]; done) | (simp only [Int64.toInt32_add, Int64.toInt32_sub, Int64.toInt32_mul, Int32.toInt32_toInt64]; rfl)) ?_
        refine lv_bipush (v := 16) hx hb d_19_38_283 (by decide) ?_
        refine lv_irem hx hb d_19_38_285 (by decide) ?_
        refine lv_ishl hx hb d_19_38_286 ?_
        refine q_ti (v := 0) q_zishl ?_
        refine lv_ior hx hb d_19_38_287 ?_
        refine q_ti (v := 0) (by decide) ?_
        refine q_iast C0 V hA4 (q_ix (x := ((lx25.toInt + x2.toInt) / 16)) (q_divI (x := (lx25.toInt + x2.toInt)) (y := 16) (q_addI (x := lx25.toInt) (y := x2.toInt) rfl rfl (by have t1 : x2.toInt < 0 := q_ltI c24; have t2 : lx25.toInt < 2048 := q_nleI c29; have y1l := q_lo32 (x := x2); omega) (by have t1 : x2.toInt < 0 := q_ltI c24; have t2 : lx25.toInt < 2048 := q_nleI c29; have y1l := q_lo32 (x := x2); omega)) (by decide) (by have t1 : x2.toInt < 0 := q_ltI c24; have t2 : lx25.toInt < 2048 := q_nleI c29; have y1l := q_lo32 (x := x2); omega) (by have t1 : x2.toInt < 0 := q_ltI c24; have t2 : lx25.toInt < 2048 := q_nleI c29; have y1l := q_lo32 (x := x2); omega)) (by have t1 : x2.toInt < 0 := q_ltI c24; have t2 : lx25.toInt < 2048 := q_nleI c29; have y1l := q_lo32 (x := x2); omega) (by have t1 : x2.toInt < 0 := q_ltI c24; have t2 : lx25.toInt < 2048 := q_nleI c29; have y1l := q_lo32 (x := x2); omega)) d_19_38_288 (fun H locs w40 hu41 hA4 V => ?_)
        replace hA4 := q_re (y := (qA4, .inl (g 0, 264, .inl (fun _ => 0)))) hA4 (q_eI q_upd0)
        replace hA4 : w40[kA4]? = (some (qA4, .inl (g 0, 264, .inl (fun _ => 0))) : Option (Nat × va_E)) := hA4
        replace hF := q_us hF hu41 (List.mem_of_getElem? (i := 3) rfl)
        refine lv_iinc (v := lx25 + 1) (lv' := [(5, .int (lx25 + 1)), (4, .int 0), (7, .long (lx25.toInt64 + x2.toInt64)), (6, .int 0), (0, .ref qO0), (1, .int x1), (2, .int x2), (3, .int x3)]) hx hb d_19_38_289 hl (k := 3) rfl (rfl) (by decide) rfl (fun ls hl => ?_)
        refine lv_goto (tgt := 189) hx hb d_19_38_292 (by decide) ?_
        replace hO0 := (hu41 _ n_O0_A4).trans (hO0)
        replace hA2 := (hu41 _ n_A2_A4).trans (hA2)
        replace hA3 := (hu41 _ n_A3_A4).trans (hA3)
        replace hA9 := (hu41 _ n_A9_A4).trans (hA9)
        exact ih28 ((lx25 + 1 : Int32)) _ _ _ _ (show (2048 - (lx25 + 1).toInt).toNat < (2048 - lx25.toInt).toNat from by have t1 : lx25.toInt < 2048 := q_nleI c29; have e : (lx25 + 1).toInt = (lx25.toInt + 1) := (q_addI (x := lx25.toInt) (y := 1) rfl (by decide) (by have t1 : lx25.toInt < 2048 := q_nleI c29; omega) (by have t1 : lx25.toInt < 2048 := q_nleI c29; omega)); omega) ⟨(show 0 ≤ (lx25 + 1).toInt ∧ ((lx25 + 1).toInt ≤ 2048 ∨ (lx25 + 1).toInt = 0) from by have t1 : lx25.toInt < 2048 := q_nleI c29; have e : (lx25 + 1).toInt = (lx25.toInt + 1) := (q_addI (x := lx25.toInt) (y := 1) rfl (by decide) (by have t1 : lx25.toInt < 2048 := q_nleI c29; omega) (by have t1 : lx25.toInt < 2048 := q_nleI c29; omega)); omega), V, q_lw hl (q_lw1 0 rfl (q_lw1 1 rfl (q_lw1 4 rfl (q_lw1 5 rfl (q_lw1 6 rfl (q_lw1 7 rfl q_lw0)))))), hF, hO0, hA2, hA3, hA4, hA9⟩
      refine q_ti (v := 1) (q_cmG (x := (lx25.toInt + x2.toInt)) (y := 0) (q_addL (x := lx25.toInt) (y := x2.toInt) (q_i2l (x := lx25.toInt) rfl) (q_i2l (x := x2.toInt) rfl) (by have t1 : x2.toInt < 0 := q_ltI c24; have t2 : lx25.toInt < 2048 := q_nleI c29; have y1l := q_lo32 (x := x2); have b0l := q_lo32 (x := lx25); have b0h := q_hi32 (x := lx25); have b1l := q_lo32 (x := x2); have b1h := q_hi32 (x := x2); omega) (by have t1 : x2.toInt < 0 := q_ltI c24; have t2 : lx25.toInt < 2048 := q_nleI c29; have y1l := q_lo32 (x := x2); have b0l := q_lo32 (x := lx25); have b0h := q_hi32 (x := lx25); have b1l := q_lo32 (x := x2); have b1h := q_hi32 (x := x2); omega)) (by decide) (by have t1 : x2.toInt < 0 := q_ltI c24; have t2 : lx25.toInt < 2048 := q_nleI c29; have y1l := q_lo32 (x := x2); have b0l := q_lo32 (x := lx25); have b0h := q_hi32 (x := lx25); have b1l := q_lo32 (x := x2); have b1h := q_hi32 (x := x2); omega)) ?_
      refine lv_if_lt (tgt := 289) hx hb d_19_38_254 (by decide) (fun c42 => absurd c42 (by decide)) (fun c42 => ?_)
      refine lv_aload_n hx hb d_19_38_257 rfl (lv_at hl 4 rfl) ?_
      refine q_get (ci := 13) (j := 6) (v := .ref qA4) C0 V i_WR rfl rfl hO0 (by decide) w_1930 rfl d_19_38_258 ?_
      refine lv_lload hx hb d_19_38_261 (lv_at hl 1 rfl) ?_
      refine lv_l2i hx hb d_19_38_263 rfl ?_
      refine q_ti (v := lx25 + x2) (by first | rfl | (simp only [Int64.toInt32_add, Int64.toInt32_sub, Int64.toInt32_mul, Int32.toInt32_toInt64]; done) | (simp only [Int64.toInt32_add, Int64.toInt32_sub, Int64.toInt32_mul, Int32.toInt32_toInt64]; rfl)) ?_
      refine lv_bipush (v := 16) hx hb d_19_38_264 (by decide) ?_
      refine lv_idiv hx hb d_19_38_266 (by decide) ?_
      refine lv_aload_n hx hb d_19_38_267 rfl (lv_at hl 4 rfl) ?_
      refine q_get (ci := 13) (j := 6) (v := .ref qA4) C0 V i_WR rfl rfl hO0 (by decide) w_1930 rfl d_19_38_268 ?_
      refine lv_lload hx hb d_19_38_271 (lv_at hl 1 rfl) ?_
      refine lv_l2i hx hb d_19_38_273 rfl ?_
      refine q_ti (v := lx25 + x2) (by first | rfl | (simp only [Int64.toInt32_add, Int64.toInt32_sub, Int64.toInt32_mul, Int32.toInt32_toInt64]; done) | (simp only [Int64.toInt32_add, Int64.toInt32_sub, Int64.toInt32_mul, Int32.toInt32_toInt64]; rfl)) ?_
      refine lv_bipush (v := 16) hx hb d_19_38_274 (by decide) ?_
      refine lv_idiv hx hb d_19_38_276 (by decide) ?_
      refine q_iald C0 V hA4 (q_ix (x := ((lx25.toInt + x2.toInt) / 16)) (q_divI (x := (lx25.toInt + x2.toInt)) (y := 16) (q_addI (x := lx25.toInt) (y := x2.toInt) rfl rfl (by have t1 : x2.toInt < 0 := q_ltI c24; have t2 : lx25.toInt < 2048 := q_nleI c29; have y1l := q_lo32 (x := x2); omega) (by have t1 : x2.toInt < 0 := q_ltI c24; have t2 : lx25.toInt < 2048 := q_nleI c29; have y1l := q_lo32 (x := x2); omega)) (by decide) (by have t1 : x2.toInt < 0 := q_ltI c24; have t2 : lx25.toInt < 2048 := q_nleI c29; have y1l := q_lo32 (x := x2); omega) (by have t1 : x2.toInt < 0 := q_ltI c24; have t2 : lx25.toInt < 2048 := q_nleI c29; have y1l := q_lo32 (x := x2); omega)) (by have t1 : x2.toInt < 0 := q_ltI c24; have t2 : lx25.toInt < 2048 := q_nleI c29; have y1l := q_lo32 (x := x2); omega) (by have t1 : x2.toInt < 0 := q_ltI c24; have t2 : lx25.toInt < 2048 := q_nleI c29; have y1l := q_lo32 (x := x2); omega)) d_19_38_277 ?_
      refine q_ti (v := 0) (by first | rfl | decide | simp [upd, vp_updL, sb_cl0]) ?_
      refine lv_iload hx hb d_19_38_278 (lv_at hl 2 rfl) ?_
      refine lv_lload hx hb d_19_38_280 (lv_at hl 1 rfl) ?_
      refine lv_l2i hx hb d_19_38_282 rfl ?_
      refine q_ti (v := lx25 + x2) (by first | rfl | (simp only [Int64.toInt32_add, Int64.toInt32_sub, Int64.toInt32_mul, Int32.toInt32_toInt64]; done) | (simp only [Int64.toInt32_add, Int64.toInt32_sub, Int64.toInt32_mul, Int32.toInt32_toInt64]; rfl)) ?_
      refine lv_bipush (v := 16) hx hb d_19_38_283 (by decide) ?_
      refine lv_irem hx hb d_19_38_285 (by decide) ?_
      refine lv_ishl hx hb d_19_38_286 ?_
      refine q_ti (v := 0) q_zishl ?_
      refine lv_ior hx hb d_19_38_287 ?_
      refine q_ti (v := 0) (by decide) ?_
      refine q_iast C0 V hA4 (q_ix (x := ((lx25.toInt + x2.toInt) / 16)) (q_divI (x := (lx25.toInt + x2.toInt)) (y := 16) (q_addI (x := lx25.toInt) (y := x2.toInt) rfl rfl (by have t1 : x2.toInt < 0 := q_ltI c24; have t2 : lx25.toInt < 2048 := q_nleI c29; have y1l := q_lo32 (x := x2); omega) (by have t1 : x2.toInt < 0 := q_ltI c24; have t2 : lx25.toInt < 2048 := q_nleI c29; have y1l := q_lo32 (x := x2); omega)) (by decide) (by have t1 : x2.toInt < 0 := q_ltI c24; have t2 : lx25.toInt < 2048 := q_nleI c29; have y1l := q_lo32 (x := x2); omega) (by have t1 : x2.toInt < 0 := q_ltI c24; have t2 : lx25.toInt < 2048 := q_nleI c29; have y1l := q_lo32 (x := x2); omega)) (by have t1 : x2.toInt < 0 := q_ltI c24; have t2 : lx25.toInt < 2048 := q_nleI c29; have y1l := q_lo32 (x := x2); omega) (by have t1 : x2.toInt < 0 := q_ltI c24; have t2 : lx25.toInt < 2048 := q_nleI c29; have y1l := q_lo32 (x := x2); omega)) d_19_38_288 (fun H locs w43 hu44 hA4 V => ?_)
      replace hA4 := q_re (y := (qA4, .inl (g 0, 264, .inl (fun _ => 0)))) hA4 (q_eI q_upd0)
      replace hA4 : w43[kA4]? = (some (qA4, .inl (g 0, 264, .inl (fun _ => 0))) : Option (Nat × va_E)) := hA4
      replace hF := q_us hF hu44 (List.mem_of_getElem? (i := 3) rfl)
      refine lv_iinc (v := lx25 + 1) (lv' := [(5, .int (lx25 + 1)), (4, .int 0), (7, .long (lx25.toInt64 + x2.toInt64)), (6, .int 0), (0, .ref qO0), (1, .int x1), (2, .int x2), (3, .int x3)]) hx hb d_19_38_289 hl (k := 3) rfl (rfl) (by decide) rfl (fun ls hl => ?_)
      refine lv_goto (tgt := 189) hx hb d_19_38_292 (by decide) ?_
      replace hO0 := (hu44 _ n_O0_A4).trans (hO0)
      replace hA2 := (hu44 _ n_A2_A4).trans (hA2)
      replace hA3 := (hu44 _ n_A3_A4).trans (hA3)
      replace hA9 := (hu44 _ n_A9_A4).trans (hA9)
      exact ih28 ((lx25 + 1 : Int32)) _ _ _ _ (show (2048 - (lx25 + 1).toInt).toNat < (2048 - lx25.toInt).toNat from by have t1 : lx25.toInt < 2048 := q_nleI c29; have e : (lx25 + 1).toInt = (lx25.toInt + 1) := (q_addI (x := lx25.toInt) (y := 1) rfl (by decide) (by have t1 : lx25.toInt < 2048 := q_nleI c29; omega) (by have t1 : lx25.toInt < 2048 := q_nleI c29; omega)); omega) ⟨(show 0 ≤ (lx25 + 1).toInt ∧ ((lx25 + 1).toInt ≤ 2048 ∨ (lx25 + 1).toInt = 0) from by have t1 : lx25.toInt < 2048 := q_nleI c29; have e : (lx25 + 1).toInt = (lx25.toInt + 1) := (q_addI (x := lx25.toInt) (y := 1) rfl (by decide) (by have t1 : lx25.toInt < 2048 := q_nleI c29; omega) (by have t1 : lx25.toInt < 2048 := q_nleI c29; omega)); omega), V, q_lw hl (q_lw1 0 rfl (q_lw1 1 rfl (q_lw1 4 rfl (q_lw1 5 rfl (q_lw1 6 rfl (q_lw1 7 rfl q_lw0)))))), hF, hO0, hA2, hA3, hA4, hA9⟩
  ·
    refine lv_iload_n hx hb d_19_38_66 rfl (lv_at hl 2 rfl) ?_
    refine lv_sipush (v := 2048) hx hb d_19_38_67 (by decide) ?_
    refine lv_icmp_le (tgt := 89) hx hb d_19_38_70 (by decide) (fun c45 => ?_) (fun c45 => ?_)
    ·
      refine lv_iconst (v := 0) hx hb d_19_38_89 (by decide) ?_
      refine lv_istore (lv' := [(4, .int 0), (0, .ref qO0), (1, .int x1), (2, .int x2), (3, .int x3)]) hx hb d_19_38_90 hl (by decide) rfl (fun ls hl => ?_)
      refine lv_iload hx hb d_19_38_92 (lv_at hl 0 rfl) ?_
      refine lv_aload_n hx hb d_19_38_94 rfl (lv_at hl 1 rfl) ?_
      replace hO0 := (hg23 _ (q_nc n_O0_A4 List.not_mem_nil)).trans (hO0)
      refine q_get (ci := 13) (j := 12) (v := .ref qA9) C0 V i_WR rfl rfl hO0 (by decide) w_1936 rfl d_19_38_95 ?_
      replace hA9 := (hg23 _ (q_nc n_A9_A4 List.not_mem_nil)).trans ((hu20 _ n_A9_O0).trans (hA9))
      refine q_goi V (q_runS (As := [.ref qA9]) (rest := [.int 0]) (d := 1) (mc := 0) (ms := 0) C0 V rfl LS_WR_59 (c_WR_size l D g u22 kA9 qA9 hA9 _) rfl hl.1 rfl (Nat.le_of_ble_eq_true rfl) ⟨by decide, by decide⟩ ⟨Nat.le_of_ble_eq_true rfl, Nat.le_of_ble_eq_true rfl⟩ d_19_38_98) (fun v48 u47 H locs hp46 V => ?_)
      obtain ⟨rfl, rfl⟩ := hp46
      refine lv_icmp_ge (tgt := 177) hx hb d_19_38_101 (by decide) (fun c50 => ?_) (fun c50 => absurd (by decide) c50)
      refine lv_aload_n hx hb d_19_38_177 rfl (lv_at hl 1 rfl) ?_
      refine lv_iload_n hx hb d_19_38_178 rfl (lv_at hl 4 rfl) ?_
      replace hA2 := (hg23 _ (q_nc n_A2_A4 List.not_mem_nil)).trans ((hu20 _ n_A2_O0).trans ((hg18 _ (q_nc n_A2_A9 List.not_mem_nil)).trans (hA2)))
      replace hA3 := (hg23 _ (q_nc n_A3_A4 List.not_mem_nil)).trans ((hu20 _ n_A3_O0).trans (hA3))
      refine q_gov V (q_runV (As := [.int x3]) (rest := []) (d := 2) (mc := 0) (ms := 0) (ci := 13) C0 V rfl LV_WR_103 (c_WR_store l D g u22 kO0 kA2 kA3 kA4 qO0 qA1 qA2 qA3 qA4 qA5 qA6 qA7 qA8 qA9 qA10 qA11 qA12 qA13 qA14 x3 hO0 hA2 hA3 hA4 n_A2_A3 n_A4_A2 n_A4_A3 x3lo x3hi _) rfl rfl hO0 rfl hl.1 rfl (Nat.le_of_ble_eq_true rfl) ⟨by decide, by decide⟩ ⟨Nat.le_of_ble_eq_true rfl, Nat.le_of_ble_eq_true rfl⟩ d_19_38_179) (fun u52 H locs hp51 V => ?_)
      obtain ⟨hg53, hA2, hA3⟩ := hp51
      replace hF := q_uc hF hg53 (q_sc (.tail _ (.head _)) (q_sc (.tail _ (.tail _ (.head _))) (fun _ h => absurd h List.not_mem_nil)))
      replace hO0 := (hg53 _ (q_nc n_O0_A2 (q_nc n_O0_A3 List.not_mem_nil))).trans (hO0)
      replace hA4 := (hg53 _ (q_nc n_A4_A2 (q_nc n_A4_A3 List.not_mem_nil))).trans (hA4)
      replace hA9 := (hg53 _ (q_nc n_A9_A2 (q_nc n_A9_A3 List.not_mem_nil))).trans (hA9)
      exact q_retv C0 V (Or.inr (⟨c24, hF, hO0, hA2, hA3, hA4, hA9⟩)) d_19_38_182
    ·
      refine lv_aload_n hx hb d_19_38_73 rfl (lv_at hl 0 rfl) ?_
      replace hO0 := (hg23 _ (q_nc n_O0_A4 List.not_mem_nil)).trans (hO0)
      refine q_get (ci := 13) (j := 12) (v := .ref qA9) C0 V i_WR rfl rfl hO0 (by decide) w_1936 rfl d_19_38_74 ?_
      replace hA9 := (hg23 _ (q_nc n_A9_A4 List.not_mem_nil)).trans ((hu20 _ n_A9_O0).trans (hA9))
      refine q_goi V (q_runS (As := [.ref qA9]) (rest := []) (d := 1) (mc := 0) (ms := 0) C0 V rfl LS_WR_59 (c_WR_size l D g u22 kA9 qA9 hA9 _) rfl hl.1 rfl (Nat.le_of_ble_eq_true rfl) ⟨by decide, by decide⟩ ⟨Nat.le_of_ble_eq_true rfl, Nat.le_of_ble_eq_true rfl⟩ d_19_38_77) (fun v56 u55 H locs hp54 V => ?_)
      obtain ⟨rfl, rfl⟩ := hp54
      refine lv_if_le (tgt := 89) hx hb d_19_38_80 (by decide) (fun c58 => ?_) (fun c58 => absurd (by decide) c58)
      refine lv_iconst (v := 0) hx hb d_19_38_89 (by decide) ?_
      refine lv_istore (lv' := [(4, .int 0), (0, .ref qO0), (1, .int x1), (2, .int x2), (3, .int x3)]) hx hb d_19_38_90 hl (by decide) rfl (fun ls hl => ?_)
      refine lv_iload hx hb d_19_38_92 (lv_at hl 0 rfl) ?_
      refine lv_aload_n hx hb d_19_38_94 rfl (lv_at hl 1 rfl) ?_
      refine q_get (ci := 13) (j := 12) (v := .ref qA9) C0 V i_WR rfl rfl hO0 (by decide) w_1936 rfl d_19_38_95 ?_
      refine q_goi V (q_runS (As := [.ref qA9]) (rest := [.int 0]) (d := 1) (mc := 0) (ms := 0) C0 V rfl LS_WR_59 (c_WR_size l D g u22 kA9 qA9 hA9 _) rfl hl.1 rfl (Nat.le_of_ble_eq_true rfl) ⟨by decide, by decide⟩ ⟨Nat.le_of_ble_eq_true rfl, Nat.le_of_ble_eq_true rfl⟩ d_19_38_98) (fun v61 u60 H locs hp59 V => ?_)
      obtain ⟨rfl, rfl⟩ := hp59
      refine lv_icmp_ge (tgt := 177) hx hb d_19_38_101 (by decide) (fun c63 => ?_) (fun c63 => absurd (by decide) c63)
      refine lv_aload_n hx hb d_19_38_177 rfl (lv_at hl 1 rfl) ?_
      refine lv_iload_n hx hb d_19_38_178 rfl (lv_at hl 4 rfl) ?_
      replace hA2 := (hg23 _ (q_nc n_A2_A4 List.not_mem_nil)).trans ((hu20 _ n_A2_O0).trans ((hg18 _ (q_nc n_A2_A9 List.not_mem_nil)).trans (hA2)))
      replace hA3 := (hg23 _ (q_nc n_A3_A4 List.not_mem_nil)).trans ((hu20 _ n_A3_O0).trans (hA3))
      refine q_gov V (q_runV (As := [.int x3]) (rest := []) (d := 2) (mc := 0) (ms := 0) (ci := 13) C0 V rfl LV_WR_103 (c_WR_store l D g u22 kO0 kA2 kA3 kA4 qO0 qA1 qA2 qA3 qA4 qA5 qA6 qA7 qA8 qA9 qA10 qA11 qA12 qA13 qA14 x3 hO0 hA2 hA3 hA4 n_A2_A3 n_A4_A2 n_A4_A3 x3lo x3hi _) rfl rfl hO0 rfl hl.1 rfl (Nat.le_of_ble_eq_true rfl) ⟨by decide, by decide⟩ ⟨Nat.le_of_ble_eq_true rfl, Nat.le_of_ble_eq_true rfl⟩ d_19_38_179) (fun u65 H locs hp64 V => ?_)
      obtain ⟨hg66, hA2, hA3⟩ := hp64
      replace hF := q_uc hF hg66 (q_sc (.tail _ (.head _)) (q_sc (.tail _ (.tail _ (.head _))) (fun _ h => absurd h List.not_mem_nil)))
      replace hO0 := (hg66 _ (q_nc n_O0_A2 (q_nc n_O0_A3 List.not_mem_nil))).trans (hO0)
      replace hA4 := (hg66 _ (q_nc n_A4_A2 (q_nc n_A4_A3 List.not_mem_nil))).trans (hA4)
      replace hA9 := (hg66 _ (q_nc n_A9_A2 (q_nc n_A9_A3 List.not_mem_nil))).trans (hA9)
      exact q_retv C0 V (Or.inr (⟨c24, hF, hO0, hA2, hA3, hA4, hA9⟩)) d_19_38_182
theorem d_19_28_0 : decode prog_19_method_28_code 0 = .ok (.aload_n 1, 1) := by decide +kernel
theorem d_19_28_1 : decode prog_19_method_28_code 1 = .ok (.invokestatic 63, 3) := by decide +kernel
theorem d_19_28_4 : decode prog_19_method_28_code 4 = .ok (.aload_n 1, 1) := by decide +kernel
theorem d_19_28_5 : decode prog_19_method_28_code 5 = .ok (.iconst 0, 1) := by decide +kernel
theorem d_19_28_6 : decode prog_19_method_28_code 6 = .ok (.iconst 1, 1) := by decide +kernel
theorem d_19_28_7 : decode prog_19_method_28_code 7 = .ok (.iastore, 1) := by decide +kernel
theorem d_19_28_8 : decode prog_19_method_28_code 8 = .ok (.return_, 1) := by decide +kernel
def y_WR_setOne : MethodName := ⟨"NumberHouseModel$WholeRows", "setOne", "([I)V"⟩
set_option maxRecDepth 100000 in
set_option maxHeartbeats 4000000 in
theorem c_WR_setOne (l : Launch) (D : va_G) (g : Nat → ClassId) (ws : va_W) (kA1 qO0 qA1 : Nat) (hA1 : ws[kA1]? = (some (qA1, .inl (g 0, 264, .inl (fun _ => 0))) : Option (Nat × va_E))) : q_mV l y_WR_setOne prog_19_method_28_code 2 2 0 0 D g [.ref qO0, .ref qA1] ws (fun u => q_un ws u [kA1] ∧ u[kA1]? = (some (qA1, .inl (g 0, 264, .inl (upd (fun _ => 0) 0 1))) : Option (Nat × va_E))) := by
  intro sz
  refine q_into (by decide) (Nat.le_of_ble_eq_true rfl) ?_
  intro p e s m below meth c ls hsz C0 V hl
  have hx := C0.1
  have hb := C0.2.1
  have hl : lv_has ls 2 [(0, .ref qO0), (1, .ref qA1)] := hl
  have hF : q_un ws ws [kA1] := q_u0
  refine lv_aload_n hx hb d_19_28_0 rfl (lv_at hl 1 rfl) ?_
  refine q_gov V (q_runS (As := [.ref qA1]) (rest := []) (d := 1) (mc := 0) (ms := 0) C0 V rfl LS_WR_63 (c_WR_clear_2 l D g ws kA1 qA1 hA1 _) rfl hl.1 rfl (Nat.le_of_ble_eq_true rfl) ⟨by decide, by decide⟩ ⟨Nat.le_of_ble_eq_true rfl, Nat.le_of_ble_eq_true rfl⟩ d_19_28_1) (fun u2 H locs hp1 V => ?_)
  obtain ⟨hg3, hA1⟩ := hp1
  replace hF := q_uc hF hg3 (q_sc (.head _) (fun _ h => absurd h List.not_mem_nil))
  refine lv_aload_n hx hb d_19_28_4 rfl (lv_at hl 1 rfl) ?_
  refine lv_iconst (v := 0) hx hb d_19_28_5 (by decide) ?_
  refine lv_iconst (v := 1) hx hb d_19_28_6 (by decide) ?_
  refine q_iast C0 V hA1 (by unfold vp_in; decide) d_19_28_7 (fun H locs w4 hu5 hA1 V => ?_)
  replace hA1 : w4[kA1]? = (some (qA1, .inl (g 0, 264, .inl (upd (fun _ => 0) 0 1))) : Option (Nat × va_E)) := hA1
  replace hF := q_us hF hu5 (.head _)
  exact q_retv C0 V (⟨hF, hA1⟩) d_19_28_8
set_option maxRecDepth 100000 in
set_option maxHeartbeats 4000000 in
theorem c_WR_size_2 (l : Launch) (D : va_G) (g : Nat → ClassId) (ws : va_W) (kA0 qA0 : Nat) (hA0 : ws[kA0]? = (some (qA0, .inl (g 0, 264, .inl (upd (fun _ => 0) 0 1))) : Option (Nat × va_E))) : q_mI l y_WR_size prog_19_method_7_code 2 (.int) 1 0 0 D g [.ref qA0] ws (fun r u => 1 = r ∧ ws = u) := by
  intro sz
  refine q_into (by decide) (Nat.le_of_ble_eq_true rfl) ?_
  intro p e s m below meth c ls hsz C0 V hl
  have hx := C0.1
  have hb := C0.2.1
  have hl : lv_has ls 2 [(0, .ref qA0)] := hl
  refine lv_aload_n hx hb d_19_7_0 rfl (lv_at hl 0 rfl) ?_
  refine q_alen (t := 0) (v := 264) C0 V hA0 rfl (by first | rfl | decide) d_19_7_1 ?_
  refine lv_istore_n (lv' := [(1, .int 264), (0, .ref qA0)]) hx hb d_19_7_2 rfl hl (by decide) rfl (fun ls hl => ?_)
  refine q_loop (X := Int32) (fun z H locs ls _ => (1 ≤ z.toInt ∧ z.toInt ≤ 264) ∧ q_Wd D g (va_A ws sz) s ws H locs ∧ lv_has ls 2 [(1, .int z), (0, .ref qA0)]) (fun z => (z.toInt - 1).toNat) ?_ ((264 : Int32)) _ _ _ ws ⟨⟨by decide, by decide⟩, V, hl⟩
  rintro lx1 H locs ls _ ⟨i3, V, hl⟩ ih4
  replace i3 : 1 ≤ lx1.toInt ∧ lx1.toInt ≤ 264 := i3
  replace hl : lv_has ls 2 [(1, .int lx1), (0, .ref qA0)] := hl
  refine lv_iload_n hx hb d_19_7_3 rfl (lv_at hl 0 rfl) ?_
  refine lv_if_le (tgt := 21) hx hb d_19_7_4 (by decide) (fun c5 => absurd c5 (Int32.not_le.mpr (q_Ilt (x := 0) (y := lx1.toInt) (by decide) rfl (by omega)))) (fun c5 => ?_)
  refine lv_aload_n hx hb d_19_7_7 rfl (lv_at hl 1 rfl) ?_
  refine lv_iload_n hx hb d_19_7_8 rfl (lv_at hl 0 rfl) ?_
  refine lv_iconst (v := 1) hx hb d_19_7_9 (by decide) ?_
  refine lv_isub hx hb d_19_7_10 ?_
  refine q_iald C0 V hA0 (q_ix (x := (lx1.toInt - 1)) (q_subI (x := lx1.toInt) (y := 1) rfl (by decide) (by omega) (by omega)) (by omega) (by omega)) d_19_7_11 ?_
  by_cases c6 : (lx1 - 1) = 0
  ·
    refine q_ti (v := 1) (by rw [c6]; rfl) ?_
    refine lv_if_ne (tgt := 21) hx hb d_19_7_12 (by decide) (fun c7 => ?_) (fun c7 => absurd c7 (by decide))
    refine lv_iload_n hx hb d_19_7_21 rfl (lv_at hl 0 rfl) ?_
    refine q_ti (v := 1) (q_Ieq (x := lx1.toInt) (y := 1) rfl (by decide) (by have t1 : (lx1.toInt - 1) = 0 := by { have e1 : ((lx1 - 1) : Int32).toInt = (lx1.toInt - 1) := (q_subI (x := lx1.toInt) (y := 1) rfl (by decide) (by omega) (by omega)); have e2 : (0 : Int32).toInt = 0 := (by decide); have e3 := q_eqI c6; omega }; omega)) ?_
    exact q_reti C0 V (⟨rfl, rfl⟩) d_19_7_22
  refine q_ti (v := 0) ((q_upn (x := (lx1.toInt - 1)) (q_subI (x := lx1.toInt) (y := 1) rfl (by decide) (by have t1 : (lx1.toInt - 1) ≠ 0 := by { have e1 : ((lx1 - 1) : Int32).toInt = (lx1.toInt - 1) := (q_subI (x := lx1.toInt) (y := 1) rfl (by decide) (by omega) (by omega)); have e2 : (0 : Int32).toInt = 0 := (by decide); have e3 := q_neI c6; omega }; omega) (by have t1 : (lx1.toInt - 1) ≠ 0 := by { have e1 : ((lx1 - 1) : Int32).toInt = (lx1.toInt - 1) := (q_subI (x := lx1.toInt) (y := 1) rfl (by decide) (by omega) (by omega)); have e2 : (0 : Int32).toInt = 0 := (by decide); have e3 := q_neI c6; omega }; omega)) (by have t1 : (lx1.toInt - 1) ≠ 0 := by { have e1 : ((lx1 - 1) : Int32).toInt = (lx1.toInt - 1) := (q_subI (x := lx1.toInt) (y := 1) rfl (by decide) (by omega) (by omega)); have e2 : (0 : Int32).toInt = 0 := (by decide); have e3 := q_neI c6; omega }; omega) (by have e9 := q_neI c6; have e8 : ((0 : Int32)).toInt = 0 := (by decide); have e7 : (lx1 - 1 : Int32).toInt = (lx1.toInt - 1) := (q_subI (x := lx1.toInt) (y := 1) rfl (by decide) (by have t1 : (lx1.toInt - 1) ≠ 0 := by { have e1 : ((lx1 - 1) : Int32).toInt = (lx1.toInt - 1) := (q_subI (x := lx1.toInt) (y := 1) rfl (by decide) (by omega) (by omega)); have e2 : (0 : Int32).toInt = 0 := (by decide); have e3 := q_neI c6; omega }; omega) (by have t1 : (lx1.toInt - 1) ≠ 0 := by { have e1 : ((lx1 - 1) : Int32).toInt = (lx1.toInt - 1) := (q_subI (x := lx1.toInt) (y := 1) rfl (by decide) (by omega) (by omega)); have e2 : (0 : Int32).toInt = 0 := (by decide); have e3 := q_neI c6; omega }; omega)); omega)).trans rfl) ?_
  refine lv_if_ne (tgt := 21) hx hb d_19_7_12 (by decide) (fun c8 => absurd (by decide) c8) (fun c8 => ?_)
  refine lv_iinc (v := lx1 + (-1)) (lv' := [(1, .int (lx1 + (-1))), (0, .ref qA0)]) hx hb d_19_7_15 hl (k := 0) rfl (rfl) (by decide) rfl (fun ls hl => ?_)
  refine lv_goto (tgt := 3) hx hb d_19_7_18 (by decide) ?_
  exact ih4 ((lx1 + (-1) : Int32)) _ _ _ ws (show ((lx1 + (-1)).toInt - 1).toNat < (lx1.toInt - 1).toNat from by have t1 : (lx1.toInt - 1) ≠ 0 := by { have e1 : ((lx1 - 1) : Int32).toInt = (lx1.toInt - 1) := (q_subI (x := lx1.toInt) (y := 1) rfl (by decide) (by omega) (by omega)); have e2 : (0 : Int32).toInt = 0 := (by decide); have e3 := q_neI c6; omega }; have e : (lx1 + (-1)).toInt = (lx1.toInt + (-1)) := (q_addI (x := lx1.toInt) (y := (-1)) rfl (by decide) (by have t1 : (lx1.toInt - 1) ≠ 0 := by { have e1 : ((lx1 - 1) : Int32).toInt = (lx1.toInt - 1) := (q_subI (x := lx1.toInt) (y := 1) rfl (by decide) (by omega) (by omega)); have e2 : (0 : Int32).toInt = 0 := (by decide); have e3 := q_neI c6; omega }; omega) (by have t1 : (lx1.toInt - 1) ≠ 0 := by { have e1 : ((lx1 - 1) : Int32).toInt = (lx1.toInt - 1) := (q_subI (x := lx1.toInt) (y := 1) rfl (by decide) (by omega) (by omega)); have e2 : (0 : Int32).toInt = 0 := (by decide); have e3 := q_neI c6; omega }; omega)); omega) ⟨(show 1 ≤ (lx1 + (-1)).toInt ∧ (lx1 + (-1)).toInt ≤ 264 from by have t1 : (lx1.toInt - 1) ≠ 0 := by { have e1 : ((lx1 - 1) : Int32).toInt = (lx1.toInt - 1) := (q_subI (x := lx1.toInt) (y := 1) rfl (by decide) (by omega) (by omega)); have e2 : (0 : Int32).toInt = 0 := (by decide); have e3 := q_neI c6; omega }; have e : (lx1 + (-1)).toInt = (lx1.toInt + (-1)) := (q_addI (x := lx1.toInt) (y := (-1)) rfl (by decide) (by have t1 : (lx1.toInt - 1) ≠ 0 := by { have e1 : ((lx1 - 1) : Int32).toInt = (lx1.toInt - 1) := (q_subI (x := lx1.toInt) (y := 1) rfl (by decide) (by omega) (by omega)); have e2 : (0 : Int32).toInt = 0 := (by decide); have e3 := q_neI c6; omega }; omega) (by have t1 : (lx1.toInt - 1) ≠ 0 := by { have e1 : ((lx1 - 1) : Int32).toInt = (lx1.toInt - 1) := (q_subI (x := lx1.toInt) (y := 1) rfl (by decide) (by omega) (by omega)); have e2 : (0 : Int32).toInt = 0 := (by decide); have e3 := q_neI c6; omega }; omega)); omega), V, q_lw hl (q_lw1 0 rfl (q_lw1 1 rfl q_lw0))⟩
set_option maxRecDepth 100000 in
set_option maxHeartbeats 4000000 in
theorem c_WR_copy_3 (l : Launch) (D : va_G) (g : Nat → ClassId) (ws : va_W) (kA0 kA1 qA0 qA1 : Nat) (hA0 : ws[kA0]? = (some (qA0, .inl (g 0, 528, .inl (upd (fun _ => 0) 0 1))) : Option (Nat × va_E))) (hA1 : ws[kA1]? = (some (qA1, .inl (g 0, 264, .inl (upd (fun _ => 0) 0 1))) : Option (Nat × va_E))) (n_A0_A1 : kA0 ≠ kA1) : q_mV l y_WR_copy prog_19_method_5_code 3 1 0 0 D g [.ref qA0, .ref qA1] ws (fun u => q_un ws u [kA1] ∧ u[kA1]? = (some (qA1, .inl (g 0, 264, .inl (upd (fun _ => 0) 0 1))) : Option (Nat × va_E))) := by
  intro sz
  refine q_into (by decide) (Nat.le_of_ble_eq_true rfl) ?_
  intro p e s m below meth c ls hsz C0 V hl
  have hx := C0.1
  have hb := C0.2.1
  have hl : lv_has ls 3 [(0, .ref qA0), (1, .ref qA1)] := hl
  have hF : q_un ws ws [kA1] := q_u0
  refine lv_iconst (v := 0) hx hb d_19_5_0 (by decide) ?_
  refine lv_istore_n (lv' := [(2, .int 0), (0, .ref qA0), (1, .ref qA1)]) hx hb d_19_5_1 rfl hl (by decide) rfl (fun ls hl => ?_)
  refine q_loop (X := Int32) (fun z H locs ls w2 => (0 ≤ z.toInt ∧ (z.toInt ≤ 264 ∨ z.toInt = 0)) ∧ q_Wd D g (va_A ws sz) s w2 H locs ∧ lv_has ls 3 [(2, .int z), (0, .ref qA0), (1, .ref qA1)] ∧ q_un ws w2 [kA1] ∧ w2[kA0]? = (some (qA0, .inl (g 0, 528, .inl (upd (fun _ => 0) 0 1))) : Option (Nat × va_E)) ∧ w2[kA1]? = (some (qA1, .inl (g 0, 264, .inl (q_mix (upd (fun _ => 0) 0 1) (upd (fun _ => 0) 0 1) z))) : Option (Nat × va_E))) (fun z => (264 - z.toInt).toNat) ?_ ((0 : Int32)) _ _ _ ws ⟨⟨by decide, Or.inr (by decide)⟩, V, hl, hF, hA0, q_re hA1 (q_eI q_mx0)⟩
  rintro lx1 H locs ls w2 ⟨i3, V, hl, hF, hA0, hA1⟩ ih4
  replace i3 : 0 ≤ lx1.toInt ∧ (lx1.toInt ≤ 264 ∨ lx1.toInt = 0) := i3
  replace hl : lv_has ls 3 [(2, .int lx1), (0, .ref qA0), (1, .ref qA1)] := hl
  replace hA0 : w2[kA0]? = (some (qA0, .inl (g 0, 528, .inl (upd (fun _ => 0) 0 1))) : Option (Nat × va_E)) := hA0
  replace hA1 : w2[kA1]? = (some (qA1, .inl (g 0, 264, .inl (q_mix (upd (fun _ => 0) 0 1) (upd (fun _ => 0) 0 1) lx1))) : Option (Nat × va_E)) := hA1
  refine lv_iload_n hx hb d_19_5_2 rfl (lv_at hl 0 rfl) ?_
  refine lv_aload_n hx hb d_19_5_3 rfl (lv_at hl 2 rfl) ?_
  refine q_alen (t := 0) (v := 264) C0 V hA1 rfl (by first | rfl | decide) d_19_5_4 ?_
  refine lv_icmp_ge (tgt := 30) hx hb d_19_5_5 (by decide) (fun c5 => ?_) (fun c5 => ?_)
  ·
    replace hA1 : w2[kA1]? = (some (qA1, .inl (g 0, 264, .inl (upd (fun _ => 0) 0 1))) : Option (Nat × va_E)) := q_re hA1 (q_eI (q_mxe (n := 264) (by have t1 : 264 ≤ lx1.toInt := q_leI c5; omega) (by intro j hj; first | rfl | (simp only [upd]; (repeat' split) <;> first | rfl | omega))))
    exact q_retv C0 V (⟨hF, hA1⟩) d_19_5_30
  ·
    refine lv_aload_n hx hb d_19_5_8 rfl (lv_at hl 2 rfl) ?_
    refine lv_iload_n hx hb d_19_5_9 rfl (lv_at hl 0 rfl) ?_
    refine lv_iload_n hx hb d_19_5_10 rfl (lv_at hl 0 rfl) ?_
    refine lv_aload_n hx hb d_19_5_11 rfl (lv_at hl 1 rfl) ?_
    refine q_alen (t := 0) (v := 528) C0 V hA0 rfl (by first | rfl | decide) d_19_5_12 ?_
    refine lv_icmp_ge (tgt := 22) hx hb d_19_5_13 (by decide) (fun c6 => absurd c6 (Int32.not_le.mpr (q_Ilt (x := lx1.toInt) (y := 528) rfl (by decide) (by have t1 : lx1.toInt < 264 := q_nleI c5; omega)))) (fun c6 => ?_)
    refine lv_aload_n hx hb d_19_5_16 rfl (lv_at hl 1 rfl) ?_
    refine lv_iload_n hx hb d_19_5_17 rfl (lv_at hl 0 rfl) ?_
    refine q_iald C0 V hA0 (q_ix (x := lx1.toInt) rfl (by have t1 : lx1.toInt < 264 := q_nleI c5; omega) (by have t1 : lx1.toInt < 264 := q_nleI c5; omega)) d_19_5_18 ?_
    refine lv_goto (tgt := 23) hx hb d_19_5_19 (by decide) ?_
    refine q_iast C0 V hA1 (q_ix (x := lx1.toInt) rfl (by have t1 : lx1.toInt < 264 := q_nleI c5; omega) (by have t1 : lx1.toInt < 264 := q_nleI c5; omega)) d_19_5_23 (fun H locs w7 hu8 hA1 V => ?_)
    replace hA1 : w7[kA1]? = (some (qA1, .inl (g 0, 264, .inl (upd (q_mix (upd (fun _ => 0) 0 1) (upd (fun _ => 0) 0 1) lx1) lx1.toNatClampNeg ((upd (fun _ => 0) 0 1) lx1.toNatClampNeg)))) : Option (Nat × va_E)) := hA1
    replace hF := q_us hF hu8 (.head _)
    refine lv_iinc (v := lx1 + 1) (lv' := [(2, .int (lx1 + 1)), (0, .ref qA0), (1, .ref qA1)]) hx hb d_19_5_24 hl (k := 0) rfl (rfl) (by decide) rfl (fun ls hl => ?_)
    refine lv_goto (tgt := 2) hx hb d_19_5_27 (by decide) ?_
    replace hA1 : w7[kA1]? = (some (qA1, .inl (g 0, 264, .inl (q_mix (upd (fun _ => 0) 0 1) (upd (fun _ => 0) 0 1) (lx1 + 1)))) : Option (Nat × va_E)) := q_re hA1 (q_eI (q_mxs (x := lx1) (y := lx1 + 1) rfl (by have t1 : lx1.toInt < 264 := q_nleI c5; omega) (show (lx1 + 1).toInt = lx1.toInt + 1 from (q_addI (x := lx1.toInt) (y := 1) rfl (by decide) (by have t1 : lx1.toInt < 264 := q_nleI c5; omega) (by have t1 : lx1.toInt < 264 := q_nleI c5; omega)))))
    replace hA0 := (hu8 _ n_A0_A1).trans (hA0)
    exact ih4 ((lx1 + 1 : Int32)) _ _ _ _ (show (264 - (lx1 + 1).toInt).toNat < (264 - lx1.toInt).toNat from by have t1 : lx1.toInt < 264 := q_nleI c5; have e : (lx1 + 1).toInt = (lx1.toInt + 1) := (q_addI (x := lx1.toInt) (y := 1) rfl (by decide) (by have t1 : lx1.toInt < 264 := q_nleI c5; omega) (by have t1 : lx1.toInt < 264 := q_nleI c5; omega)); omega) ⟨(show 0 ≤ (lx1 + 1).toInt ∧ ((lx1 + 1).toInt ≤ 264 ∨ (lx1 + 1).toInt = 0) from by have t1 : lx1.toInt < 264 := q_nleI c5; have e : (lx1 + 1).toInt = (lx1.toInt + 1) := (q_addI (x := lx1.toInt) (y := 1) rfl (by decide) (by have t1 : lx1.toInt < 264 := q_nleI c5; omega) (by have t1 : lx1.toInt < 264 := q_nleI c5; omega)); omega), V, q_lw hl (q_lw1 0 rfl (q_lw1 1 rfl (q_lw1 2 rfl q_lw0))), hF, hA0, hA1⟩
theorem d_19_13_29 : decode prog_19_method_13_code 29 = .ok (.lconst 0, 1) := by decide +kernel
theorem d_19_13_30 : decode prog_19_method_13_code 30 = .ok (.lstore 7, 2) := by decide +kernel
theorem d_19_13_32 : decode prog_19_method_13_code 32 = .ok (.iconst 0, 1) := by decide +kernel
theorem d_19_13_33 : decode prog_19_method_13_code 33 = .ok (.istore 9, 2) := by decide +kernel
theorem d_19_13_35 : decode prog_19_method_13_code 35 = .ok (.iload 9, 2) := by decide +kernel
theorem d_19_13_37 : decode prog_19_method_13_code 37 = .ok (.iload 5, 2) := by decide +kernel
theorem d_19_13_39 : decode prog_19_method_13_code 39 = .ok (.if_icmp .lt 10, 3) := by decide +kernel
theorem d_19_13_49 : decode prog_19_method_13_code 49 = .ok (.lload 7, 2) := by decide +kernel
theorem d_19_13_51 : decode prog_19_method_13_code 51 = .ok (.aload_n 0, 1) := by decide +kernel
theorem d_19_13_52 : decode prog_19_method_13_code 52 = .ok (.getfield 26, 3) := by decide +kernel
theorem d_19_13_55 : decode prog_19_method_13_code 55 = .ok (.iload 6, 2) := by decide +kernel
theorem d_19_13_57 : decode prog_19_method_13_code 57 = .ok (.iload 9, 2) := by decide +kernel
theorem d_19_13_59 : decode prog_19_method_13_code 59 = .ok (.iadd, 1) := by decide +kernel
theorem d_19_13_60 : decode prog_19_method_13_code 60 = .ok (.iaload, 1) := by decide +kernel
theorem d_19_13_61 : decode prog_19_method_13_code 61 = .ok (.i2l, 1) := by decide +kernel
theorem d_19_13_62 : decode prog_19_method_13_code 62 = .ok (.ladd, 1) := by decide +kernel
theorem d_19_13_63 : decode prog_19_method_13_code 63 = .ok (.iload 9, 2) := by decide +kernel
theorem d_19_13_65 : decode prog_19_method_13_code 65 = .ok (.iload 5, 2) := by decide +kernel
theorem d_19_13_67 : decode prog_19_method_13_code 67 = .ok (.if_icmp .ge 17, 3) := by decide +kernel
theorem d_19_13_70 : decode prog_19_method_13_code 70 = .ok (.aload_n 1, 1) := by decide +kernel
theorem d_19_13_71 : decode prog_19_method_13_code 71 = .ok (.iload 6, 2) := by decide +kernel
theorem d_19_13_73 : decode prog_19_method_13_code 73 = .ok (.iaload, 1) := by decide +kernel
theorem d_19_13_74 : decode prog_19_method_13_code 74 = .ok (.i2l, 1) := by decide +kernel
theorem d_19_13_75 : decode prog_19_method_13_code 75 = .ok (.aload_n 2, 1) := by decide +kernel
theorem d_19_13_76 : decode prog_19_method_13_code 76 = .ok (.iload 9, 2) := by decide +kernel
theorem d_19_13_78 : decode prog_19_method_13_code 78 = .ok (.iaload, 1) := by decide +kernel
theorem d_19_13_79 : decode prog_19_method_13_code 79 = .ok (.i2l, 1) := by decide +kernel
theorem d_19_13_80 : decode prog_19_method_13_code 80 = .ok (.lmul, 1) := by decide +kernel
theorem d_19_13_81 : decode prog_19_method_13_code 81 = .ok (.goto 4, 3) := by decide +kernel
theorem d_19_13_85 : decode prog_19_method_13_code 85 = .ok (.ladd, 1) := by decide +kernel
theorem d_19_13_86 : decode prog_19_method_13_code 86 = .ok (.lstore 7, 2) := by decide +kernel
theorem d_19_13_88 : decode prog_19_method_13_code 88 = .ok (.aload_n 0, 1) := by decide +kernel
theorem d_19_13_89 : decode prog_19_method_13_code 89 = .ok (.getfield 26, 3) := by decide +kernel
theorem d_19_13_92 : decode prog_19_method_13_code 92 = .ok (.iload 6, 2) := by decide +kernel
theorem d_19_13_94 : decode prog_19_method_13_code 94 = .ok (.iload 9, 2) := by decide +kernel
theorem d_19_13_96 : decode prog_19_method_13_code 96 = .ok (.iadd, 1) := by decide +kernel
theorem d_19_13_97 : decode prog_19_method_13_code 97 = .ok (.lload 7, 2) := by decide +kernel
theorem d_19_13_99 : decode prog_19_method_13_code 99 = .ok (.ldc2_w 57, 3) := by decide +kernel
theorem w_2384 : (Cond.constantLong "NumberHouseModel$WholeRows" (57 : Nat) (65535 : Int64)) ∈ q_tbl := q_of 2384 (by decide +kernel) (by decide +kernel)
theorem d_19_13_102 : decode prog_19_method_13_code 102 = .ok (.land, 1) := by decide +kernel
theorem d_19_13_103 : decode prog_19_method_13_code 103 = .ok (.l2i, 1) := by decide +kernel
theorem d_19_13_104 : decode prog_19_method_13_code 104 = .ok (.iastore, 1) := by decide +kernel
theorem d_19_13_105 : decode prog_19_method_13_code 105 = .ok (.lload 7, 2) := by decide +kernel
theorem d_19_13_107 : decode prog_19_method_13_code 107 = .ok (.bipush 16, 2) := by decide +kernel
theorem d_19_13_109 : decode prog_19_method_13_code 109 = .ok (.lshr, 1) := by decide +kernel
theorem d_19_13_110 : decode prog_19_method_13_code 110 = .ok (.lstore 7, 2) := by decide +kernel
theorem d_19_13_112 : decode prog_19_method_13_code 112 = .ok (.iinc 9 1, 3) := by decide +kernel
theorem d_19_13_115 : decode prog_19_method_13_code 115 = .ok (.goto (-80), 3) := by decide +kernel
theorem d_19_13_42 : decode prog_19_method_13_code 42 = .ok (.lload 7, 2) := by decide +kernel
theorem d_19_13_44 : decode prog_19_method_13_code 44 = .ok (.lconst 0, 1) := by decide +kernel
theorem d_19_13_45 : decode prog_19_method_13_code 45 = .ok (.lcmp, 1) := by decide +kernel
theorem d_19_13_46 : decode prog_19_method_13_code 46 = .ok (.ifCond .eq 72, 3) := by decide +kernel
theorem d_19_13_118 : decode prog_19_method_13_code 118 = .ok (.iinc 6 1, 3) := by decide +kernel
theorem d_19_13_121 : decode prog_19_method_13_code 121 = .ok (.goto (-99), 3) := by decide +kernel
set_option maxRecDepth 100000 in
set_option maxHeartbeats 4000000 in
theorem c_WR_multiplyRows_2 (l : Launch) (D : va_G) (g : Nat → ClassId) (ws : va_W) (kO0 kA1 kA2 kA6 qO0 qA1 qA2 qA3 qA4 qA5 qA6 qA7 qA8 qA9 qA10 qA11 qA12 qA13 qA14 : Nat) (hO0 : ws[kO0]? = (some (qO0, .inr (13, [.int 0, .int 2, .ref qA3, .int 0, .ref qA4, .ref qA5, .ref qA2, .int 0, .ref qA1, .ref qA6, .ref qA7, .ref qA8, .ref qA9, .ref qA10, .ref qA11, .ref qA12, .int 0, .int 0, .ref qA13, .ref qA14, .int 0])) : Option (Nat × va_E))) (hA1 : ws[kA1]? = (some (qA1, .inl (g 0, 264, .inl (upd (fun _ => 0) 0 1))) : Option (Nat × va_E))) (hA2 : ws[kA2]? = (some (qA2, .inl (g 0, 264, .inl (upd (fun _ => 0) 0 1))) : Option (Nat × va_E))) (hA6 : ws[kA6]? = (some (qA6, .inl (g 0, 528, .inl (fun _ => 0))) : Option (Nat × va_E))) (n_A1_A6 : kA1 ≠ kA6) (n_A2_A1 : kA2 ≠ kA1) (n_A2_A6 : kA2 ≠ kA6) : q_mV l y_WR_multiplyRows prog_19_method_13_code 10 2 0 0 D g [.ref qO0, .ref qA1, .ref qA2, .ref qA1] ws (fun u => q_un ws u [kA1, kA6] ∧ u[kA1]? = (some (qA1, .inl (g 0, 264, .inl (upd (fun _ => 0) 0 1))) : Option (Nat × va_E)) ∧ u[kA6]? = (some (qA6, .inl (g 0, 528, .inl (upd (fun _ => 0) 0 1))) : Option (Nat × va_E))) := by
  intro sz
  refine q_into (by decide) (Nat.le_of_ble_eq_true rfl) ?_
  intro p e s m below meth c ls hsz C0 V hl
  have hx := C0.1
  have hb := C0.2.1
  have hl : lv_has ls 10 [(0, .ref qO0), (1, .ref qA1), (2, .ref qA2), (3, .ref qA1)] := hl
  have n_A6_A1 := Ne.symm n_A1_A6
  have n_O0_A1 := Ne.symm (q_df hA1 hO0)
  have n_O0_A6 := Ne.symm (q_df hA6 hO0)
  have hF : q_un ws ws [kA1, kA6] := q_u0
  refine lv_aload_n hx hb d_19_13_0 rfl (lv_at hl 0 rfl) ?_
  refine q_get (ci := 13) (j := 9) (v := .ref qA6) C0 V i_WR rfl rfl hO0 (by decide) w_1933 rfl d_19_13_1 ?_
  refine q_gov V (q_runS (As := [.ref qA6]) (rest := []) (d := 1) (mc := 0) (ms := 0) C0 V rfl LS_WR_63 (c_WR_clear l D g ws kA6 qA6 hA6 _) rfl hl.1 rfl (Nat.le_of_ble_eq_true rfl) ⟨by decide, by decide⟩ ⟨Nat.le_of_ble_eq_true rfl, Nat.le_of_ble_eq_true rfl⟩ d_19_13_4) (fun u2 H locs hp1 V => ?_)
  obtain ⟨hg3, hA6⟩ := hp1
  replace hF := q_uc hF hg3 (q_sc (.tail _ (.head _)) (fun _ h => absurd h List.not_mem_nil))
  refine lv_aload_n hx hb d_19_13_7 rfl (lv_at hl 1 rfl) ?_
  replace hA1 := (hg3 _ (q_nc n_A1_A6 List.not_mem_nil)).trans (hA1)
  refine q_goi V (q_runS (As := [.ref qA1]) (rest := []) (d := 1) (mc := 0) (ms := 0) C0 V rfl LS_WR_59 (c_WR_size_2 l D g u2 kA1 qA1 hA1 _) rfl hl.1 rfl (Nat.le_of_ble_eq_true rfl) ⟨by decide, by decide⟩ ⟨Nat.le_of_ble_eq_true rfl, Nat.le_of_ble_eq_true rfl⟩ d_19_13_8) (fun v6 u5 H locs hp4 V => ?_)
  obtain ⟨rfl, rfl⟩ := hp4
  refine lv_istore (lv' := [(4, .int 1), (0, .ref qO0), (1, .ref qA1), (2, .ref qA2), (3, .ref qA1)]) hx hb d_19_13_11 hl (by decide) rfl (fun ls hl => ?_)
  refine lv_aload_n hx hb d_19_13_13 rfl (lv_at hl 3 rfl) ?_
  replace hA2 := (hg3 _ (q_nc n_A2_A6 List.not_mem_nil)).trans (hA2)
  refine q_goi V (q_runS (As := [.ref qA2]) (rest := []) (d := 1) (mc := 0) (ms := 0) C0 V rfl LS_WR_59 (c_WR_size_2 l D g u2 kA2 qA2 hA2 _) rfl hl.1 rfl (Nat.le_of_ble_eq_true rfl) ⟨by decide, by decide⟩ ⟨Nat.le_of_ble_eq_true rfl, Nat.le_of_ble_eq_true rfl⟩ d_19_13_14) (fun v10 u9 H locs hp8 V => ?_)
  obtain ⟨rfl, rfl⟩ := hp8
  refine lv_istore (lv' := [(5, .int 1), (4, .int 1), (0, .ref qO0), (1, .ref qA1), (2, .ref qA2), (3, .ref qA1)]) hx hb d_19_13_17 hl (by decide) rfl (fun ls hl => ?_)
  refine lv_iconst (v := 0) hx hb d_19_13_19 (by decide) ?_
  refine lv_istore (lv' := [(6, .int 0), (5, .int 1), (4, .int 1), (0, .ref qO0), (1, .ref qA1), (2, .ref qA2), (3, .ref qA1)]) hx hb d_19_13_20 hl (by decide) rfl (fun ls hl => ?_)
  refine lv_iload hx hb d_19_13_22 (lv_at hl 0 rfl) ?_
  refine lv_iload hx hb d_19_13_24 (lv_at hl 2 rfl) ?_
  refine lv_icmp_ge (tgt := 124) hx hb d_19_13_26 (by decide) (fun c12 => absurd c12 (by decide)) (fun c12 => ?_)
  refine lv_lconst (v := 0) hx hb d_19_13_29 (by decide) ?_
  refine lv_lstore (lv' := [(7, .long 0), (6, .int 0), (5, .int 1), (4, .int 1), (0, .ref qO0), (1, .ref qA1), (2, .ref qA2), (3, .ref qA1)]) hx hb d_19_13_30 hl (by decide) rfl (fun ls hl => ?_)
  refine lv_iconst (v := 0) hx hb d_19_13_32 (by decide) ?_
  refine lv_istore (lv' := [(9, .int 0), (7, .long 0), (6, .int 0), (5, .int 1), (4, .int 1), (0, .ref qO0), (1, .ref qA1), (2, .ref qA2), (3, .ref qA1)]) hx hb d_19_13_33 hl (by decide) rfl (fun ls hl => ?_)
  refine lv_iload hx hb d_19_13_35 (lv_at hl 0 rfl) ?_
  refine lv_iload hx hb d_19_13_37 (lv_at hl 3 rfl) ?_
  refine lv_icmp_lt (tgt := 49) hx hb d_19_13_39 (by decide) (fun c13 => ?_) (fun c13 => absurd (by decide) c13)
  refine lv_lload hx hb d_19_13_49 (lv_at hl 1 rfl) ?_
  refine lv_aload_n hx hb d_19_13_51 rfl (lv_at hl 5 rfl) ?_
  replace hO0 := (hg3 _ (q_nc n_O0_A6 List.not_mem_nil)).trans (hO0)
  refine q_get (ci := 13) (j := 9) (v := .ref qA6) C0 V i_WR rfl rfl hO0 (by decide) w_1933 rfl d_19_13_52 ?_
  refine lv_iload hx hb d_19_13_55 (lv_at hl 2 rfl) ?_
  refine lv_iload hx hb d_19_13_57 (lv_at hl 0 rfl) ?_
  refine lv_iadd hx hb d_19_13_59 ?_
  refine q_ti (v := 0) (by decide) ?_
  refine q_iald C0 V hA6 (by unfold vp_in; decide) d_19_13_60 ?_
  refine q_ti (v := 0) (by first | rfl | decide | simp [upd, vp_updL, sb_cl0]) ?_
  refine lv_i2l hx hb d_19_13_61 rfl ?_
  refine q_tl (v := 0) (by decide) ?_
  refine lv_ladd hx hb d_19_13_62 ?_
  refine q_tl (v := 0) (by decide) ?_
  refine lv_iload hx hb d_19_13_63 (lv_at hl 0 rfl) ?_
  refine lv_iload hx hb d_19_13_65 (lv_at hl 3 rfl) ?_
  refine lv_icmp_ge (tgt := 84) hx hb d_19_13_67 (by decide) (fun c14 => absurd c14 (by decide)) (fun c14 => ?_)
  refine lv_aload_n hx hb d_19_13_70 rfl (lv_at hl 6 rfl) ?_
  refine lv_iload hx hb d_19_13_71 (lv_at hl 2 rfl) ?_
  refine q_iald C0 V hA1 (by unfold vp_in; decide) d_19_13_73 ?_
  refine q_ti (v := 1) (by first | rfl | decide | simp [upd, vp_updL, sb_cl0]) ?_
  refine lv_i2l hx hb d_19_13_74 rfl ?_
  refine q_tl (v := 1) (by decide) ?_
  refine lv_aload_n hx hb d_19_13_75 rfl (lv_at hl 7 rfl) ?_
  refine lv_iload hx hb d_19_13_76 (lv_at hl 0 rfl) ?_
  refine q_iald C0 V hA2 (by unfold vp_in; decide) d_19_13_78 ?_
  refine q_ti (v := 1) (by first | rfl | decide | simp [upd, vp_updL, sb_cl0]) ?_
  refine lv_i2l hx hb d_19_13_79 rfl ?_
  refine q_tl (v := 1) (by decide) ?_
  refine lv_lmul hx hb d_19_13_80 ?_
  refine q_tl (v := 1) (by decide) ?_
  refine lv_goto (tgt := 85) hx hb d_19_13_81 (by decide) ?_
  refine lv_ladd hx hb d_19_13_85 ?_
  refine q_tl (v := 1) (by decide) ?_
  refine lv_lstore (lv' := [(7, .long 1), (9, .int 0), (6, .int 0), (5, .int 1), (4, .int 1), (0, .ref qO0), (1, .ref qA1), (2, .ref qA2), (3, .ref qA1)]) hx hb d_19_13_86 hl (by decide) rfl (fun ls hl => ?_)
  refine lv_aload_n hx hb d_19_13_88 rfl (lv_at hl 5 rfl) ?_
  refine q_get (ci := 13) (j := 9) (v := .ref qA6) C0 V i_WR rfl rfl hO0 (by decide) w_1933 rfl d_19_13_89 ?_
  refine lv_iload hx hb d_19_13_92 (lv_at hl 2 rfl) ?_
  refine lv_iload hx hb d_19_13_94 (lv_at hl 1 rfl) ?_
  refine lv_iadd hx hb d_19_13_96 ?_
  refine q_ti (v := 0) (by decide) ?_
  refine lv_lload hx hb d_19_13_97 (lv_at hl 0 rfl) ?_
  refine q_ldc2 C0 rfl w_2384 d_19_13_99 ?_
  refine lv_land hx hb d_19_13_102 ?_
  refine q_tl (v := 1) (by decide) ?_
  refine lv_l2i hx hb d_19_13_103 rfl ?_
  refine q_ti (v := 1) (by decide) ?_
  refine q_iast C0 V hA6 (by unfold vp_in; decide) d_19_13_104 (fun H locs w15 hu16 hA6 V => ?_)
  replace hA6 : w15[kA6]? = (some (qA6, .inl (g 0, 528, .inl (upd (fun _ => 0) 0 1))) : Option (Nat × va_E)) := hA6
  replace hF := q_us hF hu16 (.tail _ (.head _))
  refine lv_lload hx hb d_19_13_105 (lv_at hl 0 rfl) ?_
  refine lv_bipush (v := 16) hx hb d_19_13_107 (by decide) ?_
  refine lv_lshr hx hb d_19_13_109 rfl ?_
  refine q_tl (v := 0) (by decide) ?_
  refine lv_lstore (lv' := [(7, .long 0), (9, .int 0), (6, .int 0), (5, .int 1), (4, .int 1), (0, .ref qO0), (1, .ref qA1), (2, .ref qA2), (3, .ref qA1)]) hx hb d_19_13_110 hl (by decide) rfl (fun ls hl => ?_)
  refine lv_iinc (v := 1) (lv' := [(9, .int 1), (7, .long 0), (6, .int 0), (5, .int 1), (4, .int 1), (0, .ref qO0), (1, .ref qA1), (2, .ref qA2), (3, .ref qA1)]) hx hb d_19_13_112 hl (k := 1) rfl (by decide) (by decide) rfl (fun ls hl => ?_)
  refine lv_goto (tgt := 35) hx hb d_19_13_115 (by decide) ?_
  refine lv_iload hx hb d_19_13_35 (lv_at hl 0 rfl) ?_
  refine lv_iload hx hb d_19_13_37 (lv_at hl 3 rfl) ?_
  refine lv_icmp_lt (tgt := 49) hx hb d_19_13_39 (by decide) (fun c17 => absurd c17 (by decide)) (fun c17 => ?_)
  refine lv_lload hx hb d_19_13_42 (lv_at hl 1 rfl) ?_
  refine lv_lconst (v := 0) hx hb d_19_13_44 (by decide) ?_
  refine W.lcmp hx hb d_19_13_45 ?_
  refine q_ti (v := 0) (by decide) ?_
  refine lv_if_eq (tgt := 118) hx hb d_19_13_46 (by decide) (fun c18 => ?_) (fun c18 => absurd (by decide) c18)
  refine lv_iinc (v := 1) (lv' := [(6, .int 1), (9, .int 1), (7, .long 0), (5, .int 1), (4, .int 1), (0, .ref qO0), (1, .ref qA1), (2, .ref qA2), (3, .ref qA1)]) hx hb d_19_13_118 hl (k := 2) rfl (by decide) (by decide) rfl (fun ls hl => ?_)
  refine lv_goto (tgt := 22) hx hb d_19_13_121 (by decide) ?_
  refine lv_iload hx hb d_19_13_22 (lv_at hl 0 rfl) ?_
  refine lv_iload hx hb d_19_13_24 (lv_at hl 4 rfl) ?_
  refine lv_icmp_ge (tgt := 124) hx hb d_19_13_26 (by decide) (fun c19 => ?_) (fun c19 => absurd (by decide) c19)
  refine lv_aload_n hx hb d_19_13_124 rfl (lv_at hl 5 rfl) ?_
  replace hO0 := (hu16 _ n_O0_A6).trans (hO0)
  refine q_get (ci := 13) (j := 9) (v := .ref qA6) C0 V i_WR rfl rfl hO0 (by decide) w_1933 rfl d_19_13_125 ?_
  refine lv_aload_n hx hb d_19_13_128 rfl (lv_at hl 8 rfl) ?_
  replace hA1 := (hu16 _ n_A1_A6).trans (hA1)
  refine q_gov V (q_runS (As := [.ref qA6, .ref qA1]) (rest := []) (d := 1) (mc := 0) (ms := 0) C0 V rfl LS_WR_67 (c_WR_copy_3 l D g w15 kA6 kA1 qA6 qA1 hA6 hA1 n_A6_A1 _) rfl hl.1 rfl (Nat.le_of_ble_eq_true rfl) ⟨by decide, by decide⟩ ⟨Nat.le_of_ble_eq_true rfl, Nat.le_of_ble_eq_true rfl⟩ d_19_13_129) (fun u21 H locs hp20 V => ?_)
  obtain ⟨hg22, hA1⟩ := hp20
  replace hF := q_uc hF hg22 (q_sc (.head _) (fun _ h => absurd h List.not_mem_nil))
  replace hA6 := (hg22 _ (q_nc n_A6_A1 List.not_mem_nil)).trans (hA6)
  exact q_retv C0 V (⟨hF, hA1, hA6⟩) d_19_13_132
theorem d_19_9_18 : decode prog_19_method_9_code 18 = .ok (.aload_n 0, 1) := by decide +kernel
theorem d_19_9_19 : decode prog_19_method_9_code 19 = .ok (.iload_n 2, 1) := by decide +kernel
theorem d_19_9_20 : decode prog_19_method_9_code 20 = .ok (.iaload, 1) := by decide +kernel
theorem d_19_9_21 : decode prog_19_method_9_code 21 = .ok (.aload_n 1, 1) := by decide +kernel
theorem d_19_9_22 : decode prog_19_method_9_code 22 = .ok (.iload_n 2, 1) := by decide +kernel
theorem d_19_9_23 : decode prog_19_method_9_code 23 = .ok (.iaload, 1) := by decide +kernel
theorem d_19_9_24 : decode prog_19_method_9_code 24 = .ok (.if_icmp .ge 7, 3) := by decide +kernel
theorem d_19_9_31 : decode prog_19_method_9_code 31 = .ok (.iconst 1, 1) := by decide +kernel
theorem d_19_9_32 : decode prog_19_method_9_code 32 = .ok (.ireturn, 1) := by decide +kernel
set_option maxRecDepth 100000 in
set_option maxHeartbeats 4000000 in
theorem c_WR_compareRows_2 (l : Launch) (D : va_G) (g : Nat → ClassId) (ws : va_W) (kA0 kA1 qA0 qA1 : Nat) (hA0 : ws[kA0]? = (some (qA0, .inl (g 0, 264, .inl (upd (fun _ => 0) 0 1))) : Option (Nat × va_E))) (hA1 : ws[kA1]? = (some (qA1, .inl (g 0, 264, .inl (fun _ => 0))) : Option (Nat × va_E))) : q_mI l y_WR_compareRows prog_19_method_9_code 3 (.int) 1 0 0 D g [.ref qA0, .ref qA1] ws (fun r u => 1 = r ∧ ws = u) := by
  intro sz
  refine q_into (by decide) (Nat.le_of_ble_eq_true rfl) ?_
  intro p e s m below meth c ls hsz C0 V hl
  have hx := C0.1
  have hb := C0.2.1
  have hl : lv_has ls 3 [(0, .ref qA0), (1, .ref qA1)] := hl
  refine lv_aload_n hx hb d_19_9_0 rfl (lv_at hl 0 rfl) ?_
  refine q_alen (t := 0) (v := 264) C0 V hA0 rfl (by first | rfl | decide) d_19_9_1 ?_
  refine lv_iconst (v := 1) hx hb d_19_9_2 (by decide) ?_
  refine lv_isub hx hb d_19_9_3 ?_
  refine q_ti (v := 263) (by decide) ?_
  refine lv_istore_n (lv' := [(2, .int 263), (0, .ref qA0), (1, .ref qA1)]) hx hb d_19_9_4 rfl hl (by decide) rfl (fun ls hl => ?_)
  refine q_loop (X := Int32) (fun z H locs ls _ => (0 ≤ z.toInt ∧ z.toInt ≤ 263) ∧ q_Wd D g (va_A ws sz) s ws H locs ∧ lv_has ls 3 [(2, .int z), (0, .ref qA0), (1, .ref qA1)]) (fun z => (z.toInt - 0).toNat) ?_ ((263 : Int32)) _ _ _ ws ⟨⟨by decide, by decide⟩, V, hl⟩
  rintro lx1 H locs ls _ ⟨i3, V, hl⟩ ih4
  replace i3 : 0 ≤ lx1.toInt ∧ lx1.toInt ≤ 263 := i3
  replace hl : lv_has ls 3 [(2, .int lx1), (0, .ref qA0), (1, .ref qA1)] := hl
  refine lv_iload_n hx hb d_19_9_5 rfl (lv_at hl 0 rfl) ?_
  refine lv_if_lt (tgt := 39) hx hb d_19_9_6 (by decide) (fun c5 => absurd c5 (Int32.not_lt.mpr (q_Ile (x := 0) (y := lx1.toInt) (by decide) rfl (by omega)))) (fun c5 => ?_)
  refine lv_aload_n hx hb d_19_9_9 rfl (lv_at hl 1 rfl) ?_
  refine lv_iload_n hx hb d_19_9_10 rfl (lv_at hl 0 rfl) ?_
  refine q_iald C0 V hA0 (q_ix (x := lx1.toInt) rfl (by omega) (by omega)) d_19_9_11 ?_
  by_cases c6 : lx1 = 0
  ·
    refine q_ti (v := 1) (by rw [c6]; rfl) ?_
    refine lv_aload_n hx hb d_19_9_12 rfl (lv_at hl 2 rfl) ?_
    refine lv_iload_n hx hb d_19_9_13 rfl (lv_at hl 0 rfl) ?_
    refine q_ti (v := 0) c6 ?_
    refine q_iald C0 V hA1 (by unfold vp_in; decide) d_19_9_14 ?_
    refine q_ti (v := 0) (by first | rfl | decide | simp [upd, vp_updL, sb_cl0]) ?_
    refine lv_icmp_eq (tgt := 33) hx hb d_19_9_15 (by decide) (fun c7 => absurd c7 (by decide)) (fun c7 => ?_)
    refine lv_aload_n hx hb d_19_9_18 rfl (lv_at hl 1 rfl) ?_
    refine lv_iload_n hx hb d_19_9_19 rfl (lv_at hl 0 rfl) ?_
    refine q_ti (v := 0) c6 ?_
    refine q_iald C0 V hA0 (by unfold vp_in; decide) d_19_9_20 ?_
    refine q_ti (v := 1) (by first | rfl | decide | simp [upd, vp_updL, sb_cl0]) ?_
    refine lv_aload_n hx hb d_19_9_21 rfl (lv_at hl 2 rfl) ?_
    refine lv_iload_n hx hb d_19_9_22 rfl (lv_at hl 0 rfl) ?_
    refine q_ti (v := 0) c6 ?_
    refine q_iald C0 V hA1 (by unfold vp_in; decide) d_19_9_23 ?_
    refine q_ti (v := 0) (by first | rfl | decide | simp [upd, vp_updL, sb_cl0]) ?_
    refine lv_icmp_ge (tgt := 31) hx hb d_19_9_24 (by decide) (fun c8 => ?_) (fun c8 => absurd (by decide) c8)
    refine lv_iconst (v := 1) hx hb d_19_9_31 (by decide) ?_
    exact q_reti C0 V (⟨rfl, rfl⟩) d_19_9_32
  refine q_ti (v := 0) ((q_upn (x := lx1.toInt) rfl (by have t1 : lx1.toInt ≠ 0 := q_neI c6; omega) (by have e9 := q_neI c6; have e8 : ((0 : Int32)).toInt = 0 := (by decide); have e7 : (lx1 : Int32).toInt = lx1.toInt := rfl; omega)).trans rfl) ?_
  refine lv_aload_n hx hb d_19_9_12 rfl (lv_at hl 2 rfl) ?_
  refine lv_iload_n hx hb d_19_9_13 rfl (lv_at hl 0 rfl) ?_
  refine q_iald C0 V hA1 (q_ix (x := lx1.toInt) rfl (by have t1 : lx1.toInt ≠ 0 := q_neI c6; omega) (by have t1 : lx1.toInt ≠ 0 := q_neI c6; omega)) d_19_9_14 ?_
  refine q_ti (v := 0) (by first | rfl | decide | simp [upd, vp_updL, sb_cl0]) ?_
  refine lv_icmp_eq (tgt := 33) hx hb d_19_9_15 (by decide) (fun c9 => ?_) (fun c9 => absurd (by decide) c9)
  refine lv_iinc (v := lx1 + (-1)) (lv' := [(2, .int (lx1 + (-1))), (0, .ref qA0), (1, .ref qA1)]) hx hb d_19_9_33 hl (k := 0) rfl (rfl) (by decide) rfl (fun ls hl => ?_)
  refine lv_goto (tgt := 5) hx hb d_19_9_36 (by decide) ?_
  exact ih4 ((lx1 + (-1) : Int32)) _ _ _ ws (show ((lx1 + (-1)).toInt - 0).toNat < (lx1.toInt - 0).toNat from by have t1 : lx1.toInt ≠ 0 := q_neI c6; have e : (lx1 + (-1)).toInt = (lx1.toInt + (-1)) := (q_addI (x := lx1.toInt) (y := (-1)) rfl (by decide) (by have t1 : lx1.toInt ≠ 0 := q_neI c6; omega) (by have t1 : lx1.toInt ≠ 0 := q_neI c6; omega)); omega) ⟨(show 0 ≤ (lx1 + (-1)).toInt ∧ (lx1 + (-1)).toInt ≤ 263 from by have t1 : lx1.toInt ≠ 0 := q_neI c6; have e : (lx1 + (-1)).toInt = (lx1.toInt + (-1)) := (q_addI (x := lx1.toInt) (y := (-1)) rfl (by decide) (by have t1 : lx1.toInt ≠ 0 := q_neI c6; omega) (by have t1 : lx1.toInt ≠ 0 := q_neI c6; omega)); omega), V, q_lw hl (q_lw1 0 rfl (q_lw1 1 rfl (q_lw1 2 rfl q_lw0)))⟩
theorem d_19_30_0 : decode prog_19_method_30_code 0 = .ok (.aload_n 0, 1) := by decide +kernel
theorem d_19_30_1 : decode prog_19_method_30_code 1 = .ok (.aload_n 0, 1) := by decide +kernel
theorem d_19_30_2 : decode prog_19_method_30_code 2 = .ok (.getfield 23, 3) := by decide +kernel
theorem d_19_30_5 : decode prog_19_method_30_code 5 = .ok (.invokevirtual 131, 3) := by decide +kernel
theorem w_2739 : (Cond.code ({ cls := "NumberHouseModel$WholeRows", name := "setOne", desc := "([I)V" } : MethodName) prog_19_method_28_code (2 : Nat) (none : Option ClassFile.FieldType)) ∈ q_tbl := q_of 2739 (by decide +kernel) (by decide +kernel)
theorem w_2736 : (Cond.methodLink "NumberHouseModel$WholeRows" (131 : Nat) ({ cls := "NumberHouseModel$WholeRows", name := "setOne", desc := "([I)V" } : MethodName)) ∈ q_tbl := q_of 2736 (by decide +kernel) (by decide +kernel)
theorem w_2738 : (Cond.instanceMethod ({ cls := "NumberHouseModel$WholeRows", name := "setOne", desc := "([I)V" } : MethodName)) ∈ q_tbl := q_of 2738 (by decide +kernel) (by decide +kernel)
theorem ws_108 : Cond.selects "NumberHouseModel$WholeRows" (⟨"NumberHouseModel$WholeRows", "setOne", "([I)V"⟩ : MethodName) (⟨"NumberHouseModel$WholeRows", "setOne", "([I)V"⟩ : MethodName) ∈ q_tbl := q_ofs 108 (by decide +kernel) (by decide +kernel)
theorem LV_WR_131 : q_LV "NumberHouseModel$WholeRows" 131 y_WR_setOne prog_19_method_28_code 2 none 1 := ⟨w_2739, w_15, w_2736, w_2738, ws_108, ⟨by decide, by decide, by decide +kernel⟩⟩
theorem d_19_30_8 : decode prog_19_method_30_code 8 = .ok (.iconst 0, 1) := by decide +kernel
theorem d_19_30_9 : decode prog_19_method_30_code 9 = .ok (.istore_n 2, 1) := by decide +kernel
theorem d_19_30_10 : decode prog_19_method_30_code 10 = .ok (.iload_n 2, 1) := by decide +kernel
theorem d_19_30_11 : decode prog_19_method_30_code 11 = .ok (.iload_n 1, 1) := by decide +kernel
theorem d_19_30_12 : decode prog_19_method_30_code 12 = .ok (.if_icmp .ge 41, 3) := by decide +kernel
theorem d_19_30_53 : decode prog_19_method_30_code 53 = .ok (.iconst 1, 1) := by decide +kernel
theorem d_19_30_54 : decode prog_19_method_30_code 54 = .ok (.ireturn, 1) := by decide +kernel
theorem d_19_30_15 : decode prog_19_method_30_code 15 = .ok (.aload_n 0, 1) := by decide +kernel
theorem d_19_30_16 : decode prog_19_method_30_code 16 = .ok (.aload_n 0, 1) := by decide +kernel
theorem d_19_30_17 : decode prog_19_method_30_code 17 = .ok (.getfield 23, 3) := by decide +kernel
theorem d_19_30_20 : decode prog_19_method_30_code 20 = .ok (.aload_n 0, 1) := by decide +kernel
theorem d_19_30_21 : decode prog_19_method_30_code 21 = .ok (.getfield 20, 3) := by decide +kernel
theorem d_19_30_24 : decode prog_19_method_30_code 24 = .ok (.aload_n 0, 1) := by decide +kernel
theorem d_19_30_25 : decode prog_19_method_30_code 25 = .ok (.getfield 23, 3) := by decide +kernel
theorem d_19_30_28 : decode prog_19_method_30_code 28 = .ok (.invokevirtual 115, 3) := by decide +kernel
theorem d_19_30_31 : decode prog_19_method_30_code 31 = .ok (.aload_n 0, 1) := by decide +kernel
theorem d_19_30_32 : decode prog_19_method_30_code 32 = .ok (.getfield 23, 3) := by decide +kernel
theorem d_19_30_35 : decode prog_19_method_30_code 35 = .ok (.aload_n 0, 1) := by decide +kernel
theorem d_19_30_36 : decode prog_19_method_30_code 36 = .ok (.getfield 35, 3) := by decide +kernel
theorem d_19_30_39 : decode prog_19_method_30_code 39 = .ok (.invokestatic 71, 3) := by decide +kernel
theorem d_19_30_42 : decode prog_19_method_30_code 42 = .ok (.ifCond .le 5, 3) := by decide +kernel
theorem d_19_30_45 : decode prog_19_method_30_code 45 = .ok (.iconst 0, 1) := by decide +kernel
theorem d_19_30_46 : decode prog_19_method_30_code 46 = .ok (.ireturn, 1) := by decide +kernel
def y_WR_fits : MethodName := ⟨"NumberHouseModel$WholeRows", "fits", "(I)Z"⟩
set_option maxRecDepth 100000 in
set_option maxHeartbeats 4000000 in
theorem c_WR_fits (l : Launch) (D : va_G) (g : Nat → ClassId) (ws : va_W) (kO0 kA4 kA5 kA6 kA9 qO0 qA1 qA2 qA3 qA4 qA5 qA6 qA7 qA8 qA9 qA10 qA11 qA12 qA13 qA14 : Nat) (x1 : Int32) (hO0 : ws[kO0]? = (some (qO0, .inr (13, [.int 0, .int 2, .ref qA1, .int 0, .ref qA2, .ref qA3, .ref qA4, .int 0, .ref qA5, .ref qA6, .ref qA7, .ref qA8, .ref qA9, .ref qA10, .ref qA11, .ref qA12, .int 0, .int 0, .ref qA13, .ref qA14, .int 0])) : Option (Nat × va_E))) (hA4 : ws[kA4]? = (some (qA4, .inl (g 0, 264, .inl (upd (fun _ => 0) 0 1))) : Option (Nat × va_E))) (hA5 : ws[kA5]? = (some (qA5, .inl (g 0, 264, .inl (fun _ => 0))) : Option (Nat × va_E))) (hA6 : ws[kA6]? = (some (qA6, .inl (g 0, 528, .inl (fun _ => 0))) : Option (Nat × va_E))) (hA9 : ws[kA9]? = (some (qA9, .inl (g 0, 264, .inl (fun _ => 0))) : Option (Nat × va_E))) (n_A4_A5 : kA4 ≠ kA5) (n_A4_A6 : kA4 ≠ kA6) (n_A5_A6 : kA5 ≠ kA6) (n_A9_A5 : kA9 ≠ kA5) (n_A9_A6 : kA9 ≠ kA6) (x1lo : 1 ≤ x1) (x1hi : x1 ≤ 64) : q_mI l y_WR_fits prog_19_method_30_code 3 (.boolean) 3 0 0 D g [.ref qO0, .int x1] ws (fun r u => (1 = r ∧ q_un ws u [kA5, kA6] ∧ u[kA5]? = (some (qA5, .inl (g 0, 264, .inl (upd (fun _ => 0) 0 1))) : Option (Nat × va_E)) ∧ u[kA6]? = (some (qA6, .inl (g 0, 528, .inl (fun _ => 0))) : Option (Nat × va_E))) ∨ (0 = r ∧ q_un ws u [kA5, kA6] ∧ u[kA5]? = (some (qA5, .inl (g 0, 264, .inl (upd (fun _ => 0) 0 1))) : Option (Nat × va_E)) ∧ u[kA6]? = (some (qA6, .inl (g 0, 528, .inl (upd (fun _ => 0) 0 1))) : Option (Nat × va_E)))) := by
  intro sz
  refine q_into (by decide) (Nat.le_of_ble_eq_true rfl) ?_
  intro p e s m below meth c ls hsz C0 V hl
  have hx := C0.1
  have hb := C0.2.1
  have hl : lv_has ls 3 [(0, .ref qO0), (1, .int x1)] := hl
  have n_A6_A5 := Ne.symm n_A5_A6
  have n_O0_A5 := Ne.symm (q_df hA5 hO0)
  have n_O0_A6 := Ne.symm (q_df hA6 hO0)
  have hF : q_un ws ws [kA5, kA6] := q_u0
  refine lv_aload_n hx hb d_19_30_0 rfl (lv_at hl 0 rfl) ?_
  refine lv_aload_n hx hb d_19_30_1 rfl (lv_at hl 0 rfl) ?_
  refine q_get (ci := 13) (j := 8) (v := .ref qA5) C0 V i_WR rfl rfl hO0 (by decide) w_1932 rfl d_19_30_2 ?_
  refine q_gov V (q_runV (As := [.ref qA5]) (rest := []) (d := 2) (mc := 0) (ms := 0) (ci := 13) C0 V rfl LV_WR_131 (c_WR_setOne l D g ws kA5 qO0 qA5 hA5 _) rfl rfl hO0 rfl hl.1 rfl (Nat.le_of_ble_eq_true rfl) ⟨by decide, by decide⟩ ⟨Nat.le_of_ble_eq_true rfl, Nat.le_of_ble_eq_true rfl⟩ d_19_30_5) (fun u2 H locs hp1 V => ?_)
  obtain ⟨hg3, hA5⟩ := hp1
  replace hF := q_uc hF hg3 (q_sc (.head _) (fun _ h => absurd h List.not_mem_nil))
  refine lv_iconst (v := 0) hx hb d_19_30_8 (by decide) ?_
  refine lv_istore_n (lv' := [(2, .int 0), (0, .ref qO0), (1, .int x1)]) hx hb d_19_30_9 rfl hl (by decide) rfl (fun ls hl => ?_)
  replace hO0 := (hg3 _ (q_nc n_O0_A5 List.not_mem_nil)).trans (hO0)
  replace hA4 := (hg3 _ (q_nc n_A4_A5 List.not_mem_nil)).trans (hA4)
  replace hA6 := (hg3 _ (q_nc n_A6_A5 List.not_mem_nil)).trans (hA6)
  replace hA9 := (hg3 _ (q_nc n_A9_A5 List.not_mem_nil)).trans (hA9)
  refine q_loop (X := Int32) (fun z H locs ls w5 => (0 ≤ z.toInt ∧ (z.toInt ≤ x1.toInt ∨ z.toInt = 0)) ∧ q_Wd D g (va_A ws sz) s w5 H locs ∧ lv_has ls 3 [(2, .int z), (0, .ref qO0), (1, .int x1)] ∧ q_un ws w5 [kA5, kA6] ∧ w5[kO0]? = (some (qO0, .inr (13, [.int 0, .int 2, .ref qA1, .int 0, .ref qA2, .ref qA3, .ref qA4, .int 0, .ref qA5, .ref qA6, .ref qA7, .ref qA8, .ref qA9, .ref qA10, .ref qA11, .ref qA12, .int 0, .int 0, .ref qA13, .ref qA14, .int 0])) : Option (Nat × va_E)) ∧ w5[kA4]? = (some (qA4, .inl (g 0, 264, .inl (upd (fun _ => 0) 0 1))) : Option (Nat × va_E)) ∧ w5[kA5]? = (some (qA5, .inl (g 0, 264, .inl (upd (fun _ => 0) 0 1))) : Option (Nat × va_E)) ∧ w5[kA6]? = (some (qA6, .inl (g 0, 528, .inl (fun _ => 0))) : Option (Nat × va_E)) ∧ w5[kA9]? = (some (qA9, .inl (g 0, 264, .inl (fun _ => 0))) : Option (Nat × va_E))) (fun z => (x1.toInt - z.toInt).toNat) ?_ ((0 : Int32)) _ _ _ u2 ⟨⟨by decide, Or.inr (by decide)⟩, V, hl, hF, hO0, hA4, hA5, hA6, hA9⟩
  rintro lx4 H locs ls w5 ⟨i6, V, hl, hF, hO0, hA4, hA5, hA6, hA9⟩ ih7
  replace i6 : 0 ≤ lx4.toInt ∧ (lx4.toInt ≤ x1.toInt ∨ lx4.toInt = 0) := i6
  replace hl : lv_has ls 3 [(2, .int lx4), (0, .ref qO0), (1, .int x1)] := hl
  replace hO0 : w5[kO0]? = (some (qO0, .inr (13, [.int 0, .int 2, .ref qA1, .int 0, .ref qA2, .ref qA3, .ref qA4, .int 0, .ref qA5, .ref qA6, .ref qA7, .ref qA8, .ref qA9, .ref qA10, .ref qA11, .ref qA12, .int 0, .int 0, .ref qA13, .ref qA14, .int 0])) : Option (Nat × va_E)) := hO0
  replace hA4 : w5[kA4]? = (some (qA4, .inl (g 0, 264, .inl (upd (fun _ => 0) 0 1))) : Option (Nat × va_E)) := hA4
  replace hA5 : w5[kA5]? = (some (qA5, .inl (g 0, 264, .inl (upd (fun _ => 0) 0 1))) : Option (Nat × va_E)) := hA5
  replace hA6 : w5[kA6]? = (some (qA6, .inl (g 0, 528, .inl (fun _ => 0))) : Option (Nat × va_E)) := hA6
  replace hA9 : w5[kA9]? = (some (qA9, .inl (g 0, 264, .inl (fun _ => 0))) : Option (Nat × va_E)) := hA9
  refine lv_iload_n hx hb d_19_30_10 rfl (lv_at hl 0 rfl) ?_
  refine lv_iload_n hx hb d_19_30_11 rfl (lv_at hl 2 rfl) ?_
  refine lv_icmp_ge (tgt := 53) hx hb d_19_30_12 (by decide) (fun c8 => ?_) (fun c8 => ?_)
  ·
    refine lv_iconst (v := 1) hx hb d_19_30_53 (by decide) ?_
    exact q_retz C0 V (rfl) (Or.inl ⟨rfl, hF, hA5, hA6⟩) d_19_30_54
  ·
    refine lv_aload_n hx hb d_19_30_15 rfl (lv_at hl 1 rfl) ?_
    refine lv_aload_n hx hb d_19_30_16 rfl (lv_at hl 1 rfl) ?_
    refine q_get (ci := 13) (j := 8) (v := .ref qA5) C0 V i_WR rfl rfl hO0 (by decide) w_1932 rfl d_19_30_17 ?_
    refine lv_aload_n hx hb d_19_30_20 rfl (lv_at hl 1 rfl) ?_
    refine q_get (ci := 13) (j := 6) (v := .ref qA4) C0 V i_WR rfl rfl hO0 (by decide) w_1930 rfl d_19_30_21 ?_
    refine lv_aload_n hx hb d_19_30_24 rfl (lv_at hl 1 rfl) ?_
    refine q_get (ci := 13) (j := 8) (v := .ref qA5) C0 V i_WR rfl rfl hO0 (by decide) w_1932 rfl d_19_30_25 ?_
    refine q_gov V (q_runV (As := [.ref qA5, .ref qA4, .ref qA5]) (rest := []) (d := 2) (mc := 0) (ms := 0) (ci := 13) C0 V rfl LV_WR_115 (c_WR_multiplyRows_2 l D g w5 kO0 kA5 kA4 kA6 qO0 qA5 qA4 qA1 qA2 qA3 qA6 qA7 qA8 qA9 qA10 qA11 qA12 qA13 qA14 hO0 hA5 hA4 hA6 n_A5_A6 n_A4_A5 n_A4_A6 _) rfl rfl hO0 rfl hl.1 rfl (Nat.le_of_ble_eq_true rfl) ⟨by decide, by decide⟩ ⟨Nat.le_of_ble_eq_true rfl, Nat.le_of_ble_eq_true rfl⟩ d_19_30_28) (fun u10 H locs hp9 V => ?_)
    obtain ⟨hg11, hA5, hA6⟩ := hp9
    replace hF := q_uc hF hg11 (q_sc (.head _) (q_sc (.tail _ (.head _)) (fun _ h => absurd h List.not_mem_nil)))
    refine lv_aload_n hx hb d_19_30_31 rfl (lv_at hl 1 rfl) ?_
    replace hO0 := (hg11 _ (q_nc n_O0_A5 (q_nc n_O0_A6 List.not_mem_nil))).trans (hO0)
    refine q_get (ci := 13) (j := 8) (v := .ref qA5) C0 V i_WR rfl rfl hO0 (by decide) w_1932 rfl d_19_30_32 ?_
    refine lv_aload_n hx hb d_19_30_35 rfl (lv_at hl 1 rfl) ?_
    refine q_get (ci := 13) (j := 12) (v := .ref qA9) C0 V i_WR rfl rfl hO0 (by decide) w_1936 rfl d_19_30_36 ?_
    replace hA9 := (hg11 _ (q_nc n_A9_A5 (q_nc n_A9_A6 List.not_mem_nil))).trans (hA9)
    refine q_goi V (q_runS (As := [.ref qA5, .ref qA9]) (rest := []) (d := 1) (mc := 0) (ms := 0) C0 V rfl LS_WR_71 (c_WR_compareRows_2 l D g u10 kA5 kA9 qA5 qA9 hA5 hA9 _) rfl hl.1 rfl (Nat.le_of_ble_eq_true rfl) ⟨by decide, by decide⟩ ⟨Nat.le_of_ble_eq_true rfl, Nat.le_of_ble_eq_true rfl⟩ d_19_30_39) (fun v14 u13 H locs hp12 V => ?_)
    obtain ⟨rfl, rfl⟩ := hp12
    refine lv_if_le (tgt := 47) hx hb d_19_30_42 (by decide) (fun c16 => absurd c16 (by decide)) (fun c16 => ?_)
    refine lv_iconst (v := 0) hx hb d_19_30_45 (by decide) ?_
    exact q_retz C0 V (rfl) (Or.inr (⟨rfl, hF, hA5, hA6⟩)) d_19_30_46
theorem d_19_15_64 : decode prog_19_method_15_code 64 = .ok (.iconst 1, 1) := by decide +kernel
theorem d_19_15_65 : decode prog_19_method_15_code 65 = .ok (.goto 4, 3) := by decide +kernel
set_option maxRecDepth 100000 in
set_option maxHeartbeats 4000000 in
theorem c_WR_store_3 (l : Launch) (D : va_G) (g : Nat → ClassId) (ws : va_W) (kO0 kA2 kA3 kA4 qO0 qA1 qA2 qA3 qA4 qA5 qA6 qA7 qA8 qA9 qA10 qA11 qA12 qA13 qA14 : Nat) (x1 : Int32) (hO0 : ws[kO0]? = (some (qO0, .inr (13, [.int 0, .int 2, .ref qA1, .int 0, .ref qA2, .ref qA3, .ref qA4, .int 0, .ref qA5, .ref qA6, .ref qA7, .ref qA8, .ref qA9, .ref qA10, .ref qA11, .ref qA12, .int 0, .int 0, .ref qA13, .ref qA14, .int 0])) : Option (Nat × va_E))) (hA2 : ws[kA2]? = (some (qA2, .inl (g 0, 1408, .inl (fun _ => 0))) : Option (Nat × va_E))) (hA3 : ws[kA3]? = (some (qA3, .inl (g 3, 11, .inl (fun _ => 0))) : Option (Nat × va_E))) (hA4 : ws[kA4]? = (some (qA4, .inl (g 0, 264, .inl (upd (fun _ => 0) 0 1))) : Option (Nat × va_E))) (n_A2_A3 : kA2 ≠ kA3) (n_A4_A2 : kA4 ≠ kA2) (n_A4_A3 : kA4 ≠ kA3) (x1lo : 0 ≤ x1) (x1hi : x1 ≤ 9) : q_mV l y_WR_store prog_19_method_15_code 4 2 0 0 D g [.ref qO0, .int x1] ws (fun u => ∃ (ex0 : Nat → Int32), q_un ws u [kA2, kA3] ∧ u[kA2]? = (some (qA2, .inl (g 0, 1408, .inl ex0)) : Option (Nat × va_E)) ∧ u[kA3]? = (some (qA3, .inl (g 3, 11, .inl (fun _ => 0))) : Option (Nat × va_E))) := by
  intro sz
  refine q_into (by decide) (Nat.le_of_ble_eq_true rfl) ?_
  intro p e s m below meth c ls hsz C0 V hl
  have hx := C0.1
  have hb := C0.2.1
  have hl : lv_has ls 4 [(0, .ref qO0), (1, .int x1)] := hl
  have n_A3_A2 := Ne.symm n_A2_A3
  have n_O0_A2 := Ne.symm (q_df hA2 hO0)
  have n_O0_A3 := Ne.symm (q_df hA3 hO0)
  have hF : q_un ws ws [kA2, kA3] := q_u0
  refine lv_aload_n hx hb d_19_15_0 rfl (lv_at hl 0 rfl) ?_
  refine q_get (ci := 13) (j := 6) (v := .ref qA4) C0 V i_WR rfl rfl hO0 (by decide) w_1930 rfl d_19_15_1 ?_
  refine q_goi V (q_runS (As := [.ref qA4]) (rest := []) (d := 1) (mc := 0) (ms := 0) C0 V rfl LS_WR_59 (c_WR_size_2 l D g ws kA4 qA4 hA4 _) rfl hl.1 rfl (Nat.le_of_ble_eq_true rfl) ⟨by decide, by decide⟩ ⟨Nat.le_of_ble_eq_true rfl, Nat.le_of_ble_eq_true rfl⟩ d_19_15_4) (fun v3 u2 H locs hp1 V => ?_)
  obtain ⟨rfl, rfl⟩ := hp1
  refine lv_sipush (v := 128) hx hb d_19_15_7 (by decide) ?_
  refine lv_icmp_le (tgt := 22) hx hb d_19_15_10 (by decide) (fun c5 => ?_) (fun c5 => absurd (by decide) c5)
  refine lv_iconst (v := 0) hx hb d_19_15_22 (by decide) ?_
  refine lv_istore_n (lv' := [(2, .int 0), (0, .ref qO0), (1, .int x1)]) hx hb d_19_15_23 rfl hl (by decide) rfl (fun ls hl => ?_)
  refine lv_iconst (v := 0) hx hb d_19_15_24 (by decide) ?_
  refine lv_istore_n (lv' := [(3, .int 0), (2, .int 0), (0, .ref qO0), (1, .int x1)]) hx hb d_19_15_25 rfl hl (by decide) rfl (fun ls hl => ?_)
  refine q_loop (X := Int32 × Int32 × (Nat → Int32)) (fun z H locs ls w9 => (0 ≤ z.1.toInt ∧ (z.1.toInt ≤ 128 ∨ z.1.toInt = 0)) ∧ q_Wd D g (va_A ws sz) s w9 H locs ∧ lv_has ls 4 [(3, .int z.1), (2, .int z.2.1), (0, .ref qO0), (1, .int x1)] ∧ q_un ws w9 [kA2, kA3] ∧ w9[kO0]? = (some (qO0, .inr (13, [.int 0, .int 2, .ref qA1, .int 0, .ref qA2, .ref qA3, .ref qA4, .int 0, .ref qA5, .ref qA6, .ref qA7, .ref qA8, .ref qA9, .ref qA10, .ref qA11, .ref qA12, .int 0, .int 0, .ref qA13, .ref qA14, .int 0])) : Option (Nat × va_E)) ∧ w9[kA2]? = (some (qA2, .inl (g 0, 1408, .inl z.2.2)) : Option (Nat × va_E)) ∧ w9[kA3]? = (some (qA3, .inl (g 3, 11, .inl (fun _ => 0))) : Option (Nat × va_E)) ∧ w9[kA4]? = (some (qA4, .inl (g 0, 264, .inl (upd (fun _ => 0) 0 1))) : Option (Nat × va_E))) (fun z => (128 - z.1.toInt).toNat) ?_ ((0 : Int32), (0 : Int32), (fun _ => 0 : (Nat → Int32))) _ _ _ ws ⟨⟨(by dsimp only; decide), Or.inr (by dsimp only; decide)⟩, V, hl, hF, hO0, hA2, hA3, hA4⟩
  rintro ⟨lx6, lx7, lx8⟩ H locs ls w9 ⟨i10, V, hl, hF, hO0, hA2, hA3, hA4⟩ ih11
  replace i10 : 0 ≤ lx6.toInt ∧ (lx6.toInt ≤ 128 ∨ lx6.toInt = 0) := i10
  replace hl : lv_has ls 4 [(3, .int lx6), (2, .int lx7), (0, .ref qO0), (1, .int x1)] := hl
  replace hO0 : w9[kO0]? = (some (qO0, .inr (13, [.int 0, .int 2, .ref qA1, .int 0, .ref qA2, .ref qA3, .ref qA4, .int 0, .ref qA5, .ref qA6, .ref qA7, .ref qA8, .ref qA9, .ref qA10, .ref qA11, .ref qA12, .int 0, .int 0, .ref qA13, .ref qA14, .int 0])) : Option (Nat × va_E)) := hO0
  replace hA2 : w9[kA2]? = (some (qA2, .inl (g 0, 1408, .inl lx8)) : Option (Nat × va_E)) := hA2
  replace hA3 : w9[kA3]? = (some (qA3, .inl (g 3, 11, .inl (fun _ => 0))) : Option (Nat × va_E)) := hA3
  replace hA4 : w9[kA4]? = (some (qA4, .inl (g 0, 264, .inl (upd (fun _ => 0) 0 1))) : Option (Nat × va_E)) := hA4
  refine lv_iload_n hx hb d_19_15_26 rfl (lv_at hl 0 rfl) ?_
  refine lv_sipush (v := 128) hx hb d_19_15_27 (by decide) ?_
  refine lv_icmp_ge (tgt := 76) hx hb d_19_15_30 (by decide) (fun c12 => ?_) (fun c12 => ?_)
  ·
    refine lv_aload_n hx hb d_19_15_76 rfl (lv_at hl 2 rfl) ?_
    refine q_get (ci := 13) (j := 5) (v := .ref qA3) C0 V i_WR rfl rfl hO0 (by decide) w_1929 rfl d_19_15_77 ?_
    refine lv_iload_n hx hb d_19_15_80 rfl (lv_at hl 3 rfl) ?_
    refine lv_aload_n hx hb d_19_15_81 rfl (lv_at hl 2 rfl) ?_
    refine q_get (ci := 13) (j := 7) (v := .int 0) C0 V i_WR rfl rfl hO0 (by decide) w_1931 rfl d_19_15_82 ?_
    refine lv_if_eq (tgt := 96) hx hb d_19_15_85 (by decide) (fun c13 => ?_) (fun c13 => absurd (by decide) c13)
    refine lv_iconst (v := 0) hx hb d_19_15_96 (by decide) ?_
    refine q_zast C0 V hA3 (q_ix (x := x1.toInt) rfl (by have t1 : 0 ≤ x1.toInt := q_leI x1lo; have t2 : x1.toInt ≤ 9 := q_leI x1hi; omega) (by have t1 : 0 ≤ x1.toInt := q_leI x1lo; have t2 : x1.toInt ≤ 9 := q_leI x1hi; omega)) d_19_15_97 (fun H locs w14 hu15 hA3 V => ?_)
    replace hA3 := q_re (y := (qA3, .inl (g 3, 11, .inl (fun _ => 0)))) hA3 (q_eI q_upd0)
    replace hA3 : w14[kA3]? = (some (qA3, .inl (g 3, 11, .inl (fun _ => 0))) : Option (Nat × va_E)) := hA3
    replace hF := q_us hF hu15 (.tail _ (.head _))
    replace hA2 := (hu15 _ n_A2_A3).trans (hA2)
    exact q_retv C0 V (⟨lx8, hF, hA2, hA3⟩) d_19_15_98
  ·
    refine lv_aload_n hx hb d_19_15_33 rfl (lv_at hl 2 rfl) ?_
    refine q_get (ci := 13) (j := 4) (v := .ref qA2) C0 V i_WR rfl rfl hO0 (by decide) w_1928 rfl d_19_15_34 ?_
    refine lv_sipush (v := 128) hx hb d_19_15_37 (by decide) ?_
    refine lv_iload_n hx hb d_19_15_40 rfl (lv_at hl 3 rfl) ?_
    refine lv_imul hx hb d_19_15_41 ?_
    refine lv_iload_n hx hb d_19_15_42 rfl (lv_at hl 0 rfl) ?_
    refine lv_iadd hx hb d_19_15_43 ?_
    refine lv_aload_n hx hb d_19_15_44 rfl (lv_at hl 2 rfl) ?_
    refine q_get (ci := 13) (j := 6) (v := .ref qA4) C0 V i_WR rfl rfl hO0 (by decide) w_1930 rfl d_19_15_45 ?_
    refine lv_iload_n hx hb d_19_15_48 rfl (lv_at hl 0 rfl) ?_
    refine q_iald C0 V hA4 (q_ix (x := lx6.toInt) rfl (by have t1 : lx6.toInt < 128 := q_nleI c12; omega) (by have t1 : lx6.toInt < 128 := q_nleI c12; omega)) d_19_15_49 ?_
    by_cases c16 : lx6 = 0
    ·
      refine q_ti (v := 1) (by rw [c16]; rfl) ?_
      refine q_iast C0 V hA2 (q_ix (x := ((128 * x1.toInt) + lx6.toInt)) (q_addI (x := (128 * x1.toInt)) (y := lx6.toInt) (q_mulI (x := 128) (y := x1.toInt) (by decide) rfl (by have t1 : 0 ≤ x1.toInt := q_leI x1lo; have t2 : x1.toInt ≤ 9 := q_leI x1hi; omega) (by have t1 : 0 ≤ x1.toInt := q_leI x1lo; have t2 : x1.toInt ≤ 9 := q_leI x1hi; omega)) rfl (by have t1 : 0 ≤ x1.toInt := q_leI x1lo; have t2 : x1.toInt ≤ 9 := q_leI x1hi; have t3 : lx6.toInt < 128 := q_nleI c12; have t4 : lx6.toInt = 0 := q_eqI c16; omega) (by have t1 : 0 ≤ x1.toInt := q_leI x1lo; have t2 : x1.toInt ≤ 9 := q_leI x1hi; have t3 : lx6.toInt < 128 := q_nleI c12; have t4 : lx6.toInt = 0 := q_eqI c16; omega)) (by have t1 : 0 ≤ x1.toInt := q_leI x1lo; have t2 : x1.toInt ≤ 9 := q_leI x1hi; have t3 : lx6.toInt < 128 := q_nleI c12; have t4 : lx6.toInt = 0 := q_eqI c16; omega) (by have t1 : 0 ≤ x1.toInt := q_leI x1lo; have t2 : x1.toInt ≤ 9 := q_leI x1hi; have t3 : lx6.toInt < 128 := q_nleI c12; have t4 : lx6.toInt = 0 := q_eqI c16; omega)) d_19_15_50 (fun H locs w17 hu18 hA2 V => ?_)
      replace hA2 : w17[kA2]? = (some (qA2, .inl (g 0, 1408, .inl (upd lx8 (((128 * x1) + lx6).toNatClampNeg) 1))) : Option (Nat × va_E)) := hA2
      replace hF := q_us hF hu18 (.head _)
      refine lv_iload_n hx hb d_19_15_51 rfl (lv_at hl 1 rfl) ?_
      refine lv_if_ne (tgt := 64) hx hb d_19_15_52 (by decide) (fun c19 => ?_) (fun c19 => ?_)
      ·
        refine lv_iconst (v := 1) hx hb d_19_15_64 (by decide) ?_
        refine lv_goto (tgt := 69) hx hb d_19_15_65 (by decide) ?_
        refine lv_istore_n (lv' := [(2, .int 1), (3, .int lx6), (0, .ref qO0), (1, .int x1)]) hx hb d_19_15_69 rfl hl (by decide) rfl (fun ls hl => ?_)
        refine lv_iinc (v := lx6 + 1) (lv' := [(3, .int (lx6 + 1)), (2, .int 1), (0, .ref qO0), (1, .int x1)]) hx hb d_19_15_70 hl (k := 1) rfl (rfl) (by decide) rfl (fun ls hl => ?_)
        refine lv_goto (tgt := 26) hx hb d_19_15_73 (by decide) ?_
        replace hO0 := (hu18 _ n_O0_A2).trans (hO0)
        replace hA3 := (hu18 _ n_A3_A2).trans (hA3)
        replace hA4 := (hu18 _ n_A4_A2).trans (hA4)
        exact ih11 ((lx6 + 1 : Int32), (1 : Int32), (upd lx8 (((128 * x1) + lx6).toNatClampNeg) 1 : Nat → Int32)) _ _ _ _ (show (128 - (lx6 + 1).toInt).toNat < (128 - lx6.toInt).toNat from by have t1 : lx6.toInt < 128 := q_nleI c12; have t2 : lx6.toInt = 0 := q_eqI c16; have e : (lx6 + 1).toInt = (lx6.toInt + 1) := (q_addI (x := lx6.toInt) (y := 1) rfl (by decide) (by have t1 : lx6.toInt < 128 := q_nleI c12; have t2 : lx6.toInt = 0 := q_eqI c16; omega) (by have t1 : lx6.toInt < 128 := q_nleI c12; have t2 : lx6.toInt = 0 := q_eqI c16; omega)); omega) ⟨(show 0 ≤ (lx6 + 1).toInt ∧ ((lx6 + 1).toInt ≤ 128 ∨ (lx6 + 1).toInt = 0) from by have t1 : lx6.toInt < 128 := q_nleI c12; have t2 : lx6.toInt = 0 := q_eqI c16; have e : (lx6 + 1).toInt = (lx6.toInt + 1) := (q_addI (x := lx6.toInt) (y := 1) rfl (by decide) (by have t1 : lx6.toInt < 128 := q_nleI c12; have t2 : lx6.toInt = 0 := q_eqI c16; omega) (by have t1 : lx6.toInt < 128 := q_nleI c12; have t2 : lx6.toInt = 0 := q_eqI c16; omega)); omega), V, q_lw hl (q_lw1 0 rfl (q_lw1 1 rfl (q_lw1 2 rfl (q_lw1 3 rfl q_lw0)))), hF, hO0, hA2, hA3, hA4⟩
      ·
        refine lv_aload_n hx hb d_19_15_55 rfl (lv_at hl 2 rfl) ?_
        replace hO0 := (hu18 _ n_O0_A2).trans (hO0)
        refine q_get (ci := 13) (j := 6) (v := .ref qA4) C0 V i_WR rfl rfl hO0 (by decide) w_1930 rfl d_19_15_56 ?_
        refine lv_iload_n hx hb d_19_15_59 rfl (lv_at hl 0 rfl) ?_
        refine q_ti (v := 0) c16 ?_
        replace hA4 := (hu18 _ n_A4_A2).trans (hA4)
        refine q_iald C0 V hA4 (by unfold vp_in; decide) d_19_15_60 ?_
        refine q_ti (v := 1) (by first | rfl | decide | simp [upd, vp_updL, sb_cl0]) ?_
        refine lv_if_eq (tgt := 68) hx hb d_19_15_61 (by decide) (fun c20 => absurd c20 (by decide)) (fun c20 => ?_)
        refine lv_iconst (v := 1) hx hb d_19_15_64 (by decide) ?_
        refine lv_goto (tgt := 69) hx hb d_19_15_65 (by decide) ?_
        refine lv_istore_n (lv' := [(2, .int 1), (3, .int lx6), (0, .ref qO0), (1, .int x1)]) hx hb d_19_15_69 rfl hl (by decide) rfl (fun ls hl => ?_)
        refine lv_iinc (v := lx6 + 1) (lv' := [(3, .int (lx6 + 1)), (2, .int 1), (0, .ref qO0), (1, .int x1)]) hx hb d_19_15_70 hl (k := 1) rfl (rfl) (by decide) rfl (fun ls hl => ?_)
        refine lv_goto (tgt := 26) hx hb d_19_15_73 (by decide) ?_
        replace hA3 := (hu18 _ n_A3_A2).trans (hA3)
        exact ih11 ((lx6 + 1 : Int32), (1 : Int32), (upd lx8 (((128 * x1) + lx6).toNatClampNeg) 1 : Nat → Int32)) _ _ _ _ (show (128 - (lx6 + 1).toInt).toNat < (128 - lx6.toInt).toNat from by have t1 : lx6.toInt < 128 := q_nleI c12; have t2 : lx6.toInt = 0 := q_eqI c16; have e : (lx6 + 1).toInt = (lx6.toInt + 1) := (q_addI (x := lx6.toInt) (y := 1) rfl (by decide) (by have t1 : lx6.toInt < 128 := q_nleI c12; have t2 : lx6.toInt = 0 := q_eqI c16; omega) (by have t1 : lx6.toInt < 128 := q_nleI c12; have t2 : lx6.toInt = 0 := q_eqI c16; omega)); omega) ⟨(show 0 ≤ (lx6 + 1).toInt ∧ ((lx6 + 1).toInt ≤ 128 ∨ (lx6 + 1).toInt = 0) from by have t1 : lx6.toInt < 128 := q_nleI c12; have t2 : lx6.toInt = 0 := q_eqI c16; have e : (lx6 + 1).toInt = (lx6.toInt + 1) := (q_addI (x := lx6.toInt) (y := 1) rfl (by decide) (by have t1 : lx6.toInt < 128 := q_nleI c12; have t2 : lx6.toInt = 0 := q_eqI c16; omega) (by have t1 : lx6.toInt < 128 := q_nleI c12; have t2 : lx6.toInt = 0 := q_eqI c16; omega)); omega), V, q_lw hl (q_lw1 0 rfl (q_lw1 1 rfl (q_lw1 2 rfl (q_lw1 3 rfl q_lw0)))), hF, hO0, hA2, hA3, hA4⟩
    refine q_ti (v := 0) ((q_upn (x := lx6.toInt) rfl (by have t1 : lx6.toInt < 128 := q_nleI c12; have t2 : lx6.toInt ≠ 0 := q_neI c16; omega) (by have e9 := q_neI c16; have e8 : ((0 : Int32)).toInt = 0 := (by decide); have e7 : (lx6 : Int32).toInt = lx6.toInt := rfl; omega)).trans rfl) ?_
    refine q_iast C0 V hA2 (q_ix (x := ((128 * x1.toInt) + lx6.toInt)) (q_addI (x := (128 * x1.toInt)) (y := lx6.toInt) (q_mulI (x := 128) (y := x1.toInt) (by decide) rfl (by have t1 : 0 ≤ x1.toInt := q_leI x1lo; have t2 : x1.toInt ≤ 9 := q_leI x1hi; omega) (by have t1 : 0 ≤ x1.toInt := q_leI x1lo; have t2 : x1.toInt ≤ 9 := q_leI x1hi; omega)) rfl (by have t1 : 0 ≤ x1.toInt := q_leI x1lo; have t2 : x1.toInt ≤ 9 := q_leI x1hi; have t3 : lx6.toInt < 128 := q_nleI c12; have t4 : lx6.toInt ≠ 0 := q_neI c16; omega) (by have t1 : 0 ≤ x1.toInt := q_leI x1lo; have t2 : x1.toInt ≤ 9 := q_leI x1hi; have t3 : lx6.toInt < 128 := q_nleI c12; have t4 : lx6.toInt ≠ 0 := q_neI c16; omega)) (by have t1 : 0 ≤ x1.toInt := q_leI x1lo; have t2 : x1.toInt ≤ 9 := q_leI x1hi; have t3 : lx6.toInt < 128 := q_nleI c12; have t4 : lx6.toInt ≠ 0 := q_neI c16; omega) (by have t1 : 0 ≤ x1.toInt := q_leI x1lo; have t2 : x1.toInt ≤ 9 := q_leI x1hi; have t3 : lx6.toInt < 128 := q_nleI c12; have t4 : lx6.toInt ≠ 0 := q_neI c16; omega)) d_19_15_50 (fun H locs w21 hu22 hA2 V => ?_)
    replace hA2 : w21[kA2]? = (some (qA2, .inl (g 0, 1408, .inl (upd lx8 (((128 * x1) + lx6).toNatClampNeg) 0))) : Option (Nat × va_E)) := hA2
    replace hF := q_us hF hu22 (.head _)
    refine lv_iload_n hx hb d_19_15_51 rfl (lv_at hl 1 rfl) ?_
    refine lv_if_ne (tgt := 64) hx hb d_19_15_52 (by decide) (fun c23 => ?_) (fun c23 => ?_)
    ·
      refine lv_iconst (v := 1) hx hb d_19_15_64 (by decide) ?_
      refine lv_goto (tgt := 69) hx hb d_19_15_65 (by decide) ?_
      refine lv_istore_n (lv' := [(2, .int 1), (3, .int lx6), (0, .ref qO0), (1, .int x1)]) hx hb d_19_15_69 rfl hl (by decide) rfl (fun ls hl => ?_)
      refine lv_iinc (v := lx6 + 1) (lv' := [(3, .int (lx6 + 1)), (2, .int 1), (0, .ref qO0), (1, .int x1)]) hx hb d_19_15_70 hl (k := 1) rfl (rfl) (by decide) rfl (fun ls hl => ?_)
      refine lv_goto (tgt := 26) hx hb d_19_15_73 (by decide) ?_
      replace hO0 := (hu22 _ n_O0_A2).trans (hO0)
      replace hA3 := (hu22 _ n_A3_A2).trans (hA3)
      replace hA4 := (hu22 _ n_A4_A2).trans (hA4)
      exact ih11 ((lx6 + 1 : Int32), (1 : Int32), (upd lx8 (((128 * x1) + lx6).toNatClampNeg) 0 : Nat → Int32)) _ _ _ _ (show (128 - (lx6 + 1).toInt).toNat < (128 - lx6.toInt).toNat from by have t1 : lx6.toInt < 128 := q_nleI c12; have t2 : lx6.toInt ≠ 0 := q_neI c16; have e : (lx6 + 1).toInt = (lx6.toInt + 1) := (q_addI (x := lx6.toInt) (y := 1) rfl (by decide) (by have t1 : lx6.toInt < 128 := q_nleI c12; have t2 : lx6.toInt ≠ 0 := q_neI c16; omega) (by have t1 : lx6.toInt < 128 := q_nleI c12; have t2 : lx6.toInt ≠ 0 := q_neI c16; omega)); omega) ⟨(show 0 ≤ (lx6 + 1).toInt ∧ ((lx6 + 1).toInt ≤ 128 ∨ (lx6 + 1).toInt = 0) from by have t1 : lx6.toInt < 128 := q_nleI c12; have t2 : lx6.toInt ≠ 0 := q_neI c16; have e : (lx6 + 1).toInt = (lx6.toInt + 1) := (q_addI (x := lx6.toInt) (y := 1) rfl (by decide) (by have t1 : lx6.toInt < 128 := q_nleI c12; have t2 : lx6.toInt ≠ 0 := q_neI c16; omega) (by have t1 : lx6.toInt < 128 := q_nleI c12; have t2 : lx6.toInt ≠ 0 := q_neI c16; omega)); omega), V, q_lw hl (q_lw1 0 rfl (q_lw1 1 rfl (q_lw1 2 rfl (q_lw1 3 rfl q_lw0)))), hF, hO0, hA2, hA3, hA4⟩
    ·
      refine lv_aload_n hx hb d_19_15_55 rfl (lv_at hl 2 rfl) ?_
      replace hO0 := (hu22 _ n_O0_A2).trans (hO0)
      refine q_get (ci := 13) (j := 6) (v := .ref qA4) C0 V i_WR rfl rfl hO0 (by decide) w_1930 rfl d_19_15_56 ?_
      refine lv_iload_n hx hb d_19_15_59 rfl (lv_at hl 0 rfl) ?_
      replace hA4 := (hu22 _ n_A4_A2).trans (hA4)
      refine q_iald C0 V hA4 (q_ix (x := lx6.toInt) rfl (by have t1 : lx6.toInt < 128 := q_nleI c12; have t2 : lx6.toInt ≠ 0 := q_neI c16; omega) (by have t1 : lx6.toInt < 128 := q_nleI c12; have t2 : lx6.toInt ≠ 0 := q_neI c16; omega)) d_19_15_60 ?_
      refine q_ti (v := 0) ((q_upn (x := lx6.toInt) rfl (by have t1 : lx6.toInt < 128 := q_nleI c12; have t2 : lx6.toInt ≠ 0 := q_neI c16; omega) (by have e9 := q_neI (show ¬ lx6 = (0 : Int32) from (q_Ine (x := lx6.toInt) (y := 0) rfl (by decide) (by have t1 : lx6.toInt < 128 := q_nleI c12; have t2 : lx6.toInt ≠ 0 := q_neI c16; omega))); have e8 : ((0 : Int32)).toInt = 0 := (by decide); have e7 : (lx6 : Int32).toInt = lx6.toInt := rfl; omega)).trans rfl) ?_
      refine lv_if_eq (tgt := 68) hx hb d_19_15_61 (by decide) (fun c24 => ?_) (fun c24 => absurd (by decide) c24)
      refine lv_iconst (v := 0) hx hb d_19_15_68 (by decide) ?_
      refine lv_istore_n (lv' := [(2, .int 0), (3, .int lx6), (0, .ref qO0), (1, .int x1)]) hx hb d_19_15_69 rfl hl (by decide) rfl (fun ls hl => ?_)
      refine lv_iinc (v := lx6 + 1) (lv' := [(3, .int (lx6 + 1)), (2, .int 0), (0, .ref qO0), (1, .int x1)]) hx hb d_19_15_70 hl (k := 1) rfl (rfl) (by decide) rfl (fun ls hl => ?_)
      refine lv_goto (tgt := 26) hx hb d_19_15_73 (by decide) ?_
      replace hA3 := (hu22 _ n_A3_A2).trans (hA3)
      exact ih11 ((lx6 + 1 : Int32), (0 : Int32), (upd lx8 (((128 * x1) + lx6).toNatClampNeg) 0 : Nat → Int32)) _ _ _ _ (show (128 - (lx6 + 1).toInt).toNat < (128 - lx6.toInt).toNat from by have t1 : lx6.toInt < 128 := q_nleI c12; have t2 : lx6.toInt ≠ 0 := q_neI c16; have e : (lx6 + 1).toInt = (lx6.toInt + 1) := (q_addI (x := lx6.toInt) (y := 1) rfl (by decide) (by have t1 : lx6.toInt < 128 := q_nleI c12; have t2 : lx6.toInt ≠ 0 := q_neI c16; omega) (by have t1 : lx6.toInt < 128 := q_nleI c12; have t2 : lx6.toInt ≠ 0 := q_neI c16; omega)); omega) ⟨(show 0 ≤ (lx6 + 1).toInt ∧ ((lx6 + 1).toInt ≤ 128 ∨ (lx6 + 1).toInt = 0) from by have t1 : lx6.toInt < 128 := q_nleI c12; have t2 : lx6.toInt ≠ 0 := q_neI c16; have e : (lx6 + 1).toInt = (lx6.toInt + 1) := (q_addI (x := lx6.toInt) (y := 1) rfl (by decide) (by have t1 : lx6.toInt < 128 := q_nleI c12; have t2 : lx6.toInt ≠ 0 := q_neI c16; omega) (by have t1 : lx6.toInt < 128 := q_nleI c12; have t2 : lx6.toInt ≠ 0 := q_neI c16; omega)); omega), V, q_lw hl (q_lw1 0 rfl (q_lw1 1 rfl (q_lw1 2 rfl (q_lw1 3 rfl q_lw0)))), hF, hO0, hA2, hA3, hA4⟩
theorem d_19_31_0 : decode prog_19_method_31_code 0 = .ok (.aload_n 0, 1) := by decide +kernel
theorem d_19_31_1 : decode prog_19_method_31_code 1 = .ok (.iload_n 1, 1) := by decide +kernel
theorem d_19_31_2 : decode prog_19_method_31_code 2 = .ok (.invokestatic 91, 3) := by decide +kernel
theorem d_19_31_5 : decode prog_19_method_31_code 5 = .ok (.ifCond .ne 21, 3) := by decide +kernel
theorem d_19_31_8 : decode prog_19_method_31_code 8 = .ok (.iload_n 3, 1) := by decide +kernel
theorem d_19_31_9 : decode prog_19_method_31_code 9 = .ok (.invokestatic 91, 3) := by decide +kernel
theorem d_19_31_12 : decode prog_19_method_31_code 12 = .ok (.ifCond .ne 14, 3) := by decide +kernel
theorem d_19_31_15 : decode prog_19_method_31_code 15 = .ok (.iload_n 2, 1) := by decide +kernel
theorem d_19_31_16 : decode prog_19_method_31_code 16 = .ok (.iconst 1, 1) := by decide +kernel
theorem d_19_31_17 : decode prog_19_method_31_code 17 = .ok (.if_icmp .lt 9, 3) := by decide +kernel
theorem d_19_31_26 : decode prog_19_method_31_code 26 = .ok (.iconst 1, 1) := by decide +kernel
theorem d_19_31_27 : decode prog_19_method_31_code 27 = .ok (.goto 17, 3) := by decide +kernel
theorem d_19_31_44 : decode prog_19_method_31_code 44 = .ok (.putfield 53, 3) := by decide +kernel
theorem d_19_31_47 : decode prog_19_method_31_code 47 = .ok (.aload_n 0, 1) := by decide +kernel
theorem d_19_31_48 : decode prog_19_method_31_code 48 = .ok (.getfield 53, 3) := by decide +kernel
theorem d_19_31_51 : decode prog_19_method_31_code 51 = .ok (.ifCond .le 4, 3) := by decide +kernel
theorem d_19_31_54 : decode prog_19_method_31_code 54 = .ok (.return_, 1) := by decide +kernel
theorem d_19_31_20 : decode prog_19_method_31_code 20 = .ok (.iload_n 2, 1) := by decide +kernel
theorem d_19_31_21 : decode prog_19_method_31_code 21 = .ok (.bipush 64, 2) := by decide +kernel
theorem d_19_31_23 : decode prog_19_method_31_code 23 = .ok (.if_icmp .le 7, 3) := by decide +kernel
theorem d_19_31_30 : decode prog_19_method_31_code 30 = .ok (.aload_n 0, 1) := by decide +kernel
theorem d_19_31_31 : decode prog_19_method_31_code 31 = .ok (.getfield 16, 3) := by decide +kernel
theorem d_19_31_34 : decode prog_19_method_31_code 34 = .ok (.iload_n 1, 1) := by decide +kernel
theorem d_19_31_35 : decode prog_19_method_31_code 35 = .ok (.baload, 1) := by decide +kernel
theorem d_19_31_36 : decode prog_19_method_31_code 36 = .ok (.ifCond .eq 7, 3) := by decide +kernel
theorem d_19_31_43 : decode prog_19_method_31_code 43 = .ok (.iconst 0, 1) := by decide +kernel
theorem d_19_31_55 : decode prog_19_method_31_code 55 = .ok (.aload_n 0, 1) := by decide +kernel
theorem d_19_31_56 : decode prog_19_method_31_code 56 = .ok (.iconst 2, 1) := by decide +kernel
theorem d_19_31_57 : decode prog_19_method_31_code 57 = .ok (.putfield 79, 3) := by decide +kernel
theorem d_19_31_60 : decode prog_19_method_31_code 60 = .ok (.aload_n 0, 1) := by decide +kernel
theorem d_19_31_61 : decode prog_19_method_31_code 61 = .ok (.iload_n 1, 1) := by decide +kernel
theorem d_19_31_62 : decode prog_19_method_31_code 62 = .ok (.aload_n 0, 1) := by decide +kernel
theorem d_19_31_63 : decode prog_19_method_31_code 63 = .ok (.getfield 35, 3) := by decide +kernel
theorem d_19_31_66 : decode prog_19_method_31_code 66 = .ok (.invokevirtual 107, 3) := by decide +kernel
theorem d_19_31_69 : decode prog_19_method_31_code 69 = .ok (.aload_n 0, 1) := by decide +kernel
theorem d_19_31_70 : decode prog_19_method_31_code 70 = .ok (.getfield 20, 3) := by decide +kernel
theorem d_19_31_73 : decode prog_19_method_31_code 73 = .ok (.invokestatic 63, 3) := by decide +kernel
theorem d_19_31_76 : decode prog_19_method_31_code 76 = .ok (.bipush 16, 2) := by decide +kernel
theorem d_19_31_78 : decode prog_19_method_31_code 78 = .ok (.aload_n 0, 1) := by decide +kernel
theorem d_19_31_79 : decode prog_19_method_31_code 79 = .ok (.getfield 35, 3) := by decide +kernel
theorem d_19_31_82 : decode prog_19_method_31_code 82 = .ok (.invokestatic 59, 3) := by decide +kernel
theorem d_19_31_85 : decode prog_19_method_31_code 85 = .ok (.imul, 1) := by decide +kernel
theorem d_19_31_86 : decode prog_19_method_31_code 86 = .ok (.iload_n 2, 1) := by decide +kernel
theorem d_19_31_87 : decode prog_19_method_31_code 87 = .ok (.idiv, 1) := by decide +kernel
theorem d_19_31_88 : decode prog_19_method_31_code 88 = .ok (.istore 4, 2) := by decide +kernel
theorem d_19_31_90 : decode prog_19_method_31_code 90 = .ok (.iload 4, 2) := by decide +kernel
theorem d_19_31_92 : decode prog_19_method_31_code 92 = .ok (.ifCond .lt 75, 3) := by decide +kernel
theorem d_19_31_95 : decode prog_19_method_31_code 95 = .ok (.aload_n 0, 1) := by decide +kernel
theorem d_19_31_96 : decode prog_19_method_31_code 96 = .ok (.getfield 20, 3) := by decide +kernel
theorem d_19_31_99 : decode prog_19_method_31_code 99 = .ok (.iload 4, 2) := by decide +kernel
theorem d_19_31_101 : decode prog_19_method_31_code 101 = .ok (.bipush 16, 2) := by decide +kernel
theorem d_19_31_103 : decode prog_19_method_31_code 103 = .ok (.idiv, 1) := by decide +kernel
theorem d_19_31_104 : decode prog_19_method_31_code 104 = .ok (.aload_n 0, 1) := by decide +kernel
theorem d_19_31_105 : decode prog_19_method_31_code 105 = .ok (.getfield 20, 3) := by decide +kernel
theorem d_19_31_108 : decode prog_19_method_31_code 108 = .ok (.iload 4, 2) := by decide +kernel
theorem d_19_31_110 : decode prog_19_method_31_code 110 = .ok (.bipush 16, 2) := by decide +kernel
theorem d_19_31_112 : decode prog_19_method_31_code 112 = .ok (.idiv, 1) := by decide +kernel
theorem d_19_31_113 : decode prog_19_method_31_code 113 = .ok (.iaload, 1) := by decide +kernel
theorem d_19_31_114 : decode prog_19_method_31_code 114 = .ok (.iconst 1, 1) := by decide +kernel
theorem d_19_31_115 : decode prog_19_method_31_code 115 = .ok (.iload 4, 2) := by decide +kernel
theorem d_19_31_117 : decode prog_19_method_31_code 117 = .ok (.bipush 16, 2) := by decide +kernel
theorem d_19_31_119 : decode prog_19_method_31_code 119 = .ok (.irem, 1) := by decide +kernel
theorem d_19_31_120 : decode prog_19_method_31_code 120 = .ok (.ishl, 1) := by decide +kernel
theorem d_19_31_121 : decode prog_19_method_31_code 121 = .ok (.ior, 1) := by decide +kernel
theorem d_19_31_122 : decode prog_19_method_31_code 122 = .ok (.iastore, 1) := by decide +kernel
theorem d_19_31_123 : decode prog_19_method_31_code 123 = .ok (.aload_n 0, 1) := by decide +kernel
theorem d_19_31_124 : decode prog_19_method_31_code 124 = .ok (.iload_n 2, 1) := by decide +kernel
theorem d_19_31_125 : decode prog_19_method_31_code 125 = .ok (.invokevirtual 134, 3) := by decide +kernel
theorem w_2760 : (Cond.code ({ cls := "NumberHouseModel$WholeRows", name := "fits", desc := "(I)Z" } : MethodName) prog_19_method_30_code (3 : Nat) (some .boolean)) ∈ q_tbl := q_of 2760 (by decide +kernel) (by decide +kernel)
theorem w_2757 : (Cond.methodLink "NumberHouseModel$WholeRows" (134 : Nat) ({ cls := "NumberHouseModel$WholeRows", name := "fits", desc := "(I)Z" } : MethodName)) ∈ q_tbl := q_of 2757 (by decide +kernel) (by decide +kernel)
theorem w_2759 : (Cond.instanceMethod ({ cls := "NumberHouseModel$WholeRows", name := "fits", desc := "(I)Z" } : MethodName)) ∈ q_tbl := q_of 2759 (by decide +kernel) (by decide +kernel)
theorem ws_109 : Cond.selects "NumberHouseModel$WholeRows" (⟨"NumberHouseModel$WholeRows", "fits", "(I)Z"⟩ : MethodName) (⟨"NumberHouseModel$WholeRows", "fits", "(I)Z"⟩ : MethodName) ∈ q_tbl := q_ofs 109 (by decide +kernel) (by decide +kernel)
theorem LV_WR_134 : q_LV "NumberHouseModel$WholeRows" 134 y_WR_fits prog_19_method_30_code 3 (some .boolean) 1 := ⟨w_2760, w_15, w_2757, w_2759, ws_109, ⟨by decide, by decide, by decide +kernel⟩⟩
theorem d_19_31_128 : decode prog_19_method_31_code 128 = .ok (.ifCond .ne 33, 3) := by decide +kernel
theorem d_19_31_161 : decode prog_19_method_31_code 161 = .ok (.iinc 4 (-1), 3) := by decide +kernel
theorem d_19_31_164 : decode prog_19_method_31_code 164 = .ok (.goto (-74), 3) := by decide +kernel
theorem d_19_31_167 : decode prog_19_method_31_code 167 = .ok (.aload_n 0, 1) := by decide +kernel
theorem d_19_31_168 : decode prog_19_method_31_code 168 = .ok (.iconst 0, 1) := by decide +kernel
theorem d_19_31_169 : decode prog_19_method_31_code 169 = .ok (.putfield 82, 3) := by decide +kernel
theorem d_19_31_172 : decode prog_19_method_31_code 172 = .ok (.aload_n 0, 1) := by decide +kernel
theorem d_19_31_173 : decode prog_19_method_31_code 173 = .ok (.iload_n 3, 1) := by decide +kernel
theorem d_19_31_174 : decode prog_19_method_31_code 174 = .ok (.invokevirtual 103, 3) := by decide +kernel
theorem d_19_31_177 : decode prog_19_method_31_code 177 = .ok (.return_, 1) := by decide +kernel
theorem d_19_31_131 : decode prog_19_method_31_code 131 = .ok (.aload_n 0, 1) := by decide +kernel
theorem d_19_31_132 : decode prog_19_method_31_code 132 = .ok (.getfield 20, 3) := by decide +kernel
theorem d_19_31_135 : decode prog_19_method_31_code 135 = .ok (.iload 4, 2) := by decide +kernel
theorem d_19_31_137 : decode prog_19_method_31_code 137 = .ok (.bipush 16, 2) := by decide +kernel
theorem d_19_31_139 : decode prog_19_method_31_code 139 = .ok (.idiv, 1) := by decide +kernel
theorem d_19_31_140 : decode prog_19_method_31_code 140 = .ok (.aload_n 0, 1) := by decide +kernel
theorem d_19_31_141 : decode prog_19_method_31_code 141 = .ok (.getfield 20, 3) := by decide +kernel
theorem d_19_31_144 : decode prog_19_method_31_code 144 = .ok (.iload 4, 2) := by decide +kernel
theorem d_19_31_146 : decode prog_19_method_31_code 146 = .ok (.bipush 16, 2) := by decide +kernel
theorem d_19_31_148 : decode prog_19_method_31_code 148 = .ok (.idiv, 1) := by decide +kernel
theorem d_19_31_149 : decode prog_19_method_31_code 149 = .ok (.iaload, 1) := by decide +kernel
theorem d_19_31_150 : decode prog_19_method_31_code 150 = .ok (.iconst 1, 1) := by decide +kernel
theorem d_19_31_151 : decode prog_19_method_31_code 151 = .ok (.iload 4, 2) := by decide +kernel
theorem d_19_31_153 : decode prog_19_method_31_code 153 = .ok (.bipush 16, 2) := by decide +kernel
theorem d_19_31_155 : decode prog_19_method_31_code 155 = .ok (.irem, 1) := by decide +kernel
theorem d_19_31_156 : decode prog_19_method_31_code 156 = .ok (.ishl, 1) := by decide +kernel
theorem d_19_31_157 : decode prog_19_method_31_code 157 = .ok (.iconst (-1), 1) := by decide +kernel
theorem d_19_31_158 : decode prog_19_method_31_code 158 = .ok (.ixor, 1) := by decide +kernel
theorem d_19_31_159 : decode prog_19_method_31_code 159 = .ok (.iand, 1) := by decide +kernel
theorem d_19_31_160 : decode prog_19_method_31_code 160 = .ok (.iastore, 1) := by decide +kernel
def y_WR_root : MethodName := ⟨"NumberHouseModel$WholeRows", "root", "(III)V"⟩
set_option maxRecDepth 100000 in
set_option maxHeartbeats 4000000 in
theorem c_WR_root (l : Launch) (D : va_G) (g : Nat → ClassId) (ws : va_W) (kO0 kA2 kA3 kA4 kA5 kA6 kA9 qO0 qA1 qA2 qA3 qA4 qA5 qA6 qA7 qA8 qA9 qA10 qA11 qA12 qA13 qA14 : Nat) (x1 : Int32) (x2 : Int32) (x3 : Int32) (hO0 : ws[kO0]? = (some (qO0, .inr (13, [.int 0, .int 0, .ref qA1, .int 0, .ref qA2, .ref qA3, .ref qA4, .int 0, .ref qA5, .ref qA6, .ref qA7, .ref qA8, .ref qA9, .ref qA10, .ref qA11, .ref qA12, .int 0, .int 0, .ref qA13, .ref qA14, .int 0])) : Option (Nat × va_E))) (hA2 : ws[kA2]? = (some (qA2, .inl (g 0, 1408, .inl (fun _ => 0))) : Option (Nat × va_E))) (hA3 : ws[kA3]? = (some (qA3, .inl (g 3, 11, .inl (fun _ => 0))) : Option (Nat × va_E))) (hA4 : ws[kA4]? = (some (qA4, .inl (g 0, 264, .inl (fun _ => 0))) : Option (Nat × va_E))) (hA5 : ws[kA5]? = (some (qA5, .inl (g 0, 264, .inl (fun _ => 0))) : Option (Nat × va_E))) (hA6 : ws[kA6]? = (some (qA6, .inl (g 0, 528, .inl (fun _ => 0))) : Option (Nat × va_E))) (hA9 : ws[kA9]? = (some (qA9, .inl (g 0, 264, .inl (fun _ => 0))) : Option (Nat × va_E))) (n_A2_A3 : kA2 ≠ kA3) (n_A2_A4 : kA2 ≠ kA4) (n_A2_A5 : kA2 ≠ kA5) (n_A2_A6 : kA2 ≠ kA6) (n_A2_A9 : kA2 ≠ kA9) (n_A3_A4 : kA3 ≠ kA4) (n_A3_A5 : kA3 ≠ kA5) (n_A3_A6 : kA3 ≠ kA6) (n_A3_A9 : kA3 ≠ kA9) (n_A4_A5 : kA4 ≠ kA5) (n_A4_A6 : kA4 ≠ kA6) (n_A4_A9 : kA4 ≠ kA9) (n_A5_A6 : kA5 ≠ kA6) (n_A5_A9 : kA5 ≠ kA9) (n_A6_A9 : kA6 ≠ kA9) (x1lo : 0 ≤ x1) (x1hi : x1 ≤ 9) (x3lo : 0 ≤ x3) (x3hi : x3 ≤ 9) : q_mV l y_WR_root prog_19_method_31_code 5 4 0 0 D g [.ref qO0, .int x1, .int x2, .int x3] ws (fun u => (x2 < 1 ∧ q_un ws u [kO0, kA2, kA3, kA4, kA5, kA6, kA9] ∧ u[kO0]? = (some (qO0, .inr (13, [.int 1, .int 0, .ref qA1, .int 0, .ref qA2, .ref qA3, .ref qA4, .int 0, .ref qA5, .ref qA6, .ref qA7, .ref qA8, .ref qA9, .ref qA10, .ref qA11, .ref qA12, .int 0, .int 0, .ref qA13, .ref qA14, .int 0])) : Option (Nat × va_E)) ∧ u[kA2]? = (some (qA2, .inl (g 0, 1408, .inl (fun _ => 0))) : Option (Nat × va_E)) ∧ u[kA3]? = (some (qA3, .inl (g 3, 11, .inl (fun _ => 0))) : Option (Nat × va_E)) ∧ u[kA4]? = (some (qA4, .inl (g 0, 264, .inl (fun _ => 0))) : Option (Nat × va_E)) ∧ u[kA5]? = (some (qA5, .inl (g 0, 264, .inl (fun _ => 0))) : Option (Nat × va_E)) ∧ u[kA6]? = (some (qA6, .inl (g 0, 528, .inl (fun _ => 0))) : Option (Nat × va_E)) ∧ u[kA9]? = (some (qA9, .inl (g 0, 264, .inl (fun _ => 0))) : Option (Nat × va_E))) ∨ (∃ (ex0 : Nat → Int32), ¬ x2 < 1 ∧ x2 ≤ 64 ∧ q_un ws u [kO0, kA2, kA3, kA4, kA5, kA6, kA9] ∧ u[kO0]? = (some (qO0, .inr (13, [.int 0, .int 2, .ref qA1, .int 0, .ref qA2, .ref qA3, .ref qA4, .int 0, .ref qA5, .ref qA6, .ref qA7, .ref qA8, .ref qA9, .ref qA10, .ref qA11, .ref qA12, .int 0, .int 0, .ref qA13, .ref qA14, .int 0])) : Option (Nat × va_E)) ∧ u[kA2]? = (some (qA2, .inl (g 0, 1408, .inl ex0)) : Option (Nat × va_E)) ∧ u[kA3]? = (some (qA3, .inl (g 3, 11, .inl (fun _ => 0))) : Option (Nat × va_E)) ∧ u[kA4]? = (some (qA4, .inl (g 0, 264, .inl (upd (fun _ => 0) 0 1))) : Option (Nat × va_E)) ∧ u[kA5]? = (some (qA5, .inl (g 0, 264, .inl (upd (fun _ => 0) 0 1))) : Option (Nat × va_E)) ∧ u[kA6]? = (some (qA6, .inl (g 0, 528, .inl (fun _ => 0))) : Option (Nat × va_E)) ∧ u[kA9]? = (some (qA9, .inl (g 0, 264, .inl (fun _ => 0))) : Option (Nat × va_E))) ∨ (¬ x2 < 1 ∧ x2 ≤ 64 ∧ q_un ws u [kO0, kA2, kA3, kA4, kA5, kA6, kA9] ∧ u[kO0]? = (some (qO0, .inr (13, [.int 0, .int 2, .ref qA1, .int 0, .ref qA2, .ref qA3, .ref qA4, .int 0, .ref qA5, .ref qA6, .ref qA7, .ref qA8, .ref qA9, .ref qA10, .ref qA11, .ref qA12, .int 0, .int 0, .ref qA13, .ref qA14, .int 0])) : Option (Nat × va_E)) ∧ u[kA2]? = (some (qA2, .inl (g 0, 1408, .inl (fun _ => 0))) : Option (Nat × va_E)) ∧ u[kA3]? = (some (qA3, .inl (g 3, 11, .inl (fun _ => 0))) : Option (Nat × va_E)) ∧ u[kA4]? = (some (qA4, .inl (g 0, 264, .inl (fun _ => 0))) : Option (Nat × va_E)) ∧ u[kA5]? = (some (qA5, .inl (g 0, 264, .inl (upd (fun _ => 0) 0 1))) : Option (Nat × va_E)) ∧ u[kA6]? = (some (qA6, .inl (g 0, 528, .inl (upd (fun _ => 0) 0 1))) : Option (Nat × va_E)) ∧ u[kA9]? = (some (qA9, .inl (g 0, 264, .inl (fun _ => 0))) : Option (Nat × va_E))) ∨ (¬ x2 < 1 ∧ ¬ x2 ≤ 64 ∧ q_un ws u [kO0, kA2, kA3, kA4, kA5, kA6, kA9] ∧ u[kO0]? = (some (qO0, .inr (13, [.int 1, .int 0, .ref qA1, .int 0, .ref qA2, .ref qA3, .ref qA4, .int 0, .ref qA5, .ref qA6, .ref qA7, .ref qA8, .ref qA9, .ref qA10, .ref qA11, .ref qA12, .int 0, .int 0, .ref qA13, .ref qA14, .int 0])) : Option (Nat × va_E)) ∧ u[kA2]? = (some (qA2, .inl (g 0, 1408, .inl (fun _ => 0))) : Option (Nat × va_E)) ∧ u[kA3]? = (some (qA3, .inl (g 3, 11, .inl (fun _ => 0))) : Option (Nat × va_E)) ∧ u[kA4]? = (some (qA4, .inl (g 0, 264, .inl (fun _ => 0))) : Option (Nat × va_E)) ∧ u[kA5]? = (some (qA5, .inl (g 0, 264, .inl (fun _ => 0))) : Option (Nat × va_E)) ∧ u[kA6]? = (some (qA6, .inl (g 0, 528, .inl (fun _ => 0))) : Option (Nat × va_E)) ∧ u[kA9]? = (some (qA9, .inl (g 0, 264, .inl (fun _ => 0))) : Option (Nat × va_E)))) := by
  intro sz
  refine q_into (by decide) (Nat.le_of_ble_eq_true rfl) ?_
  intro p e s m below meth c ls hsz C0 V hl
  have hx := C0.1
  have hb := C0.2.1
  have hl : lv_has ls 5 [(0, .ref qO0), (1, .int x1), (2, .int x2), (3, .int x3)] := hl
  have n_A2_O0 := q_df hA2 hO0
  have n_A3_O0 := q_df hA3 hO0
  have n_A4_A2 := Ne.symm n_A2_A4
  have n_A4_A3 := Ne.symm n_A3_A4
  have n_A4_O0 := q_df hA4 hO0
  have n_A5_A2 := Ne.symm n_A2_A5
  have n_A5_A3 := Ne.symm n_A3_A5
  have n_A5_A4 := Ne.symm n_A4_A5
  have n_A5_O0 := q_df hA5 hO0
  have n_A6_A2 := Ne.symm n_A2_A6
  have n_A6_A3 := Ne.symm n_A3_A6
  have n_A6_A4 := Ne.symm n_A4_A6
  have n_A6_O0 := q_df hA6 hO0
  have n_A9_A2 := Ne.symm n_A2_A9
  have n_A9_A3 := Ne.symm n_A3_A9
  have n_A9_A4 := Ne.symm n_A4_A9
  have n_A9_A5 := Ne.symm n_A5_A9
  have n_A9_A6 := Ne.symm n_A6_A9
  have n_A9_O0 := q_df hA9 hO0
  have n_O0_A2 := Ne.symm (q_df hA2 hO0)
  have n_O0_A3 := Ne.symm (q_df hA3 hO0)
  have n_O0_A4 := Ne.symm (q_df hA4 hO0)
  have n_O0_A5 := Ne.symm (q_df hA5 hO0)
  have n_O0_A6 := Ne.symm (q_df hA6 hO0)
  have n_O0_A9 := Ne.symm (q_df hA9 hO0)
  have hF : q_un ws ws [kO0, kA2, kA3, kA4, kA5, kA6, kA9] := q_u0
  refine lv_aload_n hx hb d_19_31_0 rfl (lv_at hl 0 rfl) ?_
  refine lv_iload_n hx hb d_19_31_1 rfl (lv_at hl 1 rfl) ?_
  refine q_goi V (q_runS (As := [.int x1]) (rest := [.ref qO0]) (d := 1) (mc := 0) (ms := 0) C0 V rfl LS_WR_91 (c_WR_no l D g ws x1 x1lo x1hi _) rfl hl.1 rfl (Nat.le_of_ble_eq_true rfl) ⟨by decide, by decide⟩ ⟨Nat.le_of_ble_eq_true rfl, Nat.le_of_ble_eq_true rfl⟩ d_19_31_2) (fun v3 u2 H locs hp1 V => ?_)
  obtain ⟨rfl, rfl⟩ := hp1
  refine lv_if_ne (tgt := 26) hx hb d_19_31_5 (by decide) (fun c5 => absurd (by decide) c5) (fun c5 => ?_)
  refine lv_iload_n hx hb d_19_31_8 rfl (lv_at hl 3 rfl) ?_
  refine q_goi V (q_runS (As := [.int x3]) (rest := [.ref qO0]) (d := 1) (mc := 0) (ms := 0) C0 V rfl LS_WR_91 (c_WR_no l D g ws x3 x3lo x3hi _) rfl hl.1 rfl (Nat.le_of_ble_eq_true rfl) ⟨by decide, by decide⟩ ⟨Nat.le_of_ble_eq_true rfl, Nat.le_of_ble_eq_true rfl⟩ d_19_31_9) (fun v8 u7 H locs hp6 V => ?_)
  obtain ⟨rfl, rfl⟩ := hp6
  refine lv_if_ne (tgt := 26) hx hb d_19_31_12 (by decide) (fun c10 => absurd (by decide) c10) (fun c10 => ?_)
  refine lv_iload_n hx hb d_19_31_15 rfl (lv_at hl 2 rfl) ?_
  refine lv_iconst (v := 1) hx hb d_19_31_16 (by decide) ?_
  refine lv_icmp_lt (tgt := 26) hx hb d_19_31_17 (by decide) (fun c11 => ?_) (fun c11 => ?_)
  ·
    refine lv_iconst (v := 1) hx hb d_19_31_26 (by decide) ?_
    refine lv_goto (tgt := 44) hx hb d_19_31_27 (by decide) ?_
    refine q_put (ci := 13) (j := 0) (v := .int 1) (ty := .int) C0 V i_WR o_WR n_WR rfl rfl hO0 (by decide) w_1921 rfl rfl rfl rfl (Nat.le_of_ble_eq_true rfl) d_19_31_44 (fun H locs w12 hu13 hO0 V => ?_)
    replace hO0 : w12[kO0]? = (some (qO0, .inr (13, [.int 1, .int 0, .ref qA1, .int 0, .ref qA2, .ref qA3, .ref qA4, .int 0, .ref qA5, .ref qA6, .ref qA7, .ref qA8, .ref qA9, .ref qA10, .ref qA11, .ref qA12, .int 0, .int 0, .ref qA13, .ref qA14, .int 0])) : Option (Nat × va_E)) := hO0
    replace hF := q_us hF hu13 (.head _)
    refine lv_aload_n hx hb d_19_31_47 rfl (lv_at hl 0 rfl) ?_
    refine q_get (ci := 13) (j := 0) (v := .int 1) C0 V i_WR rfl rfl hO0 (by decide) w_1921 rfl d_19_31_48 ?_
    refine lv_if_le (tgt := 55) hx hb d_19_31_51 (by decide) (fun c14 => absurd c14 (by decide)) (fun c14 => ?_)
    replace hA2 := (hu13 _ n_A2_O0).trans (hA2)
    replace hA3 := (hu13 _ n_A3_O0).trans (hA3)
    replace hA4 := (hu13 _ n_A4_O0).trans (hA4)
    replace hA5 := (hu13 _ n_A5_O0).trans (hA5)
    replace hA6 := (hu13 _ n_A6_O0).trans (hA6)
    replace hA9 := (hu13 _ n_A9_O0).trans (hA9)
    exact q_retv C0 V (Or.inl ⟨c11, hF, hO0, hA2, hA3, hA4, hA5, hA6, hA9⟩) d_19_31_54
  ·
    refine lv_iload_n hx hb d_19_31_20 rfl (lv_at hl 2 rfl) ?_
    refine lv_bipush (v := 64) hx hb d_19_31_21 (by decide) ?_
    refine lv_icmp_le (tgt := 30) hx hb d_19_31_23 (by decide) (fun c15 => ?_) (fun c15 => ?_)
    ·
      refine lv_aload_n hx hb d_19_31_30 rfl (lv_at hl 0 rfl) ?_
      refine q_get (ci := 13) (j := 5) (v := .ref qA3) C0 V i_WR rfl rfl hO0 (by decide) w_1929 rfl d_19_31_31 ?_
      refine lv_iload_n hx hb d_19_31_34 rfl (lv_at hl 1 rfl) ?_
      refine q_zald C0 V hA3 (q_ix (x := x1.toInt) rfl (by have t1 : 0 ≤ x1.toInt := q_leI x1lo; have t2 : x1.toInt ≤ 9 := q_leI x1hi; omega) (by have t1 : 0 ≤ x1.toInt := q_leI x1lo; have t2 : x1.toInt ≤ 9 := q_leI x1hi; omega)) d_19_31_35 ?_
      refine q_ti (v := 0) (by first | rfl | decide | simp [upd, vp_updL, sb_cl0]) ?_
      refine lv_if_eq (tgt := 43) hx hb d_19_31_36 (by decide) (fun c16 => ?_) (fun c16 => absurd (by decide) c16)
      refine lv_iconst (v := 0) hx hb d_19_31_43 (by decide) ?_
      refine q_put (ci := 13) (j := 0) (v := .int 0) (ty := .int) C0 V i_WR o_WR n_WR rfl rfl hO0 (by decide) w_1921 rfl rfl rfl rfl (Nat.le_of_ble_eq_true rfl) d_19_31_44 (fun H locs w17 hu18 hO0 V => ?_)
      replace hO0 : w17[kO0]? = (some (qO0, .inr (13, [.int 0, .int 0, .ref qA1, .int 0, .ref qA2, .ref qA3, .ref qA4, .int 0, .ref qA5, .ref qA6, .ref qA7, .ref qA8, .ref qA9, .ref qA10, .ref qA11, .ref qA12, .int 0, .int 0, .ref qA13, .ref qA14, .int 0])) : Option (Nat × va_E)) := hO0
      replace hF := q_us hF hu18 (.head _)
      refine lv_aload_n hx hb d_19_31_47 rfl (lv_at hl 0 rfl) ?_
      refine q_get (ci := 13) (j := 0) (v := .int 0) C0 V i_WR rfl rfl hO0 (by decide) w_1921 rfl d_19_31_48 ?_
      refine lv_if_le (tgt := 55) hx hb d_19_31_51 (by decide) (fun c19 => ?_) (fun c19 => absurd (by decide) c19)
      refine lv_aload_n hx hb d_19_31_55 rfl (lv_at hl 0 rfl) ?_
      refine lv_iconst (v := 2) hx hb d_19_31_56 (by decide) ?_
      refine q_put (ci := 13) (j := 1) (v := .int 2) (ty := .int) C0 V i_WR o_WR n_WR rfl rfl hO0 (by decide) w_1923 rfl rfl rfl rfl (Nat.le_of_ble_eq_true rfl) d_19_31_57 (fun H locs w20 hu21 hO0 V => ?_)
      replace hO0 : w20[kO0]? = (some (qO0, .inr (13, [.int 0, .int 2, .ref qA1, .int 0, .ref qA2, .ref qA3, .ref qA4, .int 0, .ref qA5, .ref qA6, .ref qA7, .ref qA8, .ref qA9, .ref qA10, .ref qA11, .ref qA12, .int 0, .int 0, .ref qA13, .ref qA14, .int 0])) : Option (Nat × va_E)) := hO0
      replace hF := q_us hF hu21 (.head _)
      refine lv_aload_n hx hb d_19_31_60 rfl (lv_at hl 0 rfl) ?_
      refine lv_iload_n hx hb d_19_31_61 rfl (lv_at hl 1 rfl) ?_
      refine lv_aload_n hx hb d_19_31_62 rfl (lv_at hl 0 rfl) ?_
      refine q_get (ci := 13) (j := 12) (v := .ref qA9) C0 V i_WR rfl rfl hO0 (by decide) w_1936 rfl d_19_31_63 ?_
      replace hA9 := (hu21 _ n_A9_O0).trans ((hu18 _ n_A9_O0).trans (hA9))
      replace hA2 := (hu21 _ n_A2_O0).trans ((hu18 _ n_A2_O0).trans (hA2))
      refine q_gov V (q_runV (As := [.int x1, .ref qA9]) (rest := []) (d := 1) (mc := 0) (ms := 0) (ci := 13) C0 V rfl LV_WR_107 (c_WR_take_3 l D g w20 kO0 kA9 kA2 qO0 qA9 qA1 qA2 qA3 qA4 qA5 qA6 qA7 qA8 qA10 qA11 qA12 qA13 qA14 x1 hO0 hA9 hA2 n_A2_A9 x1lo x1hi _) rfl rfl hO0 rfl hl.1 rfl (Nat.le_of_ble_eq_true rfl) ⟨by decide, by decide⟩ ⟨Nat.le_of_ble_eq_true rfl, Nat.le_of_ble_eq_true rfl⟩ d_19_31_66) (fun u23 H locs hp22 V => ?_)
      obtain ⟨hg24, hA9⟩ := hp22
      replace hF := q_uc hF hg24 (q_sc (List.mem_of_getElem? (i := 6) rfl) (fun _ h => absurd h List.not_mem_nil))
      refine lv_aload_n hx hb d_19_31_69 rfl (lv_at hl 0 rfl) ?_
      replace hO0 := (hg24 _ (q_nc n_O0_A9 List.not_mem_nil)).trans (hO0)
      refine q_get (ci := 13) (j := 6) (v := .ref qA4) C0 V i_WR rfl rfl hO0 (by decide) w_1930 rfl d_19_31_70 ?_
      replace hA4 := (hg24 _ (q_nc n_A4_A9 List.not_mem_nil)).trans ((hu21 _ n_A4_O0).trans ((hu18 _ n_A4_O0).trans (hA4)))
      refine q_gov V (q_runS (As := [.ref qA4]) (rest := []) (d := 1) (mc := 0) (ms := 0) C0 V rfl LS_WR_63 (c_WR_clear_2 l D g u23 kA4 qA4 hA4 _) rfl hl.1 rfl (Nat.le_of_ble_eq_true rfl) ⟨by decide, by decide⟩ ⟨Nat.le_of_ble_eq_true rfl, Nat.le_of_ble_eq_true rfl⟩ d_19_31_73) (fun u26 H locs hp25 V => ?_)
      obtain ⟨hg27, hA4⟩ := hp25
      replace hF := q_uc hF hg27 (q_sc (List.mem_of_getElem? (i := 3) rfl) (fun _ h => absurd h List.not_mem_nil))
      refine lv_bipush (v := 16) hx hb d_19_31_76 (by decide) ?_
      refine lv_aload_n hx hb d_19_31_78 rfl (lv_at hl 0 rfl) ?_
      replace hO0 := (hg27 _ (q_nc n_O0_A4 List.not_mem_nil)).trans (hO0)
      refine q_get (ci := 13) (j := 12) (v := .ref qA9) C0 V i_WR rfl rfl hO0 (by decide) w_1936 rfl d_19_31_79 ?_
      replace hA9 := (hg27 _ (q_nc n_A9_A4 List.not_mem_nil)).trans (hA9)
      refine q_goi V (q_runS (As := [.ref qA9]) (rest := [.int 16]) (d := 1) (mc := 0) (ms := 0) C0 V rfl LS_WR_59 (c_WR_size l D g u26 kA9 qA9 hA9 _) rfl hl.1 rfl (Nat.le_of_ble_eq_true rfl) ⟨by decide, by decide⟩ ⟨Nat.le_of_ble_eq_true rfl, Nat.le_of_ble_eq_true rfl⟩ d_19_31_82) (fun v30 u29 H locs hp28 V => ?_)
      obtain ⟨rfl, rfl⟩ := hp28
      refine lv_imul hx hb d_19_31_85 ?_
      refine q_ti (v := 0) (by decide) ?_
      refine lv_iload_n hx hb d_19_31_86 rfl (lv_at hl 2 rfl) ?_
      refine lv_idiv hx hb d_19_31_87 (q_Ine (x := x2.toInt) (y := 0) rfl (by decide) (by have t1 : 1 ≤ x2.toInt := q_nltI c11; have t2 : x2.toInt ≤ 64 := q_leI c15; omega)) ?_
      refine q_ti (v := 0) (by simp) ?_
      refine lv_istore (lv' := [(4, .int 0), (0, .ref qO0), (1, .int x1), (2, .int x2), (3, .int x3)]) hx hb d_19_31_88 hl (by decide) rfl (fun ls hl => ?_)
      refine lv_iload hx hb d_19_31_90 (lv_at hl 0 rfl) ?_
      refine lv_if_lt (tgt := 167) hx hb d_19_31_92 (by decide) (fun c32 => absurd c32 (by decide)) (fun c32 => ?_)
      refine lv_aload_n hx hb d_19_31_95 rfl (lv_at hl 1 rfl) ?_
      refine q_get (ci := 13) (j := 6) (v := .ref qA4) C0 V i_WR rfl rfl hO0 (by decide) w_1930 rfl d_19_31_96 ?_
      refine lv_iload hx hb d_19_31_99 (lv_at hl 0 rfl) ?_
      refine lv_bipush (v := 16) hx hb d_19_31_101 (by decide) ?_
      refine lv_idiv hx hb d_19_31_103 (by decide) ?_
      refine q_ti (v := 0) (by decide) ?_
      refine lv_aload_n hx hb d_19_31_104 rfl (lv_at hl 1 rfl) ?_
      refine q_get (ci := 13) (j := 6) (v := .ref qA4) C0 V i_WR rfl rfl hO0 (by decide) w_1930 rfl d_19_31_105 ?_
      refine lv_iload hx hb d_19_31_108 (lv_at hl 0 rfl) ?_
      refine lv_bipush (v := 16) hx hb d_19_31_110 (by decide) ?_
      refine lv_idiv hx hb d_19_31_112 (by decide) ?_
      refine q_ti (v := 0) (by decide) ?_
      refine q_iald C0 V hA4 (by unfold vp_in; decide) d_19_31_113 ?_
      refine q_ti (v := 0) (by first | rfl | decide | simp [upd, vp_updL, sb_cl0]) ?_
      refine lv_iconst (v := 1) hx hb d_19_31_114 (by decide) ?_
      refine lv_iload hx hb d_19_31_115 (lv_at hl 0 rfl) ?_
      refine lv_bipush (v := 16) hx hb d_19_31_117 (by decide) ?_
      refine lv_irem hx hb d_19_31_119 (by decide) ?_
      refine q_ti (v := 0) (by decide) ?_
      refine lv_ishl hx hb d_19_31_120 ?_
      refine q_ti (v := 1) (by decide) ?_
      refine lv_ior hx hb d_19_31_121 ?_
      refine q_ti (v := 1) (by decide) ?_
      refine q_iast C0 V hA4 (by unfold vp_in; decide) d_19_31_122 (fun H locs w33 hu34 hA4 V => ?_)
      replace hA4 : w33[kA4]? = (some (qA4, .inl (g 0, 264, .inl (upd (fun _ => 0) 0 1))) : Option (Nat × va_E)) := hA4
      replace hF := q_us hF hu34 (List.mem_of_getElem? (i := 3) rfl)
      refine lv_aload_n hx hb d_19_31_123 rfl (lv_at hl 1 rfl) ?_
      refine lv_iload_n hx hb d_19_31_124 rfl (lv_at hl 3 rfl) ?_
      replace hO0 := (hu34 _ n_O0_A4).trans (hO0)
      replace hA5 := (hu34 _ n_A5_A4).trans ((hg27 _ (q_nc n_A5_A4 List.not_mem_nil)).trans ((hg24 _ (q_nc n_A5_A9 List.not_mem_nil)).trans ((hu21 _ n_A5_O0).trans ((hu18 _ n_A5_O0).trans (hA5)))))
      replace hA6 := (hu34 _ n_A6_A4).trans ((hg27 _ (q_nc n_A6_A4 List.not_mem_nil)).trans ((hg24 _ (q_nc n_A6_A9 List.not_mem_nil)).trans ((hu21 _ n_A6_O0).trans ((hu18 _ n_A6_O0).trans (hA6)))))
      replace hA9 := (hu34 _ n_A9_A4).trans (hA9)
      refine q_goi V (q_runV (As := [.int x2]) (rest := []) (d := 3) (mc := 0) (ms := 0) (ci := 13) C0 V rfl LV_WR_134 (c_WR_fits l D g w33 kO0 kA4 kA5 kA6 kA9 qO0 qA1 qA2 qA3 qA4 qA5 qA6 qA7 qA8 qA9 qA10 qA11 qA12 qA13 qA14 x2 hO0 hA4 hA5 hA6 hA9 n_A4_A5 n_A4_A6 n_A5_A6 n_A9_A5 n_A9_A6 (q_Ile (x := 1) (y := x2.toInt) (by decide) rfl (by have t1 : 1 ≤ x2.toInt := q_nltI c11; have t2 : x2.toInt ≤ 64 := q_leI c15; omega)) c15 _) rfl rfl hO0 rfl hl.1 rfl (Nat.le_of_ble_eq_true rfl) ⟨by decide, by decide⟩ ⟨Nat.le_of_ble_eq_true rfl, Nat.le_of_ble_eq_true rfl⟩ d_19_31_125) (fun v37 u36 H locs hp35 V => ?_)
      rcases hp35 with ⟨rfl, hg38, hA5, hA6⟩ | ⟨rfl, hg39, hA5, hA6⟩
      ·
        replace hF := q_uc hF hg38 (q_sc (List.mem_of_getElem? (i := 4) rfl) (q_sc (List.mem_of_getElem? (i := 5) rfl) (fun _ h => absurd h List.not_mem_nil)))
        refine lv_if_ne (tgt := 161) hx hb d_19_31_128 (by decide) (fun c40 => ?_) (fun c40 => absurd c40 (by decide))
        refine lv_iinc (v := (-1)) (lv' := [(4, .int (-1)), (0, .ref qO0), (1, .int x1), (2, .int x2), (3, .int x3)]) hx hb d_19_31_161 hl (k := 0) rfl (by decide) (by decide) rfl (fun ls hl => ?_)
        refine lv_goto (tgt := 90) hx hb d_19_31_164 (by decide) ?_
        refine lv_iload hx hb d_19_31_90 (lv_at hl 0 rfl) ?_
        refine lv_if_lt (tgt := 167) hx hb d_19_31_92 (by decide) (fun c41 => ?_) (fun c41 => absurd (by decide) c41)
        refine lv_aload_n hx hb d_19_31_167 rfl (lv_at hl 1 rfl) ?_
        refine lv_iconst (v := 0) hx hb d_19_31_168 (by decide) ?_
        replace hO0 := (hg38 _ (q_nc n_O0_A5 (q_nc n_O0_A6 List.not_mem_nil))).trans (hO0)
        refine q_put (ci := 13) (j := 7) (v := .int 0) (ty := .boolean) C0 V i_WR o_WR n_WR rfl rfl hO0 (by decide) w_1931 rfl rfl rfl rfl (Nat.le_of_ble_eq_true rfl) d_19_31_169 (fun H locs w42 hu43 hO0 V => ?_)
        replace hO0 : w42[kO0]? = (some (qO0, .inr (13, [.int 0, .int 2, .ref qA1, .int 0, .ref qA2, .ref qA3, .ref qA4, .int 0, .ref qA5, .ref qA6, .ref qA7, .ref qA8, .ref qA9, .ref qA10, .ref qA11, .ref qA12, .int 0, .int 0, .ref qA13, .ref qA14, .int 0])) : Option (Nat × va_E)) := hO0
        replace hF := q_us hF hu43 (.head _)
        refine lv_aload_n hx hb d_19_31_172 rfl (lv_at hl 1 rfl) ?_
        refine lv_iload_n hx hb d_19_31_173 rfl (lv_at hl 4 rfl) ?_
        replace hA2 := (hu43 _ n_A2_O0).trans ((hg38 _ (q_nc n_A2_A5 (q_nc n_A2_A6 List.not_mem_nil))).trans ((hu34 _ n_A2_A4).trans ((hg27 _ (q_nc n_A2_A4 List.not_mem_nil)).trans ((hg24 _ (q_nc n_A2_A9 List.not_mem_nil)).trans (hA2)))))
        replace hA3 := (hu43 _ n_A3_O0).trans ((hg38 _ (q_nc n_A3_A5 (q_nc n_A3_A6 List.not_mem_nil))).trans ((hu34 _ n_A3_A4).trans ((hg27 _ (q_nc n_A3_A4 List.not_mem_nil)).trans ((hg24 _ (q_nc n_A3_A9 List.not_mem_nil)).trans ((hu21 _ n_A3_O0).trans ((hu18 _ n_A3_O0).trans (hA3)))))))
        replace hA4 := (hu43 _ n_A4_O0).trans ((hg38 _ (q_nc n_A4_A5 (q_nc n_A4_A6 List.not_mem_nil))).trans (hA4))
        refine q_gov V (q_runV (As := [.int x3]) (rest := []) (d := 2) (mc := 0) (ms := 0) (ci := 13) C0 V rfl LV_WR_103 (c_WR_store_3 l D g w42 kO0 kA2 kA3 kA4 qO0 qA1 qA2 qA3 qA4 qA5 qA6 qA7 qA8 qA9 qA10 qA11 qA12 qA13 qA14 x3 hO0 hA2 hA3 hA4 n_A2_A3 n_A4_A2 n_A4_A3 x3lo x3hi _) rfl rfl hO0 rfl hl.1 rfl (Nat.le_of_ble_eq_true rfl) ⟨by decide, by decide⟩ ⟨Nat.le_of_ble_eq_true rfl, Nat.le_of_ble_eq_true rfl⟩ d_19_31_174) (fun u45 H locs hp44 V => ?_)
        obtain ⟨y46, hg47, hA2, hA3⟩ := hp44
        replace hF := q_uc hF hg47 (q_sc (.tail _ (.head _)) (q_sc (.tail _ (.tail _ (.head _))) (fun _ h => absurd h List.not_mem_nil)))
        replace hO0 := (hg47 _ (q_nc n_O0_A2 (q_nc n_O0_A3 List.not_mem_nil))).trans (hO0)
        replace hA4 := (hg47 _ (q_nc n_A4_A2 (q_nc n_A4_A3 List.not_mem_nil))).trans (hA4)
        replace hA5 := (hg47 _ (q_nc n_A5_A2 (q_nc n_A5_A3 List.not_mem_nil))).trans ((hu43 _ n_A5_O0).trans (hA5))
        replace hA6 := (hg47 _ (q_nc n_A6_A2 (q_nc n_A6_A3 List.not_mem_nil))).trans ((hu43 _ n_A6_O0).trans (hA6))
        replace hA9 := (hg47 _ (q_nc n_A9_A2 (q_nc n_A9_A3 List.not_mem_nil))).trans ((hu43 _ n_A9_O0).trans ((hg38 _ (q_nc n_A9_A5 (q_nc n_A9_A6 List.not_mem_nil))).trans (hA9)))
        exact q_retv C0 V (Or.inr (Or.inl ⟨y46, c11, c15, hF, hO0, hA2, hA3, hA4, hA5, hA6, hA9⟩)) d_19_31_177
      ·
        replace hF := q_uc hF hg39 (q_sc (List.mem_of_getElem? (i := 4) rfl) (q_sc (List.mem_of_getElem? (i := 5) rfl) (fun _ h => absurd h List.not_mem_nil)))
        refine lv_if_ne (tgt := 161) hx hb d_19_31_128 (by decide) (fun c48 => absurd (by decide) c48) (fun c48 => ?_)
        refine lv_aload_n hx hb d_19_31_131 rfl (lv_at hl 1 rfl) ?_
        replace hO0 := (hg39 _ (q_nc n_O0_A5 (q_nc n_O0_A6 List.not_mem_nil))).trans (hO0)
        refine q_get (ci := 13) (j := 6) (v := .ref qA4) C0 V i_WR rfl rfl hO0 (by decide) w_1930 rfl d_19_31_132 ?_
        refine lv_iload hx hb d_19_31_135 (lv_at hl 0 rfl) ?_
        refine lv_bipush (v := 16) hx hb d_19_31_137 (by decide) ?_
        refine lv_idiv hx hb d_19_31_139 (by decide) ?_
        refine q_ti (v := 0) (by decide) ?_
        refine lv_aload_n hx hb d_19_31_140 rfl (lv_at hl 1 rfl) ?_
        refine q_get (ci := 13) (j := 6) (v := .ref qA4) C0 V i_WR rfl rfl hO0 (by decide) w_1930 rfl d_19_31_141 ?_
        refine lv_iload hx hb d_19_31_144 (lv_at hl 0 rfl) ?_
        refine lv_bipush (v := 16) hx hb d_19_31_146 (by decide) ?_
        refine lv_idiv hx hb d_19_31_148 (by decide) ?_
        refine q_ti (v := 0) (by decide) ?_
        replace hA4 := (hg39 _ (q_nc n_A4_A5 (q_nc n_A4_A6 List.not_mem_nil))).trans (hA4)
        refine q_iald C0 V hA4 (by unfold vp_in; decide) d_19_31_149 ?_
        refine q_ti (v := 1) (by first | rfl | decide | simp [upd, vp_updL, sb_cl0]) ?_
        refine lv_iconst (v := 1) hx hb d_19_31_150 (by decide) ?_
        refine lv_iload hx hb d_19_31_151 (lv_at hl 0 rfl) ?_
        refine lv_bipush (v := 16) hx hb d_19_31_153 (by decide) ?_
        refine lv_irem hx hb d_19_31_155 (by decide) ?_
        refine q_ti (v := 0) (by decide) ?_
        refine lv_ishl hx hb d_19_31_156 ?_
        refine q_ti (v := 1) (by decide) ?_
        refine lv_iconst (v := (-1)) hx hb d_19_31_157 (by decide) ?_
        refine lv_ixor hx hb d_19_31_158 ?_
        refine q_ti (v := (-2)) (by decide) ?_
        refine lv_iand hx hb d_19_31_159 ?_
        refine q_ti (v := 0) (by decide) ?_
        refine q_iast C0 V hA4 (by unfold vp_in; decide) d_19_31_160 (fun H locs w49 hu50 hA4 V => ?_)
        replace hA4 : w49[kA4]? = (some (qA4, .inl (g 0, 264, .inl (upd (upd (fun _ => 0) 0 1) 0 0))) : Option (Nat × va_E)) := hA4
        replace hA4 := q_re (y := (qA4, .inl (g 0, 264, .inl (fun _ => 0)))) hA4 (q_eI (by funext k; simp only [upd]; (repeat' split) <;> first | rfl | omega))
        replace hA4 : w49[kA4]? = (some (qA4, .inl (g 0, 264, .inl (fun _ => 0))) : Option (Nat × va_E)) := hA4
        replace hF := q_us hF hu50 (List.mem_of_getElem? (i := 3) rfl)
        refine lv_iinc (v := (-1)) (lv' := [(4, .int (-1)), (0, .ref qO0), (1, .int x1), (2, .int x2), (3, .int x3)]) hx hb d_19_31_161 hl (k := 0) rfl (by decide) (by decide) rfl (fun ls hl => ?_)
        refine lv_goto (tgt := 90) hx hb d_19_31_164 (by decide) ?_
        refine lv_iload hx hb d_19_31_90 (lv_at hl 0 rfl) ?_
        refine lv_if_lt (tgt := 167) hx hb d_19_31_92 (by decide) (fun c51 => ?_) (fun c51 => absurd (by decide) c51)
        refine lv_aload_n hx hb d_19_31_167 rfl (lv_at hl 1 rfl) ?_
        refine lv_iconst (v := 0) hx hb d_19_31_168 (by decide) ?_
        replace hO0 := (hu50 _ n_O0_A4).trans (hO0)
        refine q_put (ci := 13) (j := 7) (v := .int 0) (ty := .boolean) C0 V i_WR o_WR n_WR rfl rfl hO0 (by decide) w_1931 rfl rfl rfl rfl (Nat.le_of_ble_eq_true rfl) d_19_31_169 (fun H locs w52 hu53 hO0 V => ?_)
        replace hO0 : w52[kO0]? = (some (qO0, .inr (13, [.int 0, .int 2, .ref qA1, .int 0, .ref qA2, .ref qA3, .ref qA4, .int 0, .ref qA5, .ref qA6, .ref qA7, .ref qA8, .ref qA9, .ref qA10, .ref qA11, .ref qA12, .int 0, .int 0, .ref qA13, .ref qA14, .int 0])) : Option (Nat × va_E)) := hO0
        replace hF := q_us hF hu53 (.head _)
        refine lv_aload_n hx hb d_19_31_172 rfl (lv_at hl 1 rfl) ?_
        refine lv_iload_n hx hb d_19_31_173 rfl (lv_at hl 4 rfl) ?_
        replace hA2 := (hu53 _ n_A2_O0).trans ((hu50 _ n_A2_A4).trans ((hg39 _ (q_nc n_A2_A5 (q_nc n_A2_A6 List.not_mem_nil))).trans ((hu34 _ n_A2_A4).trans ((hg27 _ (q_nc n_A2_A4 List.not_mem_nil)).trans ((hg24 _ (q_nc n_A2_A9 List.not_mem_nil)).trans (hA2))))))
        replace hA3 := (hu53 _ n_A3_O0).trans ((hu50 _ n_A3_A4).trans ((hg39 _ (q_nc n_A3_A5 (q_nc n_A3_A6 List.not_mem_nil))).trans ((hu34 _ n_A3_A4).trans ((hg27 _ (q_nc n_A3_A4 List.not_mem_nil)).trans ((hg24 _ (q_nc n_A3_A9 List.not_mem_nil)).trans ((hu21 _ n_A3_O0).trans ((hu18 _ n_A3_O0).trans (hA3))))))))
        replace hA4 := (hu53 _ n_A4_O0).trans (hA4)
        refine q_gov V (q_runV (As := [.int x3]) (rest := []) (d := 2) (mc := 0) (ms := 0) (ci := 13) C0 V rfl LV_WR_103 (c_WR_store l D g w52 kO0 kA2 kA3 kA4 qO0 qA1 qA2 qA3 qA4 qA5 qA6 qA7 qA8 qA9 qA10 qA11 qA12 qA13 qA14 x3 hO0 hA2 hA3 hA4 n_A2_A3 n_A4_A2 n_A4_A3 x3lo x3hi _) rfl rfl hO0 rfl hl.1 rfl (Nat.le_of_ble_eq_true rfl) ⟨by decide, by decide⟩ ⟨Nat.le_of_ble_eq_true rfl, Nat.le_of_ble_eq_true rfl⟩ d_19_31_174) (fun u55 H locs hp54 V => ?_)
        obtain ⟨hg56, hA2, hA3⟩ := hp54
        replace hF := q_uc hF hg56 (q_sc (.tail _ (.head _)) (q_sc (.tail _ (.tail _ (.head _))) (fun _ h => absurd h List.not_mem_nil)))
        replace hO0 := (hg56 _ (q_nc n_O0_A2 (q_nc n_O0_A3 List.not_mem_nil))).trans (hO0)
        replace hA4 := (hg56 _ (q_nc n_A4_A2 (q_nc n_A4_A3 List.not_mem_nil))).trans (hA4)
        replace hA5 := (hg56 _ (q_nc n_A5_A2 (q_nc n_A5_A3 List.not_mem_nil))).trans ((hu53 _ n_A5_O0).trans ((hu50 _ n_A5_A4).trans (hA5)))
        replace hA6 := (hg56 _ (q_nc n_A6_A2 (q_nc n_A6_A3 List.not_mem_nil))).trans ((hu53 _ n_A6_O0).trans ((hu50 _ n_A6_A4).trans (hA6)))
        replace hA9 := (hg56 _ (q_nc n_A9_A2 (q_nc n_A9_A3 List.not_mem_nil))).trans ((hu53 _ n_A9_O0).trans ((hu50 _ n_A9_A4).trans ((hg39 _ (q_nc n_A9_A5 (q_nc n_A9_A6 List.not_mem_nil))).trans (hA9))))
        exact q_retv C0 V (Or.inr (Or.inr (Or.inl ⟨c11, c15, hF, hO0, hA2, hA3, hA4, hA5, hA6, hA9⟩))) d_19_31_177
    ·
      refine lv_iconst (v := 1) hx hb d_19_31_26 (by decide) ?_
      refine lv_goto (tgt := 44) hx hb d_19_31_27 (by decide) ?_
      refine q_put (ci := 13) (j := 0) (v := .int 1) (ty := .int) C0 V i_WR o_WR n_WR rfl rfl hO0 (by decide) w_1921 rfl rfl rfl rfl (Nat.le_of_ble_eq_true rfl) d_19_31_44 (fun H locs w57 hu58 hO0 V => ?_)
      replace hO0 : w57[kO0]? = (some (qO0, .inr (13, [.int 1, .int 0, .ref qA1, .int 0, .ref qA2, .ref qA3, .ref qA4, .int 0, .ref qA5, .ref qA6, .ref qA7, .ref qA8, .ref qA9, .ref qA10, .ref qA11, .ref qA12, .int 0, .int 0, .ref qA13, .ref qA14, .int 0])) : Option (Nat × va_E)) := hO0
      replace hF := q_us hF hu58 (.head _)
      refine lv_aload_n hx hb d_19_31_47 rfl (lv_at hl 0 rfl) ?_
      refine q_get (ci := 13) (j := 0) (v := .int 1) C0 V i_WR rfl rfl hO0 (by decide) w_1921 rfl d_19_31_48 ?_
      refine lv_if_le (tgt := 55) hx hb d_19_31_51 (by decide) (fun c59 => absurd c59 (by decide)) (fun c59 => ?_)
      replace hA2 := (hu58 _ n_A2_O0).trans (hA2)
      replace hA3 := (hu58 _ n_A3_O0).trans (hA3)
      replace hA4 := (hu58 _ n_A4_O0).trans (hA4)
      replace hA5 := (hu58 _ n_A5_O0).trans (hA5)
      replace hA6 := (hu58 _ n_A6_O0).trans (hA6)
      replace hA9 := (hu58 _ n_A9_O0).trans (hA9)
      exact q_retv C0 V (Or.inr (Or.inr (Or.inr (⟨c11, c15, hF, hO0, hA2, hA3, hA4, hA5, hA6, hA9⟩)))) d_19_31_54
set_option maxRecDepth 100000 in
set_option maxHeartbeats 4000000 in
theorem c_WR_copy_4 (l : Launch) (D : va_G) (g : Nat → ClassId) (ws : va_W) (kA0 kA1 qA0 qA1 : Nat) (hA0 : ws[kA0]? = (some (qA0, .inl (g 0, 528, .inl (fun _ => 0))) : Option (Nat × va_E))) (hA1 : ws[kA1]? = (some (qA1, .inl (g 0, 264, .inl (upd (fun _ => 0) 0 1))) : Option (Nat × va_E))) (n_A0_A1 : kA0 ≠ kA1) : q_mV l y_WR_copy prog_19_method_5_code 3 1 0 0 D g [.ref qA0, .ref qA1] ws (fun u => q_un ws u [kA1] ∧ u[kA1]? = (some (qA1, .inl (g 0, 264, .inl (fun _ => 0))) : Option (Nat × va_E))) := by
  intro sz
  refine q_into (by decide) (Nat.le_of_ble_eq_true rfl) ?_
  intro p e s m below meth c ls hsz C0 V hl
  have hx := C0.1
  have hb := C0.2.1
  have hl : lv_has ls 3 [(0, .ref qA0), (1, .ref qA1)] := hl
  have hF : q_un ws ws [kA1] := q_u0
  refine lv_iconst (v := 0) hx hb d_19_5_0 (by decide) ?_
  refine lv_istore_n (lv' := [(2, .int 0), (0, .ref qA0), (1, .ref qA1)]) hx hb d_19_5_1 rfl hl (by decide) rfl (fun ls hl => ?_)
  refine q_loop (X := Int32) (fun z H locs ls w2 => (0 ≤ z.toInt ∧ (z.toInt ≤ 264 ∨ z.toInt = 0)) ∧ q_Wd D g (va_A ws sz) s w2 H locs ∧ lv_has ls 3 [(2, .int z), (0, .ref qA0), (1, .ref qA1)] ∧ q_un ws w2 [kA1] ∧ w2[kA0]? = (some (qA0, .inl (g 0, 528, .inl (fun _ => 0))) : Option (Nat × va_E)) ∧ w2[kA1]? = (some (qA1, .inl (g 0, 264, .inl (q_mix (fun _ => 0) (upd (fun _ => 0) 0 1) z))) : Option (Nat × va_E))) (fun z => (264 - z.toInt).toNat) ?_ ((0 : Int32)) _ _ _ ws ⟨⟨by decide, Or.inr (by decide)⟩, V, hl, hF, hA0, q_re hA1 (q_eI q_mx0)⟩
  rintro lx1 H locs ls w2 ⟨i3, V, hl, hF, hA0, hA1⟩ ih4
  replace i3 : 0 ≤ lx1.toInt ∧ (lx1.toInt ≤ 264 ∨ lx1.toInt = 0) := i3
  replace hl : lv_has ls 3 [(2, .int lx1), (0, .ref qA0), (1, .ref qA1)] := hl
  replace hA0 : w2[kA0]? = (some (qA0, .inl (g 0, 528, .inl (fun _ => 0))) : Option (Nat × va_E)) := hA0
  replace hA1 : w2[kA1]? = (some (qA1, .inl (g 0, 264, .inl (q_mix (fun _ => 0) (upd (fun _ => 0) 0 1) lx1))) : Option (Nat × va_E)) := hA1
  refine lv_iload_n hx hb d_19_5_2 rfl (lv_at hl 0 rfl) ?_
  refine lv_aload_n hx hb d_19_5_3 rfl (lv_at hl 2 rfl) ?_
  refine q_alen (t := 0) (v := 264) C0 V hA1 rfl (by first | rfl | decide) d_19_5_4 ?_
  refine lv_icmp_ge (tgt := 30) hx hb d_19_5_5 (by decide) (fun c5 => ?_) (fun c5 => ?_)
  ·
    replace hA1 : w2[kA1]? = (some (qA1, .inl (g 0, 264, .inl (fun _ => 0))) : Option (Nat × va_E)) := q_re hA1 (q_eI (q_mxe (n := 264) (by have t1 : 264 ≤ lx1.toInt := q_leI c5; omega) (by intro j hj; first | rfl | (simp only [upd]; (repeat' split) <;> first | rfl | omega))))
    exact q_retv C0 V (⟨hF, hA1⟩) d_19_5_30
  ·
    refine lv_aload_n hx hb d_19_5_8 rfl (lv_at hl 2 rfl) ?_
    refine lv_iload_n hx hb d_19_5_9 rfl (lv_at hl 0 rfl) ?_
    refine lv_iload_n hx hb d_19_5_10 rfl (lv_at hl 0 rfl) ?_
    refine lv_aload_n hx hb d_19_5_11 rfl (lv_at hl 1 rfl) ?_
    refine q_alen (t := 0) (v := 528) C0 V hA0 rfl (by first | rfl | decide) d_19_5_12 ?_
    refine lv_icmp_ge (tgt := 22) hx hb d_19_5_13 (by decide) (fun c6 => absurd c6 (Int32.not_le.mpr (q_Ilt (x := lx1.toInt) (y := 528) rfl (by decide) (by have t1 : lx1.toInt < 264 := q_nleI c5; omega)))) (fun c6 => ?_)
    refine lv_aload_n hx hb d_19_5_16 rfl (lv_at hl 1 rfl) ?_
    refine lv_iload_n hx hb d_19_5_17 rfl (lv_at hl 0 rfl) ?_
    refine q_iald C0 V hA0 (q_ix (x := lx1.toInt) rfl (by have t1 : lx1.toInt < 264 := q_nleI c5; omega) (by have t1 : lx1.toInt < 264 := q_nleI c5; omega)) d_19_5_18 ?_
    refine q_ti (v := 0) (by first | rfl | decide | simp [upd, vp_updL, sb_cl0]) ?_
    refine lv_goto (tgt := 23) hx hb d_19_5_19 (by decide) ?_
    refine q_iast C0 V hA1 (q_ix (x := lx1.toInt) rfl (by have t1 : lx1.toInt < 264 := q_nleI c5; omega) (by have t1 : lx1.toInt < 264 := q_nleI c5; omega)) d_19_5_23 (fun H locs w7 hu8 hA1 V => ?_)
    replace hA1 : w7[kA1]? = (some (qA1, .inl (g 0, 264, .inl (upd (q_mix (fun _ => 0) (upd (fun _ => 0) 0 1) lx1) lx1.toNatClampNeg 0))) : Option (Nat × va_E)) := hA1
    replace hF := q_us hF hu8 (.head _)
    refine lv_iinc (v := lx1 + 1) (lv' := [(2, .int (lx1 + 1)), (0, .ref qA0), (1, .ref qA1)]) hx hb d_19_5_24 hl (k := 0) rfl (rfl) (by decide) rfl (fun ls hl => ?_)
    refine lv_goto (tgt := 2) hx hb d_19_5_27 (by decide) ?_
    replace hA1 : w7[kA1]? = (some (qA1, .inl (g 0, 264, .inl (q_mix (fun _ => 0) (upd (fun _ => 0) 0 1) (lx1 + 1)))) : Option (Nat × va_E)) := q_re hA1 (q_eI (q_mxs (x := lx1) (y := lx1 + 1) rfl (by have t1 : lx1.toInt < 264 := q_nleI c5; omega) (show (lx1 + 1).toInt = lx1.toInt + 1 from (q_addI (x := lx1.toInt) (y := 1) rfl (by decide) (by have t1 : lx1.toInt < 264 := q_nleI c5; omega) (by have t1 : lx1.toInt < 264 := q_nleI c5; omega)))))
    replace hA0 := (hu8 _ n_A0_A1).trans (hA0)
    exact ih4 ((lx1 + 1 : Int32)) _ _ _ _ (show (264 - (lx1 + 1).toInt).toNat < (264 - lx1.toInt).toNat from by have t1 : lx1.toInt < 264 := q_nleI c5; have e : (lx1 + 1).toInt = (lx1.toInt + 1) := (q_addI (x := lx1.toInt) (y := 1) rfl (by decide) (by have t1 : lx1.toInt < 264 := q_nleI c5; omega) (by have t1 : lx1.toInt < 264 := q_nleI c5; omega)); omega) ⟨(show 0 ≤ (lx1 + 1).toInt ∧ ((lx1 + 1).toInt ≤ 264 ∨ (lx1 + 1).toInt = 0) from by have t1 : lx1.toInt < 264 := q_nleI c5; have e : (lx1 + 1).toInt = (lx1.toInt + 1) := (q_addI (x := lx1.toInt) (y := 1) rfl (by decide) (by have t1 : lx1.toInt < 264 := q_nleI c5; omega) (by have t1 : lx1.toInt < 264 := q_nleI c5; omega)); omega), V, q_lw hl (q_lw1 0 rfl (q_lw1 1 rfl (q_lw1 2 rfl q_lw0))), hF, hA0, hA1⟩
set_option maxRecDepth 100000 in
set_option maxHeartbeats 4000000 in
theorem c_WR_multiplyRows_3 (l : Launch) (D : va_G) (g : Nat → ClassId) (ws : va_W) (kO0 kA1 kA2 kA7 qO0 qA1 qA2 qA3 qA4 qA5 qA6 qA7 qA8 qA9 qA10 qA11 qA12 qA13 qA14 : Nat) (hO0 : ws[kO0]? = (some (qO0, .inr (13, [.int 0, .int 2, .ref qA3, .int 0, .ref qA4, .ref qA5, .ref qA1, .int 0, .ref qA6, .ref qA7, .ref qA8, .ref qA9, .ref qA2, .ref qA10, .ref qA11, .ref qA12, .int 0, .int 0, .ref qA13, .ref qA14, .int 0])) : Option (Nat × va_E))) (hA1 : ws[kA1]? = (some (qA1, .inl (g 0, 264, .inl (upd (fun _ => 0) 0 1))) : Option (Nat × va_E))) (hA2 : ws[kA2]? = (some (qA2, .inl (g 0, 264, .inl (fun _ => 0))) : Option (Nat × va_E))) (hA7 : ws[kA7]? = (some (qA7, .inl (g 0, 528, .inl (fun _ => 0))) : Option (Nat × va_E))) (n_A1_A7 : kA1 ≠ kA7) (n_A2_A1 : kA2 ≠ kA1) (n_A2_A7 : kA2 ≠ kA7) : q_mV l y_WR_multiplyRows prog_19_method_13_code 10 2 0 0 D g [.ref qO0, .ref qA1, .ref qA2, .ref qA1] ws (fun u => q_un ws u [kA1, kA7] ∧ u[kA1]? = (some (qA1, .inl (g 0, 264, .inl (fun _ => 0))) : Option (Nat × va_E)) ∧ u[kA7]? = (some (qA7, .inl (g 0, 528, .inl (fun _ => 0))) : Option (Nat × va_E))) := by
  intro sz
  refine q_into (by decide) (Nat.le_of_ble_eq_true rfl) ?_
  intro p e s m below meth c ls hsz C0 V hl
  have hx := C0.1
  have hb := C0.2.1
  have hl : lv_has ls 10 [(0, .ref qO0), (1, .ref qA1), (2, .ref qA2), (3, .ref qA1)] := hl
  have n_A7_A1 := Ne.symm n_A1_A7
  have n_O0_A1 := Ne.symm (q_df hA1 hO0)
  have n_O0_A7 := Ne.symm (q_df hA7 hO0)
  have hF : q_un ws ws [kA1, kA7] := q_u0
  refine lv_aload_n hx hb d_19_13_0 rfl (lv_at hl 0 rfl) ?_
  refine q_get (ci := 13) (j := 9) (v := .ref qA7) C0 V i_WR rfl rfl hO0 (by decide) w_1933 rfl d_19_13_1 ?_
  refine q_gov V (q_runS (As := [.ref qA7]) (rest := []) (d := 1) (mc := 0) (ms := 0) C0 V rfl LS_WR_63 (c_WR_clear l D g ws kA7 qA7 hA7 _) rfl hl.1 rfl (Nat.le_of_ble_eq_true rfl) ⟨by decide, by decide⟩ ⟨Nat.le_of_ble_eq_true rfl, Nat.le_of_ble_eq_true rfl⟩ d_19_13_4) (fun u2 H locs hp1 V => ?_)
  obtain ⟨hg3, hA7⟩ := hp1
  replace hF := q_uc hF hg3 (q_sc (.tail _ (.head _)) (fun _ h => absurd h List.not_mem_nil))
  refine lv_aload_n hx hb d_19_13_7 rfl (lv_at hl 1 rfl) ?_
  replace hA1 := (hg3 _ (q_nc n_A1_A7 List.not_mem_nil)).trans (hA1)
  refine q_goi V (q_runS (As := [.ref qA1]) (rest := []) (d := 1) (mc := 0) (ms := 0) C0 V rfl LS_WR_59 (c_WR_size_2 l D g u2 kA1 qA1 hA1 _) rfl hl.1 rfl (Nat.le_of_ble_eq_true rfl) ⟨by decide, by decide⟩ ⟨Nat.le_of_ble_eq_true rfl, Nat.le_of_ble_eq_true rfl⟩ d_19_13_8) (fun v6 u5 H locs hp4 V => ?_)
  obtain ⟨rfl, rfl⟩ := hp4
  refine lv_istore (lv' := [(4, .int 1), (0, .ref qO0), (1, .ref qA1), (2, .ref qA2), (3, .ref qA1)]) hx hb d_19_13_11 hl (by decide) rfl (fun ls hl => ?_)
  refine lv_aload_n hx hb d_19_13_13 rfl (lv_at hl 3 rfl) ?_
  replace hA2 := (hg3 _ (q_nc n_A2_A7 List.not_mem_nil)).trans (hA2)
  refine q_goi V (q_runS (As := [.ref qA2]) (rest := []) (d := 1) (mc := 0) (ms := 0) C0 V rfl LS_WR_59 (c_WR_size l D g u2 kA2 qA2 hA2 _) rfl hl.1 rfl (Nat.le_of_ble_eq_true rfl) ⟨by decide, by decide⟩ ⟨Nat.le_of_ble_eq_true rfl, Nat.le_of_ble_eq_true rfl⟩ d_19_13_14) (fun v10 u9 H locs hp8 V => ?_)
  obtain ⟨rfl, rfl⟩ := hp8
  refine lv_istore (lv' := [(5, .int 0), (4, .int 1), (0, .ref qO0), (1, .ref qA1), (2, .ref qA2), (3, .ref qA1)]) hx hb d_19_13_17 hl (by decide) rfl (fun ls hl => ?_)
  refine lv_iconst (v := 0) hx hb d_19_13_19 (by decide) ?_
  refine lv_istore (lv' := [(6, .int 0), (5, .int 0), (4, .int 1), (0, .ref qO0), (1, .ref qA1), (2, .ref qA2), (3, .ref qA1)]) hx hb d_19_13_20 hl (by decide) rfl (fun ls hl => ?_)
  refine lv_iload hx hb d_19_13_22 (lv_at hl 0 rfl) ?_
  refine lv_iload hx hb d_19_13_24 (lv_at hl 2 rfl) ?_
  refine lv_icmp_ge (tgt := 124) hx hb d_19_13_26 (by decide) (fun c12 => absurd c12 (by decide)) (fun c12 => ?_)
  refine lv_lconst (v := 0) hx hb d_19_13_29 (by decide) ?_
  refine lv_lstore (lv' := [(7, .long 0), (6, .int 0), (5, .int 0), (4, .int 1), (0, .ref qO0), (1, .ref qA1), (2, .ref qA2), (3, .ref qA1)]) hx hb d_19_13_30 hl (by decide) rfl (fun ls hl => ?_)
  refine lv_iconst (v := 0) hx hb d_19_13_32 (by decide) ?_
  refine lv_istore (lv' := [(9, .int 0), (7, .long 0), (6, .int 0), (5, .int 0), (4, .int 1), (0, .ref qO0), (1, .ref qA1), (2, .ref qA2), (3, .ref qA1)]) hx hb d_19_13_33 hl (by decide) rfl (fun ls hl => ?_)
  refine lv_iload hx hb d_19_13_35 (lv_at hl 0 rfl) ?_
  refine lv_iload hx hb d_19_13_37 (lv_at hl 3 rfl) ?_
  refine lv_icmp_lt (tgt := 49) hx hb d_19_13_39 (by decide) (fun c13 => absurd c13 (by decide)) (fun c13 => ?_)
  refine lv_lload hx hb d_19_13_42 (lv_at hl 1 rfl) ?_
  refine lv_lconst (v := 0) hx hb d_19_13_44 (by decide) ?_
  refine W.lcmp hx hb d_19_13_45 ?_
  refine q_ti (v := 0) (by decide) ?_
  refine lv_if_eq (tgt := 118) hx hb d_19_13_46 (by decide) (fun c14 => ?_) (fun c14 => absurd (by decide) c14)
  refine lv_iinc (v := 1) (lv' := [(6, .int 1), (9, .int 0), (7, .long 0), (5, .int 0), (4, .int 1), (0, .ref qO0), (1, .ref qA1), (2, .ref qA2), (3, .ref qA1)]) hx hb d_19_13_118 hl (k := 2) rfl (by decide) (by decide) rfl (fun ls hl => ?_)
  refine lv_goto (tgt := 22) hx hb d_19_13_121 (by decide) ?_
  refine lv_iload hx hb d_19_13_22 (lv_at hl 0 rfl) ?_
  refine lv_iload hx hb d_19_13_24 (lv_at hl 4 rfl) ?_
  refine lv_icmp_ge (tgt := 124) hx hb d_19_13_26 (by decide) (fun c15 => ?_) (fun c15 => absurd (by decide) c15)
  refine lv_aload_n hx hb d_19_13_124 rfl (lv_at hl 5 rfl) ?_
  replace hO0 := (hg3 _ (q_nc n_O0_A7 List.not_mem_nil)).trans (hO0)
  refine q_get (ci := 13) (j := 9) (v := .ref qA7) C0 V i_WR rfl rfl hO0 (by decide) w_1933 rfl d_19_13_125 ?_
  refine lv_aload_n hx hb d_19_13_128 rfl (lv_at hl 8 rfl) ?_
  refine q_gov V (q_runS (As := [.ref qA7, .ref qA1]) (rest := []) (d := 1) (mc := 0) (ms := 0) C0 V rfl LS_WR_67 (c_WR_copy_4 l D g u2 kA7 kA1 qA7 qA1 hA7 hA1 n_A7_A1 _) rfl hl.1 rfl (Nat.le_of_ble_eq_true rfl) ⟨by decide, by decide⟩ ⟨Nat.le_of_ble_eq_true rfl, Nat.le_of_ble_eq_true rfl⟩ d_19_13_129) (fun u17 H locs hp16 V => ?_)
  obtain ⟨hg18, hA1⟩ := hp16
  replace hF := q_uc hF hg18 (q_sc (.head _) (fun _ h => absurd h List.not_mem_nil))
  replace hA7 := (hg18 _ (q_nc n_A7_A1 List.not_mem_nil)).trans (hA7)
  exact q_retv C0 V (⟨hF, hA1, hA7⟩) d_19_13_132
set_option maxRecDepth 100000 in
set_option maxHeartbeats 4000000 in
theorem c_WR_multiplyRows_4 (l : Launch) (D : va_G) (g : Nat → ClassId) (ws : va_W) (kO0 kA1 kA2 kA7 qO0 qA1 qA2 qA3 qA4 qA5 qA6 qA7 qA8 qA9 qA10 qA11 qA12 qA13 qA14 : Nat) (hO0 : ws[kO0]? = (some (qO0, .inr (13, [.int 0, .int 2, .ref qA3, .int 0, .ref qA4, .ref qA5, .ref qA1, .int 0, .ref qA6, .ref qA7, .ref qA8, .ref qA9, .ref qA2, .ref qA10, .ref qA11, .ref qA12, .int 0, .int 0, .ref qA13, .ref qA14, .int 0])) : Option (Nat × va_E))) (hA1 : ws[kA1]? = (some (qA1, .inl (g 0, 264, .inl (fun _ => 0))) : Option (Nat × va_E))) (hA2 : ws[kA2]? = (some (qA2, .inl (g 0, 264, .inl (fun _ => 0))) : Option (Nat × va_E))) (hA7 : ws[kA7]? = (some (qA7, .inl (g 0, 528, .inl (fun _ => 0))) : Option (Nat × va_E))) (n_A1_A7 : kA1 ≠ kA7) (n_A2_A1 : kA2 ≠ kA1) (n_A2_A7 : kA2 ≠ kA7) : q_mV l y_WR_multiplyRows prog_19_method_13_code 10 2 0 0 D g [.ref qO0, .ref qA1, .ref qA2, .ref qA1] ws (fun u => q_un ws u [kA1, kA7] ∧ u[kA1]? = (some (qA1, .inl (g 0, 264, .inl (fun _ => 0))) : Option (Nat × va_E)) ∧ u[kA7]? = (some (qA7, .inl (g 0, 528, .inl (fun _ => 0))) : Option (Nat × va_E))) := by
  intro sz
  refine q_into (by decide) (Nat.le_of_ble_eq_true rfl) ?_
  intro p e s m below meth c ls hsz C0 V hl
  have hx := C0.1
  have hb := C0.2.1
  have hl : lv_has ls 10 [(0, .ref qO0), (1, .ref qA1), (2, .ref qA2), (3, .ref qA1)] := hl
  have n_A7_A1 := Ne.symm n_A1_A7
  have n_O0_A1 := Ne.symm (q_df hA1 hO0)
  have n_O0_A7 := Ne.symm (q_df hA7 hO0)
  have hF : q_un ws ws [kA1, kA7] := q_u0
  refine lv_aload_n hx hb d_19_13_0 rfl (lv_at hl 0 rfl) ?_
  refine q_get (ci := 13) (j := 9) (v := .ref qA7) C0 V i_WR rfl rfl hO0 (by decide) w_1933 rfl d_19_13_1 ?_
  refine q_gov V (q_runS (As := [.ref qA7]) (rest := []) (d := 1) (mc := 0) (ms := 0) C0 V rfl LS_WR_63 (c_WR_clear l D g ws kA7 qA7 hA7 _) rfl hl.1 rfl (Nat.le_of_ble_eq_true rfl) ⟨by decide, by decide⟩ ⟨Nat.le_of_ble_eq_true rfl, Nat.le_of_ble_eq_true rfl⟩ d_19_13_4) (fun u2 H locs hp1 V => ?_)
  obtain ⟨hg3, hA7⟩ := hp1
  replace hF := q_uc hF hg3 (q_sc (.tail _ (.head _)) (fun _ h => absurd h List.not_mem_nil))
  refine lv_aload_n hx hb d_19_13_7 rfl (lv_at hl 1 rfl) ?_
  replace hA1 := (hg3 _ (q_nc n_A1_A7 List.not_mem_nil)).trans (hA1)
  refine q_goi V (q_runS (As := [.ref qA1]) (rest := []) (d := 1) (mc := 0) (ms := 0) C0 V rfl LS_WR_59 (c_WR_size l D g u2 kA1 qA1 hA1 _) rfl hl.1 rfl (Nat.le_of_ble_eq_true rfl) ⟨by decide, by decide⟩ ⟨Nat.le_of_ble_eq_true rfl, Nat.le_of_ble_eq_true rfl⟩ d_19_13_8) (fun v6 u5 H locs hp4 V => ?_)
  obtain ⟨rfl, rfl⟩ := hp4
  refine lv_istore (lv' := [(4, .int 0), (0, .ref qO0), (1, .ref qA1), (2, .ref qA2), (3, .ref qA1)]) hx hb d_19_13_11 hl (by decide) rfl (fun ls hl => ?_)
  refine lv_aload_n hx hb d_19_13_13 rfl (lv_at hl 3 rfl) ?_
  replace hA2 := (hg3 _ (q_nc n_A2_A7 List.not_mem_nil)).trans (hA2)
  refine q_goi V (q_runS (As := [.ref qA2]) (rest := []) (d := 1) (mc := 0) (ms := 0) C0 V rfl LS_WR_59 (c_WR_size l D g u2 kA2 qA2 hA2 _) rfl hl.1 rfl (Nat.le_of_ble_eq_true rfl) ⟨by decide, by decide⟩ ⟨Nat.le_of_ble_eq_true rfl, Nat.le_of_ble_eq_true rfl⟩ d_19_13_14) (fun v10 u9 H locs hp8 V => ?_)
  obtain ⟨rfl, rfl⟩ := hp8
  refine lv_istore (lv' := [(5, .int 0), (4, .int 0), (0, .ref qO0), (1, .ref qA1), (2, .ref qA2), (3, .ref qA1)]) hx hb d_19_13_17 hl (by decide) rfl (fun ls hl => ?_)
  refine lv_iconst (v := 0) hx hb d_19_13_19 (by decide) ?_
  refine lv_istore (lv' := [(6, .int 0), (5, .int 0), (4, .int 0), (0, .ref qO0), (1, .ref qA1), (2, .ref qA2), (3, .ref qA1)]) hx hb d_19_13_20 hl (by decide) rfl (fun ls hl => ?_)
  refine lv_iload hx hb d_19_13_22 (lv_at hl 0 rfl) ?_
  refine lv_iload hx hb d_19_13_24 (lv_at hl 2 rfl) ?_
  refine lv_icmp_ge (tgt := 124) hx hb d_19_13_26 (by decide) (fun c12 => ?_) (fun c12 => absurd (by decide) c12)
  refine lv_aload_n hx hb d_19_13_124 rfl (lv_at hl 3 rfl) ?_
  replace hO0 := (hg3 _ (q_nc n_O0_A7 List.not_mem_nil)).trans (hO0)
  refine q_get (ci := 13) (j := 9) (v := .ref qA7) C0 V i_WR rfl rfl hO0 (by decide) w_1933 rfl d_19_13_125 ?_
  refine lv_aload_n hx hb d_19_13_128 rfl (lv_at hl 6 rfl) ?_
  refine q_gov V (q_runS (As := [.ref qA7, .ref qA1]) (rest := []) (d := 1) (mc := 0) (ms := 0) C0 V rfl LS_WR_67 (c_WR_copy_2 l D g u2 kA7 kA1 qA7 qA1 hA7 hA1 n_A7_A1 _) rfl hl.1 rfl (Nat.le_of_ble_eq_true rfl) ⟨by decide, by decide⟩ ⟨Nat.le_of_ble_eq_true rfl, Nat.le_of_ble_eq_true rfl⟩ d_19_13_129) (fun u14 H locs hp13 V => ?_)
  obtain ⟨hg15, hA1⟩ := hp13
  replace hF := q_uc hF hg15 (q_sc (.head _) (fun _ h => absurd h List.not_mem_nil))
  replace hA7 := (hg15 _ (q_nc n_A7_A1 List.not_mem_nil)).trans (hA7)
  exact q_retv C0 V (⟨hF, hA1, hA7⟩) d_19_13_132
theorem d_19_29_0 : decode prog_19_method_29_code 0 = .ok (.aload_n 0, 1) := by decide +kernel
theorem d_19_29_1 : decode prog_19_method_29_code 1 = .ok (.iload_n 1, 1) := by decide +kernel
theorem d_19_29_2 : decode prog_19_method_29_code 2 = .ok (.invokestatic 91, 3) := by decide +kernel
theorem d_19_29_5 : decode prog_19_method_29_code 5 = .ok (.ifCond .ne 14, 3) := by decide +kernel
theorem d_19_29_8 : decode prog_19_method_29_code 8 = .ok (.iload_n 3, 1) := by decide +kernel
theorem d_19_29_9 : decode prog_19_method_29_code 9 = .ok (.invokestatic 91, 3) := by decide +kernel
theorem d_19_29_12 : decode prog_19_method_29_code 12 = .ok (.ifCond .ne 7, 3) := by decide +kernel
theorem d_19_29_15 : decode prog_19_method_29_code 15 = .ok (.iload_n 2, 1) := by decide +kernel
theorem d_19_29_16 : decode prog_19_method_29_code 16 = .ok (.ifCond .ge 7, 3) := by decide +kernel
theorem d_19_29_23 : decode prog_19_method_29_code 23 = .ok (.iconst 0, 1) := by decide +kernel
theorem d_19_29_24 : decode prog_19_method_29_code 24 = .ok (.putfield 53, 3) := by decide +kernel
theorem d_19_29_27 : decode prog_19_method_29_code 27 = .ok (.aload_n 0, 1) := by decide +kernel
theorem d_19_29_28 : decode prog_19_method_29_code 28 = .ok (.getfield 53, 3) := by decide +kernel
theorem d_19_29_31 : decode prog_19_method_29_code 31 = .ok (.ifCond .le 4, 3) := by decide +kernel
theorem d_19_29_35 : decode prog_19_method_29_code 35 = .ok (.aload_n 0, 1) := by decide +kernel
theorem d_19_29_36 : decode prog_19_method_29_code 36 = .ok (.iconst 2, 1) := by decide +kernel
theorem d_19_29_37 : decode prog_19_method_29_code 37 = .ok (.putfield 79, 3) := by decide +kernel
theorem d_19_29_40 : decode prog_19_method_29_code 40 = .ok (.aload_n 0, 1) := by decide +kernel
theorem d_19_29_41 : decode prog_19_method_29_code 41 = .ok (.iload_n 1, 1) := by decide +kernel
theorem d_19_29_42 : decode prog_19_method_29_code 42 = .ok (.aload_n 0, 1) := by decide +kernel
theorem d_19_29_43 : decode prog_19_method_29_code 43 = .ok (.getfield 35, 3) := by decide +kernel
theorem d_19_29_46 : decode prog_19_method_29_code 46 = .ok (.invokevirtual 107, 3) := by decide +kernel
theorem d_19_29_49 : decode prog_19_method_29_code 49 = .ok (.aload_n 0, 1) := by decide +kernel
theorem d_19_29_50 : decode prog_19_method_29_code 50 = .ok (.aload_n 0, 1) := by decide +kernel
theorem d_19_29_51 : decode prog_19_method_29_code 51 = .ok (.getfield 20, 3) := by decide +kernel
theorem d_19_29_54 : decode prog_19_method_29_code 54 = .ok (.invokevirtual 131, 3) := by decide +kernel
theorem d_19_29_57 : decode prog_19_method_29_code 57 = .ok (.aload_n 0, 1) := by decide +kernel
theorem d_19_29_58 : decode prog_19_method_29_code 58 = .ok (.getfield 35, 3) := by decide +kernel
theorem d_19_29_61 : decode prog_19_method_29_code 61 = .ok (.invokestatic 59, 3) := by decide +kernel
theorem d_19_29_64 : decode prog_19_method_29_code 64 = .ok (.ifCond .eq 24, 3) := by decide +kernel
theorem d_19_29_88 : decode prog_19_method_29_code 88 = .ok (.iconst 1, 1) := by decide +kernel
theorem d_19_29_89 : decode prog_19_method_29_code 89 = .ok (.goto 4, 3) := by decide +kernel
theorem d_19_29_93 : decode prog_19_method_29_code 93 = .ok (.istore 4, 2) := by decide +kernel
theorem d_19_29_95 : decode prog_19_method_29_code 95 = .ok (.iload 4, 2) := by decide +kernel
theorem d_19_29_97 : decode prog_19_method_29_code 97 = .ok (.ifCond .eq 16, 3) := by decide +kernel
theorem d_19_29_100 : decode prog_19_method_29_code 100 = .ok (.iload_n 2, 1) := by decide +kernel
theorem d_19_29_101 : decode prog_19_method_29_code 101 = .ok (.iconst 2, 1) := by decide +kernel
theorem d_19_29_102 : decode prog_19_method_29_code 102 = .ok (.if_icmp .le 11, 3) := by decide +kernel
theorem d_19_29_113 : decode prog_19_method_29_code 113 = .ok (.iload_n 2, 1) := by decide +kernel
theorem d_19_29_114 : decode prog_19_method_29_code 114 = .ok (.istore 5, 2) := by decide +kernel
theorem d_19_29_116 : decode prog_19_method_29_code 116 = .ok (.iconst 0, 1) := by decide +kernel
theorem d_19_29_117 : decode prog_19_method_29_code 117 = .ok (.istore 6, 2) := by decide +kernel
theorem d_19_29_119 : decode prog_19_method_29_code 119 = .ok (.iload 6, 2) := by decide +kernel
theorem d_19_29_121 : decode prog_19_method_29_code 121 = .ok (.iload 5, 2) := by decide +kernel
theorem d_19_29_123 : decode prog_19_method_29_code 123 = .ok (.if_icmp .ge 44, 3) := by decide +kernel
theorem d_19_29_167 : decode prog_19_method_29_code 167 = .ok (.aload_n 0, 1) := by decide +kernel
theorem d_19_29_168 : decode prog_19_method_29_code 168 = .ok (.aload_n 0, 1) := by decide +kernel
theorem d_19_29_169 : decode prog_19_method_29_code 169 = .ok (.getfield 16, 3) := by decide +kernel
theorem d_19_29_172 : decode prog_19_method_29_code 172 = .ok (.iload_n 1, 1) := by decide +kernel
theorem d_19_29_173 : decode prog_19_method_29_code 173 = .ok (.baload, 1) := by decide +kernel
theorem d_19_29_174 : decode prog_19_method_29_code 174 = .ok (.ifCond .eq 14, 3) := by decide +kernel
theorem d_19_29_188 : decode prog_19_method_29_code 188 = .ok (.iconst 0, 1) := by decide +kernel
theorem d_19_29_189 : decode prog_19_method_29_code 189 = .ok (.putfield 82, 3) := by decide +kernel
theorem d_19_29_192 : decode prog_19_method_29_code 192 = .ok (.aload_n 0, 1) := by decide +kernel
theorem d_19_29_193 : decode prog_19_method_29_code 193 = .ok (.iload_n 3, 1) := by decide +kernel
theorem d_19_29_194 : decode prog_19_method_29_code 194 = .ok (.invokevirtual 103, 3) := by decide +kernel
theorem d_19_29_197 : decode prog_19_method_29_code 197 = .ok (.return_, 1) := by decide +kernel
theorem d_19_29_126 : decode prog_19_method_29_code 126 = .ok (.aload_n 0, 1) := by decide +kernel
theorem d_19_29_127 : decode prog_19_method_29_code 127 = .ok (.aload_n 0, 1) := by decide +kernel
theorem d_19_29_128 : decode prog_19_method_29_code 128 = .ok (.getfield 20, 3) := by decide +kernel
theorem d_19_29_131 : decode prog_19_method_29_code 131 = .ok (.aload_n 0, 1) := by decide +kernel
theorem d_19_29_132 : decode prog_19_method_29_code 132 = .ok (.getfield 35, 3) := by decide +kernel
theorem d_19_29_135 : decode prog_19_method_29_code 135 = .ok (.aload_n 0, 1) := by decide +kernel
theorem d_19_29_136 : decode prog_19_method_29_code 136 = .ok (.getfield 20, 3) := by decide +kernel
theorem d_19_29_139 : decode prog_19_method_29_code 139 = .ok (.invokevirtual 115, 3) := by decide +kernel
theorem d_19_29_142 : decode prog_19_method_29_code 142 = .ok (.aload_n 0, 1) := by decide +kernel
theorem d_19_29_143 : decode prog_19_method_29_code 143 = .ok (.getfield 20, 3) := by decide +kernel
theorem d_19_29_146 : decode prog_19_method_29_code 146 = .ok (.invokestatic 59, 3) := by decide +kernel
theorem d_19_29_149 : decode prog_19_method_29_code 149 = .ok (.sipush 128, 3) := by decide +kernel
theorem d_19_29_152 : decode prog_19_method_29_code 152 = .ok (.if_icmp .le 9, 3) := by decide +kernel
theorem d_19_29_161 : decode prog_19_method_29_code 161 = .ok (.iinc 6 1, 3) := by decide +kernel
theorem d_19_29_164 : decode prog_19_method_29_code 164 = .ok (.goto (-45), 3) := by decide +kernel
theorem d_19_29_105 : decode prog_19_method_29_code 105 = .ok (.iconst 2, 1) := by decide +kernel
theorem d_19_29_106 : decode prog_19_method_29_code 106 = .ok (.iload_n 2, 1) := by decide +kernel
theorem d_19_29_107 : decode prog_19_method_29_code 107 = .ok (.iconst 2, 1) := by decide +kernel
theorem d_19_29_108 : decode prog_19_method_29_code 108 = .ok (.irem, 1) := by decide +kernel
theorem d_19_29_109 : decode prog_19_method_29_code 109 = .ok (.isub, 1) := by decide +kernel
theorem d_19_29_110 : decode prog_19_method_29_code 110 = .ok (.goto 4, 3) := by decide +kernel
theorem d_19_29_19 : decode prog_19_method_29_code 19 = .ok (.iconst 1, 1) := by decide +kernel
theorem d_19_29_20 : decode prog_19_method_29_code 20 = .ok (.goto 4, 3) := by decide +kernel
theorem d_19_29_34 : decode prog_19_method_29_code 34 = .ok (.return_, 1) := by decide +kernel
def y_WR_power : MethodName := ⟨"NumberHouseModel$WholeRows", "power", "(III)V"⟩
set_option maxRecDepth 100000 in
set_option maxHeartbeats 4000000 in
theorem c_WR_power (l : Launch) (D : va_G) (g : Nat → ClassId) (ws : va_W) (kO0 kA2 kA3 kA4 kA6 kA9 qO0 qA1 qA2 qA3 qA4 qA5 qA6 qA7 qA8 qA9 qA10 qA11 qA12 qA13 qA14 : Nat) (x1 : Int32) (x2 : Int32) (x3 : Int32) (hO0 : ws[kO0]? = (some (qO0, .inr (13, [.int 0, .int 0, .ref qA1, .int 0, .ref qA2, .ref qA3, .ref qA4, .int 0, .ref qA5, .ref qA6, .ref qA7, .ref qA8, .ref qA9, .ref qA10, .ref qA11, .ref qA12, .int 0, .int 0, .ref qA13, .ref qA14, .int 0])) : Option (Nat × va_E))) (hA2 : ws[kA2]? = (some (qA2, .inl (g 0, 1408, .inl (fun _ => 0))) : Option (Nat × va_E))) (hA3 : ws[kA3]? = (some (qA3, .inl (g 3, 11, .inl (fun _ => 0))) : Option (Nat × va_E))) (hA4 : ws[kA4]? = (some (qA4, .inl (g 0, 264, .inl (fun _ => 0))) : Option (Nat × va_E))) (hA6 : ws[kA6]? = (some (qA6, .inl (g 0, 528, .inl (fun _ => 0))) : Option (Nat × va_E))) (hA9 : ws[kA9]? = (some (qA9, .inl (g 0, 264, .inl (fun _ => 0))) : Option (Nat × va_E))) (n_A2_A3 : kA2 ≠ kA3) (n_A2_A4 : kA2 ≠ kA4) (n_A2_A6 : kA2 ≠ kA6) (n_A2_A9 : kA2 ≠ kA9) (n_A3_A4 : kA3 ≠ kA4) (n_A3_A6 : kA3 ≠ kA6) (n_A3_A9 : kA3 ≠ kA9) (n_A4_A6 : kA4 ≠ kA6) (n_A4_A9 : kA4 ≠ kA9) (n_A6_A9 : kA6 ≠ kA9) (x1lo : 0 ≤ x1) (x1hi : x1 ≤ 9) (x3lo : 0 ≤ x3) (x3hi : x3 ≤ 9) : q_mV l y_WR_power prog_19_method_29_code 7 3 0 0 D g [.ref qO0, .int x1, .int x2, .int x3] ws (fun u => (∃ (ex0 : Nat → Int32), 0 ≤ x2 ∧ x2 ≤ 2 ∧ x2 ≤ 0 ∧ q_un ws u [kO0, kA2, kA3, kA4, kA6, kA9] ∧ u[kO0]? = (some (qO0, .inr (13, [.int 0, .int 2, .ref qA1, .int 0, .ref qA2, .ref qA3, .ref qA4, .int 0, .ref qA5, .ref qA6, .ref qA7, .ref qA8, .ref qA9, .ref qA10, .ref qA11, .ref qA12, .int 0, .int 0, .ref qA13, .ref qA14, .int 0])) : Option (Nat × va_E)) ∧ u[kA2]? = (some (qA2, .inl (g 0, 1408, .inl ex0)) : Option (Nat × va_E)) ∧ u[kA3]? = (some (qA3, .inl (g 3, 11, .inl (fun _ => 0))) : Option (Nat × va_E)) ∧ u[kA4]? = (some (qA4, .inl (g 0, 264, .inl (upd (fun _ => 0) 0 1))) : Option (Nat × va_E)) ∧ u[kA6]? = (some (qA6, .inl (g 0, 528, .inl (fun _ => 0))) : Option (Nat × va_E)) ∧ u[kA9]? = (some (qA9, .inl (g 0, 264, .inl (fun _ => 0))) : Option (Nat × va_E))) ∨ (0 ≤ x2 ∧ x2 ≤ 2 ∧ ¬ x2 ≤ 0 ∧ q_un ws u [kO0, kA2, kA3, kA4, kA6, kA9] ∧ u[kO0]? = (some (qO0, .inr (13, [.int 0, .int 2, .ref qA1, .int 0, .ref qA2, .ref qA3, .ref qA4, .int 0, .ref qA5, .ref qA6, .ref qA7, .ref qA8, .ref qA9, .ref qA10, .ref qA11, .ref qA12, .int 0, .int 0, .ref qA13, .ref qA14, .int 0])) : Option (Nat × va_E)) ∧ u[kA2]? = (some (qA2, .inl (g 0, 1408, .inl (fun _ => 0))) : Option (Nat × va_E)) ∧ u[kA3]? = (some (qA3, .inl (g 3, 11, .inl (fun _ => 0))) : Option (Nat × va_E)) ∧ u[kA4]? = (some (qA4, .inl (g 0, 264, .inl (fun _ => 0))) : Option (Nat × va_E)) ∧ u[kA6]? = (some (qA6, .inl (g 0, 528, .inl (fun _ => 0))) : Option (Nat × va_E)) ∧ u[kA9]? = (some (qA9, .inl (g 0, 264, .inl (fun _ => 0))) : Option (Nat × va_E))) ∨ (0 ≤ x2 ∧ ¬ x2 ≤ 2 ∧ q_un ws u [kO0, kA2, kA3, kA4, kA6, kA9] ∧ u[kO0]? = (some (qO0, .inr (13, [.int 0, .int 2, .ref qA1, .int 0, .ref qA2, .ref qA3, .ref qA4, .int 0, .ref qA5, .ref qA6, .ref qA7, .ref qA8, .ref qA9, .ref qA10, .ref qA11, .ref qA12, .int 0, .int 0, .ref qA13, .ref qA14, .int 0])) : Option (Nat × va_E)) ∧ u[kA2]? = (some (qA2, .inl (g 0, 1408, .inl (fun _ => 0))) : Option (Nat × va_E)) ∧ u[kA3]? = (some (qA3, .inl (g 3, 11, .inl (fun _ => 0))) : Option (Nat × va_E)) ∧ u[kA4]? = (some (qA4, .inl (g 0, 264, .inl (fun _ => 0))) : Option (Nat × va_E)) ∧ u[kA6]? = (some (qA6, .inl (g 0, 528, .inl (fun _ => 0))) : Option (Nat × va_E)) ∧ u[kA9]? = (some (qA9, .inl (g 0, 264, .inl (fun _ => 0))) : Option (Nat × va_E))) ∨ (¬ 0 ≤ x2 ∧ q_un ws u [kO0, kA2, kA3, kA4, kA6, kA9] ∧ u[kO0]? = (some (qO0, .inr (13, [.int 1, .int 0, .ref qA1, .int 0, .ref qA2, .ref qA3, .ref qA4, .int 0, .ref qA5, .ref qA6, .ref qA7, .ref qA8, .ref qA9, .ref qA10, .ref qA11, .ref qA12, .int 0, .int 0, .ref qA13, .ref qA14, .int 0])) : Option (Nat × va_E)) ∧ u[kA2]? = (some (qA2, .inl (g 0, 1408, .inl (fun _ => 0))) : Option (Nat × va_E)) ∧ u[kA3]? = (some (qA3, .inl (g 3, 11, .inl (fun _ => 0))) : Option (Nat × va_E)) ∧ u[kA4]? = (some (qA4, .inl (g 0, 264, .inl (fun _ => 0))) : Option (Nat × va_E)) ∧ u[kA6]? = (some (qA6, .inl (g 0, 528, .inl (fun _ => 0))) : Option (Nat × va_E)) ∧ u[kA9]? = (some (qA9, .inl (g 0, 264, .inl (fun _ => 0))) : Option (Nat × va_E)))) := by
  intro sz
  refine q_into (by decide) (Nat.le_of_ble_eq_true rfl) ?_
  intro p e s m below meth c ls hsz C0 V hl
  have hx := C0.1
  have hb := C0.2.1
  have hl : lv_has ls 7 [(0, .ref qO0), (1, .int x1), (2, .int x2), (3, .int x3)] := hl
  have n_A2_O0 := q_df hA2 hO0
  have n_A3_O0 := q_df hA3 hO0
  have n_A4_A2 := Ne.symm n_A2_A4
  have n_A4_A3 := Ne.symm n_A3_A4
  have n_A4_O0 := q_df hA4 hO0
  have n_A6_A2 := Ne.symm n_A2_A6
  have n_A6_A3 := Ne.symm n_A3_A6
  have n_A6_A4 := Ne.symm n_A4_A6
  have n_A6_O0 := q_df hA6 hO0
  have n_A9_A2 := Ne.symm n_A2_A9
  have n_A9_A3 := Ne.symm n_A3_A9
  have n_A9_A4 := Ne.symm n_A4_A9
  have n_A9_A6 := Ne.symm n_A6_A9
  have n_A9_O0 := q_df hA9 hO0
  have n_O0_A2 := Ne.symm (q_df hA2 hO0)
  have n_O0_A3 := Ne.symm (q_df hA3 hO0)
  have n_O0_A4 := Ne.symm (q_df hA4 hO0)
  have n_O0_A6 := Ne.symm (q_df hA6 hO0)
  have n_O0_A9 := Ne.symm (q_df hA9 hO0)
  have hF : q_un ws ws [kO0, kA2, kA3, kA4, kA6, kA9] := q_u0
  refine lv_aload_n hx hb d_19_29_0 rfl (lv_at hl 0 rfl) ?_
  refine lv_iload_n hx hb d_19_29_1 rfl (lv_at hl 1 rfl) ?_
  refine q_goi V (q_runS (As := [.int x1]) (rest := [.ref qO0]) (d := 1) (mc := 0) (ms := 0) C0 V rfl LS_WR_91 (c_WR_no l D g ws x1 x1lo x1hi _) rfl hl.1 rfl (Nat.le_of_ble_eq_true rfl) ⟨by decide, by decide⟩ ⟨Nat.le_of_ble_eq_true rfl, Nat.le_of_ble_eq_true rfl⟩ d_19_29_2) (fun v3 u2 H locs hp1 V => ?_)
  obtain ⟨rfl, rfl⟩ := hp1
  refine lv_if_ne (tgt := 19) hx hb d_19_29_5 (by decide) (fun c5 => absurd (by decide) c5) (fun c5 => ?_)
  refine lv_iload_n hx hb d_19_29_8 rfl (lv_at hl 3 rfl) ?_
  refine q_goi V (q_runS (As := [.int x3]) (rest := [.ref qO0]) (d := 1) (mc := 0) (ms := 0) C0 V rfl LS_WR_91 (c_WR_no l D g ws x3 x3lo x3hi _) rfl hl.1 rfl (Nat.le_of_ble_eq_true rfl) ⟨by decide, by decide⟩ ⟨Nat.le_of_ble_eq_true rfl, Nat.le_of_ble_eq_true rfl⟩ d_19_29_9) (fun v8 u7 H locs hp6 V => ?_)
  obtain ⟨rfl, rfl⟩ := hp6
  refine lv_if_ne (tgt := 19) hx hb d_19_29_12 (by decide) (fun c10 => absurd (by decide) c10) (fun c10 => ?_)
  refine lv_iload_n hx hb d_19_29_15 rfl (lv_at hl 2 rfl) ?_
  refine lv_if_ge (tgt := 23) hx hb d_19_29_16 (by decide) (fun c11 => ?_) (fun c11 => ?_)
  ·
    refine lv_iconst (v := 0) hx hb d_19_29_23 (by decide) ?_
    refine q_put (ci := 13) (j := 0) (v := .int 0) (ty := .int) C0 V i_WR o_WR n_WR rfl rfl hO0 (by decide) w_1921 rfl rfl rfl rfl (Nat.le_of_ble_eq_true rfl) d_19_29_24 (fun H locs w12 hu13 hO0 V => ?_)
    replace hO0 : w12[kO0]? = (some (qO0, .inr (13, [.int 0, .int 0, .ref qA1, .int 0, .ref qA2, .ref qA3, .ref qA4, .int 0, .ref qA5, .ref qA6, .ref qA7, .ref qA8, .ref qA9, .ref qA10, .ref qA11, .ref qA12, .int 0, .int 0, .ref qA13, .ref qA14, .int 0])) : Option (Nat × va_E)) := hO0
    replace hF := q_us hF hu13 (.head _)
    refine lv_aload_n hx hb d_19_29_27 rfl (lv_at hl 0 rfl) ?_
    refine q_get (ci := 13) (j := 0) (v := .int 0) C0 V i_WR rfl rfl hO0 (by decide) w_1921 rfl d_19_29_28 ?_
    refine lv_if_le (tgt := 35) hx hb d_19_29_31 (by decide) (fun c14 => ?_) (fun c14 => absurd (by decide) c14)
    refine lv_aload_n hx hb d_19_29_35 rfl (lv_at hl 0 rfl) ?_
    refine lv_iconst (v := 2) hx hb d_19_29_36 (by decide) ?_
    refine q_put (ci := 13) (j := 1) (v := .int 2) (ty := .int) C0 V i_WR o_WR n_WR rfl rfl hO0 (by decide) w_1923 rfl rfl rfl rfl (Nat.le_of_ble_eq_true rfl) d_19_29_37 (fun H locs w15 hu16 hO0 V => ?_)
    replace hO0 : w15[kO0]? = (some (qO0, .inr (13, [.int 0, .int 2, .ref qA1, .int 0, .ref qA2, .ref qA3, .ref qA4, .int 0, .ref qA5, .ref qA6, .ref qA7, .ref qA8, .ref qA9, .ref qA10, .ref qA11, .ref qA12, .int 0, .int 0, .ref qA13, .ref qA14, .int 0])) : Option (Nat × va_E)) := hO0
    replace hF := q_us hF hu16 (.head _)
    refine lv_aload_n hx hb d_19_29_40 rfl (lv_at hl 0 rfl) ?_
    refine lv_iload_n hx hb d_19_29_41 rfl (lv_at hl 1 rfl) ?_
    refine lv_aload_n hx hb d_19_29_42 rfl (lv_at hl 0 rfl) ?_
    refine q_get (ci := 13) (j := 12) (v := .ref qA9) C0 V i_WR rfl rfl hO0 (by decide) w_1936 rfl d_19_29_43 ?_
    replace hA9 := (hu16 _ n_A9_O0).trans ((hu13 _ n_A9_O0).trans (hA9))
    replace hA2 := (hu16 _ n_A2_O0).trans ((hu13 _ n_A2_O0).trans (hA2))
    refine q_gov V (q_runV (As := [.int x1, .ref qA9]) (rest := []) (d := 1) (mc := 0) (ms := 0) (ci := 13) C0 V rfl LV_WR_107 (c_WR_take_3 l D g w15 kO0 kA9 kA2 qO0 qA9 qA1 qA2 qA3 qA4 qA5 qA6 qA7 qA8 qA10 qA11 qA12 qA13 qA14 x1 hO0 hA9 hA2 n_A2_A9 x1lo x1hi _) rfl rfl hO0 rfl hl.1 rfl (Nat.le_of_ble_eq_true rfl) ⟨by decide, by decide⟩ ⟨Nat.le_of_ble_eq_true rfl, Nat.le_of_ble_eq_true rfl⟩ d_19_29_46) (fun u18 H locs hp17 V => ?_)
    obtain ⟨hg19, hA9⟩ := hp17
    replace hF := q_uc hF hg19 (q_sc (List.mem_of_getElem? (i := 5) rfl) (fun _ h => absurd h List.not_mem_nil))
    refine lv_aload_n hx hb d_19_29_49 rfl (lv_at hl 0 rfl) ?_
    refine lv_aload_n hx hb d_19_29_50 rfl (lv_at hl 0 rfl) ?_
    replace hO0 := (hg19 _ (q_nc n_O0_A9 List.not_mem_nil)).trans (hO0)
    refine q_get (ci := 13) (j := 6) (v := .ref qA4) C0 V i_WR rfl rfl hO0 (by decide) w_1930 rfl d_19_29_51 ?_
    replace hA4 := (hg19 _ (q_nc n_A4_A9 List.not_mem_nil)).trans ((hu16 _ n_A4_O0).trans ((hu13 _ n_A4_O0).trans (hA4)))
    refine q_gov V (q_runV (As := [.ref qA4]) (rest := []) (d := 2) (mc := 0) (ms := 0) (ci := 13) C0 V rfl LV_WR_131 (c_WR_setOne l D g u18 kA4 qO0 qA4 hA4 _) rfl rfl hO0 rfl hl.1 rfl (Nat.le_of_ble_eq_true rfl) ⟨by decide, by decide⟩ ⟨Nat.le_of_ble_eq_true rfl, Nat.le_of_ble_eq_true rfl⟩ d_19_29_54) (fun u21 H locs hp20 V => ?_)
    obtain ⟨hg22, hA4⟩ := hp20
    replace hF := q_uc hF hg22 (q_sc (List.mem_of_getElem? (i := 3) rfl) (fun _ h => absurd h List.not_mem_nil))
    refine lv_aload_n hx hb d_19_29_57 rfl (lv_at hl 0 rfl) ?_
    replace hO0 := (hg22 _ (q_nc n_O0_A4 List.not_mem_nil)).trans (hO0)
    refine q_get (ci := 13) (j := 12) (v := .ref qA9) C0 V i_WR rfl rfl hO0 (by decide) w_1936 rfl d_19_29_58 ?_
    replace hA9 := (hg22 _ (q_nc n_A9_A4 List.not_mem_nil)).trans (hA9)
    refine q_goi V (q_runS (As := [.ref qA9]) (rest := []) (d := 1) (mc := 0) (ms := 0) C0 V rfl LS_WR_59 (c_WR_size l D g u21 kA9 qA9 hA9 _) rfl hl.1 rfl (Nat.le_of_ble_eq_true rfl) ⟨by decide, by decide⟩ ⟨Nat.le_of_ble_eq_true rfl, Nat.le_of_ble_eq_true rfl⟩ d_19_29_61) (fun v25 u24 H locs hp23 V => ?_)
    obtain ⟨rfl, rfl⟩ := hp23
    refine lv_if_eq (tgt := 88) hx hb d_19_29_64 (by decide) (fun c27 => ?_) (fun c27 => absurd (by decide) c27)
    refine lv_iconst (v := 1) hx hb d_19_29_88 (by decide) ?_
    refine lv_goto (tgt := 93) hx hb d_19_29_89 (by decide) ?_
    refine lv_istore (lv' := [(4, .int 1), (0, .ref qO0), (1, .int x1), (2, .int x2), (3, .int x3)]) hx hb d_19_29_93 hl (by decide) rfl (fun ls hl => ?_)
    refine lv_iload hx hb d_19_29_95 (lv_at hl 0 rfl) ?_
    refine lv_if_eq (tgt := 113) hx hb d_19_29_97 (by decide) (fun c28 => absurd c28 (by decide)) (fun c28 => ?_)
    refine lv_iload_n hx hb d_19_29_100 rfl (lv_at hl 3 rfl) ?_
    refine lv_iconst (v := 2) hx hb d_19_29_101 (by decide) ?_
    refine lv_icmp_le (tgt := 113) hx hb d_19_29_102 (by decide) (fun c29 => ?_) (fun c29 => ?_)
    ·
      refine lv_iload_n hx hb d_19_29_113 rfl (lv_at hl 3 rfl) ?_
      refine lv_istore (lv' := [(5, .int x2), (4, .int 1), (0, .ref qO0), (1, .int x1), (2, .int x2), (3, .int x3)]) hx hb d_19_29_114 hl (by decide) rfl (fun ls hl => ?_)
      refine lv_iconst (v := 0) hx hb d_19_29_116 (by decide) ?_
      refine lv_istore (lv' := [(6, .int 0), (5, .int x2), (4, .int 1), (0, .ref qO0), (1, .int x1), (2, .int x2), (3, .int x3)]) hx hb d_19_29_117 hl (by decide) rfl (fun ls hl => ?_)
      refine lv_iload hx hb d_19_29_119 (lv_at hl 0 rfl) ?_
      refine lv_iload hx hb d_19_29_121 (lv_at hl 1 rfl) ?_
      refine lv_icmp_ge (tgt := 167) hx hb d_19_29_123 (by decide) (fun c30 => ?_) (fun c30 => ?_)
      ·
        refine lv_aload_n hx hb d_19_29_167 rfl (lv_at hl 3 rfl) ?_
        refine lv_aload_n hx hb d_19_29_168 rfl (lv_at hl 3 rfl) ?_
        refine q_get (ci := 13) (j := 5) (v := .ref qA3) C0 V i_WR rfl rfl hO0 (by decide) w_1929 rfl d_19_29_169 ?_
        refine lv_iload_n hx hb d_19_29_172 rfl (lv_at hl 4 rfl) ?_
        replace hA3 := (hg22 _ (q_nc n_A3_A4 List.not_mem_nil)).trans ((hg19 _ (q_nc n_A3_A9 List.not_mem_nil)).trans ((hu16 _ n_A3_O0).trans ((hu13 _ n_A3_O0).trans (hA3))))
        refine q_zald C0 V hA3 (q_ix (x := x1.toInt) rfl (by have t1 : 0 ≤ x1.toInt := q_leI x1lo; have t2 : x1.toInt ≤ 9 := q_leI x1hi; omega) (by have t1 : 0 ≤ x1.toInt := q_leI x1lo; have t2 : x1.toInt ≤ 9 := q_leI x1hi; omega)) d_19_29_173 ?_
        refine q_ti (v := 0) (by first | rfl | decide | simp [upd, vp_updL, sb_cl0]) ?_
        refine lv_if_eq (tgt := 188) hx hb d_19_29_174 (by decide) (fun c31 => ?_) (fun c31 => absurd (by decide) c31)
        refine lv_iconst (v := 0) hx hb d_19_29_188 (by decide) ?_
        refine q_put (ci := 13) (j := 7) (v := .int 0) (ty := .boolean) C0 V i_WR o_WR n_WR rfl rfl hO0 (by decide) w_1931 rfl rfl rfl rfl (Nat.le_of_ble_eq_true rfl) d_19_29_189 (fun H locs w32 hu33 hO0 V => ?_)
        replace hO0 : w32[kO0]? = (some (qO0, .inr (13, [.int 0, .int 2, .ref qA1, .int 0, .ref qA2, .ref qA3, .ref qA4, .int 0, .ref qA5, .ref qA6, .ref qA7, .ref qA8, .ref qA9, .ref qA10, .ref qA11, .ref qA12, .int 0, .int 0, .ref qA13, .ref qA14, .int 0])) : Option (Nat × va_E)) := hO0
        replace hF := q_us hF hu33 (.head _)
        refine lv_aload_n hx hb d_19_29_192 rfl (lv_at hl 3 rfl) ?_
        refine lv_iload_n hx hb d_19_29_193 rfl (lv_at hl 6 rfl) ?_
        replace hA2 := (hu33 _ n_A2_O0).trans ((hg22 _ (q_nc n_A2_A4 List.not_mem_nil)).trans ((hg19 _ (q_nc n_A2_A9 List.not_mem_nil)).trans (hA2)))
        replace hA3 := (hu33 _ n_A3_O0).trans (hA3)
        replace hA4 := (hu33 _ n_A4_O0).trans (hA4)
        refine q_gov V (q_runV (As := [.int x3]) (rest := []) (d := 2) (mc := 0) (ms := 0) (ci := 13) C0 V rfl LV_WR_103 (c_WR_store_3 l D g w32 kO0 kA2 kA3 kA4 qO0 qA1 qA2 qA3 qA4 qA5 qA6 qA7 qA8 qA9 qA10 qA11 qA12 qA13 qA14 x3 hO0 hA2 hA3 hA4 n_A2_A3 n_A4_A2 n_A4_A3 x3lo x3hi _) rfl rfl hO0 rfl hl.1 rfl (Nat.le_of_ble_eq_true rfl) ⟨by decide, by decide⟩ ⟨Nat.le_of_ble_eq_true rfl, Nat.le_of_ble_eq_true rfl⟩ d_19_29_194) (fun u35 H locs hp34 V => ?_)
        obtain ⟨y36, hg37, hA2, hA3⟩ := hp34
        replace hF := q_uc hF hg37 (q_sc (.tail _ (.head _)) (q_sc (.tail _ (.tail _ (.head _))) (fun _ h => absurd h List.not_mem_nil)))
        replace hO0 := (hg37 _ (q_nc n_O0_A2 (q_nc n_O0_A3 List.not_mem_nil))).trans (hO0)
        replace hA4 := (hg37 _ (q_nc n_A4_A2 (q_nc n_A4_A3 List.not_mem_nil))).trans (hA4)
        replace hA6 := (hg37 _ (q_nc n_A6_A2 (q_nc n_A6_A3 List.not_mem_nil))).trans ((hu33 _ n_A6_O0).trans ((hg22 _ (q_nc n_A6_A4 List.not_mem_nil)).trans ((hg19 _ (q_nc n_A6_A9 List.not_mem_nil)).trans ((hu16 _ n_A6_O0).trans ((hu13 _ n_A6_O0).trans (hA6))))))
        replace hA9 := (hg37 _ (q_nc n_A9_A2 (q_nc n_A9_A3 List.not_mem_nil))).trans ((hu33 _ n_A9_O0).trans (hA9))
        exact q_retv C0 V (Or.inl ⟨y36, c11, c29, c30, hF, hO0, hA2, hA3, hA4, hA6, hA9⟩) d_19_29_197
      ·
        refine lv_aload_n hx hb d_19_29_126 rfl (lv_at hl 3 rfl) ?_
        refine lv_aload_n hx hb d_19_29_127 rfl (lv_at hl 3 rfl) ?_
        refine q_get (ci := 13) (j := 6) (v := .ref qA4) C0 V i_WR rfl rfl hO0 (by decide) w_1930 rfl d_19_29_128 ?_
        refine lv_aload_n hx hb d_19_29_131 rfl (lv_at hl 3 rfl) ?_
        refine q_get (ci := 13) (j := 12) (v := .ref qA9) C0 V i_WR rfl rfl hO0 (by decide) w_1936 rfl d_19_29_132 ?_
        refine lv_aload_n hx hb d_19_29_135 rfl (lv_at hl 3 rfl) ?_
        refine q_get (ci := 13) (j := 6) (v := .ref qA4) C0 V i_WR rfl rfl hO0 (by decide) w_1930 rfl d_19_29_136 ?_
        replace hA6 := (hg22 _ (q_nc n_A6_A4 List.not_mem_nil)).trans ((hg19 _ (q_nc n_A6_A9 List.not_mem_nil)).trans ((hu16 _ n_A6_O0).trans ((hu13 _ n_A6_O0).trans (hA6))))
        refine q_gov V (q_runV (As := [.ref qA4, .ref qA9, .ref qA4]) (rest := []) (d := 2) (mc := 0) (ms := 0) (ci := 13) C0 V rfl LV_WR_115 (c_WR_multiplyRows_3 l D g u21 kO0 kA4 kA9 kA6 qO0 qA4 qA9 qA1 qA2 qA3 qA5 qA6 qA7 qA8 qA10 qA11 qA12 qA13 qA14 hO0 hA4 hA9 hA6 n_A4_A6 n_A9_A4 n_A9_A6 _) rfl rfl hO0 rfl hl.1 rfl (Nat.le_of_ble_eq_true rfl) ⟨by decide, by decide⟩ ⟨Nat.le_of_ble_eq_true rfl, Nat.le_of_ble_eq_true rfl⟩ d_19_29_139) (fun u39 H locs hp38 V => ?_)
        obtain ⟨hg40, hA4, hA6⟩ := hp38
        replace hF := q_uc hF hg40 (q_sc (List.mem_of_getElem? (i := 3) rfl) (q_sc (List.mem_of_getElem? (i := 4) rfl) (fun _ h => absurd h List.not_mem_nil)))
        refine lv_aload_n hx hb d_19_29_142 rfl (lv_at hl 3 rfl) ?_
        replace hO0 := (hg40 _ (q_nc n_O0_A4 (q_nc n_O0_A6 List.not_mem_nil))).trans (hO0)
        refine q_get (ci := 13) (j := 6) (v := .ref qA4) C0 V i_WR rfl rfl hO0 (by decide) w_1930 rfl d_19_29_143 ?_
        refine q_goi V (q_runS (As := [.ref qA4]) (rest := []) (d := 1) (mc := 0) (ms := 0) C0 V rfl LS_WR_59 (c_WR_size l D g u39 kA4 qA4 hA4 _) rfl hl.1 rfl (Nat.le_of_ble_eq_true rfl) ⟨by decide, by decide⟩ ⟨Nat.le_of_ble_eq_true rfl, Nat.le_of_ble_eq_true rfl⟩ d_19_29_146) (fun v43 u42 H locs hp41 V => ?_)
        obtain ⟨rfl, rfl⟩ := hp41
        refine lv_sipush (v := 128) hx hb d_19_29_149 (by decide) ?_
        refine lv_icmp_le (tgt := 161) hx hb d_19_29_152 (by decide) (fun c45 => ?_) (fun c45 => absurd (by decide) c45)
        refine lv_iinc (v := 1) (lv' := [(6, .int 1), (5, .int x2), (4, .int 1), (0, .ref qO0), (1, .int x1), (2, .int x2), (3, .int x3)]) hx hb d_19_29_161 hl (k := 0) rfl (by decide) (by decide) rfl (fun ls hl => ?_)
        refine lv_goto (tgt := 119) hx hb d_19_29_164 (by decide) ?_
        refine lv_iload hx hb d_19_29_119 (lv_at hl 0 rfl) ?_
        refine lv_iload hx hb d_19_29_121 (lv_at hl 1 rfl) ?_
        refine lv_icmp_ge (tgt := 167) hx hb d_19_29_123 (by decide) (fun c46 => ?_) (fun c46 => ?_)
        ·
          refine lv_aload_n hx hb d_19_29_167 rfl (lv_at hl 3 rfl) ?_
          refine lv_aload_n hx hb d_19_29_168 rfl (lv_at hl 3 rfl) ?_
          refine q_get (ci := 13) (j := 5) (v := .ref qA3) C0 V i_WR rfl rfl hO0 (by decide) w_1929 rfl d_19_29_169 ?_
          refine lv_iload_n hx hb d_19_29_172 rfl (lv_at hl 4 rfl) ?_
          replace hA3 := (hg40 _ (q_nc n_A3_A4 (q_nc n_A3_A6 List.not_mem_nil))).trans ((hg22 _ (q_nc n_A3_A4 List.not_mem_nil)).trans ((hg19 _ (q_nc n_A3_A9 List.not_mem_nil)).trans ((hu16 _ n_A3_O0).trans ((hu13 _ n_A3_O0).trans (hA3)))))
          refine q_zald C0 V hA3 (q_ix (x := x1.toInt) rfl (by have t1 : 0 ≤ x1.toInt := q_leI x1lo; have t2 : x1.toInt ≤ 9 := q_leI x1hi; omega) (by have t1 : 0 ≤ x1.toInt := q_leI x1lo; have t2 : x1.toInt ≤ 9 := q_leI x1hi; omega)) d_19_29_173 ?_
          refine q_ti (v := 0) (by first | rfl | decide | simp [upd, vp_updL, sb_cl0]) ?_
          refine lv_if_eq (tgt := 188) hx hb d_19_29_174 (by decide) (fun c47 => ?_) (fun c47 => absurd (by decide) c47)
          refine lv_iconst (v := 0) hx hb d_19_29_188 (by decide) ?_
          refine q_put (ci := 13) (j := 7) (v := .int 0) (ty := .boolean) C0 V i_WR o_WR n_WR rfl rfl hO0 (by decide) w_1931 rfl rfl rfl rfl (Nat.le_of_ble_eq_true rfl) d_19_29_189 (fun H locs w48 hu49 hO0 V => ?_)
          replace hO0 : w48[kO0]? = (some (qO0, .inr (13, [.int 0, .int 2, .ref qA1, .int 0, .ref qA2, .ref qA3, .ref qA4, .int 0, .ref qA5, .ref qA6, .ref qA7, .ref qA8, .ref qA9, .ref qA10, .ref qA11, .ref qA12, .int 0, .int 0, .ref qA13, .ref qA14, .int 0])) : Option (Nat × va_E)) := hO0
          replace hF := q_us hF hu49 (.head _)
          refine lv_aload_n hx hb d_19_29_192 rfl (lv_at hl 3 rfl) ?_
          refine lv_iload_n hx hb d_19_29_193 rfl (lv_at hl 6 rfl) ?_
          replace hA2 := (hu49 _ n_A2_O0).trans ((hg40 _ (q_nc n_A2_A4 (q_nc n_A2_A6 List.not_mem_nil))).trans ((hg22 _ (q_nc n_A2_A4 List.not_mem_nil)).trans ((hg19 _ (q_nc n_A2_A9 List.not_mem_nil)).trans (hA2))))
          replace hA3 := (hu49 _ n_A3_O0).trans (hA3)
          replace hA4 := (hu49 _ n_A4_O0).trans (hA4)
          refine q_gov V (q_runV (As := [.int x3]) (rest := []) (d := 2) (mc := 0) (ms := 0) (ci := 13) C0 V rfl LV_WR_103 (c_WR_store l D g w48 kO0 kA2 kA3 kA4 qO0 qA1 qA2 qA3 qA4 qA5 qA6 qA7 qA8 qA9 qA10 qA11 qA12 qA13 qA14 x3 hO0 hA2 hA3 hA4 n_A2_A3 n_A4_A2 n_A4_A3 x3lo x3hi _) rfl rfl hO0 rfl hl.1 rfl (Nat.le_of_ble_eq_true rfl) ⟨by decide, by decide⟩ ⟨Nat.le_of_ble_eq_true rfl, Nat.le_of_ble_eq_true rfl⟩ d_19_29_194) (fun u51 H locs hp50 V => ?_)
          obtain ⟨hg52, hA2, hA3⟩ := hp50
          replace hF := q_uc hF hg52 (q_sc (.tail _ (.head _)) (q_sc (.tail _ (.tail _ (.head _))) (fun _ h => absurd h List.not_mem_nil)))
          replace hO0 := (hg52 _ (q_nc n_O0_A2 (q_nc n_O0_A3 List.not_mem_nil))).trans (hO0)
          replace hA4 := (hg52 _ (q_nc n_A4_A2 (q_nc n_A4_A3 List.not_mem_nil))).trans (hA4)
          replace hA6 := (hg52 _ (q_nc n_A6_A2 (q_nc n_A6_A3 List.not_mem_nil))).trans ((hu49 _ n_A6_O0).trans (hA6))
          replace hA9 := (hg52 _ (q_nc n_A9_A2 (q_nc n_A9_A3 List.not_mem_nil))).trans ((hu49 _ n_A9_O0).trans ((hg40 _ (q_nc n_A9_A4 (q_nc n_A9_A6 List.not_mem_nil))).trans (hA9)))
          exact q_retv C0 V (Or.inr (Or.inl ⟨c11, c29, c30, hF, hO0, hA2, hA3, hA4, hA6, hA9⟩)) d_19_29_197
        ·
          refine lv_aload_n hx hb d_19_29_126 rfl (lv_at hl 3 rfl) ?_
          refine lv_aload_n hx hb d_19_29_127 rfl (lv_at hl 3 rfl) ?_
          refine q_get (ci := 13) (j := 6) (v := .ref qA4) C0 V i_WR rfl rfl hO0 (by decide) w_1930 rfl d_19_29_128 ?_
          refine lv_aload_n hx hb d_19_29_131 rfl (lv_at hl 3 rfl) ?_
          refine q_get (ci := 13) (j := 12) (v := .ref qA9) C0 V i_WR rfl rfl hO0 (by decide) w_1936 rfl d_19_29_132 ?_
          refine lv_aload_n hx hb d_19_29_135 rfl (lv_at hl 3 rfl) ?_
          refine q_get (ci := 13) (j := 6) (v := .ref qA4) C0 V i_WR rfl rfl hO0 (by decide) w_1930 rfl d_19_29_136 ?_
          replace hA9 := (hg40 _ (q_nc n_A9_A4 (q_nc n_A9_A6 List.not_mem_nil))).trans (hA9)
          refine q_gov V (q_runV (As := [.ref qA4, .ref qA9, .ref qA4]) (rest := []) (d := 2) (mc := 0) (ms := 0) (ci := 13) C0 V rfl LV_WR_115 (c_WR_multiplyRows_4 l D g u39 kO0 kA4 kA9 kA6 qO0 qA4 qA9 qA1 qA2 qA3 qA5 qA6 qA7 qA8 qA10 qA11 qA12 qA13 qA14 hO0 hA4 hA9 hA6 n_A4_A6 n_A9_A4 n_A9_A6 _) rfl rfl hO0 rfl hl.1 rfl (Nat.le_of_ble_eq_true rfl) ⟨by decide, by decide⟩ ⟨Nat.le_of_ble_eq_true rfl, Nat.le_of_ble_eq_true rfl⟩ d_19_29_139) (fun u54 H locs hp53 V => ?_)
          obtain ⟨hg55, hA4, hA6⟩ := hp53
          replace hF := q_uc hF hg55 (q_sc (List.mem_of_getElem? (i := 3) rfl) (q_sc (List.mem_of_getElem? (i := 4) rfl) (fun _ h => absurd h List.not_mem_nil)))
          refine lv_aload_n hx hb d_19_29_142 rfl (lv_at hl 3 rfl) ?_
          replace hO0 := (hg55 _ (q_nc n_O0_A4 (q_nc n_O0_A6 List.not_mem_nil))).trans (hO0)
          refine q_get (ci := 13) (j := 6) (v := .ref qA4) C0 V i_WR rfl rfl hO0 (by decide) w_1930 rfl d_19_29_143 ?_
          refine q_goi V (q_runS (As := [.ref qA4]) (rest := []) (d := 1) (mc := 0) (ms := 0) C0 V rfl LS_WR_59 (c_WR_size l D g u54 kA4 qA4 hA4 _) rfl hl.1 rfl (Nat.le_of_ble_eq_true rfl) ⟨by decide, by decide⟩ ⟨Nat.le_of_ble_eq_true rfl, Nat.le_of_ble_eq_true rfl⟩ d_19_29_146) (fun v58 u57 H locs hp56 V => ?_)
          obtain ⟨rfl, rfl⟩ := hp56
          refine lv_sipush (v := 128) hx hb d_19_29_149 (by decide) ?_
          refine lv_icmp_le (tgt := 161) hx hb d_19_29_152 (by decide) (fun c60 => ?_) (fun c60 => absurd (by decide) c60)
          refine lv_iinc (v := 2) (lv' := [(6, .int 2), (5, .int x2), (4, .int 1), (0, .ref qO0), (1, .int x1), (2, .int x2), (3, .int x3)]) hx hb d_19_29_161 hl (k := 0) rfl (by decide) (by decide) rfl (fun ls hl => ?_)
          refine lv_goto (tgt := 119) hx hb d_19_29_164 (by decide) ?_
          refine lv_iload hx hb d_19_29_119 (lv_at hl 0 rfl) ?_
          refine lv_iload hx hb d_19_29_121 (lv_at hl 1 rfl) ?_
          refine q_ti (v := 2) (q_Ieq (x := x2.toInt) (y := 2) rfl (by decide) (by have t1 : 0 ≤ x2.toInt := q_leI c11; have t2 : x2.toInt ≤ 2 := q_leI c29; have t3 : 0 < x2.toInt := q_nleI c30; have t4 : 1 < x2.toInt := q_nleI c46; omega)) ?_
          refine lv_icmp_ge (tgt := 167) hx hb d_19_29_123 (by decide) (fun c61 => ?_) (fun c61 => absurd (by decide) c61)
          refine lv_aload_n hx hb d_19_29_167 rfl (lv_at hl 3 rfl) ?_
          refine lv_aload_n hx hb d_19_29_168 rfl (lv_at hl 3 rfl) ?_
          refine q_get (ci := 13) (j := 5) (v := .ref qA3) C0 V i_WR rfl rfl hO0 (by decide) w_1929 rfl d_19_29_169 ?_
          refine lv_iload_n hx hb d_19_29_172 rfl (lv_at hl 4 rfl) ?_
          replace hA3 := (hg55 _ (q_nc n_A3_A4 (q_nc n_A3_A6 List.not_mem_nil))).trans ((hg40 _ (q_nc n_A3_A4 (q_nc n_A3_A6 List.not_mem_nil))).trans ((hg22 _ (q_nc n_A3_A4 List.not_mem_nil)).trans ((hg19 _ (q_nc n_A3_A9 List.not_mem_nil)).trans ((hu16 _ n_A3_O0).trans ((hu13 _ n_A3_O0).trans (hA3))))))
          refine q_zald C0 V hA3 (q_ix (x := x1.toInt) rfl (by have t1 : 0 ≤ x1.toInt := q_leI x1lo; have t2 : x1.toInt ≤ 9 := q_leI x1hi; omega) (by have t1 : 0 ≤ x1.toInt := q_leI x1lo; have t2 : x1.toInt ≤ 9 := q_leI x1hi; omega)) d_19_29_173 ?_
          refine q_ti (v := 0) (by first | rfl | decide | simp [upd, vp_updL, sb_cl0]) ?_
          refine lv_if_eq (tgt := 188) hx hb d_19_29_174 (by decide) (fun c62 => ?_) (fun c62 => absurd (by decide) c62)
          refine lv_iconst (v := 0) hx hb d_19_29_188 (by decide) ?_
          refine q_put (ci := 13) (j := 7) (v := .int 0) (ty := .boolean) C0 V i_WR o_WR n_WR rfl rfl hO0 (by decide) w_1931 rfl rfl rfl rfl (Nat.le_of_ble_eq_true rfl) d_19_29_189 (fun H locs w63 hu64 hO0 V => ?_)
          replace hO0 : w63[kO0]? = (some (qO0, .inr (13, [.int 0, .int 2, .ref qA1, .int 0, .ref qA2, .ref qA3, .ref qA4, .int 0, .ref qA5, .ref qA6, .ref qA7, .ref qA8, .ref qA9, .ref qA10, .ref qA11, .ref qA12, .int 0, .int 0, .ref qA13, .ref qA14, .int 0])) : Option (Nat × va_E)) := hO0
          replace hF := q_us hF hu64 (.head _)
          refine lv_aload_n hx hb d_19_29_192 rfl (lv_at hl 3 rfl) ?_
          refine lv_iload_n hx hb d_19_29_193 rfl (lv_at hl 6 rfl) ?_
          replace hA2 := (hu64 _ n_A2_O0).trans ((hg55 _ (q_nc n_A2_A4 (q_nc n_A2_A6 List.not_mem_nil))).trans ((hg40 _ (q_nc n_A2_A4 (q_nc n_A2_A6 List.not_mem_nil))).trans ((hg22 _ (q_nc n_A2_A4 List.not_mem_nil)).trans ((hg19 _ (q_nc n_A2_A9 List.not_mem_nil)).trans (hA2)))))
          replace hA3 := (hu64 _ n_A3_O0).trans (hA3)
          replace hA4 := (hu64 _ n_A4_O0).trans (hA4)
          refine q_gov V (q_runV (As := [.int x3]) (rest := []) (d := 2) (mc := 0) (ms := 0) (ci := 13) C0 V rfl LV_WR_103 (c_WR_store l D g w63 kO0 kA2 kA3 kA4 qO0 qA1 qA2 qA3 qA4 qA5 qA6 qA7 qA8 qA9 qA10 qA11 qA12 qA13 qA14 x3 hO0 hA2 hA3 hA4 n_A2_A3 n_A4_A2 n_A4_A3 x3lo x3hi _) rfl rfl hO0 rfl hl.1 rfl (Nat.le_of_ble_eq_true rfl) ⟨by decide, by decide⟩ ⟨Nat.le_of_ble_eq_true rfl, Nat.le_of_ble_eq_true rfl⟩ d_19_29_194) (fun u66 H locs hp65 V => ?_)
          obtain ⟨hg67, hA2, hA3⟩ := hp65
          replace hF := q_uc hF hg67 (q_sc (.tail _ (.head _)) (q_sc (.tail _ (.tail _ (.head _))) (fun _ h => absurd h List.not_mem_nil)))
          replace hO0 := (hg67 _ (q_nc n_O0_A2 (q_nc n_O0_A3 List.not_mem_nil))).trans (hO0)
          replace hA4 := (hg67 _ (q_nc n_A4_A2 (q_nc n_A4_A3 List.not_mem_nil))).trans (hA4)
          replace hA6 := (hg67 _ (q_nc n_A6_A2 (q_nc n_A6_A3 List.not_mem_nil))).trans ((hu64 _ n_A6_O0).trans (hA6))
          replace hA9 := (hg67 _ (q_nc n_A9_A2 (q_nc n_A9_A3 List.not_mem_nil))).trans ((hu64 _ n_A9_O0).trans ((hg55 _ (q_nc n_A9_A4 (q_nc n_A9_A6 List.not_mem_nil))).trans (hA9)))
          exact q_retv C0 V (Or.inr (Or.inl ⟨c11, c29, c30, hF, hO0, hA2, hA3, hA4, hA6, hA9⟩)) d_19_29_197
    ·
      refine lv_iconst (v := 2) hx hb d_19_29_105 (by decide) ?_
      refine lv_iload_n hx hb d_19_29_106 rfl (lv_at hl 3 rfl) ?_
      refine lv_iconst (v := 2) hx hb d_19_29_107 (by decide) ?_
      refine lv_irem hx hb d_19_29_108 (by decide) ?_
      refine lv_isub hx hb d_19_29_109 ?_
      refine lv_goto (tgt := 114) hx hb d_19_29_110 (by decide) ?_
      refine lv_istore (lv' := [(5, .int (2 - (x2 - x2 / 2 * 2))), (4, .int 1), (0, .ref qO0), (1, .int x1), (2, .int x2), (3, .int x3)]) hx hb d_19_29_114 hl (by decide) rfl (fun ls hl => ?_)
      refine lv_iconst (v := 0) hx hb d_19_29_116 (by decide) ?_
      refine lv_istore (lv' := [(6, .int 0), (5, .int (2 - (x2 - x2 / 2 * 2))), (4, .int 1), (0, .ref qO0), (1, .int x1), (2, .int x2), (3, .int x3)]) hx hb d_19_29_117 hl (by decide) rfl (fun ls hl => ?_)
      refine lv_iload hx hb d_19_29_119 (lv_at hl 0 rfl) ?_
      refine lv_iload hx hb d_19_29_121 (lv_at hl 1 rfl) ?_
      refine lv_icmp_ge (tgt := 167) hx hb d_19_29_123 (by decide) (fun c68 => absurd c68 (Int32.not_le.mpr (q_Ilt (x := 0) (y := (2 - (x2.toInt - ((x2.toInt / 2) * 2)))) (by decide) (q_subI (x := 2) (y := (x2.toInt - ((x2.toInt / 2) * 2))) (by decide) (q_subI (x := x2.toInt) (y := ((x2.toInt / 2) * 2)) rfl (q_mulI (x := (x2.toInt / 2)) (y := 2) (q_divI (x := x2.toInt) (y := 2) rfl (by decide) (by have t1 : 0 ≤ x2.toInt := q_leI c11; have t2 : 2 < x2.toInt := q_nleI c29; have y0h := q_hi32 (x := x2); omega) (by have t1 : 0 ≤ x2.toInt := q_leI c11; have t2 : 2 < x2.toInt := q_nleI c29; have y0h := q_hi32 (x := x2); omega)) (by decide) (by have t1 : 0 ≤ x2.toInt := q_leI c11; have t2 : 2 < x2.toInt := q_nleI c29; have y0h := q_hi32 (x := x2); omega) (by have t1 : 0 ≤ x2.toInt := q_leI c11; have t2 : 2 < x2.toInt := q_nleI c29; have y0h := q_hi32 (x := x2); omega)) (by have t1 : 0 ≤ x2.toInt := q_leI c11; have t2 : 2 < x2.toInt := q_nleI c29; have y0h := q_hi32 (x := x2); omega) (by have t1 : 0 ≤ x2.toInt := q_leI c11; have t2 : 2 < x2.toInt := q_nleI c29; have y0h := q_hi32 (x := x2); omega)) (by have t1 : 0 ≤ x2.toInt := q_leI c11; have t2 : 2 < x2.toInt := q_nleI c29; have y0h := q_hi32 (x := x2); omega) (by have t1 : 0 ≤ x2.toInt := q_leI c11; have t2 : 2 < x2.toInt := q_nleI c29; have y0h := q_hi32 (x := x2); omega)) (by have t1 : 0 ≤ x2.toInt := q_leI c11; have t2 : 2 < x2.toInt := q_nleI c29; have y0h := q_hi32 (x := x2); omega)))) (fun c68 => ?_)
      refine lv_aload_n hx hb d_19_29_126 rfl (lv_at hl 3 rfl) ?_
      refine lv_aload_n hx hb d_19_29_127 rfl (lv_at hl 3 rfl) ?_
      refine q_get (ci := 13) (j := 6) (v := .ref qA4) C0 V i_WR rfl rfl hO0 (by decide) w_1930 rfl d_19_29_128 ?_
      refine lv_aload_n hx hb d_19_29_131 rfl (lv_at hl 3 rfl) ?_
      refine q_get (ci := 13) (j := 12) (v := .ref qA9) C0 V i_WR rfl rfl hO0 (by decide) w_1936 rfl d_19_29_132 ?_
      refine lv_aload_n hx hb d_19_29_135 rfl (lv_at hl 3 rfl) ?_
      refine q_get (ci := 13) (j := 6) (v := .ref qA4) C0 V i_WR rfl rfl hO0 (by decide) w_1930 rfl d_19_29_136 ?_
      replace hA6 := (hg22 _ (q_nc n_A6_A4 List.not_mem_nil)).trans ((hg19 _ (q_nc n_A6_A9 List.not_mem_nil)).trans ((hu16 _ n_A6_O0).trans ((hu13 _ n_A6_O0).trans (hA6))))
      refine q_gov V (q_runV (As := [.ref qA4, .ref qA9, .ref qA4]) (rest := []) (d := 2) (mc := 0) (ms := 0) (ci := 13) C0 V rfl LV_WR_115 (c_WR_multiplyRows_3 l D g u21 kO0 kA4 kA9 kA6 qO0 qA4 qA9 qA1 qA2 qA3 qA5 qA6 qA7 qA8 qA10 qA11 qA12 qA13 qA14 hO0 hA4 hA9 hA6 n_A4_A6 n_A9_A4 n_A9_A6 _) rfl rfl hO0 rfl hl.1 rfl (Nat.le_of_ble_eq_true rfl) ⟨by decide, by decide⟩ ⟨Nat.le_of_ble_eq_true rfl, Nat.le_of_ble_eq_true rfl⟩ d_19_29_139) (fun u70 H locs hp69 V => ?_)
      obtain ⟨hg71, hA4, hA6⟩ := hp69
      replace hF := q_uc hF hg71 (q_sc (List.mem_of_getElem? (i := 3) rfl) (q_sc (List.mem_of_getElem? (i := 4) rfl) (fun _ h => absurd h List.not_mem_nil)))
      refine lv_aload_n hx hb d_19_29_142 rfl (lv_at hl 3 rfl) ?_
      replace hO0 := (hg71 _ (q_nc n_O0_A4 (q_nc n_O0_A6 List.not_mem_nil))).trans (hO0)
      refine q_get (ci := 13) (j := 6) (v := .ref qA4) C0 V i_WR rfl rfl hO0 (by decide) w_1930 rfl d_19_29_143 ?_
      refine q_goi V (q_runS (As := [.ref qA4]) (rest := []) (d := 1) (mc := 0) (ms := 0) C0 V rfl LS_WR_59 (c_WR_size l D g u70 kA4 qA4 hA4 _) rfl hl.1 rfl (Nat.le_of_ble_eq_true rfl) ⟨by decide, by decide⟩ ⟨Nat.le_of_ble_eq_true rfl, Nat.le_of_ble_eq_true rfl⟩ d_19_29_146) (fun v74 u73 H locs hp72 V => ?_)
      obtain ⟨rfl, rfl⟩ := hp72
      refine lv_sipush (v := 128) hx hb d_19_29_149 (by decide) ?_
      refine lv_icmp_le (tgt := 161) hx hb d_19_29_152 (by decide) (fun c76 => ?_) (fun c76 => absurd (by decide) c76)
      refine lv_iinc (v := 1) (lv' := [(6, .int 1), (5, .int (2 - (x2 - x2 / 2 * 2))), (4, .int 1), (0, .ref qO0), (1, .int x1), (2, .int x2), (3, .int x3)]) hx hb d_19_29_161 hl (k := 0) rfl (by decide) (by decide) rfl (fun ls hl => ?_)
      refine lv_goto (tgt := 119) hx hb d_19_29_164 (by decide) ?_
      refine lv_iload hx hb d_19_29_119 (lv_at hl 0 rfl) ?_
      refine lv_iload hx hb d_19_29_121 (lv_at hl 1 rfl) ?_
      refine lv_icmp_ge (tgt := 167) hx hb d_19_29_123 (by decide) (fun c77 => ?_) (fun c77 => ?_)
      ·
        refine lv_aload_n hx hb d_19_29_167 rfl (lv_at hl 3 rfl) ?_
        refine lv_aload_n hx hb d_19_29_168 rfl (lv_at hl 3 rfl) ?_
        refine q_get (ci := 13) (j := 5) (v := .ref qA3) C0 V i_WR rfl rfl hO0 (by decide) w_1929 rfl d_19_29_169 ?_
        refine lv_iload_n hx hb d_19_29_172 rfl (lv_at hl 4 rfl) ?_
        replace hA3 := (hg71 _ (q_nc n_A3_A4 (q_nc n_A3_A6 List.not_mem_nil))).trans ((hg22 _ (q_nc n_A3_A4 List.not_mem_nil)).trans ((hg19 _ (q_nc n_A3_A9 List.not_mem_nil)).trans ((hu16 _ n_A3_O0).trans ((hu13 _ n_A3_O0).trans (hA3)))))
        refine q_zald C0 V hA3 (q_ix (x := x1.toInt) rfl (by have t1 : 0 ≤ x1.toInt := q_leI x1lo; have t2 : x1.toInt ≤ 9 := q_leI x1hi; omega) (by have t1 : 0 ≤ x1.toInt := q_leI x1lo; have t2 : x1.toInt ≤ 9 := q_leI x1hi; omega)) d_19_29_173 ?_
        refine q_ti (v := 0) (by first | rfl | decide | simp [upd, vp_updL, sb_cl0]) ?_
        refine lv_if_eq (tgt := 188) hx hb d_19_29_174 (by decide) (fun c78 => ?_) (fun c78 => absurd (by decide) c78)
        refine lv_iconst (v := 0) hx hb d_19_29_188 (by decide) ?_
        refine q_put (ci := 13) (j := 7) (v := .int 0) (ty := .boolean) C0 V i_WR o_WR n_WR rfl rfl hO0 (by decide) w_1931 rfl rfl rfl rfl (Nat.le_of_ble_eq_true rfl) d_19_29_189 (fun H locs w79 hu80 hO0 V => ?_)
        replace hO0 : w79[kO0]? = (some (qO0, .inr (13, [.int 0, .int 2, .ref qA1, .int 0, .ref qA2, .ref qA3, .ref qA4, .int 0, .ref qA5, .ref qA6, .ref qA7, .ref qA8, .ref qA9, .ref qA10, .ref qA11, .ref qA12, .int 0, .int 0, .ref qA13, .ref qA14, .int 0])) : Option (Nat × va_E)) := hO0
        replace hF := q_us hF hu80 (.head _)
        refine lv_aload_n hx hb d_19_29_192 rfl (lv_at hl 3 rfl) ?_
        refine lv_iload_n hx hb d_19_29_193 rfl (lv_at hl 6 rfl) ?_
        replace hA2 := (hu80 _ n_A2_O0).trans ((hg71 _ (q_nc n_A2_A4 (q_nc n_A2_A6 List.not_mem_nil))).trans ((hg22 _ (q_nc n_A2_A4 List.not_mem_nil)).trans ((hg19 _ (q_nc n_A2_A9 List.not_mem_nil)).trans (hA2))))
        replace hA3 := (hu80 _ n_A3_O0).trans (hA3)
        replace hA4 := (hu80 _ n_A4_O0).trans (hA4)
        refine q_gov V (q_runV (As := [.int x3]) (rest := []) (d := 2) (mc := 0) (ms := 0) (ci := 13) C0 V rfl LV_WR_103 (c_WR_store l D g w79 kO0 kA2 kA3 kA4 qO0 qA1 qA2 qA3 qA4 qA5 qA6 qA7 qA8 qA9 qA10 qA11 qA12 qA13 qA14 x3 hO0 hA2 hA3 hA4 n_A2_A3 n_A4_A2 n_A4_A3 x3lo x3hi _) rfl rfl hO0 rfl hl.1 rfl (Nat.le_of_ble_eq_true rfl) ⟨by decide, by decide⟩ ⟨Nat.le_of_ble_eq_true rfl, Nat.le_of_ble_eq_true rfl⟩ d_19_29_194) (fun u82 H locs hp81 V => ?_)
        obtain ⟨hg83, hA2, hA3⟩ := hp81
        replace hF := q_uc hF hg83 (q_sc (.tail _ (.head _)) (q_sc (.tail _ (.tail _ (.head _))) (fun _ h => absurd h List.not_mem_nil)))
        replace hO0 := (hg83 _ (q_nc n_O0_A2 (q_nc n_O0_A3 List.not_mem_nil))).trans (hO0)
        replace hA4 := (hg83 _ (q_nc n_A4_A2 (q_nc n_A4_A3 List.not_mem_nil))).trans (hA4)
        replace hA6 := (hg83 _ (q_nc n_A6_A2 (q_nc n_A6_A3 List.not_mem_nil))).trans ((hu80 _ n_A6_O0).trans (hA6))
        replace hA9 := (hg83 _ (q_nc n_A9_A2 (q_nc n_A9_A3 List.not_mem_nil))).trans ((hu80 _ n_A9_O0).trans ((hg71 _ (q_nc n_A9_A4 (q_nc n_A9_A6 List.not_mem_nil))).trans (hA9)))
        exact q_retv C0 V (Or.inr (Or.inr (Or.inl ⟨c11, c29, hF, hO0, hA2, hA3, hA4, hA6, hA9⟩))) d_19_29_197
      ·
        refine lv_aload_n hx hb d_19_29_126 rfl (lv_at hl 3 rfl) ?_
        refine lv_aload_n hx hb d_19_29_127 rfl (lv_at hl 3 rfl) ?_
        refine q_get (ci := 13) (j := 6) (v := .ref qA4) C0 V i_WR rfl rfl hO0 (by decide) w_1930 rfl d_19_29_128 ?_
        refine lv_aload_n hx hb d_19_29_131 rfl (lv_at hl 3 rfl) ?_
        refine q_get (ci := 13) (j := 12) (v := .ref qA9) C0 V i_WR rfl rfl hO0 (by decide) w_1936 rfl d_19_29_132 ?_
        refine lv_aload_n hx hb d_19_29_135 rfl (lv_at hl 3 rfl) ?_
        refine q_get (ci := 13) (j := 6) (v := .ref qA4) C0 V i_WR rfl rfl hO0 (by decide) w_1930 rfl d_19_29_136 ?_
        replace hA9 := (hg71 _ (q_nc n_A9_A4 (q_nc n_A9_A6 List.not_mem_nil))).trans (hA9)
        refine q_gov V (q_runV (As := [.ref qA4, .ref qA9, .ref qA4]) (rest := []) (d := 2) (mc := 0) (ms := 0) (ci := 13) C0 V rfl LV_WR_115 (c_WR_multiplyRows_4 l D g u70 kO0 kA4 kA9 kA6 qO0 qA4 qA9 qA1 qA2 qA3 qA5 qA6 qA7 qA8 qA10 qA11 qA12 qA13 qA14 hO0 hA4 hA9 hA6 n_A4_A6 n_A9_A4 n_A9_A6 _) rfl rfl hO0 rfl hl.1 rfl (Nat.le_of_ble_eq_true rfl) ⟨by decide, by decide⟩ ⟨Nat.le_of_ble_eq_true rfl, Nat.le_of_ble_eq_true rfl⟩ d_19_29_139) (fun u85 H locs hp84 V => ?_)
        obtain ⟨hg86, hA4, hA6⟩ := hp84
        replace hF := q_uc hF hg86 (q_sc (List.mem_of_getElem? (i := 3) rfl) (q_sc (List.mem_of_getElem? (i := 4) rfl) (fun _ h => absurd h List.not_mem_nil)))
        refine lv_aload_n hx hb d_19_29_142 rfl (lv_at hl 3 rfl) ?_
        replace hO0 := (hg86 _ (q_nc n_O0_A4 (q_nc n_O0_A6 List.not_mem_nil))).trans (hO0)
        refine q_get (ci := 13) (j := 6) (v := .ref qA4) C0 V i_WR rfl rfl hO0 (by decide) w_1930 rfl d_19_29_143 ?_
        refine q_goi V (q_runS (As := [.ref qA4]) (rest := []) (d := 1) (mc := 0) (ms := 0) C0 V rfl LS_WR_59 (c_WR_size l D g u85 kA4 qA4 hA4 _) rfl hl.1 rfl (Nat.le_of_ble_eq_true rfl) ⟨by decide, by decide⟩ ⟨Nat.le_of_ble_eq_true rfl, Nat.le_of_ble_eq_true rfl⟩ d_19_29_146) (fun v89 u88 H locs hp87 V => ?_)
        obtain ⟨rfl, rfl⟩ := hp87
        refine lv_sipush (v := 128) hx hb d_19_29_149 (by decide) ?_
        refine lv_icmp_le (tgt := 161) hx hb d_19_29_152 (by decide) (fun c91 => ?_) (fun c91 => absurd (by decide) c91)
        refine lv_iinc (v := 2) (lv' := [(6, .int 2), (5, .int (2 - (x2 - x2 / 2 * 2))), (4, .int 1), (0, .ref qO0), (1, .int x1), (2, .int x2), (3, .int x3)]) hx hb d_19_29_161 hl (k := 0) rfl (by decide) (by decide) rfl (fun ls hl => ?_)
        refine lv_goto (tgt := 119) hx hb d_19_29_164 (by decide) ?_
        refine lv_iload hx hb d_19_29_119 (lv_at hl 0 rfl) ?_
        refine lv_iload hx hb d_19_29_121 (lv_at hl 1 rfl) ?_
        refine lv_icmp_ge (tgt := 167) hx hb d_19_29_123 (by decide) (fun c92 => ?_) (fun c92 => absurd (q_Ile (x := (2 - (x2.toInt - ((x2.toInt / 2) * 2)))) (y := 2) (q_subI (x := 2) (y := (x2.toInt - ((x2.toInt / 2) * 2))) (by decide) (q_subI (x := x2.toInt) (y := ((x2.toInt / 2) * 2)) rfl (q_mulI (x := (x2.toInt / 2)) (y := 2) (q_divI (x := x2.toInt) (y := 2) rfl (by decide) (by have t1 : 0 ≤ x2.toInt := q_leI c11; have t2 : 2 < x2.toInt := q_nleI c29; have t3 : 1 < (2 - (x2.toInt - ((x2.toInt / 2) * 2))) := by { have e1 : ((2 - (x2 - x2 / 2 * 2)) : Int32).toInt = (2 - (x2.toInt - ((x2.toInt / 2) * 2))) := (q_subI (x := 2) (y := (x2.toInt - ((x2.toInt / 2) * 2))) (by decide) (q_subI (x := x2.toInt) (y := ((x2.toInt / 2) * 2)) rfl (q_mulI (x := (x2.toInt / 2)) (y := 2) (q_divI (x := x2.toInt) (y := 2) rfl (by decide) (by have t1 : 0 ≤ x2.toInt := q_leI c11; have t2 : 2 < x2.toInt := q_nleI c29; have y0h := q_hi32 (x := x2); omega) (by have t1 : 0 ≤ x2.toInt := q_leI c11; have t2 : 2 < x2.toInt := q_nleI c29; have y0h := q_hi32 (x := x2); omega)) (by decide) (by have t1 : 0 ≤ x2.toInt := q_leI c11; have t2 : 2 < x2.toInt := q_nleI c29; have y0h := q_hi32 (x := x2); omega) (by have t1 : 0 ≤ x2.toInt := q_leI c11; have t2 : 2 < x2.toInt := q_nleI c29; have y0h := q_hi32 (x := x2); omega)) (by have t1 : 0 ≤ x2.toInt := q_leI c11; have t2 : 2 < x2.toInt := q_nleI c29; have y0h := q_hi32 (x := x2); omega) (by have t1 : 0 ≤ x2.toInt := q_leI c11; have t2 : 2 < x2.toInt := q_nleI c29; have y0h := q_hi32 (x := x2); omega)) (by have t1 : 0 ≤ x2.toInt := q_leI c11; have t2 : 2 < x2.toInt := q_nleI c29; have y0h := q_hi32 (x := x2); omega) (by have t1 : 0 ≤ x2.toInt := q_leI c11; have t2 : 2 < x2.toInt := q_nleI c29; have y0h := q_hi32 (x := x2); omega)); have e2 : (1 : Int32).toInt = 1 := (by decide); have e3 := q_nleI c77; omega }; have y0h := q_hi32 (x := x2); omega) (by have t1 : 0 ≤ x2.toInt := q_leI c11; have t2 : 2 < x2.toInt := q_nleI c29; have t3 : 1 < (2 - (x2.toInt - ((x2.toInt / 2) * 2))) := by { have e1 : ((2 - (x2 - x2 / 2 * 2)) : Int32).toInt = (2 - (x2.toInt - ((x2.toInt / 2) * 2))) := (q_subI (x := 2) (y := (x2.toInt - ((x2.toInt / 2) * 2))) (by decide) (q_subI (x := x2.toInt) (y := ((x2.toInt / 2) * 2)) rfl (q_mulI (x := (x2.toInt / 2)) (y := 2) (q_divI (x := x2.toInt) (y := 2) rfl (by decide) (by have t1 : 0 ≤ x2.toInt := q_leI c11; have t2 : 2 < x2.toInt := q_nleI c29; have y0h := q_hi32 (x := x2); omega) (by have t1 : 0 ≤ x2.toInt := q_leI c11; have t2 : 2 < x2.toInt := q_nleI c29; have y0h := q_hi32 (x := x2); omega)) (by decide) (by have t1 : 0 ≤ x2.toInt := q_leI c11; have t2 : 2 < x2.toInt := q_nleI c29; have y0h := q_hi32 (x := x2); omega) (by have t1 : 0 ≤ x2.toInt := q_leI c11; have t2 : 2 < x2.toInt := q_nleI c29; have y0h := q_hi32 (x := x2); omega)) (by have t1 : 0 ≤ x2.toInt := q_leI c11; have t2 : 2 < x2.toInt := q_nleI c29; have y0h := q_hi32 (x := x2); omega) (by have t1 : 0 ≤ x2.toInt := q_leI c11; have t2 : 2 < x2.toInt := q_nleI c29; have y0h := q_hi32 (x := x2); omega)) (by have t1 : 0 ≤ x2.toInt := q_leI c11; have t2 : 2 < x2.toInt := q_nleI c29; have y0h := q_hi32 (x := x2); omega) (by have t1 : 0 ≤ x2.toInt := q_leI c11; have t2 : 2 < x2.toInt := q_nleI c29; have y0h := q_hi32 (x := x2); omega)); have e2 : (1 : Int32).toInt = 1 := (by decide); have e3 := q_nleI c77; omega }; have y0h := q_hi32 (x := x2); omega)) (by decide) (by have t1 : 0 ≤ x2.toInt := q_leI c11; have t2 : 2 < x2.toInt := q_nleI c29; have t3 : 1 < (2 - (x2.toInt - ((x2.toInt / 2) * 2))) := by { have e1 : ((2 - (x2 - x2 / 2 * 2)) : Int32).toInt = (2 - (x2.toInt - ((x2.toInt / 2) * 2))) := (q_subI (x := 2) (y := (x2.toInt - ((x2.toInt / 2) * 2))) (by decide) (q_subI (x := x2.toInt) (y := ((x2.toInt / 2) * 2)) rfl (q_mulI (x := (x2.toInt / 2)) (y := 2) (q_divI (x := x2.toInt) (y := 2) rfl (by decide) (by have t1 : 0 ≤ x2.toInt := q_leI c11; have t2 : 2 < x2.toInt := q_nleI c29; have y0h := q_hi32 (x := x2); omega) (by have t1 : 0 ≤ x2.toInt := q_leI c11; have t2 : 2 < x2.toInt := q_nleI c29; have y0h := q_hi32 (x := x2); omega)) (by decide) (by have t1 : 0 ≤ x2.toInt := q_leI c11; have t2 : 2 < x2.toInt := q_nleI c29; have y0h := q_hi32 (x := x2); omega) (by have t1 : 0 ≤ x2.toInt := q_leI c11; have t2 : 2 < x2.toInt := q_nleI c29; have y0h := q_hi32 (x := x2); omega)) (by have t1 : 0 ≤ x2.toInt := q_leI c11; have t2 : 2 < x2.toInt := q_nleI c29; have y0h := q_hi32 (x := x2); omega) (by have t1 : 0 ≤ x2.toInt := q_leI c11; have t2 : 2 < x2.toInt := q_nleI c29; have y0h := q_hi32 (x := x2); omega)) (by have t1 : 0 ≤ x2.toInt := q_leI c11; have t2 : 2 < x2.toInt := q_nleI c29; have y0h := q_hi32 (x := x2); omega) (by have t1 : 0 ≤ x2.toInt := q_leI c11; have t2 : 2 < x2.toInt := q_nleI c29; have y0h := q_hi32 (x := x2); omega)); have e2 : (1 : Int32).toInt = 1 := (by decide); have e3 := q_nleI c77; omega }; have y0h := q_hi32 (x := x2); omega) (by have t1 : 0 ≤ x2.toInt := q_leI c11; have t2 : 2 < x2.toInt := q_nleI c29; have t3 : 1 < (2 - (x2.toInt - ((x2.toInt / 2) * 2))) := by { have e1 : ((2 - (x2 - x2 / 2 * 2)) : Int32).toInt = (2 - (x2.toInt - ((x2.toInt / 2) * 2))) := (q_subI (x := 2) (y := (x2.toInt - ((x2.toInt / 2) * 2))) (by decide) (q_subI (x := x2.toInt) (y := ((x2.toInt / 2) * 2)) rfl (q_mulI (x := (x2.toInt / 2)) (y := 2) (q_divI (x := x2.toInt) (y := 2) rfl (by decide) (by have t1 : 0 ≤ x2.toInt := q_leI c11; have t2 : 2 < x2.toInt := q_nleI c29; have y0h := q_hi32 (x := x2); omega) (by have t1 : 0 ≤ x2.toInt := q_leI c11; have t2 : 2 < x2.toInt := q_nleI c29; have y0h := q_hi32 (x := x2); omega)) (by decide) (by have t1 : 0 ≤ x2.toInt := q_leI c11; have t2 : 2 < x2.toInt := q_nleI c29; have y0h := q_hi32 (x := x2); omega) (by have t1 : 0 ≤ x2.toInt := q_leI c11; have t2 : 2 < x2.toInt := q_nleI c29; have y0h := q_hi32 (x := x2); omega)) (by have t1 : 0 ≤ x2.toInt := q_leI c11; have t2 : 2 < x2.toInt := q_nleI c29; have y0h := q_hi32 (x := x2); omega) (by have t1 : 0 ≤ x2.toInt := q_leI c11; have t2 : 2 < x2.toInt := q_nleI c29; have y0h := q_hi32 (x := x2); omega)) (by have t1 : 0 ≤ x2.toInt := q_leI c11; have t2 : 2 < x2.toInt := q_nleI c29; have y0h := q_hi32 (x := x2); omega) (by have t1 : 0 ≤ x2.toInt := q_leI c11; have t2 : 2 < x2.toInt := q_nleI c29; have y0h := q_hi32 (x := x2); omega)); have e2 : (1 : Int32).toInt = 1 := (by decide); have e3 := q_nleI c77; omega }; have y0h := q_hi32 (x := x2); omega)) (by have t1 : 0 ≤ x2.toInt := q_leI c11; have t2 : 2 < x2.toInt := q_nleI c29; have t3 : 1 < (2 - (x2.toInt - ((x2.toInt / 2) * 2))) := by { have e1 : ((2 - (x2 - x2 / 2 * 2)) : Int32).toInt = (2 - (x2.toInt - ((x2.toInt / 2) * 2))) := (q_subI (x := 2) (y := (x2.toInt - ((x2.toInt / 2) * 2))) (by decide) (q_subI (x := x2.toInt) (y := ((x2.toInt / 2) * 2)) rfl (q_mulI (x := (x2.toInt / 2)) (y := 2) (q_divI (x := x2.toInt) (y := 2) rfl (by decide) (by have t1 : 0 ≤ x2.toInt := q_leI c11; have t2 : 2 < x2.toInt := q_nleI c29; have y0h := q_hi32 (x := x2); omega) (by have t1 : 0 ≤ x2.toInt := q_leI c11; have t2 : 2 < x2.toInt := q_nleI c29; have y0h := q_hi32 (x := x2); omega)) (by decide) (by have t1 : 0 ≤ x2.toInt := q_leI c11; have t2 : 2 < x2.toInt := q_nleI c29; have y0h := q_hi32 (x := x2); omega) (by have t1 : 0 ≤ x2.toInt := q_leI c11; have t2 : 2 < x2.toInt := q_nleI c29; have y0h := q_hi32 (x := x2); omega)) (by have t1 : 0 ≤ x2.toInt := q_leI c11; have t2 : 2 < x2.toInt := q_nleI c29; have y0h := q_hi32 (x := x2); omega) (by have t1 : 0 ≤ x2.toInt := q_leI c11; have t2 : 2 < x2.toInt := q_nleI c29; have y0h := q_hi32 (x := x2); omega)) (by have t1 : 0 ≤ x2.toInt := q_leI c11; have t2 : 2 < x2.toInt := q_nleI c29; have y0h := q_hi32 (x := x2); omega) (by have t1 : 0 ≤ x2.toInt := q_leI c11; have t2 : 2 < x2.toInt := q_nleI c29; have y0h := q_hi32 (x := x2); omega)); have e2 : (1 : Int32).toInt = 1 := (by decide); have e3 := q_nleI c77; omega }; have y0h := q_hi32 (x := x2); omega) (by have t1 : 0 ≤ x2.toInt := q_leI c11; have t2 : 2 < x2.toInt := q_nleI c29; have t3 : 1 < (2 - (x2.toInt - ((x2.toInt / 2) * 2))) := by { have e1 : ((2 - (x2 - x2 / 2 * 2)) : Int32).toInt = (2 - (x2.toInt - ((x2.toInt / 2) * 2))) := (q_subI (x := 2) (y := (x2.toInt - ((x2.toInt / 2) * 2))) (by decide) (q_subI (x := x2.toInt) (y := ((x2.toInt / 2) * 2)) rfl (q_mulI (x := (x2.toInt / 2)) (y := 2) (q_divI (x := x2.toInt) (y := 2) rfl (by decide) (by have t1 : 0 ≤ x2.toInt := q_leI c11; have t2 : 2 < x2.toInt := q_nleI c29; have y0h := q_hi32 (x := x2); omega) (by have t1 : 0 ≤ x2.toInt := q_leI c11; have t2 : 2 < x2.toInt := q_nleI c29; have y0h := q_hi32 (x := x2); omega)) (by decide) (by have t1 : 0 ≤ x2.toInt := q_leI c11; have t2 : 2 < x2.toInt := q_nleI c29; have y0h := q_hi32 (x := x2); omega) (by have t1 : 0 ≤ x2.toInt := q_leI c11; have t2 : 2 < x2.toInt := q_nleI c29; have y0h := q_hi32 (x := x2); omega)) (by have t1 : 0 ≤ x2.toInt := q_leI c11; have t2 : 2 < x2.toInt := q_nleI c29; have y0h := q_hi32 (x := x2); omega) (by have t1 : 0 ≤ x2.toInt := q_leI c11; have t2 : 2 < x2.toInt := q_nleI c29; have y0h := q_hi32 (x := x2); omega)) (by have t1 : 0 ≤ x2.toInt := q_leI c11; have t2 : 2 < x2.toInt := q_nleI c29; have y0h := q_hi32 (x := x2); omega) (by have t1 : 0 ≤ x2.toInt := q_leI c11; have t2 : 2 < x2.toInt := q_nleI c29; have y0h := q_hi32 (x := x2); omega)); have e2 : (1 : Int32).toInt = 1 := (by decide); have e3 := q_nleI c77; omega }; have y0h := q_hi32 (x := x2); omega)) (by have t1 : 0 ≤ x2.toInt := q_leI c11; have t2 : 2 < x2.toInt := q_nleI c29; have t3 : 1 < (2 - (x2.toInt - ((x2.toInt / 2) * 2))) := by { have e1 : ((2 - (x2 - x2 / 2 * 2)) : Int32).toInt = (2 - (x2.toInt - ((x2.toInt / 2) * 2))) := (q_subI (x := 2) (y := (x2.toInt - ((x2.toInt / 2) * 2))) (by decide) (q_subI (x := x2.toInt) (y := ((x2.toInt / 2) * 2)) rfl (q_mulI (x := (x2.toInt / 2)) (y := 2) (q_divI (x := x2.toInt) (y := 2) rfl (by decide) (by have t1 : 0 ≤ x2.toInt := q_leI c11; have t2 : 2 < x2.toInt := q_nleI c29; have y0h := q_hi32 (x := x2); omega) (by have t1 : 0 ≤ x2.toInt := q_leI c11; have t2 : 2 < x2.toInt := q_nleI c29; have y0h := q_hi32 (x := x2); omega)) (by decide) (by have t1 : 0 ≤ x2.toInt := q_leI c11; have t2 : 2 < x2.toInt := q_nleI c29; have y0h := q_hi32 (x := x2); omega) (by have t1 : 0 ≤ x2.toInt := q_leI c11; have t2 : 2 < x2.toInt := q_nleI c29; have y0h := q_hi32 (x := x2); omega)) (by have t1 : 0 ≤ x2.toInt := q_leI c11; have t2 : 2 < x2.toInt := q_nleI c29; have y0h := q_hi32 (x := x2); omega) (by have t1 : 0 ≤ x2.toInt := q_leI c11; have t2 : 2 < x2.toInt := q_nleI c29; have y0h := q_hi32 (x := x2); omega)) (by have t1 : 0 ≤ x2.toInt := q_leI c11; have t2 : 2 < x2.toInt := q_nleI c29; have y0h := q_hi32 (x := x2); omega) (by have t1 : 0 ≤ x2.toInt := q_leI c11; have t2 : 2 < x2.toInt := q_nleI c29; have y0h := q_hi32 (x := x2); omega)); have e2 : (1 : Int32).toInt = 1 := (by decide); have e3 := q_nleI c77; omega }; have y0h := q_hi32 (x := x2); omega) (by have t1 : 0 ≤ x2.toInt := q_leI c11; have t2 : 2 < x2.toInt := q_nleI c29; have t3 : 1 < (2 - (x2.toInt - ((x2.toInt / 2) * 2))) := by { have e1 : ((2 - (x2 - x2 / 2 * 2)) : Int32).toInt = (2 - (x2.toInt - ((x2.toInt / 2) * 2))) := (q_subI (x := 2) (y := (x2.toInt - ((x2.toInt / 2) * 2))) (by decide) (q_subI (x := x2.toInt) (y := ((x2.toInt / 2) * 2)) rfl (q_mulI (x := (x2.toInt / 2)) (y := 2) (q_divI (x := x2.toInt) (y := 2) rfl (by decide) (by have t1 : 0 ≤ x2.toInt := q_leI c11; have t2 : 2 < x2.toInt := q_nleI c29; have y0h := q_hi32 (x := x2); omega) (by have t1 : 0 ≤ x2.toInt := q_leI c11; have t2 : 2 < x2.toInt := q_nleI c29; have y0h := q_hi32 (x := x2); omega)) (by decide) (by have t1 : 0 ≤ x2.toInt := q_leI c11; have t2 : 2 < x2.toInt := q_nleI c29; have y0h := q_hi32 (x := x2); omega) (by have t1 : 0 ≤ x2.toInt := q_leI c11; have t2 : 2 < x2.toInt := q_nleI c29; have y0h := q_hi32 (x := x2); omega)) (by have t1 : 0 ≤ x2.toInt := q_leI c11; have t2 : 2 < x2.toInt := q_nleI c29; have y0h := q_hi32 (x := x2); omega) (by have t1 : 0 ≤ x2.toInt := q_leI c11; have t2 : 2 < x2.toInt := q_nleI c29; have y0h := q_hi32 (x := x2); omega)) (by have t1 : 0 ≤ x2.toInt := q_leI c11; have t2 : 2 < x2.toInt := q_nleI c29; have y0h := q_hi32 (x := x2); omega) (by have t1 : 0 ≤ x2.toInt := q_leI c11; have t2 : 2 < x2.toInt := q_nleI c29; have y0h := q_hi32 (x := x2); omega)); have e2 : (1 : Int32).toInt = 1 := (by decide); have e3 := q_nleI c77; omega }; have y0h := q_hi32 (x := x2); omega)) (by decide) (by have t1 : 0 ≤ x2.toInt := q_leI c11; have t2 : 2 < x2.toInt := q_nleI c29; have t3 : 1 < (2 - (x2.toInt - ((x2.toInt / 2) * 2))) := by { have e1 : ((2 - (x2 - x2 / 2 * 2)) : Int32).toInt = (2 - (x2.toInt - ((x2.toInt / 2) * 2))) := (q_subI (x := 2) (y := (x2.toInt - ((x2.toInt / 2) * 2))) (by decide) (q_subI (x := x2.toInt) (y := ((x2.toInt / 2) * 2)) rfl (q_mulI (x := (x2.toInt / 2)) (y := 2) (q_divI (x := x2.toInt) (y := 2) rfl (by decide) (by have t1 : 0 ≤ x2.toInt := q_leI c11; have t2 : 2 < x2.toInt := q_nleI c29; have y0h := q_hi32 (x := x2); omega) (by have t1 : 0 ≤ x2.toInt := q_leI c11; have t2 : 2 < x2.toInt := q_nleI c29; have y0h := q_hi32 (x := x2); omega)) (by decide) (by have t1 : 0 ≤ x2.toInt := q_leI c11; have t2 : 2 < x2.toInt := q_nleI c29; have y0h := q_hi32 (x := x2); omega) (by have t1 : 0 ≤ x2.toInt := q_leI c11; have t2 : 2 < x2.toInt := q_nleI c29; have y0h := q_hi32 (x := x2); omega)) (by have t1 : 0 ≤ x2.toInt := q_leI c11; have t2 : 2 < x2.toInt := q_nleI c29; have y0h := q_hi32 (x := x2); omega) (by have t1 : 0 ≤ x2.toInt := q_leI c11; have t2 : 2 < x2.toInt := q_nleI c29; have y0h := q_hi32 (x := x2); omega)) (by have t1 : 0 ≤ x2.toInt := q_leI c11; have t2 : 2 < x2.toInt := q_nleI c29; have y0h := q_hi32 (x := x2); omega) (by have t1 : 0 ≤ x2.toInt := q_leI c11; have t2 : 2 < x2.toInt := q_nleI c29; have y0h := q_hi32 (x := x2); omega)); have e2 : (1 : Int32).toInt = 1 := (by decide); have e3 := q_nleI c77; omega }; have y0h := q_hi32 (x := x2); omega)) c92)
        refine lv_aload_n hx hb d_19_29_167 rfl (lv_at hl 3 rfl) ?_
        refine lv_aload_n hx hb d_19_29_168 rfl (lv_at hl 3 rfl) ?_
        refine q_get (ci := 13) (j := 5) (v := .ref qA3) C0 V i_WR rfl rfl hO0 (by decide) w_1929 rfl d_19_29_169 ?_
        refine lv_iload_n hx hb d_19_29_172 rfl (lv_at hl 4 rfl) ?_
        replace hA3 := (hg86 _ (q_nc n_A3_A4 (q_nc n_A3_A6 List.not_mem_nil))).trans ((hg71 _ (q_nc n_A3_A4 (q_nc n_A3_A6 List.not_mem_nil))).trans ((hg22 _ (q_nc n_A3_A4 List.not_mem_nil)).trans ((hg19 _ (q_nc n_A3_A9 List.not_mem_nil)).trans ((hu16 _ n_A3_O0).trans ((hu13 _ n_A3_O0).trans (hA3))))))
        refine q_zald C0 V hA3 (q_ix (x := x1.toInt) rfl (by have t1 : 0 ≤ x1.toInt := q_leI x1lo; have t2 : x1.toInt ≤ 9 := q_leI x1hi; omega) (by have t1 : 0 ≤ x1.toInt := q_leI x1lo; have t2 : x1.toInt ≤ 9 := q_leI x1hi; omega)) d_19_29_173 ?_
        refine q_ti (v := 0) (by first | rfl | decide | simp [upd, vp_updL, sb_cl0]) ?_
        refine lv_if_eq (tgt := 188) hx hb d_19_29_174 (by decide) (fun c93 => ?_) (fun c93 => absurd (by decide) c93)
        refine lv_iconst (v := 0) hx hb d_19_29_188 (by decide) ?_
        refine q_put (ci := 13) (j := 7) (v := .int 0) (ty := .boolean) C0 V i_WR o_WR n_WR rfl rfl hO0 (by decide) w_1931 rfl rfl rfl rfl (Nat.le_of_ble_eq_true rfl) d_19_29_189 (fun H locs w94 hu95 hO0 V => ?_)
        replace hO0 : w94[kO0]? = (some (qO0, .inr (13, [.int 0, .int 2, .ref qA1, .int 0, .ref qA2, .ref qA3, .ref qA4, .int 0, .ref qA5, .ref qA6, .ref qA7, .ref qA8, .ref qA9, .ref qA10, .ref qA11, .ref qA12, .int 0, .int 0, .ref qA13, .ref qA14, .int 0])) : Option (Nat × va_E)) := hO0
        replace hF := q_us hF hu95 (.head _)
        refine lv_aload_n hx hb d_19_29_192 rfl (lv_at hl 3 rfl) ?_
        refine lv_iload_n hx hb d_19_29_193 rfl (lv_at hl 6 rfl) ?_
        replace hA2 := (hu95 _ n_A2_O0).trans ((hg86 _ (q_nc n_A2_A4 (q_nc n_A2_A6 List.not_mem_nil))).trans ((hg71 _ (q_nc n_A2_A4 (q_nc n_A2_A6 List.not_mem_nil))).trans ((hg22 _ (q_nc n_A2_A4 List.not_mem_nil)).trans ((hg19 _ (q_nc n_A2_A9 List.not_mem_nil)).trans (hA2)))))
        replace hA3 := (hu95 _ n_A3_O0).trans (hA3)
        replace hA4 := (hu95 _ n_A4_O0).trans (hA4)
        refine q_gov V (q_runV (As := [.int x3]) (rest := []) (d := 2) (mc := 0) (ms := 0) (ci := 13) C0 V rfl LV_WR_103 (c_WR_store l D g w94 kO0 kA2 kA3 kA4 qO0 qA1 qA2 qA3 qA4 qA5 qA6 qA7 qA8 qA9 qA10 qA11 qA12 qA13 qA14 x3 hO0 hA2 hA3 hA4 n_A2_A3 n_A4_A2 n_A4_A3 x3lo x3hi _) rfl rfl hO0 rfl hl.1 rfl (Nat.le_of_ble_eq_true rfl) ⟨by decide, by decide⟩ ⟨Nat.le_of_ble_eq_true rfl, Nat.le_of_ble_eq_true rfl⟩ d_19_29_194) (fun u97 H locs hp96 V => ?_)
        obtain ⟨hg98, hA2, hA3⟩ := hp96
        replace hF := q_uc hF hg98 (q_sc (.tail _ (.head _)) (q_sc (.tail _ (.tail _ (.head _))) (fun _ h => absurd h List.not_mem_nil)))
        replace hO0 := (hg98 _ (q_nc n_O0_A2 (q_nc n_O0_A3 List.not_mem_nil))).trans (hO0)
        replace hA4 := (hg98 _ (q_nc n_A4_A2 (q_nc n_A4_A3 List.not_mem_nil))).trans (hA4)
        replace hA6 := (hg98 _ (q_nc n_A6_A2 (q_nc n_A6_A3 List.not_mem_nil))).trans ((hu95 _ n_A6_O0).trans (hA6))
        replace hA9 := (hg98 _ (q_nc n_A9_A2 (q_nc n_A9_A3 List.not_mem_nil))).trans ((hu95 _ n_A9_O0).trans ((hg86 _ (q_nc n_A9_A4 (q_nc n_A9_A6 List.not_mem_nil))).trans (hA9)))
        exact q_retv C0 V (Or.inr (Or.inr (Or.inl ⟨c11, c29, hF, hO0, hA2, hA3, hA4, hA6, hA9⟩))) d_19_29_197
  ·
    refine lv_iconst (v := 1) hx hb d_19_29_19 (by decide) ?_
    refine lv_goto (tgt := 24) hx hb d_19_29_20 (by decide) ?_
    refine q_put (ci := 13) (j := 0) (v := .int 1) (ty := .int) C0 V i_WR o_WR n_WR rfl rfl hO0 (by decide) w_1921 rfl rfl rfl rfl (Nat.le_of_ble_eq_true rfl) d_19_29_24 (fun H locs w99 hu100 hO0 V => ?_)
    replace hO0 : w99[kO0]? = (some (qO0, .inr (13, [.int 1, .int 0, .ref qA1, .int 0, .ref qA2, .ref qA3, .ref qA4, .int 0, .ref qA5, .ref qA6, .ref qA7, .ref qA8, .ref qA9, .ref qA10, .ref qA11, .ref qA12, .int 0, .int 0, .ref qA13, .ref qA14, .int 0])) : Option (Nat × va_E)) := hO0
    replace hF := q_us hF hu100 (.head _)
    refine lv_aload_n hx hb d_19_29_27 rfl (lv_at hl 0 rfl) ?_
    refine q_get (ci := 13) (j := 0) (v := .int 1) C0 V i_WR rfl rfl hO0 (by decide) w_1921 rfl d_19_29_28 ?_
    refine lv_if_le (tgt := 35) hx hb d_19_29_31 (by decide) (fun c101 => absurd c101 (by decide)) (fun c101 => ?_)
    replace hA2 := (hu100 _ n_A2_O0).trans (hA2)
    replace hA3 := (hu100 _ n_A3_O0).trans (hA3)
    replace hA4 := (hu100 _ n_A4_O0).trans (hA4)
    replace hA6 := (hu100 _ n_A6_O0).trans (hA6)
    replace hA9 := (hu100 _ n_A9_O0).trans (hA9)
    exact q_retv C0 V (Or.inr (Or.inr (Or.inr (⟨c11, hF, hO0, hA2, hA3, hA4, hA6, hA9⟩)))) d_19_29_34
theorem d_14_21_0 : decode prog_14_method_21_code 0 = .ok (.aload_n 0, 1) := by decide +kernel
theorem d_14_21_1 : decode prog_14_method_21_code 1 = .ok (.iload_n 1, 1) := by decide +kernel
theorem d_14_21_2 : decode prog_14_method_21_code 2 = .ok (.ifCond .lt 23, 3) := by decide +kernel
theorem d_14_21_25 : decode prog_14_method_21_code 25 = .ok (.iconst 1, 1) := by decide +kernel
theorem d_14_21_26 : decode prog_14_method_21_code 26 = .ok (.goto 4, 3) := by decide +kernel
theorem d_14_21_30 : decode prog_14_method_21_code 30 = .ok (.putfield 58, 3) := by decide +kernel
theorem d_14_21_33 : decode prog_14_method_21_code 33 = .ok (.aload_n 0, 1) := by decide +kernel
theorem d_14_21_34 : decode prog_14_method_21_code 34 = .ok (.getfield 58, 3) := by decide +kernel
theorem d_14_21_37 : decode prog_14_method_21_code 37 = .ok (.ifCond .le 4, 3) := by decide +kernel
theorem d_14_21_40 : decode prog_14_method_21_code 40 = .ok (.return_, 1) := by decide +kernel
theorem d_14_21_5 : decode prog_14_method_21_code 5 = .ok (.iload_n 1, 1) := by decide +kernel
theorem d_14_21_6 : decode prog_14_method_21_code 6 = .ok (.iconst 2, 1) := by decide +kernel
theorem d_14_21_7 : decode prog_14_method_21_code 7 = .ok (.if_icmp .gt 18, 3) := by decide +kernel
theorem d_14_21_10 : decode prog_14_method_21_code 10 = .ok (.iload_n 2, 1) := by decide +kernel
theorem d_14_21_11 : decode prog_14_method_21_code 11 = .ok (.invokestatic 70, 3) := by decide +kernel
theorem d_14_21_14 : decode prog_14_method_21_code 14 = .ok (.ifCond .ne 11, 3) := by decide +kernel
theorem d_14_21_17 : decode prog_14_method_21_code 17 = .ok (.iload 4, 2) := by decide +kernel
theorem d_14_21_19 : decode prog_14_method_21_code 19 = .ok (.invokestatic 70, 3) := by decide +kernel
theorem d_14_21_22 : decode prog_14_method_21_code 22 = .ok (.ifCond .eq 7, 3) := by decide +kernel
theorem d_14_21_29 : decode prog_14_method_21_code 29 = .ok (.iconst 0, 1) := by decide +kernel
theorem d_14_21_41 : decode prog_14_method_21_code 41 = .ok (.iload_n 1, 1) := by decide +kernel
theorem d_14_21_42 : decode prog_14_method_21_code 42 = .ok (.ifCond .ne 17, 3) := by decide +kernel
theorem d_14_21_59 : decode prog_14_method_21_code 59 = .ok (.iload_n 1, 1) := by decide +kernel
theorem d_14_21_60 : decode prog_14_method_21_code 60 = .ok (.iconst 1, 1) := by decide +kernel
theorem d_14_21_61 : decode prog_14_method_21_code 61 = .ok (.if_icmp .ne 17, 3) := by decide +kernel
theorem d_14_21_78 : decode prog_14_method_21_code 78 = .ok (.aload_n 0, 1) := by decide +kernel
theorem d_14_21_79 : decode prog_14_method_21_code 79 = .ok (.getfield 19, 3) := by decide +kernel
theorem d_14_21_82 : decode prog_14_method_21_code 82 = .ok (.iload_n 2, 1) := by decide +kernel
theorem d_14_21_83 : decode prog_14_method_21_code 83 = .ok (.iload_n 3, 1) := by decide +kernel
theorem d_14_21_84 : decode prog_14_method_21_code 84 = .ok (.iload 4, 2) := by decide +kernel
theorem d_14_21_86 : decode prog_14_method_21_code 86 = .ok (.invokevirtual 197, 3) := by decide +kernel
theorem w_2764 : (Cond.code ({ cls := "NumberHouseModel$WholeRows", name := "shift", desc := "(III)V" } : MethodName) prog_19_method_38_code (9 : Nat) (none : Option ClassFile.FieldType)) ∈ q_tbl := q_of 2764 (by decide +kernel) (by decide +kernel)
theorem w_2761 : (Cond.methodLink "NumberHouseModel" (197 : Nat) ({ cls := "NumberHouseModel$WholeRows", name := "shift", desc := "(III)V" } : MethodName)) ∈ q_tbl := q_of 2761 (by decide +kernel) (by decide +kernel)
theorem w_2762 : (Cond.instanceMethod ({ cls := "NumberHouseModel$WholeRows", name := "shift", desc := "(III)V" } : MethodName)) ∈ q_tbl := q_of 2762 (by decide +kernel) (by decide +kernel)
theorem w_2763 : (Cond.selects "NumberHouseModel$WholeRows" ({ cls := "NumberHouseModel$WholeRows", name := "shift", desc := "(III)V" } : MethodName) ({ cls := "NumberHouseModel$WholeRows", name := "shift", desc := "(III)V" } : MethodName)) ∈ q_tbl := q_of 2763 (by decide +kernel) (by decide +kernel)
theorem LV_NM_197 : q_LV "NumberHouseModel" 197 y_WR_shift prog_19_method_38_code 9 none 3 := ⟨w_2764, w_15, w_2761, w_2762, w_2763, ⟨by decide, by decide, by decide +kernel⟩⟩
theorem d_14_21_89 : decode prog_14_method_21_code 89 = .ok (.aload_n 0, 1) := by decide +kernel
theorem d_14_21_90 : decode prog_14_method_21_code 90 = .ok (.aload_n 0, 1) := by decide +kernel
theorem d_14_21_91 : decode prog_14_method_21_code 91 = .ok (.getfield 19, 3) := by decide +kernel
theorem d_14_21_94 : decode prog_14_method_21_code 94 = .ok (.getfield 99, 3) := by decide +kernel
theorem d_14_21_97 : decode prog_14_method_21_code 97 = .ok (.putfield 58, 3) := by decide +kernel
theorem d_14_21_100 : decode prog_14_method_21_code 100 = .ok (.return_, 1) := by decide +kernel
theorem d_14_21_64 : decode prog_14_method_21_code 64 = .ok (.aload_n 0, 1) := by decide +kernel
theorem d_14_21_65 : decode prog_14_method_21_code 65 = .ok (.getfield 19, 3) := by decide +kernel
theorem d_14_21_68 : decode prog_14_method_21_code 68 = .ok (.iload_n 2, 1) := by decide +kernel
theorem d_14_21_69 : decode prog_14_method_21_code 69 = .ok (.iload_n 3, 1) := by decide +kernel
theorem d_14_21_70 : decode prog_14_method_21_code 70 = .ok (.iload 4, 2) := by decide +kernel
theorem d_14_21_72 : decode prog_14_method_21_code 72 = .ok (.invokevirtual 194, 3) := by decide +kernel
theorem w_2756 : (Cond.code ({ cls := "NumberHouseModel$WholeRows", name := "root", desc := "(III)V" } : MethodName) prog_19_method_31_code (5 : Nat) (none : Option ClassFile.FieldType)) ∈ q_tbl := q_of 2756 (by decide +kernel) (by decide +kernel)
theorem w_2753 : (Cond.methodLink "NumberHouseModel" (194 : Nat) ({ cls := "NumberHouseModel$WholeRows", name := "root", desc := "(III)V" } : MethodName)) ∈ q_tbl := q_of 2753 (by decide +kernel) (by decide +kernel)
theorem w_2754 : (Cond.instanceMethod ({ cls := "NumberHouseModel$WholeRows", name := "root", desc := "(III)V" } : MethodName)) ∈ q_tbl := q_of 2754 (by decide +kernel) (by decide +kernel)
theorem w_2755 : (Cond.selects "NumberHouseModel$WholeRows" ({ cls := "NumberHouseModel$WholeRows", name := "root", desc := "(III)V" } : MethodName) ({ cls := "NumberHouseModel$WholeRows", name := "root", desc := "(III)V" } : MethodName)) ∈ q_tbl := q_of 2755 (by decide +kernel) (by decide +kernel)
theorem LV_NM_194 : q_LV "NumberHouseModel" 194 y_WR_root prog_19_method_31_code 5 none 3 := ⟨w_2756, w_15, w_2753, w_2754, w_2755, ⟨by decide, by decide, by decide +kernel⟩⟩
theorem d_14_21_75 : decode prog_14_method_21_code 75 = .ok (.goto 14, 3) := by decide +kernel
theorem d_14_21_45 : decode prog_14_method_21_code 45 = .ok (.aload_n 0, 1) := by decide +kernel
theorem d_14_21_46 : decode prog_14_method_21_code 46 = .ok (.getfield 19, 3) := by decide +kernel
theorem d_14_21_49 : decode prog_14_method_21_code 49 = .ok (.iload_n 2, 1) := by decide +kernel
theorem d_14_21_50 : decode prog_14_method_21_code 50 = .ok (.iload_n 3, 1) := by decide +kernel
theorem d_14_21_51 : decode prog_14_method_21_code 51 = .ok (.iload 4, 2) := by decide +kernel
theorem d_14_21_53 : decode prog_14_method_21_code 53 = .ok (.invokevirtual 192, 3) := by decide +kernel
theorem w_2752 : (Cond.code ({ cls := "NumberHouseModel$WholeRows", name := "power", desc := "(III)V" } : MethodName) prog_19_method_29_code (7 : Nat) (none : Option ClassFile.FieldType)) ∈ q_tbl := q_of 2752 (by decide +kernel) (by decide +kernel)
theorem w_2749 : (Cond.methodLink "NumberHouseModel" (192 : Nat) ({ cls := "NumberHouseModel$WholeRows", name := "power", desc := "(III)V" } : MethodName)) ∈ q_tbl := q_of 2749 (by decide +kernel) (by decide +kernel)
theorem w_2750 : (Cond.instanceMethod ({ cls := "NumberHouseModel$WholeRows", name := "power", desc := "(III)V" } : MethodName)) ∈ q_tbl := q_of 2750 (by decide +kernel) (by decide +kernel)
theorem w_2751 : (Cond.selects "NumberHouseModel$WholeRows" ({ cls := "NumberHouseModel$WholeRows", name := "power", desc := "(III)V" } : MethodName) ({ cls := "NumberHouseModel$WholeRows", name := "power", desc := "(III)V" } : MethodName)) ∈ q_tbl := q_of 2751 (by decide +kernel) (by decide +kernel)
theorem LV_NM_192 : q_LV "NumberHouseModel" 192 y_WR_power prog_19_method_29_code 7 none 3 := ⟨w_2752, w_15, w_2749, w_2750, w_2751, ⟨by decide, by decide, by decide +kernel⟩⟩
theorem d_14_21_56 : decode prog_14_method_21_code 56 = .ok (.goto 33, 3) := by decide +kernel
def y_NM_wholeBy : MethodName := ⟨"NumberHouseModel", "wholeBy", "(IIII)V"⟩
set_option maxRecDepth 100000 in
set_option maxHeartbeats 4000000 in
/-- wholeBy on a fresh object -/
theorem c_NM_wholeBy (l : Launch) (D : va_G) (g : Nat → ClassId) (ws : va_W) ( qO0 qA1 qA2 qO3 qO4 qO5 qO6 qO7 qA8 qA9 qA10 qA11 qA12 qA13 qA14 qA15 qA16 qA17 qA18 qA19 qA20 qA21 qA22 qA23 : Nat) (x1 : Int32) (x2 : Int32) (x3 : Int32) (x4 : Int32) (hO0 : ws[116]? = (some (qO0, .inr (12, [.int 0, .ref qA1, .int 0, .ref qA2, .int 0, .ref qO3, .ref qO4, .ref qO5, .ref qO6, .ref qO7, .ref qA8, .ref qA9])) : Option (Nat × va_E))) (hO3 : ws[119]? = (some (qO3, .inr (13, [.int 0, .int 0, .ref qA10, .int 0, .ref qA11, .ref qA12, .ref qA13, .int 0, .ref qA14, .ref qA15, .ref qA16, .ref qA17, .ref qA18, .ref qA19, .ref qA20, .ref qA21, .int 0, .int 0, .ref qA22, .ref qA23, .int 0])) : Option (Nat × va_E))) (hA11 : ws[121]? = (some (qA11, .inl (g 0, 1408, .inl (fun _ => 0))) : Option (Nat × va_E))) (hA12 : ws[122]? = (some (qA12, .inl (g 3, 11, .inl (fun _ => 0))) : Option (Nat × va_E))) (hA13 : ws[123]? = (some (qA13, .inl (g 0, 264, .inl (fun _ => 0))) : Option (Nat × va_E))) (hA14 : ws[124]? = (some (qA14, .inl (g 0, 264, .inl (fun _ => 0))) : Option (Nat × va_E))) (hA15 : ws[125]? = (some (qA15, .inl (g 0, 528, .inl (fun _ => 0))) : Option (Nat × va_E))) (hA18 : ws[128]? = (some (qA18, .inl (g 0, 264, .inl (fun _ => 0))) : Option (Nat × va_E))) : q_mV l y_NM_wholeBy prog_14_method_21_code 5 5 0 0 D g [.ref qO0, .int x1, .int x2, .int x3, .int x4] ws (fun u => ∃ (t0 z2 z4 : Int32), u[116]? = (some (qO0, .inr (12, [.int t0, .ref qA1, .int z2, .ref qA2, .int z4, .ref qO3, .ref qO4, .ref qO5, .ref qO6, .ref qO7, .ref qA8, .ref qA9])) : Option (Nat × va_E)) ∧ ((t0.toInt = 0 ∧ ((0 ≤ x1.toInt ∧ x1.toInt ≤ 2) ∧ (0 ≤ x2.toInt ∧ x2.toInt ≤ 9) ∧ (0 ≤ x4.toInt ∧ x4.toInt ≤ 9) ∧ (x1.toInt = 0 → 0 ≤ x3.toInt) ∧ (x1.toInt = 1 → (1 ≤ x3.toInt ∧ x3.toInt ≤ 64)))) ∨ (t0.toInt = 1 ∧ ¬ ((0 ≤ x1.toInt ∧ x1.toInt ≤ 2) ∧ (0 ≤ x2.toInt ∧ x2.toInt ≤ 9) ∧ (0 ≤ x4.toInt ∧ x4.toInt ≤ 9) ∧ (x1.toInt = 0 → 0 ≤ x3.toInt) ∧ (x1.toInt = 1 → (1 ≤ x3.toInt ∧ x3.toInt ≤ 64))))) ∧ q_ge 169 ws u) := by
  intro sz
  refine q_into (by decide) (Nat.le_of_ble_eq_true rfl) ?_
  intro p e s m below meth c ls hsz C0 V hl
  have hx := C0.1
  have hb := C0.2.1
  have hl : lv_has ls 5 [(0, .ref qO0), (1, .int x1), (2, .int x2), (3, .int x3), (4, .int x4)] := hl
  have hF : q_ge 169 ws ws := q_g0
  refine lv_aload_n hx hb d_14_21_0 rfl (lv_at hl 0 rfl) ?_
  refine lv_iload_n hx hb d_14_21_1 rfl (lv_at hl 1 rfl) ?_
  refine lv_if_lt (tgt := 25) hx hb d_14_21_2 (by decide) (fun c1 => ?_) (fun c1 => ?_)
  ·
    refine lv_iconst (v := 1) hx hb d_14_21_25 (by decide) ?_
    refine lv_goto (tgt := 30) hx hb d_14_21_26 (by decide) ?_
    refine q_put (ci := 12) (j := 0) (v := .int 1) (ty := .int) C0 V i_NM o_NM n_NM rfl rfl hO0 (by decide) w_2298 rfl rfl rfl rfl (Nat.le_of_ble_eq_true rfl) d_14_21_30 (fun H locs w2 hu3 hO0 V => ?_)
    replace hO0 : w2[116]? = (some (qO0, .inr (12, [.int 1, .ref qA1, .int 0, .ref qA2, .int 0, .ref qO3, .ref qO4, .ref qO5, .ref qO6, .ref qO7, .ref qA8, .ref qA9])) : Option (Nat × va_E)) := hO0
    replace hF := q_gs hF hu3 (Nat.le_of_ble_eq_true rfl)
    refine lv_aload_n hx hb d_14_21_33 rfl (lv_at hl 0 rfl) ?_
    refine q_get (ci := 12) (j := 0) (v := .int 1) C0 V i_NM rfl rfl hO0 (by decide) w_2298 rfl d_14_21_34 ?_
    refine lv_if_le (tgt := 41) hx hb d_14_21_37 (by decide) (fun c4 => absurd c4 (by decide)) (fun c4 => ?_)
    exact q_retv C0 V (⟨1, 0, 0, hO0, (show ((1 : Int32).toInt = 0 ∧ ((0 ≤ x1.toInt ∧ x1.toInt ≤ 2) ∧ (0 ≤ x2.toInt ∧ x2.toInt ≤ 9) ∧ (0 ≤ x4.toInt ∧ x4.toInt ≤ 9) ∧ (x1.toInt = 0 → 0 ≤ x3.toInt) ∧ (x1.toInt = 1 → (1 ≤ x3.toInt ∧ x3.toInt ≤ 64)))) ∨ ((1 : Int32).toInt = 1 ∧ ¬ ((0 ≤ x1.toInt ∧ x1.toInt ≤ 2) ∧ (0 ≤ x2.toInt ∧ x2.toInt ≤ 9) ∧ (0 ≤ x4.toInt ∧ x4.toInt ≤ 9) ∧ (x1.toInt = 0 → 0 ≤ x3.toInt) ∧ (x1.toInt = 1 → (1 ≤ x3.toInt ∧ x3.toInt ≤ 64)))) from by have t1 : x1.toInt < 0 := q_ltI c1; have e0 : (1 : Int32).toInt = 1 := (by decide); omega), hF⟩) d_14_21_40
  ·
    refine lv_iload_n hx hb d_14_21_5 rfl (lv_at hl 1 rfl) ?_
    refine lv_iconst (v := 2) hx hb d_14_21_6 (by decide) ?_
    refine lv_icmp_gt (tgt := 25) hx hb d_14_21_7 (by decide) (fun c5 => ?_) (fun c5 => ?_)
    ·
      refine lv_iconst (v := 1) hx hb d_14_21_25 (by decide) ?_
      refine lv_goto (tgt := 30) hx hb d_14_21_26 (by decide) ?_
      refine q_put (ci := 12) (j := 0) (v := .int 1) (ty := .int) C0 V i_NM o_NM n_NM rfl rfl hO0 (by decide) w_2298 rfl rfl rfl rfl (Nat.le_of_ble_eq_true rfl) d_14_21_30 (fun H locs w6 hu7 hO0 V => ?_)
      replace hO0 : w6[116]? = (some (qO0, .inr (12, [.int 1, .ref qA1, .int 0, .ref qA2, .int 0, .ref qO3, .ref qO4, .ref qO5, .ref qO6, .ref qO7, .ref qA8, .ref qA9])) : Option (Nat × va_E)) := hO0
      replace hF := q_gs hF hu7 (Nat.le_of_ble_eq_true rfl)
      refine lv_aload_n hx hb d_14_21_33 rfl (lv_at hl 0 rfl) ?_
      refine q_get (ci := 12) (j := 0) (v := .int 1) C0 V i_NM rfl rfl hO0 (by decide) w_2298 rfl d_14_21_34 ?_
      refine lv_if_le (tgt := 41) hx hb d_14_21_37 (by decide) (fun c8 => absurd c8 (by decide)) (fun c8 => ?_)
      exact q_retv C0 V (⟨1, 0, 0, hO0, (show ((1 : Int32).toInt = 0 ∧ ((0 ≤ x1.toInt ∧ x1.toInt ≤ 2) ∧ (0 ≤ x2.toInt ∧ x2.toInt ≤ 9) ∧ (0 ≤ x4.toInt ∧ x4.toInt ≤ 9) ∧ (x1.toInt = 0 → 0 ≤ x3.toInt) ∧ (x1.toInt = 1 → (1 ≤ x3.toInt ∧ x3.toInt ≤ 64)))) ∨ ((1 : Int32).toInt = 1 ∧ ¬ ((0 ≤ x1.toInt ∧ x1.toInt ≤ 2) ∧ (0 ≤ x2.toInt ∧ x2.toInt ≤ 9) ∧ (0 ≤ x4.toInt ∧ x4.toInt ≤ 9) ∧ (x1.toInt = 0 → 0 ≤ x3.toInt) ∧ (x1.toInt = 1 → (1 ≤ x3.toInt ∧ x3.toInt ≤ 64)))) from by have t1 : 0 ≤ x1.toInt := q_nltI c1; have t2 : 2 < x1.toInt := q_ltI c5; have e0 : (1 : Int32).toInt = 1 := (by decide); omega), hF⟩) d_14_21_40
    ·
      refine lv_iload_n hx hb d_14_21_10 rfl (lv_at hl 2 rfl) ?_
      refine q_goi V (q_runS (As := [.int x2]) (rest := [.ref qO0]) (d := 1) (mc := 0) (ms := 0) C0 V rfl LS_NM_70 (c_NM_no_IZ l D g ws x2 _) rfl hl.1 rfl (Nat.le_of_ble_eq_true rfl) ⟨by decide, by decide⟩ ⟨Nat.le_of_ble_eq_true rfl, Nat.le_of_ble_eq_true rfl⟩ d_14_21_11) (fun v11 u10 H locs hp9 V => ?_)
      rcases hp9 with ⟨c12, rfl, rfl⟩ | ⟨c14, c15, rfl, rfl⟩ | ⟨c17, c18, rfl, rfl⟩
      ·
        refine lv_if_ne (tgt := 25) hx hb d_14_21_14 (by decide) (fun c20 => ?_) (fun c20 => absurd c20 (by decide))
        refine lv_iconst (v := 1) hx hb d_14_21_25 (by decide) ?_
        refine lv_goto (tgt := 30) hx hb d_14_21_26 (by decide) ?_
        refine q_put (ci := 12) (j := 0) (v := .int 1) (ty := .int) C0 V i_NM o_NM n_NM rfl rfl hO0 (by decide) w_2298 rfl rfl rfl rfl (Nat.le_of_ble_eq_true rfl) d_14_21_30 (fun H locs w21 hu22 hO0 V => ?_)
        replace hO0 : w21[116]? = (some (qO0, .inr (12, [.int 1, .ref qA1, .int 0, .ref qA2, .int 0, .ref qO3, .ref qO4, .ref qO5, .ref qO6, .ref qO7, .ref qA8, .ref qA9])) : Option (Nat × va_E)) := hO0
        replace hF := q_gs hF hu22 (Nat.le_of_ble_eq_true rfl)
        refine lv_aload_n hx hb d_14_21_33 rfl (lv_at hl 0 rfl) ?_
        refine q_get (ci := 12) (j := 0) (v := .int 1) C0 V i_NM rfl rfl hO0 (by decide) w_2298 rfl d_14_21_34 ?_
        refine lv_if_le (tgt := 41) hx hb d_14_21_37 (by decide) (fun c23 => absurd c23 (by decide)) (fun c23 => ?_)
        exact q_retv C0 V (⟨1, 0, 0, hO0, (show ((1 : Int32).toInt = 0 ∧ ((0 ≤ x1.toInt ∧ x1.toInt ≤ 2) ∧ (0 ≤ x2.toInt ∧ x2.toInt ≤ 9) ∧ (0 ≤ x4.toInt ∧ x4.toInt ≤ 9) ∧ (x1.toInt = 0 → 0 ≤ x3.toInt) ∧ (x1.toInt = 1 → (1 ≤ x3.toInt ∧ x3.toInt ≤ 64)))) ∨ ((1 : Int32).toInt = 1 ∧ ¬ ((0 ≤ x1.toInt ∧ x1.toInt ≤ 2) ∧ (0 ≤ x2.toInt ∧ x2.toInt ≤ 9) ∧ (0 ≤ x4.toInt ∧ x4.toInt ≤ 9) ∧ (x1.toInt = 0 → 0 ≤ x3.toInt) ∧ (x1.toInt = 1 → (1 ≤ x3.toInt ∧ x3.toInt ≤ 64)))) from by have t1 : 0 ≤ x1.toInt := q_nltI c1; have t2 : x1.toInt ≤ 2 := q_nltI c5; have t3 : x2.toInt < 0 := q_ltI c12; have e0 : (1 : Int32).toInt = 1 := (by decide); omega), hF⟩) d_14_21_40
      ·
        refine lv_if_ne (tgt := 25) hx hb d_14_21_14 (by decide) (fun c24 => absurd (by decide) c24) (fun c24 => ?_)
        refine lv_iload hx hb d_14_21_17 (lv_at hl 4 rfl) ?_
        refine q_goi V (q_runS (As := [.int x4]) (rest := [.ref qO0]) (d := 1) (mc := 0) (ms := 0) C0 V rfl LS_NM_70 (c_NM_no_IZ l D g ws x4 _) rfl hl.1 rfl (Nat.le_of_ble_eq_true rfl) ⟨by decide, by decide⟩ ⟨Nat.le_of_ble_eq_true rfl, Nat.le_of_ble_eq_true rfl⟩ d_14_21_19) (fun v27 u26 H locs hp25 V => ?_)
        rcases hp25 with ⟨c28, rfl, rfl⟩ | ⟨c30, c31, rfl, rfl⟩ | ⟨c33, c34, rfl, rfl⟩
        ·
          refine lv_if_eq (tgt := 29) hx hb d_14_21_22 (by decide) (fun c36 => absurd c36 (by decide)) (fun c36 => ?_)
          refine lv_iconst (v := 1) hx hb d_14_21_25 (by decide) ?_
          refine lv_goto (tgt := 30) hx hb d_14_21_26 (by decide) ?_
          refine q_put (ci := 12) (j := 0) (v := .int 1) (ty := .int) C0 V i_NM o_NM n_NM rfl rfl hO0 (by decide) w_2298 rfl rfl rfl rfl (Nat.le_of_ble_eq_true rfl) d_14_21_30 (fun H locs w37 hu38 hO0 V => ?_)
          replace hO0 : w37[116]? = (some (qO0, .inr (12, [.int 1, .ref qA1, .int 0, .ref qA2, .int 0, .ref qO3, .ref qO4, .ref qO5, .ref qO6, .ref qO7, .ref qA8, .ref qA9])) : Option (Nat × va_E)) := hO0
          replace hF := q_gs hF hu38 (Nat.le_of_ble_eq_true rfl)
          refine lv_aload_n hx hb d_14_21_33 rfl (lv_at hl 0 rfl) ?_
          refine q_get (ci := 12) (j := 0) (v := .int 1) C0 V i_NM rfl rfl hO0 (by decide) w_2298 rfl d_14_21_34 ?_
          refine lv_if_le (tgt := 41) hx hb d_14_21_37 (by decide) (fun c39 => absurd c39 (by decide)) (fun c39 => ?_)
          exact q_retv C0 V (⟨1, 0, 0, hO0, (show ((1 : Int32).toInt = 0 ∧ ((0 ≤ x1.toInt ∧ x1.toInt ≤ 2) ∧ (0 ≤ x2.toInt ∧ x2.toInt ≤ 9) ∧ (0 ≤ x4.toInt ∧ x4.toInt ≤ 9) ∧ (x1.toInt = 0 → 0 ≤ x3.toInt) ∧ (x1.toInt = 1 → (1 ≤ x3.toInt ∧ x3.toInt ≤ 64)))) ∨ ((1 : Int32).toInt = 1 ∧ ¬ ((0 ≤ x1.toInt ∧ x1.toInt ≤ 2) ∧ (0 ≤ x2.toInt ∧ x2.toInt ≤ 9) ∧ (0 ≤ x4.toInt ∧ x4.toInt ≤ 9) ∧ (x1.toInt = 0 → 0 ≤ x3.toInt) ∧ (x1.toInt = 1 → (1 ≤ x3.toInt ∧ x3.toInt ≤ 64)))) from by have t1 : 0 ≤ x1.toInt := q_nltI c1; have t2 : x1.toInt ≤ 2 := q_nltI c5; have t3 : 0 ≤ x2.toInt := q_nltI c14; have t4 : x2.toInt ≤ 9 := q_leI c15; have t5 : x4.toInt < 0 := q_ltI c28; have e0 : (1 : Int32).toInt = 1 := (by decide); omega), hF⟩) d_14_21_40
        ·
          refine lv_if_eq (tgt := 29) hx hb d_14_21_22 (by decide) (fun c40 => ?_) (fun c40 => absurd (by decide) c40)
          refine lv_iconst (v := 0) hx hb d_14_21_29 (by decide) ?_
          refine q_put (ci := 12) (j := 0) (v := .int 0) (ty := .int) C0 V i_NM o_NM n_NM rfl rfl hO0 (by decide) w_2298 rfl rfl rfl rfl (Nat.le_of_ble_eq_true rfl) d_14_21_30 (fun H locs w41 hu42 hO0 V => ?_)
          replace hO0 : w41[116]? = (some (qO0, .inr (12, [.int 0, .ref qA1, .int 0, .ref qA2, .int 0, .ref qO3, .ref qO4, .ref qO5, .ref qO6, .ref qO7, .ref qA8, .ref qA9])) : Option (Nat × va_E)) := hO0
          replace hF := q_gs hF hu42 (Nat.le_of_ble_eq_true rfl)
          refine lv_aload_n hx hb d_14_21_33 rfl (lv_at hl 0 rfl) ?_
          refine q_get (ci := 12) (j := 0) (v := .int 0) C0 V i_NM rfl rfl hO0 (by decide) w_2298 rfl d_14_21_34 ?_
          refine lv_if_le (tgt := 41) hx hb d_14_21_37 (by decide) (fun c43 => ?_) (fun c43 => absurd (by decide) c43)
          refine lv_iload_n hx hb d_14_21_41 rfl (lv_at hl 1 rfl) ?_
          refine lv_if_ne (tgt := 59) hx hb d_14_21_42 (by decide) (fun c44 => ?_) (fun c44 => ?_)
          ·
            refine lv_iload_n hx hb d_14_21_59 rfl (lv_at hl 1 rfl) ?_
            refine lv_iconst (v := 1) hx hb d_14_21_60 (by decide) ?_
            refine lv_icmp_ne (tgt := 78) hx hb d_14_21_61 (by decide) (fun c45 => ?_) (fun c45 => ?_)
            ·
              refine lv_aload_n hx hb d_14_21_78 rfl (lv_at hl 0 rfl) ?_
              refine q_get (ci := 12) (j := 5) (v := .ref qO3) C0 V i_NM rfl rfl hO0 (by decide) w_2303 rfl d_14_21_79 ?_
              refine lv_iload_n hx hb d_14_21_82 rfl (lv_at hl 2 rfl) ?_
              refine lv_iload_n hx hb d_14_21_83 rfl (lv_at hl 3 rfl) ?_
              refine lv_iload hx hb d_14_21_84 (lv_at hl 4 rfl) ?_
              replace hO3 := (hu42 _ (q_pd 119 116 rfl)).trans (hO3)
              replace hA11 := (hu42 _ (q_pd 121 116 rfl)).trans (hA11)
              replace hA12 := (hu42 _ (q_pd 122 116 rfl)).trans (hA12)
              replace hA13 := (hu42 _ (q_pd 123 116 rfl)).trans (hA13)
              replace hA18 := (hu42 _ (q_pd 128 116 rfl)).trans (hA18)
              refine q_gov V (q_runV (As := [.int x2, .int x3, .int x4]) (rest := []) (d := 3) (mc := 0) (ms := 0) (ci := 13) C0 V rfl LV_NM_197 (c_WR_shift l D g w41 119 121 122 123 128 qO3 qA10 qA11 qA12 qA13 qA14 qA15 qA16 qA17 qA18 qA19 qA20 qA21 qA22 qA23 x2 x3 x4 hO3 hA11 hA12 hA13 hA18 (q_pd 121 122 rfl) (q_pd 121 123 rfl) (q_pd 121 128 rfl) (q_pd 122 123 rfl) (q_pd 122 128 rfl) (q_pd 123 128 rfl) (q_Ile (x := 0) (y := x2.toInt) (by decide) rfl (by have t1 : 0 ≤ x2.toInt := q_nltI c14; have t2 : x2.toInt ≤ 9 := q_leI c15; omega)) c15 (q_Ile (x := 0) (y := x4.toInt) (by decide) rfl (by have t1 : 0 ≤ x4.toInt := q_nltI c30; have t2 : x4.toInt ≤ 9 := q_leI c31; omega)) c31 _) rfl rfl hO3 rfl hl.1 rfl (Nat.le_of_ble_eq_true rfl) ⟨by decide, by decide⟩ ⟨Nat.le_of_ble_eq_true rfl, Nat.le_of_ble_eq_true rfl⟩ d_14_21_86) (fun u47 H locs hp46 V => ?_)
              rcases hp46 with ⟨c48, hg49, hO3, hA11, hA12, hA13, hA18⟩ | ⟨c50, hg51, hO3, hA11, hA12, hA13, hA18⟩
              ·
                replace hF := q_gc hF hg49 (q_al (Nat.le_of_ble_eq_true rfl) (q_al (Nat.le_of_ble_eq_true rfl) (q_al (Nat.le_of_ble_eq_true rfl) (q_al (Nat.le_of_ble_eq_true rfl) (q_al (Nat.le_of_ble_eq_true rfl) (fun _ h => absurd h List.not_mem_nil))))))
                refine lv_aload_n hx hb d_14_21_89 rfl (lv_at hl 0 rfl) ?_
                refine lv_aload_n hx hb d_14_21_90 rfl (lv_at hl 0 rfl) ?_
                replace hO0 := (hg49 _ (q_nc (q_pd 116 119 rfl) (q_nc (q_pd 116 121 rfl) (q_nc (q_pd 116 122 rfl) (q_nc (q_pd 116 123 rfl) (q_nc (q_pd 116 128 rfl) List.not_mem_nil)))))).trans (hO0)
                refine q_get (ci := 12) (j := 5) (v := .ref qO3) C0 V i_NM rfl rfl hO0 (by decide) w_2303 rfl d_14_21_91 ?_
                refine q_getN (ci := 13) (j := 0) (v := .int 0) C0 V i_WR rfl rfl hO3 (by decide) wo_1922 rfl d_14_21_94 ?_
                refine q_put (ci := 12) (j := 0) (v := .int 0) (ty := .int) C0 V i_NM o_NM n_NM rfl rfl hO0 (by decide) w_2298 rfl rfl rfl rfl (Nat.le_of_ble_eq_true rfl) d_14_21_97 (fun H locs w52 hu53 hO0 V => ?_)
                replace hO0 : w52[116]? = (some (qO0, .inr (12, [.int 0, .ref qA1, .int 0, .ref qA2, .int 0, .ref qO3, .ref qO4, .ref qO5, .ref qO6, .ref qO7, .ref qA8, .ref qA9])) : Option (Nat × va_E)) := hO0
                replace hF := q_gs hF hu53 (Nat.le_of_ble_eq_true rfl)
                exact q_retv C0 V (⟨0, 0, 0, hO0, (show ((0 : Int32).toInt = 0 ∧ ((0 ≤ x1.toInt ∧ x1.toInt ≤ 2) ∧ (0 ≤ x2.toInt ∧ x2.toInt ≤ 9) ∧ (0 ≤ x4.toInt ∧ x4.toInt ≤ 9) ∧ (x1.toInt = 0 → 0 ≤ x3.toInt) ∧ (x1.toInt = 1 → (1 ≤ x3.toInt ∧ x3.toInt ≤ 64)))) ∨ ((0 : Int32).toInt = 1 ∧ ¬ ((0 ≤ x1.toInt ∧ x1.toInt ≤ 2) ∧ (0 ≤ x2.toInt ∧ x2.toInt ≤ 9) ∧ (0 ≤ x4.toInt ∧ x4.toInt ≤ 9) ∧ (x1.toInt = 0 → 0 ≤ x3.toInt) ∧ (x1.toInt = 1 → (1 ≤ x3.toInt ∧ x3.toInt ≤ 64)))) from by have t1 : 0 ≤ x1.toInt := q_nltI c1; have t2 : x1.toInt ≤ 2 := q_nltI c5; have t3 : 0 ≤ x2.toInt := q_nltI c14; have t4 : x2.toInt ≤ 9 := q_leI c15; have t5 : 0 ≤ x4.toInt := q_nltI c30; have t6 : x4.toInt ≤ 9 := q_leI c31; have t7 : x1.toInt ≠ 0 := q_neI c44; have t8 : x1.toInt ≠ 1 := q_neI c45; have t9 : x3.toInt < 0 := q_ltI c48; have e0 : (0 : Int32).toInt = 0 := (by decide); omega), hF⟩) d_14_21_100
              ·
                replace hF := q_gc hF hg51 (q_al (Nat.le_of_ble_eq_true rfl) (q_al (Nat.le_of_ble_eq_true rfl) (q_al (Nat.le_of_ble_eq_true rfl) (q_al (Nat.le_of_ble_eq_true rfl) (q_al (Nat.le_of_ble_eq_true rfl) (fun _ h => absurd h List.not_mem_nil))))))
                refine lv_aload_n hx hb d_14_21_89 rfl (lv_at hl 0 rfl) ?_
                refine lv_aload_n hx hb d_14_21_90 rfl (lv_at hl 0 rfl) ?_
                replace hO0 := (hg51 _ (q_nc (q_pd 116 119 rfl) (q_nc (q_pd 116 121 rfl) (q_nc (q_pd 116 122 rfl) (q_nc (q_pd 116 123 rfl) (q_nc (q_pd 116 128 rfl) List.not_mem_nil)))))).trans (hO0)
                refine q_get (ci := 12) (j := 5) (v := .ref qO3) C0 V i_NM rfl rfl hO0 (by decide) w_2303 rfl d_14_21_91 ?_
                refine q_getN (ci := 13) (j := 0) (v := .int 0) C0 V i_WR rfl rfl hO3 (by decide) wo_1922 rfl d_14_21_94 ?_
                refine q_put (ci := 12) (j := 0) (v := .int 0) (ty := .int) C0 V i_NM o_NM n_NM rfl rfl hO0 (by decide) w_2298 rfl rfl rfl rfl (Nat.le_of_ble_eq_true rfl) d_14_21_97 (fun H locs w54 hu55 hO0 V => ?_)
                replace hO0 : w54[116]? = (some (qO0, .inr (12, [.int 0, .ref qA1, .int 0, .ref qA2, .int 0, .ref qO3, .ref qO4, .ref qO5, .ref qO6, .ref qO7, .ref qA8, .ref qA9])) : Option (Nat × va_E)) := hO0
                replace hF := q_gs hF hu55 (Nat.le_of_ble_eq_true rfl)
                exact q_retv C0 V (⟨0, 0, 0, hO0, (show ((0 : Int32).toInt = 0 ∧ ((0 ≤ x1.toInt ∧ x1.toInt ≤ 2) ∧ (0 ≤ x2.toInt ∧ x2.toInt ≤ 9) ∧ (0 ≤ x4.toInt ∧ x4.toInt ≤ 9) ∧ (x1.toInt = 0 → 0 ≤ x3.toInt) ∧ (x1.toInt = 1 → (1 ≤ x3.toInt ∧ x3.toInt ≤ 64)))) ∨ ((0 : Int32).toInt = 1 ∧ ¬ ((0 ≤ x1.toInt ∧ x1.toInt ≤ 2) ∧ (0 ≤ x2.toInt ∧ x2.toInt ≤ 9) ∧ (0 ≤ x4.toInt ∧ x4.toInt ≤ 9) ∧ (x1.toInt = 0 → 0 ≤ x3.toInt) ∧ (x1.toInt = 1 → (1 ≤ x3.toInt ∧ x3.toInt ≤ 64)))) from by have t1 : 0 ≤ x1.toInt := q_nltI c1; have t2 : x1.toInt ≤ 2 := q_nltI c5; have t3 : 0 ≤ x2.toInt := q_nltI c14; have t4 : x2.toInt ≤ 9 := q_leI c15; have t5 : 0 ≤ x4.toInt := q_nltI c30; have t6 : x4.toInt ≤ 9 := q_leI c31; have t7 : x1.toInt ≠ 0 := q_neI c44; have t8 : x1.toInt ≠ 1 := q_neI c45; have t9 : 0 ≤ x3.toInt := q_nltI c50; have e0 : (0 : Int32).toInt = 0 := (by decide); omega), hF⟩) d_14_21_100
            ·
              refine lv_aload_n hx hb d_14_21_64 rfl (lv_at hl 0 rfl) ?_
              refine q_get (ci := 12) (j := 5) (v := .ref qO3) C0 V i_NM rfl rfl hO0 (by decide) w_2303 rfl d_14_21_65 ?_
              refine lv_iload_n hx hb d_14_21_68 rfl (lv_at hl 2 rfl) ?_
              refine lv_iload_n hx hb d_14_21_69 rfl (lv_at hl 3 rfl) ?_
              refine lv_iload hx hb d_14_21_70 (lv_at hl 4 rfl) ?_
              replace hO3 := (hu42 _ (q_pd 119 116 rfl)).trans (hO3)
              replace hA11 := (hu42 _ (q_pd 121 116 rfl)).trans (hA11)
              replace hA12 := (hu42 _ (q_pd 122 116 rfl)).trans (hA12)
              replace hA13 := (hu42 _ (q_pd 123 116 rfl)).trans (hA13)
              replace hA14 := (hu42 _ (q_pd 124 116 rfl)).trans (hA14)
              replace hA15 := (hu42 _ (q_pd 125 116 rfl)).trans (hA15)
              replace hA18 := (hu42 _ (q_pd 128 116 rfl)).trans (hA18)
              refine q_gov V (q_runV (As := [.int x2, .int x3, .int x4]) (rest := []) (d := 4) (mc := 0) (ms := 0) (ci := 13) C0 V rfl LV_NM_194 (c_WR_root l D g w41 119 121 122 123 124 125 128 qO3 qA10 qA11 qA12 qA13 qA14 qA15 qA16 qA17 qA18 qA19 qA20 qA21 qA22 qA23 x2 x3 x4 hO3 hA11 hA12 hA13 hA14 hA15 hA18 (q_pd 121 122 rfl) (q_pd 121 123 rfl) (q_pd 121 124 rfl) (q_pd 121 125 rfl) (q_pd 121 128 rfl) (q_pd 122 123 rfl) (q_pd 122 124 rfl) (q_pd 122 125 rfl) (q_pd 122 128 rfl) (q_pd 123 124 rfl) (q_pd 123 125 rfl) (q_pd 123 128 rfl) (q_pd 124 125 rfl) (q_pd 124 128 rfl) (q_pd 125 128 rfl) (q_Ile (x := 0) (y := x2.toInt) (by decide) rfl (by have t1 : 0 ≤ x2.toInt := q_nltI c14; have t2 : x2.toInt ≤ 9 := q_leI c15; omega)) c15 (q_Ile (x := 0) (y := x4.toInt) (by decide) rfl (by have t1 : 0 ≤ x4.toInt := q_nltI c30; have t2 : x4.toInt ≤ 9 := q_leI c31; omega)) c31 _) rfl rfl hO3 rfl hl.1 rfl (Nat.le_of_ble_eq_true rfl) ⟨by decide, by decide⟩ ⟨Nat.le_of_ble_eq_true rfl, Nat.le_of_ble_eq_true rfl⟩ d_14_21_72) (fun u57 H locs hp56 V => ?_)
              rcases hp56 with ⟨c58, hg59, hO3, hA11, hA12, hA13, hA14, hA15, hA18⟩ | ⟨y62, c60, c61, hg63, hO3, hA11, hA12, hA13, hA14, hA15, hA18⟩ | ⟨c64, c65, hg66, hO3, hA11, hA12, hA13, hA14, hA15, hA18⟩ | ⟨c67, c68, hg69, hO3, hA11, hA12, hA13, hA14, hA15, hA18⟩
              ·
                replace hF := q_gc hF hg59 (q_al (Nat.le_of_ble_eq_true rfl) (q_al (Nat.le_of_ble_eq_true rfl) (q_al (Nat.le_of_ble_eq_true rfl) (q_al (Nat.le_of_ble_eq_true rfl) (q_al (Nat.le_of_ble_eq_true rfl) (q_al (Nat.le_of_ble_eq_true rfl) (q_al (Nat.le_of_ble_eq_true rfl) (fun _ h => absurd h List.not_mem_nil))))))))
                refine lv_goto (tgt := 89) hx hb d_14_21_75 (by decide) ?_
                refine lv_aload_n hx hb d_14_21_89 rfl (lv_at hl 0 rfl) ?_
                refine lv_aload_n hx hb d_14_21_90 rfl (lv_at hl 0 rfl) ?_
                replace hO0 := (hg59 _ (q_nc (q_pd 116 119 rfl) (q_nc (q_pd 116 121 rfl) (q_nc (q_pd 116 122 rfl) (q_nc (q_pd 116 123 rfl) (q_nc (q_pd 116 124 rfl) (q_nc (q_pd 116 125 rfl) (q_nc (q_pd 116 128 rfl) List.not_mem_nil)))))))).trans (hO0)
                refine q_get (ci := 12) (j := 5) (v := .ref qO3) C0 V i_NM rfl rfl hO0 (by decide) w_2303 rfl d_14_21_91 ?_
                refine q_getN (ci := 13) (j := 0) (v := .int 1) C0 V i_WR rfl rfl hO3 (by decide) wo_1922 rfl d_14_21_94 ?_
                refine q_put (ci := 12) (j := 0) (v := .int 1) (ty := .int) C0 V i_NM o_NM n_NM rfl rfl hO0 (by decide) w_2298 rfl rfl rfl rfl (Nat.le_of_ble_eq_true rfl) d_14_21_97 (fun H locs w70 hu71 hO0 V => ?_)
                replace hO0 : w70[116]? = (some (qO0, .inr (12, [.int 1, .ref qA1, .int 0, .ref qA2, .int 0, .ref qO3, .ref qO4, .ref qO5, .ref qO6, .ref qO7, .ref qA8, .ref qA9])) : Option (Nat × va_E)) := hO0
                replace hF := q_gs hF hu71 (Nat.le_of_ble_eq_true rfl)
                exact q_retv C0 V (⟨1, 0, 0, hO0, (show ((1 : Int32).toInt = 0 ∧ ((0 ≤ x1.toInt ∧ x1.toInt ≤ 2) ∧ (0 ≤ x2.toInt ∧ x2.toInt ≤ 9) ∧ (0 ≤ x4.toInt ∧ x4.toInt ≤ 9) ∧ (x1.toInt = 0 → 0 ≤ x3.toInt) ∧ (x1.toInt = 1 → (1 ≤ x3.toInt ∧ x3.toInt ≤ 64)))) ∨ ((1 : Int32).toInt = 1 ∧ ¬ ((0 ≤ x1.toInt ∧ x1.toInt ≤ 2) ∧ (0 ≤ x2.toInt ∧ x2.toInt ≤ 9) ∧ (0 ≤ x4.toInt ∧ x4.toInt ≤ 9) ∧ (x1.toInt = 0 → 0 ≤ x3.toInt) ∧ (x1.toInt = 1 → (1 ≤ x3.toInt ∧ x3.toInt ≤ 64)))) from by have t1 : 0 ≤ x1.toInt := q_nltI c1; have t2 : x1.toInt ≤ 2 := q_nltI c5; have t3 : 0 ≤ x2.toInt := q_nltI c14; have t4 : x2.toInt ≤ 9 := q_leI c15; have t5 : 0 ≤ x4.toInt := q_nltI c30; have t6 : x4.toInt ≤ 9 := q_leI c31; have t7 : x1.toInt ≠ 0 := q_neI c44; have t8 : x1.toInt = 1 := q_eqI c45; have t9 : x3.toInt < 1 := q_ltI c58; have e0 : (1 : Int32).toInt = 1 := (by decide); omega), hF⟩) d_14_21_100
              ·
                replace hF := q_gc hF hg63 (q_al (Nat.le_of_ble_eq_true rfl) (q_al (Nat.le_of_ble_eq_true rfl) (q_al (Nat.le_of_ble_eq_true rfl) (q_al (Nat.le_of_ble_eq_true rfl) (q_al (Nat.le_of_ble_eq_true rfl) (q_al (Nat.le_of_ble_eq_true rfl) (q_al (Nat.le_of_ble_eq_true rfl) (fun _ h => absurd h List.not_mem_nil))))))))
                refine lv_goto (tgt := 89) hx hb d_14_21_75 (by decide) ?_
                refine lv_aload_n hx hb d_14_21_89 rfl (lv_at hl 0 rfl) ?_
                refine lv_aload_n hx hb d_14_21_90 rfl (lv_at hl 0 rfl) ?_
                replace hO0 := (hg63 _ (q_nc (q_pd 116 119 rfl) (q_nc (q_pd 116 121 rfl) (q_nc (q_pd 116 122 rfl) (q_nc (q_pd 116 123 rfl) (q_nc (q_pd 116 124 rfl) (q_nc (q_pd 116 125 rfl) (q_nc (q_pd 116 128 rfl) List.not_mem_nil)))))))).trans (hO0)
                refine q_get (ci := 12) (j := 5) (v := .ref qO3) C0 V i_NM rfl rfl hO0 (by decide) w_2303 rfl d_14_21_91 ?_
                refine q_getN (ci := 13) (j := 0) (v := .int 0) C0 V i_WR rfl rfl hO3 (by decide) wo_1922 rfl d_14_21_94 ?_
                refine q_put (ci := 12) (j := 0) (v := .int 0) (ty := .int) C0 V i_NM o_NM n_NM rfl rfl hO0 (by decide) w_2298 rfl rfl rfl rfl (Nat.le_of_ble_eq_true rfl) d_14_21_97 (fun H locs w72 hu73 hO0 V => ?_)
                replace hO0 : w72[116]? = (some (qO0, .inr (12, [.int 0, .ref qA1, .int 0, .ref qA2, .int 0, .ref qO3, .ref qO4, .ref qO5, .ref qO6, .ref qO7, .ref qA8, .ref qA9])) : Option (Nat × va_E)) := hO0
                replace hF := q_gs hF hu73 (Nat.le_of_ble_eq_true rfl)
                exact q_retv C0 V (⟨0, 0, 0, hO0, (show ((0 : Int32).toInt = 0 ∧ ((0 ≤ x1.toInt ∧ x1.toInt ≤ 2) ∧ (0 ≤ x2.toInt ∧ x2.toInt ≤ 9) ∧ (0 ≤ x4.toInt ∧ x4.toInt ≤ 9) ∧ (x1.toInt = 0 → 0 ≤ x3.toInt) ∧ (x1.toInt = 1 → (1 ≤ x3.toInt ∧ x3.toInt ≤ 64)))) ∨ ((0 : Int32).toInt = 1 ∧ ¬ ((0 ≤ x1.toInt ∧ x1.toInt ≤ 2) ∧ (0 ≤ x2.toInt ∧ x2.toInt ≤ 9) ∧ (0 ≤ x4.toInt ∧ x4.toInt ≤ 9) ∧ (x1.toInt = 0 → 0 ≤ x3.toInt) ∧ (x1.toInt = 1 → (1 ≤ x3.toInt ∧ x3.toInt ≤ 64)))) from by have t1 : 0 ≤ x1.toInt := q_nltI c1; have t2 : x1.toInt ≤ 2 := q_nltI c5; have t3 : 0 ≤ x2.toInt := q_nltI c14; have t4 : x2.toInt ≤ 9 := q_leI c15; have t5 : 0 ≤ x4.toInt := q_nltI c30; have t6 : x4.toInt ≤ 9 := q_leI c31; have t7 : x1.toInt ≠ 0 := q_neI c44; have t8 : x1.toInt = 1 := q_eqI c45; have t9 : 1 ≤ x3.toInt := q_nltI c60; have t10 : x3.toInt ≤ 64 := q_leI c61; have e0 : (0 : Int32).toInt = 0 := (by decide); omega), hF⟩) d_14_21_100
              ·
                replace hF := q_gc hF hg66 (q_al (Nat.le_of_ble_eq_true rfl) (q_al (Nat.le_of_ble_eq_true rfl) (q_al (Nat.le_of_ble_eq_true rfl) (q_al (Nat.le_of_ble_eq_true rfl) (q_al (Nat.le_of_ble_eq_true rfl) (q_al (Nat.le_of_ble_eq_true rfl) (q_al (Nat.le_of_ble_eq_true rfl) (fun _ h => absurd h List.not_mem_nil))))))))
                refine lv_goto (tgt := 89) hx hb d_14_21_75 (by decide) ?_
                refine lv_aload_n hx hb d_14_21_89 rfl (lv_at hl 0 rfl) ?_
                refine lv_aload_n hx hb d_14_21_90 rfl (lv_at hl 0 rfl) ?_
                replace hO0 := (hg66 _ (q_nc (q_pd 116 119 rfl) (q_nc (q_pd 116 121 rfl) (q_nc (q_pd 116 122 rfl) (q_nc (q_pd 116 123 rfl) (q_nc (q_pd 116 124 rfl) (q_nc (q_pd 116 125 rfl) (q_nc (q_pd 116 128 rfl) List.not_mem_nil)))))))).trans (hO0)
                refine q_get (ci := 12) (j := 5) (v := .ref qO3) C0 V i_NM rfl rfl hO0 (by decide) w_2303 rfl d_14_21_91 ?_
                refine q_getN (ci := 13) (j := 0) (v := .int 0) C0 V i_WR rfl rfl hO3 (by decide) wo_1922 rfl d_14_21_94 ?_
                refine q_put (ci := 12) (j := 0) (v := .int 0) (ty := .int) C0 V i_NM o_NM n_NM rfl rfl hO0 (by decide) w_2298 rfl rfl rfl rfl (Nat.le_of_ble_eq_true rfl) d_14_21_97 (fun H locs w74 hu75 hO0 V => ?_)
                replace hO0 : w74[116]? = (some (qO0, .inr (12, [.int 0, .ref qA1, .int 0, .ref qA2, .int 0, .ref qO3, .ref qO4, .ref qO5, .ref qO6, .ref qO7, .ref qA8, .ref qA9])) : Option (Nat × va_E)) := hO0
                replace hF := q_gs hF hu75 (Nat.le_of_ble_eq_true rfl)
                exact q_retv C0 V (⟨0, 0, 0, hO0, (show ((0 : Int32).toInt = 0 ∧ ((0 ≤ x1.toInt ∧ x1.toInt ≤ 2) ∧ (0 ≤ x2.toInt ∧ x2.toInt ≤ 9) ∧ (0 ≤ x4.toInt ∧ x4.toInt ≤ 9) ∧ (x1.toInt = 0 → 0 ≤ x3.toInt) ∧ (x1.toInt = 1 → (1 ≤ x3.toInt ∧ x3.toInt ≤ 64)))) ∨ ((0 : Int32).toInt = 1 ∧ ¬ ((0 ≤ x1.toInt ∧ x1.toInt ≤ 2) ∧ (0 ≤ x2.toInt ∧ x2.toInt ≤ 9) ∧ (0 ≤ x4.toInt ∧ x4.toInt ≤ 9) ∧ (x1.toInt = 0 → 0 ≤ x3.toInt) ∧ (x1.toInt = 1 → (1 ≤ x3.toInt ∧ x3.toInt ≤ 64)))) from by have t1 : 0 ≤ x1.toInt := q_nltI c1; have t2 : x1.toInt ≤ 2 := q_nltI c5; have t3 : 0 ≤ x2.toInt := q_nltI c14; have t4 : x2.toInt ≤ 9 := q_leI c15; have t5 : 0 ≤ x4.toInt := q_nltI c30; have t6 : x4.toInt ≤ 9 := q_leI c31; have t7 : x1.toInt ≠ 0 := q_neI c44; have t8 : x1.toInt = 1 := q_eqI c45; have t9 : 1 ≤ x3.toInt := q_nltI c64; have t10 : x3.toInt ≤ 64 := q_leI c65; have e0 : (0 : Int32).toInt = 0 := (by decide); omega), hF⟩) d_14_21_100
              ·
                replace hF := q_gc hF hg69 (q_al (Nat.le_of_ble_eq_true rfl) (q_al (Nat.le_of_ble_eq_true rfl) (q_al (Nat.le_of_ble_eq_true rfl) (q_al (Nat.le_of_ble_eq_true rfl) (q_al (Nat.le_of_ble_eq_true rfl) (q_al (Nat.le_of_ble_eq_true rfl) (q_al (Nat.le_of_ble_eq_true rfl) (fun _ h => absurd h List.not_mem_nil))))))))
                refine lv_goto (tgt := 89) hx hb d_14_21_75 (by decide) ?_
                refine lv_aload_n hx hb d_14_21_89 rfl (lv_at hl 0 rfl) ?_
                refine lv_aload_n hx hb d_14_21_90 rfl (lv_at hl 0 rfl) ?_
                replace hO0 := (hg69 _ (q_nc (q_pd 116 119 rfl) (q_nc (q_pd 116 121 rfl) (q_nc (q_pd 116 122 rfl) (q_nc (q_pd 116 123 rfl) (q_nc (q_pd 116 124 rfl) (q_nc (q_pd 116 125 rfl) (q_nc (q_pd 116 128 rfl) List.not_mem_nil)))))))).trans (hO0)
                refine q_get (ci := 12) (j := 5) (v := .ref qO3) C0 V i_NM rfl rfl hO0 (by decide) w_2303 rfl d_14_21_91 ?_
                refine q_getN (ci := 13) (j := 0) (v := .int 1) C0 V i_WR rfl rfl hO3 (by decide) wo_1922 rfl d_14_21_94 ?_
                refine q_put (ci := 12) (j := 0) (v := .int 1) (ty := .int) C0 V i_NM o_NM n_NM rfl rfl hO0 (by decide) w_2298 rfl rfl rfl rfl (Nat.le_of_ble_eq_true rfl) d_14_21_97 (fun H locs w76 hu77 hO0 V => ?_)
                replace hO0 : w76[116]? = (some (qO0, .inr (12, [.int 1, .ref qA1, .int 0, .ref qA2, .int 0, .ref qO3, .ref qO4, .ref qO5, .ref qO6, .ref qO7, .ref qA8, .ref qA9])) : Option (Nat × va_E)) := hO0
                replace hF := q_gs hF hu77 (Nat.le_of_ble_eq_true rfl)
                exact q_retv C0 V (⟨1, 0, 0, hO0, (show ((1 : Int32).toInt = 0 ∧ ((0 ≤ x1.toInt ∧ x1.toInt ≤ 2) ∧ (0 ≤ x2.toInt ∧ x2.toInt ≤ 9) ∧ (0 ≤ x4.toInt ∧ x4.toInt ≤ 9) ∧ (x1.toInt = 0 → 0 ≤ x3.toInt) ∧ (x1.toInt = 1 → (1 ≤ x3.toInt ∧ x3.toInt ≤ 64)))) ∨ ((1 : Int32).toInt = 1 ∧ ¬ ((0 ≤ x1.toInt ∧ x1.toInt ≤ 2) ∧ (0 ≤ x2.toInt ∧ x2.toInt ≤ 9) ∧ (0 ≤ x4.toInt ∧ x4.toInt ≤ 9) ∧ (x1.toInt = 0 → 0 ≤ x3.toInt) ∧ (x1.toInt = 1 → (1 ≤ x3.toInt ∧ x3.toInt ≤ 64)))) from by have t1 : 0 ≤ x1.toInt := q_nltI c1; have t2 : x1.toInt ≤ 2 := q_nltI c5; have t3 : 0 ≤ x2.toInt := q_nltI c14; have t4 : x2.toInt ≤ 9 := q_leI c15; have t5 : 0 ≤ x4.toInt := q_nltI c30; have t6 : x4.toInt ≤ 9 := q_leI c31; have t7 : x1.toInt ≠ 0 := q_neI c44; have t8 : x1.toInt = 1 := q_eqI c45; have t9 : 1 ≤ x3.toInt := q_nltI c67; have t10 : 64 < x3.toInt := q_nleI c68; have e0 : (1 : Int32).toInt = 1 := (by decide); omega), hF⟩) d_14_21_100
          ·
            refine lv_aload_n hx hb d_14_21_45 rfl (lv_at hl 0 rfl) ?_
            refine q_get (ci := 12) (j := 5) (v := .ref qO3) C0 V i_NM rfl rfl hO0 (by decide) w_2303 rfl d_14_21_46 ?_
            refine lv_iload_n hx hb d_14_21_49 rfl (lv_at hl 2 rfl) ?_
            refine lv_iload_n hx hb d_14_21_50 rfl (lv_at hl 3 rfl) ?_
            refine lv_iload hx hb d_14_21_51 (lv_at hl 4 rfl) ?_
            replace hO3 := (hu42 _ (q_pd 119 116 rfl)).trans (hO3)
            replace hA11 := (hu42 _ (q_pd 121 116 rfl)).trans (hA11)
            replace hA12 := (hu42 _ (q_pd 122 116 rfl)).trans (hA12)
            replace hA13 := (hu42 _ (q_pd 123 116 rfl)).trans (hA13)
            replace hA15 := (hu42 _ (q_pd 125 116 rfl)).trans (hA15)
            replace hA18 := (hu42 _ (q_pd 128 116 rfl)).trans (hA18)
            refine q_gov V (q_runV (As := [.int x2, .int x3, .int x4]) (rest := []) (d := 3) (mc := 0) (ms := 0) (ci := 13) C0 V rfl LV_NM_192 (c_WR_power l D g w41 119 121 122 123 125 128 qO3 qA10 qA11 qA12 qA13 qA14 qA15 qA16 qA17 qA18 qA19 qA20 qA21 qA22 qA23 x2 x3 x4 hO3 hA11 hA12 hA13 hA15 hA18 (q_pd 121 122 rfl) (q_pd 121 123 rfl) (q_pd 121 125 rfl) (q_pd 121 128 rfl) (q_pd 122 123 rfl) (q_pd 122 125 rfl) (q_pd 122 128 rfl) (q_pd 123 125 rfl) (q_pd 123 128 rfl) (q_pd 125 128 rfl) (q_Ile (x := 0) (y := x2.toInt) (by decide) rfl (by have t1 : 0 ≤ x2.toInt := q_nltI c14; have t2 : x2.toInt ≤ 9 := q_leI c15; omega)) c15 (q_Ile (x := 0) (y := x4.toInt) (by decide) rfl (by have t1 : 0 ≤ x4.toInt := q_nltI c30; have t2 : x4.toInt ≤ 9 := q_leI c31; omega)) c31 _) rfl rfl hO3 rfl hl.1 rfl (Nat.le_of_ble_eq_true rfl) ⟨by decide, by decide⟩ ⟨Nat.le_of_ble_eq_true rfl, Nat.le_of_ble_eq_true rfl⟩ d_14_21_53) (fun u79 H locs hp78 V => ?_)
            rcases hp78 with ⟨y83, c80, c81, c82, hg84, hO3, hA11, hA12, hA13, hA15, hA18⟩ | ⟨c85, c86, c87, hg88, hO3, hA11, hA12, hA13, hA15, hA18⟩ | ⟨c89, c90, hg91, hO3, hA11, hA12, hA13, hA15, hA18⟩ | ⟨c92, hg93, hO3, hA11, hA12, hA13, hA15, hA18⟩
            ·
              replace hF := q_gc hF hg84 (q_al (Nat.le_of_ble_eq_true rfl) (q_al (Nat.le_of_ble_eq_true rfl) (q_al (Nat.le_of_ble_eq_true rfl) (q_al (Nat.le_of_ble_eq_true rfl) (q_al (Nat.le_of_ble_eq_true rfl) (q_al (Nat.le_of_ble_eq_true rfl) (fun _ h => absurd h List.not_mem_nil)))))))
              refine lv_goto (tgt := 89) hx hb d_14_21_56 (by decide) ?_
              refine lv_aload_n hx hb d_14_21_89 rfl (lv_at hl 0 rfl) ?_
              refine lv_aload_n hx hb d_14_21_90 rfl (lv_at hl 0 rfl) ?_
              replace hO0 := (hg84 _ (q_nc (q_pd 116 119 rfl) (q_nc (q_pd 116 121 rfl) (q_nc (q_pd 116 122 rfl) (q_nc (q_pd 116 123 rfl) (q_nc (q_pd 116 125 rfl) (q_nc (q_pd 116 128 rfl) List.not_mem_nil))))))).trans (hO0)
              refine q_get (ci := 12) (j := 5) (v := .ref qO3) C0 V i_NM rfl rfl hO0 (by decide) w_2303 rfl d_14_21_91 ?_
              refine q_getN (ci := 13) (j := 0) (v := .int 0) C0 V i_WR rfl rfl hO3 (by decide) wo_1922 rfl d_14_21_94 ?_
              refine q_put (ci := 12) (j := 0) (v := .int 0) (ty := .int) C0 V i_NM o_NM n_NM rfl rfl hO0 (by decide) w_2298 rfl rfl rfl rfl (Nat.le_of_ble_eq_true rfl) d_14_21_97 (fun H locs w94 hu95 hO0 V => ?_)
              replace hO0 : w94[116]? = (some (qO0, .inr (12, [.int 0, .ref qA1, .int 0, .ref qA2, .int 0, .ref qO3, .ref qO4, .ref qO5, .ref qO6, .ref qO7, .ref qA8, .ref qA9])) : Option (Nat × va_E)) := hO0
              replace hF := q_gs hF hu95 (Nat.le_of_ble_eq_true rfl)
              exact q_retv C0 V (⟨0, 0, 0, hO0, (show ((0 : Int32).toInt = 0 ∧ ((0 ≤ x1.toInt ∧ x1.toInt ≤ 2) ∧ (0 ≤ x2.toInt ∧ x2.toInt ≤ 9) ∧ (0 ≤ x4.toInt ∧ x4.toInt ≤ 9) ∧ (x1.toInt = 0 → 0 ≤ x3.toInt) ∧ (x1.toInt = 1 → (1 ≤ x3.toInt ∧ x3.toInt ≤ 64)))) ∨ ((0 : Int32).toInt = 1 ∧ ¬ ((0 ≤ x1.toInt ∧ x1.toInt ≤ 2) ∧ (0 ≤ x2.toInt ∧ x2.toInt ≤ 9) ∧ (0 ≤ x4.toInt ∧ x4.toInt ≤ 9) ∧ (x1.toInt = 0 → 0 ≤ x3.toInt) ∧ (x1.toInt = 1 → (1 ≤ x3.toInt ∧ x3.toInt ≤ 64)))) from by have t1 : 0 ≤ x1.toInt := q_nltI c1; have t2 : x1.toInt ≤ 2 := q_nltI c5; have t3 : 0 ≤ x2.toInt := q_nltI c14; have t4 : x2.toInt ≤ 9 := q_leI c15; have t5 : 0 ≤ x4.toInt := q_nltI c30; have t6 : x4.toInt ≤ 9 := q_leI c31; have t7 : x1.toInt = 0 := q_eqI c44; have t8 : 0 ≤ x3.toInt := q_leI c80; have t9 : x3.toInt ≤ 2 := q_leI c81; have t10 : x3.toInt ≤ 0 := q_leI c82; have e0 : (0 : Int32).toInt = 0 := (by decide); omega), hF⟩) d_14_21_100
            ·
              replace hF := q_gc hF hg88 (q_al (Nat.le_of_ble_eq_true rfl) (q_al (Nat.le_of_ble_eq_true rfl) (q_al (Nat.le_of_ble_eq_true rfl) (q_al (Nat.le_of_ble_eq_true rfl) (q_al (Nat.le_of_ble_eq_true rfl) (q_al (Nat.le_of_ble_eq_true rfl) (fun _ h => absurd h List.not_mem_nil)))))))
              refine lv_goto (tgt := 89) hx hb d_14_21_56 (by decide) ?_
              refine lv_aload_n hx hb d_14_21_89 rfl (lv_at hl 0 rfl) ?_
              refine lv_aload_n hx hb d_14_21_90 rfl (lv_at hl 0 rfl) ?_
              replace hO0 := (hg88 _ (q_nc (q_pd 116 119 rfl) (q_nc (q_pd 116 121 rfl) (q_nc (q_pd 116 122 rfl) (q_nc (q_pd 116 123 rfl) (q_nc (q_pd 116 125 rfl) (q_nc (q_pd 116 128 rfl) List.not_mem_nil))))))).trans (hO0)
              refine q_get (ci := 12) (j := 5) (v := .ref qO3) C0 V i_NM rfl rfl hO0 (by decide) w_2303 rfl d_14_21_91 ?_
              refine q_getN (ci := 13) (j := 0) (v := .int 0) C0 V i_WR rfl rfl hO3 (by decide) wo_1922 rfl d_14_21_94 ?_
              refine q_put (ci := 12) (j := 0) (v := .int 0) (ty := .int) C0 V i_NM o_NM n_NM rfl rfl hO0 (by decide) w_2298 rfl rfl rfl rfl (Nat.le_of_ble_eq_true rfl) d_14_21_97 (fun H locs w96 hu97 hO0 V => ?_)
              replace hO0 : w96[116]? = (some (qO0, .inr (12, [.int 0, .ref qA1, .int 0, .ref qA2, .int 0, .ref qO3, .ref qO4, .ref qO5, .ref qO6, .ref qO7, .ref qA8, .ref qA9])) : Option (Nat × va_E)) := hO0
              replace hF := q_gs hF hu97 (Nat.le_of_ble_eq_true rfl)
              exact q_retv C0 V (⟨0, 0, 0, hO0, (show ((0 : Int32).toInt = 0 ∧ ((0 ≤ x1.toInt ∧ x1.toInt ≤ 2) ∧ (0 ≤ x2.toInt ∧ x2.toInt ≤ 9) ∧ (0 ≤ x4.toInt ∧ x4.toInt ≤ 9) ∧ (x1.toInt = 0 → 0 ≤ x3.toInt) ∧ (x1.toInt = 1 → (1 ≤ x3.toInt ∧ x3.toInt ≤ 64)))) ∨ ((0 : Int32).toInt = 1 ∧ ¬ ((0 ≤ x1.toInt ∧ x1.toInt ≤ 2) ∧ (0 ≤ x2.toInt ∧ x2.toInt ≤ 9) ∧ (0 ≤ x4.toInt ∧ x4.toInt ≤ 9) ∧ (x1.toInt = 0 → 0 ≤ x3.toInt) ∧ (x1.toInt = 1 → (1 ≤ x3.toInt ∧ x3.toInt ≤ 64)))) from by have t1 : 0 ≤ x1.toInt := q_nltI c1; have t2 : x1.toInt ≤ 2 := q_nltI c5; have t3 : 0 ≤ x2.toInt := q_nltI c14; have t4 : x2.toInt ≤ 9 := q_leI c15; have t5 : 0 ≤ x4.toInt := q_nltI c30; have t6 : x4.toInt ≤ 9 := q_leI c31; have t7 : x1.toInt = 0 := q_eqI c44; have t8 : 0 ≤ x3.toInt := q_leI c85; have t9 : x3.toInt ≤ 2 := q_leI c86; have t10 : 0 < x3.toInt := q_nleI c87; have e0 : (0 : Int32).toInt = 0 := (by decide); omega), hF⟩) d_14_21_100
            ·
              replace hF := q_gc hF hg91 (q_al (Nat.le_of_ble_eq_true rfl) (q_al (Nat.le_of_ble_eq_true rfl) (q_al (Nat.le_of_ble_eq_true rfl) (q_al (Nat.le_of_ble_eq_true rfl) (q_al (Nat.le_of_ble_eq_true rfl) (q_al (Nat.le_of_ble_eq_true rfl) (fun _ h => absurd h List.not_mem_nil)))))))
              refine lv_goto (tgt := 89) hx hb d_14_21_56 (by decide) ?_
              refine lv_aload_n hx hb d_14_21_89 rfl (lv_at hl 0 rfl) ?_
              refine lv_aload_n hx hb d_14_21_90 rfl (lv_at hl 0 rfl) ?_
              replace hO0 := (hg91 _ (q_nc (q_pd 116 119 rfl) (q_nc (q_pd 116 121 rfl) (q_nc (q_pd 116 122 rfl) (q_nc (q_pd 116 123 rfl) (q_nc (q_pd 116 125 rfl) (q_nc (q_pd 116 128 rfl) List.not_mem_nil))))))).trans (hO0)
              refine q_get (ci := 12) (j := 5) (v := .ref qO3) C0 V i_NM rfl rfl hO0 (by decide) w_2303 rfl d_14_21_91 ?_
              refine q_getN (ci := 13) (j := 0) (v := .int 0) C0 V i_WR rfl rfl hO3 (by decide) wo_1922 rfl d_14_21_94 ?_
              refine q_put (ci := 12) (j := 0) (v := .int 0) (ty := .int) C0 V i_NM o_NM n_NM rfl rfl hO0 (by decide) w_2298 rfl rfl rfl rfl (Nat.le_of_ble_eq_true rfl) d_14_21_97 (fun H locs w98 hu99 hO0 V => ?_)
              replace hO0 : w98[116]? = (some (qO0, .inr (12, [.int 0, .ref qA1, .int 0, .ref qA2, .int 0, .ref qO3, .ref qO4, .ref qO5, .ref qO6, .ref qO7, .ref qA8, .ref qA9])) : Option (Nat × va_E)) := hO0
              replace hF := q_gs hF hu99 (Nat.le_of_ble_eq_true rfl)
              exact q_retv C0 V (⟨0, 0, 0, hO0, (show ((0 : Int32).toInt = 0 ∧ ((0 ≤ x1.toInt ∧ x1.toInt ≤ 2) ∧ (0 ≤ x2.toInt ∧ x2.toInt ≤ 9) ∧ (0 ≤ x4.toInt ∧ x4.toInt ≤ 9) ∧ (x1.toInt = 0 → 0 ≤ x3.toInt) ∧ (x1.toInt = 1 → (1 ≤ x3.toInt ∧ x3.toInt ≤ 64)))) ∨ ((0 : Int32).toInt = 1 ∧ ¬ ((0 ≤ x1.toInt ∧ x1.toInt ≤ 2) ∧ (0 ≤ x2.toInt ∧ x2.toInt ≤ 9) ∧ (0 ≤ x4.toInt ∧ x4.toInt ≤ 9) ∧ (x1.toInt = 0 → 0 ≤ x3.toInt) ∧ (x1.toInt = 1 → (1 ≤ x3.toInt ∧ x3.toInt ≤ 64)))) from by have t1 : 0 ≤ x1.toInt := q_nltI c1; have t2 : x1.toInt ≤ 2 := q_nltI c5; have t3 : 0 ≤ x2.toInt := q_nltI c14; have t4 : x2.toInt ≤ 9 := q_leI c15; have t5 : 0 ≤ x4.toInt := q_nltI c30; have t6 : x4.toInt ≤ 9 := q_leI c31; have t7 : x1.toInt = 0 := q_eqI c44; have t8 : 0 ≤ x3.toInt := q_leI c89; have t9 : 2 < x3.toInt := q_nleI c90; have e0 : (0 : Int32).toInt = 0 := (by decide); omega), hF⟩) d_14_21_100
            ·
              replace hF := q_gc hF hg93 (q_al (Nat.le_of_ble_eq_true rfl) (q_al (Nat.le_of_ble_eq_true rfl) (q_al (Nat.le_of_ble_eq_true rfl) (q_al (Nat.le_of_ble_eq_true rfl) (q_al (Nat.le_of_ble_eq_true rfl) (q_al (Nat.le_of_ble_eq_true rfl) (fun _ h => absurd h List.not_mem_nil)))))))
              refine lv_goto (tgt := 89) hx hb d_14_21_56 (by decide) ?_
              refine lv_aload_n hx hb d_14_21_89 rfl (lv_at hl 0 rfl) ?_
              refine lv_aload_n hx hb d_14_21_90 rfl (lv_at hl 0 rfl) ?_
              replace hO0 := (hg93 _ (q_nc (q_pd 116 119 rfl) (q_nc (q_pd 116 121 rfl) (q_nc (q_pd 116 122 rfl) (q_nc (q_pd 116 123 rfl) (q_nc (q_pd 116 125 rfl) (q_nc (q_pd 116 128 rfl) List.not_mem_nil))))))).trans (hO0)
              refine q_get (ci := 12) (j := 5) (v := .ref qO3) C0 V i_NM rfl rfl hO0 (by decide) w_2303 rfl d_14_21_91 ?_
              refine q_getN (ci := 13) (j := 0) (v := .int 1) C0 V i_WR rfl rfl hO3 (by decide) wo_1922 rfl d_14_21_94 ?_
              refine q_put (ci := 12) (j := 0) (v := .int 1) (ty := .int) C0 V i_NM o_NM n_NM rfl rfl hO0 (by decide) w_2298 rfl rfl rfl rfl (Nat.le_of_ble_eq_true rfl) d_14_21_97 (fun H locs w100 hu101 hO0 V => ?_)
              replace hO0 : w100[116]? = (some (qO0, .inr (12, [.int 1, .ref qA1, .int 0, .ref qA2, .int 0, .ref qO3, .ref qO4, .ref qO5, .ref qO6, .ref qO7, .ref qA8, .ref qA9])) : Option (Nat × va_E)) := hO0
              replace hF := q_gs hF hu101 (Nat.le_of_ble_eq_true rfl)
              exact q_retv C0 V (⟨1, 0, 0, hO0, (show ((1 : Int32).toInt = 0 ∧ ((0 ≤ x1.toInt ∧ x1.toInt ≤ 2) ∧ (0 ≤ x2.toInt ∧ x2.toInt ≤ 9) ∧ (0 ≤ x4.toInt ∧ x4.toInt ≤ 9) ∧ (x1.toInt = 0 → 0 ≤ x3.toInt) ∧ (x1.toInt = 1 → (1 ≤ x3.toInt ∧ x3.toInt ≤ 64)))) ∨ ((1 : Int32).toInt = 1 ∧ ¬ ((0 ≤ x1.toInt ∧ x1.toInt ≤ 2) ∧ (0 ≤ x2.toInt ∧ x2.toInt ≤ 9) ∧ (0 ≤ x4.toInt ∧ x4.toInt ≤ 9) ∧ (x1.toInt = 0 → 0 ≤ x3.toInt) ∧ (x1.toInt = 1 → (1 ≤ x3.toInt ∧ x3.toInt ≤ 64)))) from by have t1 : 0 ≤ x1.toInt := q_nltI c1; have t2 : x1.toInt ≤ 2 := q_nltI c5; have t3 : 0 ≤ x2.toInt := q_nltI c14; have t4 : x2.toInt ≤ 9 := q_leI c15; have t5 : 0 ≤ x4.toInt := q_nltI c30; have t6 : x4.toInt ≤ 9 := q_leI c31; have t7 : x1.toInt = 0 := q_eqI c44; have t8 : x3.toInt < 0 := q_nleI c92; have e0 : (1 : Int32).toInt = 1 := (by decide); omega), hF⟩) d_14_21_100
        ·
          refine lv_if_eq (tgt := 29) hx hb d_14_21_22 (by decide) (fun c102 => absurd c102 (by decide)) (fun c102 => ?_)
          refine lv_iconst (v := 1) hx hb d_14_21_25 (by decide) ?_
          refine lv_goto (tgt := 30) hx hb d_14_21_26 (by decide) ?_
          refine q_put (ci := 12) (j := 0) (v := .int 1) (ty := .int) C0 V i_NM o_NM n_NM rfl rfl hO0 (by decide) w_2298 rfl rfl rfl rfl (Nat.le_of_ble_eq_true rfl) d_14_21_30 (fun H locs w103 hu104 hO0 V => ?_)
          replace hO0 : w103[116]? = (some (qO0, .inr (12, [.int 1, .ref qA1, .int 0, .ref qA2, .int 0, .ref qO3, .ref qO4, .ref qO5, .ref qO6, .ref qO7, .ref qA8, .ref qA9])) : Option (Nat × va_E)) := hO0
          replace hF := q_gs hF hu104 (Nat.le_of_ble_eq_true rfl)
          refine lv_aload_n hx hb d_14_21_33 rfl (lv_at hl 0 rfl) ?_
          refine q_get (ci := 12) (j := 0) (v := .int 1) C0 V i_NM rfl rfl hO0 (by decide) w_2298 rfl d_14_21_34 ?_
          refine lv_if_le (tgt := 41) hx hb d_14_21_37 (by decide) (fun c105 => absurd c105 (by decide)) (fun c105 => ?_)
          exact q_retv C0 V (⟨1, 0, 0, hO0, (show ((1 : Int32).toInt = 0 ∧ ((0 ≤ x1.toInt ∧ x1.toInt ≤ 2) ∧ (0 ≤ x2.toInt ∧ x2.toInt ≤ 9) ∧ (0 ≤ x4.toInt ∧ x4.toInt ≤ 9) ∧ (x1.toInt = 0 → 0 ≤ x3.toInt) ∧ (x1.toInt = 1 → (1 ≤ x3.toInt ∧ x3.toInt ≤ 64)))) ∨ ((1 : Int32).toInt = 1 ∧ ¬ ((0 ≤ x1.toInt ∧ x1.toInt ≤ 2) ∧ (0 ≤ x2.toInt ∧ x2.toInt ≤ 9) ∧ (0 ≤ x4.toInt ∧ x4.toInt ≤ 9) ∧ (x1.toInt = 0 → 0 ≤ x3.toInt) ∧ (x1.toInt = 1 → (1 ≤ x3.toInt ∧ x3.toInt ≤ 64)))) from by have t1 : 0 ≤ x1.toInt := q_nltI c1; have t2 : x1.toInt ≤ 2 := q_nltI c5; have t3 : 0 ≤ x2.toInt := q_nltI c14; have t4 : x2.toInt ≤ 9 := q_leI c15; have t5 : 0 ≤ x4.toInt := q_nltI c33; have t6 : 9 < x4.toInt := q_nleI c34; have e0 : (1 : Int32).toInt = 1 := (by decide); omega), hF⟩) d_14_21_40
      ·
        refine lv_if_ne (tgt := 25) hx hb d_14_21_14 (by decide) (fun c106 => ?_) (fun c106 => absurd c106 (by decide))
        refine lv_iconst (v := 1) hx hb d_14_21_25 (by decide) ?_
        refine lv_goto (tgt := 30) hx hb d_14_21_26 (by decide) ?_
        refine q_put (ci := 12) (j := 0) (v := .int 1) (ty := .int) C0 V i_NM o_NM n_NM rfl rfl hO0 (by decide) w_2298 rfl rfl rfl rfl (Nat.le_of_ble_eq_true rfl) d_14_21_30 (fun H locs w107 hu108 hO0 V => ?_)
        replace hO0 : w107[116]? = (some (qO0, .inr (12, [.int 1, .ref qA1, .int 0, .ref qA2, .int 0, .ref qO3, .ref qO4, .ref qO5, .ref qO6, .ref qO7, .ref qA8, .ref qA9])) : Option (Nat × va_E)) := hO0
        replace hF := q_gs hF hu108 (Nat.le_of_ble_eq_true rfl)
        refine lv_aload_n hx hb d_14_21_33 rfl (lv_at hl 0 rfl) ?_
        refine q_get (ci := 12) (j := 0) (v := .int 1) C0 V i_NM rfl rfl hO0 (by decide) w_2298 rfl d_14_21_34 ?_
        refine lv_if_le (tgt := 41) hx hb d_14_21_37 (by decide) (fun c109 => absurd c109 (by decide)) (fun c109 => ?_)
        exact q_retv C0 V (⟨1, 0, 0, hO0, (show ((1 : Int32).toInt = 0 ∧ ((0 ≤ x1.toInt ∧ x1.toInt ≤ 2) ∧ (0 ≤ x2.toInt ∧ x2.toInt ≤ 9) ∧ (0 ≤ x4.toInt ∧ x4.toInt ≤ 9) ∧ (x1.toInt = 0 → 0 ≤ x3.toInt) ∧ (x1.toInt = 1 → (1 ≤ x3.toInt ∧ x3.toInt ≤ 64)))) ∨ ((1 : Int32).toInt = 1 ∧ ¬ ((0 ≤ x1.toInt ∧ x1.toInt ≤ 2) ∧ (0 ≤ x2.toInt ∧ x2.toInt ≤ 9) ∧ (0 ≤ x4.toInt ∧ x4.toInt ≤ 9) ∧ (x1.toInt = 0 → 0 ≤ x3.toInt) ∧ (x1.toInt = 1 → (1 ≤ x3.toInt ∧ x3.toInt ≤ 64)))) from by have t1 : 0 ≤ x1.toInt := q_nltI c1; have t2 : x1.toInt ≤ 2 := q_nltI c5; have t3 : 0 ≤ x2.toInt := q_nltI c17; have t4 : 9 < x2.toInt := q_nleI c18; have e0 : (1 : Int32).toInt = 1 := (by decide); omega), hF⟩) d_14_21_40
