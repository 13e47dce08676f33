/-! the reference on a fresh object: shape -/
theorem d_15_15_0 : decode prog_15_method_15_code 0 = .ok (.aload_n 0, 1) := by decide +kernel
theorem d_15_15_1 : decode prog_15_method_15_code 1 = .ok (.invokevirtual 59, 3) := by decide +kernel
theorem d_15_15_4 : decode prog_15_method_15_code 4 = .ok (.aload_n 0, 1) := by decide +kernel
theorem d_15_15_5 : decode prog_15_method_15_code 5 = .ok (.getfield 26, 3) := by decide +kernel
theorem d_15_15_8 : decode prog_15_method_15_code 8 = .ok (.iconst 0, 1) := by decide +kernel
theorem d_15_15_9 : decode prog_15_method_15_code 9 = .ok (.iaload, 1) := by decide +kernel
theorem d_15_15_10 : decode prog_15_method_15_code 10 = .ok (.ifCond .ne 22, 3) := by decide +kernel
theorem d_15_15_13 : decode prog_15_method_15_code 13 = .ok (.aload_n 0, 1) := by decide +kernel
theorem d_15_15_14 : decode prog_15_method_15_code 14 = .ok (.getfield 52, 3) := by decide +kernel
theorem d_15_15_17 : decode prog_15_method_15_code 17 = .ok (.ifCond .ne 15, 3) := by decide +kernel
theorem d_15_15_20 : decode prog_15_method_15_code 20 = .ok (.aload_n 0, 1) := by decide +kernel
theorem d_15_15_21 : decode prog_15_method_15_code 21 = .ok (.lload_n 2, 1) := by decide +kernel
theorem d_15_15_22 : decode prog_15_method_15_code 22 = .ok (.putfield 48, 3) := by decide +kernel
theorem d_15_15_25 : decode prog_15_method_15_code 25 = .ok (.aload_n 0, 1) := by decide +kernel
theorem d_15_15_26 : decode prog_15_method_15_code 26 = .ok (.iload 5, 2) := by decide +kernel
theorem d_15_15_28 : decode prog_15_method_15_code 28 = .ok (.invokevirtual 89, 3) := by decide +kernel
theorem d_15_15_31 : decode prog_15_method_15_code 31 = .ok (.return_, 1) := by decide +kernel
def y_DR_toPrecision : MethodName := ⟨"NumberHouseModel$DecimalRows", "toPrecision", "(IJII)V"⟩
set_option maxRecDepth 100000 in
set_option maxHeartbeats 4000000 in
theorem c_DR_toPrecision (l : Launch) (D : va_G) (g : Nat → ClassId) (ws : va_W) (kO0 kA2 kA3 kA4 kA5 kA6 qO0 qA1 qA2 qA3 qA4 qA5 qA6 qA7 qA8 qA9 qA10 : Nat) (x1 : Int32) (x2 : Int32) (x3 : Int32) (hO0 : ws[kO0]? = (some (qO0, .inr (14, [.int 0, .ref qA1, .int 0, .ref qA2, .ref qA3, .ref qA4, .ref qA5, .ref qA6, .int 1, .long 0, .int 0, .int 0, .ref qA7, .int 0, .ref qA8, .int 0, .ref qA9, .int 0, .ref qA10, .int 0, .int 2])) : Option (Nat × va_E))) (hA2 : ws[kA2]? = (some (qA2, .inl (g 0, 10000, .inl (fun _ => 0))) : Option (Nat × va_E))) (hA3 : ws[kA3]? = (some (qA3, .inl (g 0, 10, .inl (upd (upd (upd (upd (upd (upd (upd (upd (upd (upd (fun _ => 0) 0 1) 1 1) 2 1) 3 1) 4 1) 5 1) 6 1) 7 1) 8 1) 9 1))) : Option (Nat × va_E))) (hA4 : ws[kA4]? = (some (qA4, .inl (g 3, 10, .inl (fun _ => 0))) : Option (Nat × va_E))) (hA5 : ws[kA5]? = (some (qA5, .inl (g 0, 10, .inl (fun _ => 0))) : Option (Nat × va_E))) (hA6 : ws[kA6]? = (some (qA6, .inl (g 0, 4400, .inl (fun _ => 0))) : Option (Nat × va_E))) (n_A2_A3 : kA2 ≠ kA3) (n_A2_A4 : kA2 ≠ kA4) (n_A2_A5 : kA2 ≠ kA5) (n_A2_A6 : kA2 ≠ kA6) (n_A3_A4 : kA3 ≠ kA4) (n_A3_A5 : kA3 ≠ kA5) (n_A3_A6 : kA3 ≠ kA6) (n_A4_A5 : kA4 ≠ kA5) (n_A4_A6 : kA4 ≠ kA6) (n_A5_A6 : kA5 ≠ kA6) (x1lo : 1 ≤ x1) (x1hi : x1 ≤ 1000) (x2lo : 0 ≤ x2) (x2hi : x2 ≤ 7) (x3lo : 0 ≤ x3) (x3hi : x3 ≤ 9) : q_mV l y_DR_toPrecision prog_15_method_15_code 9 3 0 0 D g [.ref qO0, .int x1, .long 0, .int x2, .int x3] ws (fun u => q_un ws u [kO0, kA2, kA3, kA4, kA5, kA6] ∧ u[kO0]? = (some (qO0, .inr (14, [.int 0, .ref qA1, .int 0, .ref qA2, .ref qA3, .ref qA4, .ref qA5, .ref qA6, .int 1, .long 0, .int 0, .int 0, .ref qA7, .int 0, .ref qA8, .int 0, .ref qA9, .int 0, .ref qA10, .int 0, .int 2])) : Option (Nat × va_E)) ∧ u[kA2]? = (some (qA2, .inl (g 0, 10000, .inl (fun _ => 0))) : Option (Nat × va_E)) ∧ u[kA3]? = (some (qA3, .inl (g 0, 10, .inl (upd (upd (upd (upd (upd (upd (upd (upd (upd (upd (upd (fun _ => 0) 0 1) 1 1) 2 1) 3 1) 4 1) 5 1) 6 1) 7 1) 8 1) 9 1) x3.toNatClampNeg 1))) : Option (Nat × va_E)) ∧ u[kA4]? = (some (qA4, .inl (g 3, 10, .inl (fun _ => 0))) : Option (Nat × va_E)) ∧ u[kA5]? = (some (qA5, .inl (g 0, 10, .inl (fun _ => 0))) : Option (Nat × va_E)) ∧ u[kA6]? = (some (qA6, .inl (g 0, 4400, .inl (fun _ => 0))) : Option (Nat × va_E))) := by
  intro sz
  refine q_into (by decide) (Nat.le_of_ble_eq_true rfl) ?_
  intro p e s m below meth c ls hsz C0 V hl
  have hx := C0.1
  have hb := C0.2.1
  have hl : lv_has ls 9 [(0, .ref qO0), (1, .int x1), (2, .long 0), (4, .int x2), (5, .int x3)] := hl
  have n_A2_O0 := q_df hA2 hO0
  have n_A3_O0 := q_df hA3 hO0
  have n_A4_O0 := q_df hA4 hO0
  have n_A5_O0 := q_df hA5 hO0
  have n_A6_O0 := q_df hA6 hO0
  have hF : q_un ws ws [kO0, kA2, kA3, kA4, kA5, kA6] := q_u0
  refine lv_aload_n hx hb d_15_15_0 rfl (lv_at hl 0 rfl) ?_
  refine q_gov V (q_runV (As := []) (rest := []) (d := 1) (mc := 0) (ms := 0) (ci := 14) C0 V rfl LV_DR_59 (c_DR_trim_2 l D g ws kO0 kA6 qO0 qA1 qA2 qA3 qA4 qA5 qA6 qA7 qA8 qA9 qA10 hO0 hA6 _) rfl rfl hO0 rfl hl.1 rfl (Nat.le_of_ble_eq_true rfl) ⟨by decide, by decide⟩ ⟨Nat.le_of_ble_eq_true rfl, Nat.le_of_ble_eq_true rfl⟩ d_15_15_1) (fun u2 H locs hp1 V => ?_)
  obtain ⟨hg3, hO0, hA6⟩ := hp1
  replace hF := q_uc hF hg3 (q_sc (.head _) (q_sc (List.mem_of_getElem? (i := 5) rfl) (fun _ h => absurd h List.not_mem_nil)))
  refine lv_aload_n hx hb d_15_15_4 rfl (lv_at hl 0 rfl) ?_
  refine q_get (ci := 14) (j := 7) (v := .ref qA6) C0 V i_DR rfl rfl hO0 (by decide) w_2010 rfl d_15_15_5 ?_
  refine lv_iconst (v := 0) hx hb d_15_15_8 (by decide) ?_
  refine q_iald C0 V hA6 (by unfold vp_in; decide) d_15_15_9 ?_
  refine q_ti (v := 0) (by first | rfl | decide | simp [upd, vp_updL, sb_cl0]) ?_
  refine lv_if_ne (tgt := 32) hx hb d_15_15_10 (by decide) (fun c4 => absurd (by decide) c4) (fun c4 => ?_)
  refine lv_aload_n hx hb d_15_15_13 rfl (lv_at hl 0 rfl) ?_
  refine q_get (ci := 14) (j := 10) (v := .int 0) C0 V i_DR rfl rfl hO0 (by decide) w_2013 rfl d_15_15_14 ?_
  refine lv_if_ne (tgt := 32) hx hb d_15_15_17 (by decide) (fun c5 => absurd (by decide) c5) (fun c5 => ?_)
  refine lv_aload_n hx hb d_15_15_20 rfl (lv_at hl 0 rfl) ?_
  refine lv_lload_n hx hb d_15_15_21 rfl (lv_at hl 2 rfl) ?_
  refine q_put (ci := 14) (j := 9) (v := .long 0) (ty := .long) C0 V i_DR o_DR n_DR rfl rfl hO0 (by decide) w_2012 rfl rfl rfl rfl (Nat.le_of_ble_eq_true rfl) d_15_15_22 (fun H locs w6 hu7 hO0 V => ?_)
  replace hO0 : w6[kO0]? = (some (qO0, .inr (14, [.int 0, .ref qA1, .int 0, .ref qA2, .ref qA3, .ref qA4, .ref qA5, .ref qA6, .int 1, .long 0, .int 0, .int 0, .ref qA7, .int 0, .ref qA8, .int 0, .ref qA9, .int 0, .ref qA10, .int 0, .int 2])) : Option (Nat × va_E)) := hO0
  replace hF := q_us hF hu7 (.head _)
  refine lv_aload_n hx hb d_15_15_25 rfl (lv_at hl 0 rfl) ?_
  refine lv_iload hx hb d_15_15_26 (lv_at hl 4 rfl) ?_
  replace hA2 := (hu7 _ n_A2_O0).trans ((hg3 _ (q_nc n_A2_O0 (q_nc n_A2_A6 List.not_mem_nil))).trans (hA2))
  replace hA3 := (hu7 _ n_A3_O0).trans ((hg3 _ (q_nc n_A3_O0 (q_nc n_A3_A6 List.not_mem_nil))).trans (hA3))
  replace hA4 := (hu7 _ n_A4_O0).trans ((hg3 _ (q_nc n_A4_O0 (q_nc n_A4_A6 List.not_mem_nil))).trans (hA4))
  replace hA5 := (hu7 _ n_A5_O0).trans ((hg3 _ (q_nc n_A5_O0 (q_nc n_A5_A6 List.not_mem_nil))).trans (hA5))
  replace hA6 := (hu7 _ n_A6_O0).trans (hA6)
  refine q_gov V (q_runV (As := [.int x3]) (rest := []) (d := 2) (mc := 0) (ms := 0) (ci := 14) C0 V rfl LV_DR_89 (c_DR_store l D g w6 kO0 kA2 kA3 kA4 kA5 kA6 qO0 qA1 qA2 qA3 qA4 qA5 qA6 qA7 qA8 qA9 qA10 x3 hO0 hA2 hA3 hA4 hA5 hA6 n_A2_A3 n_A2_A4 n_A2_A5 n_A2_A6 n_A3_A4 n_A3_A5 n_A3_A6 n_A4_A5 n_A4_A6 n_A5_A6 x3lo x3hi _) rfl rfl hO0 rfl hl.1 rfl (Nat.le_of_ble_eq_true rfl) ⟨by decide, by decide⟩ ⟨Nat.le_of_ble_eq_true rfl, Nat.le_of_ble_eq_true rfl⟩ d_15_15_28) (fun u9 H locs hp8 V => ?_)
  obtain ⟨hg10, hO0, hA2, hA3, hA4, hA5, hA6⟩ := hp8
  replace hF := q_uc hF hg10 (q_sc (.head _) (q_sc (.tail _ (.head _)) (q_sc (.tail _ (.tail _ (.head _))) (q_sc (List.mem_of_getElem? (i := 3) rfl) (q_sc (List.mem_of_getElem? (i := 4) rfl) (q_sc (List.mem_of_getElem? (i := 5) rfl) (fun _ h => absurd h List.not_mem_nil)))))))
  exact q_retv C0 V (⟨hF, hO0, hA2, hA3, hA4, hA5, hA6⟩) d_15_15_31
theorem d_15_42_0 : decode prog_15_method_42_code 0 = .ok (.aload_n 0, 1) := by decide +kernel
theorem d_15_42_1 : decode prog_15_method_42_code 1 = .ok (.iload_n 1, 1) := by decide +kernel
theorem d_15_42_2 : decode prog_15_method_42_code 2 = .ok (.invokestatic 113, 3) := by decide +kernel
theorem d_15_42_5 : decode prog_15_method_42_code 5 = .ok (.ifCond .ne 30, 3) := by decide +kernel
theorem d_15_42_35 : decode prog_15_method_42_code 35 = .ok (.iconst 1, 1) := by decide +kernel
theorem d_15_42_36 : decode prog_15_method_42_code 36 = .ok (.goto 17, 3) := by decide +kernel
theorem d_15_42_53 : decode prog_15_method_42_code 53 = .ok (.putfield 41, 3) := by decide +kernel
theorem d_15_42_56 : decode prog_15_method_42_code 56 = .ok (.aload_n 0, 1) := by decide +kernel
theorem d_15_42_57 : decode prog_15_method_42_code 57 = .ok (.getfield 41, 3) := by decide +kernel
theorem d_15_42_60 : decode prog_15_method_42_code 60 = .ok (.ifCond .le 4, 3) := by decide +kernel
theorem d_15_42_63 : decode prog_15_method_42_code 63 = .ok (.return_, 1) := by decide +kernel
theorem d_15_42_8 : decode prog_15_method_42_code 8 = .ok (.iload_n 2, 1) := by decide +kernel
theorem d_15_42_9 : decode prog_15_method_42_code 9 = .ok (.invokestatic 113, 3) := by decide +kernel
theorem d_15_42_12 : decode prog_15_method_42_code 12 = .ok (.ifCond .ne 23, 3) := by decide +kernel
theorem d_15_42_15 : decode prog_15_method_42_code 15 = .ok (.iload 4, 2) := by decide +kernel
theorem d_15_42_17 : decode prog_15_method_42_code 17 = .ok (.invokestatic 147, 3) := by decide +kernel
theorem d_15_42_20 : decode prog_15_method_42_code 20 = .ok (.ifCond .ne 15, 3) := by decide +kernel
theorem d_15_42_23 : decode prog_15_method_42_code 23 = .ok (.iload_n 3, 1) := by decide +kernel
theorem d_15_42_24 : decode prog_15_method_42_code 24 = .ok (.iconst 1, 1) := by decide +kernel
theorem d_15_42_25 : decode prog_15_method_42_code 25 = .ok (.if_icmp .lt 10, 3) := by decide +kernel
theorem d_15_42_28 : decode prog_15_method_42_code 28 = .ok (.iload_n 3, 1) := by decide +kernel
theorem d_15_42_29 : decode prog_15_method_42_code 29 = .ok (.sipush 1000, 3) := by decide +kernel
theorem d_15_42_32 : decode prog_15_method_42_code 32 = .ok (.if_icmp .le 7, 3) := by decide +kernel
theorem d_15_42_39 : decode prog_15_method_42_code 39 = .ok (.aload_n 0, 1) := by decide +kernel
theorem d_15_42_40 : decode prog_15_method_42_code 40 = .ok (.getfield 19, 3) := by decide +kernel
theorem d_15_42_43 : decode prog_15_method_42_code 43 = .ok (.iload_n 1, 1) := by decide +kernel
theorem d_15_42_44 : decode prog_15_method_42_code 44 = .ok (.baload, 1) := by decide +kernel
theorem d_15_42_45 : decode prog_15_method_42_code 45 = .ok (.ifCond .eq 7, 3) := by decide +kernel
theorem d_15_42_52 : decode prog_15_method_42_code 52 = .ok (.iconst 0, 1) := by decide +kernel
theorem d_15_42_64 : decode prog_15_method_42_code 64 = .ok (.aload_n 0, 1) := by decide +kernel
theorem d_15_42_65 : decode prog_15_method_42_code 65 = .ok (.iconst 2, 1) := by decide +kernel
theorem d_15_42_66 : decode prog_15_method_42_code 66 = .ok (.putfield 66, 3) := by decide +kernel
theorem d_15_42_69 : decode prog_15_method_42_code 69 = .ok (.aload_n 0, 1) := by decide +kernel
theorem d_15_42_70 : decode prog_15_method_42_code 70 = .ok (.getfield 23, 3) := by decide +kernel
theorem d_15_42_73 : decode prog_15_method_42_code 73 = .ok (.iload_n 1, 1) := by decide +kernel
theorem d_15_42_74 : decode prog_15_method_42_code 74 = .ok (.iaload, 1) := by decide +kernel
theorem d_15_42_75 : decode prog_15_method_42_code 75 = .ok (.istore 5, 2) := by decide +kernel
theorem d_15_42_77 : decode prog_15_method_42_code 77 = .ok (.iload 5, 2) := by decide +kernel
theorem d_15_42_79 : decode prog_15_method_42_code 79 = .ok (.ifCond .lt 11, 3) := by decide +kernel
theorem d_15_42_82 : decode prog_15_method_42_code 82 = .ok (.iload 5, 2) := by decide +kernel
theorem d_15_42_84 : decode prog_15_method_42_code 84 = .ok (.iconst 2, 1) := by decide +kernel
theorem d_15_42_85 : decode prog_15_method_42_code 85 = .ok (.idiv, 1) := by decide +kernel
theorem d_15_42_86 : decode prog_15_method_42_code 86 = .ok (.i2l, 1) := by decide +kernel
theorem d_15_42_87 : decode prog_15_method_42_code 87 = .ok (.goto 11, 3) := by decide +kernel
theorem d_15_42_98 : decode prog_15_method_42_code 98 = .ok (.lstore 6, 2) := by decide +kernel
theorem d_15_42_100 : decode prog_15_method_42_code 100 = .ok (.aload_n 0, 1) := by decide +kernel
theorem d_15_42_101 : decode prog_15_method_42_code 101 = .ok (.iload_n 1, 1) := by decide +kernel
theorem d_15_42_102 : decode prog_15_method_42_code 102 = .ok (.invokevirtual 120, 3) := by decide +kernel
theorem d_15_42_105 : decode prog_15_method_42_code 105 = .ok (.ifCond .eq 19, 3) := by decide +kernel
theorem d_15_42_108 : decode prog_15_method_42_code 108 = .ok (.aload_n 0, 1) := by decide +kernel
theorem d_15_42_109 : decode prog_15_method_42_code 109 = .ok (.iload_n 1, 1) := by decide +kernel
theorem d_15_42_110 : decode prog_15_method_42_code 110 = .ok (.invokevirtual 132, 3) := by decide +kernel
theorem d_15_42_113 : decode prog_15_method_42_code 113 = .ok (.aload_n 0, 1) := by decide +kernel
theorem d_15_42_114 : decode prog_15_method_42_code 114 = .ok (.iload_n 3, 1) := by decide +kernel
theorem d_15_42_115 : decode prog_15_method_42_code 115 = .ok (.lload 6, 2) := by decide +kernel
theorem d_15_42_117 : decode prog_15_method_42_code 117 = .ok (.iload 4, 2) := by decide +kernel
theorem d_15_42_119 : decode prog_15_method_42_code 119 = .ok (.iload_n 2, 1) := by decide +kernel
theorem d_15_42_120 : decode prog_15_method_42_code 120 = .ok (.invokevirtual 166, 3) := by decide +kernel
theorem w_2894 : (Cond.code ({ cls := "NumberHouseModel$DecimalRows", name := "toPrecision", desc := "(IJII)V" } : MethodName) prog_15_method_15_code (9 : Nat) (none : Option ClassFile.FieldType)) ∈ q_tbl := q_of 2894 (by decide +kernel) (by decide +kernel)
theorem w_2891 : (Cond.methodLink "NumberHouseModel$DecimalRows" (166 : Nat) ({ cls := "NumberHouseModel$DecimalRows", name := "toPrecision", desc := "(IJII)V" } : MethodName)) ∈ q_tbl := q_of 2891 (by decide +kernel) (by decide +kernel)
theorem w_2893 : (Cond.instanceMethod ({ cls := "NumberHouseModel$DecimalRows", name := "toPrecision", desc := "(IJII)V" } : MethodName)) ∈ q_tbl := q_of 2893 (by decide +kernel) (by decide +kernel)
theorem ws_126 : Cond.selects "NumberHouseModel$DecimalRows" (⟨"NumberHouseModel$DecimalRows", "toPrecision", "(IJII)V"⟩ : MethodName) (⟨"NumberHouseModel$DecimalRows", "toPrecision", "(IJII)V"⟩ : MethodName) ∈ q_tbl := q_ofs 126 (by decide +kernel) (by decide +kernel)
theorem LV_DR_166 : q_LV "NumberHouseModel$DecimalRows" 166 y_DR_toPrecision prog_15_method_15_code 9 none 4 := ⟨w_2894, w_16, w_2891, w_2893, ws_126, ⟨by decide, by decide, by decide +kernel⟩⟩
theorem d_15_42_123 : decode prog_15_method_42_code 123 = .ok (.return_, 1) := by decide +kernel
def y_DR_root : MethodName := ⟨"NumberHouseModel$DecimalRows", "root", "(IIII)V"⟩
set_option maxRecDepth 100000 in
set_option maxHeartbeats 4000000 in
theorem c_DR_root (l : Launch) (D : va_G) (g : Nat → ClassId) (ws : va_W) (kO0 kA2 kA3 kA4 kA5 kA6 qO0 qA1 qA2 qA3 qA4 qA5 qA6 qA7 qA8 qA9 qA10 : Nat) (x1 : Int32) (x2 : Int32) (x3 : Int32) (x4 : Int32) (hO0 : ws[kO0]? = (some (qO0, .inr (14, [.int 0, .ref qA1, .int 0, .ref qA2, .ref qA3, .ref qA4, .ref qA5, .ref qA6, .int 0, .long 0, .int 0, .int 0, .ref qA7, .int 0, .ref qA8, .int 0, .ref qA9, .int 0, .ref qA10, .int 0, .int 0])) : Option (Nat × va_E))) (hA2 : ws[kA2]? = (some (qA2, .inl (g 0, 10000, .inl (fun _ => 0))) : Option (Nat × va_E))) (hA3 : ws[kA3]? = (some (qA3, .inl (g 0, 10, .inl (upd (upd (upd (upd (upd (upd (upd (upd (upd (upd (fun _ => 0) 0 1) 1 1) 2 1) 3 1) 4 1) 5 1) 6 1) 7 1) 8 1) 9 1))) : Option (Nat × va_E))) (hA4 : ws[kA4]? = (some (qA4, .inl (g 3, 10, .inl (fun _ => 0))) : Option (Nat × va_E))) (hA5 : ws[kA5]? = (some (qA5, .inl (g 0, 10, .inl (fun _ => 0))) : Option (Nat × va_E))) (hA6 : ws[kA6]? = (some (qA6, .inl (g 0, 4400, .inl (fun _ => 0))) : Option (Nat × va_E))) (n_A2_A3 : kA2 ≠ kA3) (n_A2_A4 : kA2 ≠ kA4) (n_A2_A5 : kA2 ≠ kA5) (n_A2_A6 : kA2 ≠ kA6) (n_A3_A4 : kA3 ≠ kA4) (n_A3_A5 : kA3 ≠ kA5) (n_A3_A6 : kA3 ≠ kA6) (n_A4_A5 : kA4 ≠ kA5) (n_A4_A6 : kA4 ≠ kA6) (n_A5_A6 : kA5 ≠ kA6) : q_mV l y_DR_root prog_15_method_42_code 11 4 0 0 D g [.ref qO0, .int x1, .int x2, .int x3, .int x4] ws (fun u => (x1 < 0 ∧ q_un ws u [kO0, kA2, kA3, kA4, kA5, kA6] ∧ u[kO0]? = (some (qO0, .inr (14, [.int 1, .ref qA1, .int 0, .ref qA2, .ref qA3, .ref qA4, .ref qA5, .ref qA6, .int 0, .long 0, .int 0, .int 0, .ref qA7, .int 0, .ref qA8, .int 0, .ref qA9, .int 0, .ref qA10, .int 0, .int 0])) : Option (Nat × va_E)) ∧ u[kA2]? = (some (qA2, .inl (g 0, 10000, .inl (fun _ => 0))) : Option (Nat × va_E)) ∧ u[kA3]? = (some (qA3, .inl (g 0, 10, .inl (upd (upd (upd (upd (upd (upd (upd (upd (upd (upd (fun _ => 0) 0 1) 1 1) 2 1) 3 1) 4 1) 5 1) 6 1) 7 1) 8 1) 9 1))) : Option (Nat × va_E)) ∧ u[kA4]? = (some (qA4, .inl (g 3, 10, .inl (fun _ => 0))) : Option (Nat × va_E)) ∧ u[kA5]? = (some (qA5, .inl (g 0, 10, .inl (fun _ => 0))) : Option (Nat × va_E)) ∧ u[kA6]? = (some (qA6, .inl (g 0, 4400, .inl (fun _ => 0))) : Option (Nat × va_E))) ∨ (¬ x1 < 0 ∧ x1 < 10 ∧ x2 < 0 ∧ q_un ws u [kO0, kA2, kA3, kA4, kA5, kA6] ∧ u[kO0]? = (some (qO0, .inr (14, [.int 1, .ref qA1, .int 0, .ref qA2, .ref qA3, .ref qA4, .ref qA5, .ref qA6, .int 0, .long 0, .int 0, .int 0, .ref qA7, .int 0, .ref qA8, .int 0, .ref qA9, .int 0, .ref qA10, .int 0, .int 0])) : Option (Nat × va_E)) ∧ u[kA2]? = (some (qA2, .inl (g 0, 10000, .inl (fun _ => 0))) : Option (Nat × va_E)) ∧ u[kA3]? = (some (qA3, .inl (g 0, 10, .inl (upd (upd (upd (upd (upd (upd (upd (upd (upd (upd (fun _ => 0) 0 1) 1 1) 2 1) 3 1) 4 1) 5 1) 6 1) 7 1) 8 1) 9 1))) : Option (Nat × va_E)) ∧ u[kA4]? = (some (qA4, .inl (g 3, 10, .inl (fun _ => 0))) : Option (Nat × va_E)) ∧ u[kA5]? = (some (qA5, .inl (g 0, 10, .inl (fun _ => 0))) : Option (Nat × va_E)) ∧ u[kA6]? = (some (qA6, .inl (g 0, 4400, .inl (fun _ => 0))) : Option (Nat × va_E))) ∨ (¬ x1 < 0 ∧ x1 < 10 ∧ ¬ x2 < 0 ∧ x2 < 10 ∧ x4 < 0 ∧ q_un ws u [kO0, kA2, kA3, kA4, kA5, kA6] ∧ u[kO0]? = (some (qO0, .inr (14, [.int 1, .ref qA1, .int 0, .ref qA2, .ref qA3, .ref qA4, .ref qA5, .ref qA6, .int 0, .long 0, .int 0, .int 0, .ref qA7, .int 0, .ref qA8, .int 0, .ref qA9, .int 0, .ref qA10, .int 0, .int 0])) : Option (Nat × va_E)) ∧ u[kA2]? = (some (qA2, .inl (g 0, 10000, .inl (fun _ => 0))) : Option (Nat × va_E)) ∧ u[kA3]? = (some (qA3, .inl (g 0, 10, .inl (upd (upd (upd (upd (upd (upd (upd (upd (upd (upd (fun _ => 0) 0 1) 1 1) 2 1) 3 1) 4 1) 5 1) 6 1) 7 1) 8 1) 9 1))) : Option (Nat × va_E)) ∧ u[kA4]? = (some (qA4, .inl (g 3, 10, .inl (fun _ => 0))) : Option (Nat × va_E)) ∧ u[kA5]? = (some (qA5, .inl (g 0, 10, .inl (fun _ => 0))) : Option (Nat × va_E)) ∧ u[kA6]? = (some (qA6, .inl (g 0, 4400, .inl (fun _ => 0))) : Option (Nat × va_E))) ∨ (¬ x1 < 0 ∧ x1 < 10 ∧ ¬ x2 < 0 ∧ x2 < 10 ∧ ¬ x4 < 0 ∧ x4 ≤ 7 ∧ x3 < 1 ∧ q_un ws u [kO0, kA2, kA3, kA4, kA5, kA6] ∧ u[kO0]? = (some (qO0, .inr (14, [.int 1, .ref qA1, .int 0, .ref qA2, .ref qA3, .ref qA4, .ref qA5, .ref qA6, .int 0, .long 0, .int 0, .int 0, .ref qA7, .int 0, .ref qA8, .int 0, .ref qA9, .int 0, .ref qA10, .int 0, .int 0])) : Option (Nat × va_E)) ∧ u[kA2]? = (some (qA2, .inl (g 0, 10000, .inl (fun _ => 0))) : Option (Nat × va_E)) ∧ u[kA3]? = (some (qA3, .inl (g 0, 10, .inl (upd (upd (upd (upd (upd (upd (upd (upd (upd (upd (fun _ => 0) 0 1) 1 1) 2 1) 3 1) 4 1) 5 1) 6 1) 7 1) 8 1) 9 1))) : Option (Nat × va_E)) ∧ u[kA4]? = (some (qA4, .inl (g 3, 10, .inl (fun _ => 0))) : Option (Nat × va_E)) ∧ u[kA5]? = (some (qA5, .inl (g 0, 10, .inl (fun _ => 0))) : Option (Nat × va_E)) ∧ u[kA6]? = (some (qA6, .inl (g 0, 4400, .inl (fun _ => 0))) : Option (Nat × va_E))) ∨ (¬ x1 < 0 ∧ x1 < 10 ∧ ¬ x2 < 0 ∧ x2 < 10 ∧ ¬ x4 < 0 ∧ x4 ≤ 7 ∧ ¬ x3 < 1 ∧ x3 ≤ 1000 ∧ q_un ws u [kO0, kA2, kA3, kA4, kA5, kA6] ∧ u[kO0]? = (some (qO0, .inr (14, [.int 0, .ref qA1, .int 0, .ref qA2, .ref qA3, .ref qA4, .ref qA5, .ref qA6, .int 1, .long 0, .int 0, .int 0, .ref qA7, .int 0, .ref qA8, .int 0, .ref qA9, .int 0, .ref qA10, .int 0, .int 2])) : Option (Nat × va_E)) ∧ u[kA2]? = (some (qA2, .inl (g 0, 10000, .inl (fun _ => 0))) : Option (Nat × va_E)) ∧ u[kA3]? = (some (qA3, .inl (g 0, 10, .inl (upd (upd (upd (upd (upd (upd (upd (upd (upd (upd (upd (fun _ => 0) 0 1) 1 1) 2 1) 3 1) 4 1) 5 1) 6 1) 7 1) 8 1) 9 1) x2.toNatClampNeg 1))) : Option (Nat × va_E)) ∧ u[kA4]? = (some (qA4, .inl (g 3, 10, .inl (fun _ => 0))) : Option (Nat × va_E)) ∧ u[kA5]? = (some (qA5, .inl (g 0, 10, .inl (fun _ => 0))) : Option (Nat × va_E)) ∧ u[kA6]? = (some (qA6, .inl (g 0, 4400, .inl (fun _ => 0))) : Option (Nat × va_E))) ∨ (¬ x1 < 0 ∧ x1 < 10 ∧ ¬ x2 < 0 ∧ x2 < 10 ∧ ¬ x4 < 0 ∧ x4 ≤ 7 ∧ ¬ x3 < 1 ∧ ¬ x3 ≤ 1000 ∧ q_un ws u [kO0, kA2, kA3, kA4, kA5, kA6] ∧ u[kO0]? = (some (qO0, .inr (14, [.int 1, .ref qA1, .int 0, .ref qA2, .ref qA3, .ref qA4, .ref qA5, .ref qA6, .int 0, .long 0, .int 0, .int 0, .ref qA7, .int 0, .ref qA8, .int 0, .ref qA9, .int 0, .ref qA10, .int 0, .int 0])) : Option (Nat × va_E)) ∧ u[kA2]? = (some (qA2, .inl (g 0, 10000, .inl (fun _ => 0))) : Option (Nat × va_E)) ∧ u[kA3]? = (some (qA3, .inl (g 0, 10, .inl (upd (upd (upd (upd (upd (upd (upd (upd (upd (upd (fun _ => 0) 0 1) 1 1) 2 1) 3 1) 4 1) 5 1) 6 1) 7 1) 8 1) 9 1))) : Option (Nat × va_E)) ∧ u[kA4]? = (some (qA4, .inl (g 3, 10, .inl (fun _ => 0))) : Option (Nat × va_E)) ∧ u[kA5]? = (some (qA5, .inl (g 0, 10, .inl (fun _ => 0))) : Option (Nat × va_E)) ∧ u[kA6]? = (some (qA6, .inl (g 0, 4400, .inl (fun _ => 0))) : Option (Nat × va_E))) ∨ (¬ x1 < 0 ∧ x1 < 10 ∧ ¬ x2 < 0 ∧ x2 < 10 ∧ ¬ x4 < 0 ∧ ¬ x4 ≤ 7 ∧ q_un ws u [kO0, kA2, kA3, kA4, kA5, kA6] ∧ u[kO0]? = (some (qO0, .inr (14, [.int 1, .ref qA1, .int 0, .ref qA2, .ref qA3, .ref qA4, .ref qA5, .ref qA6, .int 0, .long 0, .int 0, .int 0, .ref qA7, .int 0, .ref qA8, .int 0, .ref qA9, .int 0, .ref qA10, .int 0, .int 0])) : Option (Nat × va_E)) ∧ u[kA2]? = (some (qA2, .inl (g 0, 10000, .inl (fun _ => 0))) : Option (Nat × va_E)) ∧ u[kA3]? = (some (qA3, .inl (g 0, 10, .inl (upd (upd (upd (upd (upd (upd (upd (upd (upd (upd (fun _ => 0) 0 1) 1 1) 2 1) 3 1) 4 1) 5 1) 6 1) 7 1) 8 1) 9 1))) : Option (Nat × va_E)) ∧ u[kA4]? = (some (qA4, .inl (g 3, 10, .inl (fun _ => 0))) : Option (Nat × va_E)) ∧ u[kA5]? = (some (qA5, .inl (g 0, 10, .inl (fun _ => 0))) : Option (Nat × va_E)) ∧ u[kA6]? = (some (qA6, .inl (g 0, 4400, .inl (fun _ => 0))) : Option (Nat × va_E))) ∨ (¬ x1 < 0 ∧ x1 < 10 ∧ ¬ x2 < 0 ∧ ¬ x2 < 10 ∧ q_un ws u [kO0, kA2, kA3, kA4, kA5, kA6] ∧ u[kO0]? = (some (qO0, .inr (14, [.int 1, .ref qA1, .int 0, .ref qA2, .ref qA3, .ref qA4, .ref qA5, .ref qA6, .int 0, .long 0, .int 0, .int 0, .ref qA7, .int 0, .ref qA8, .int 0, .ref qA9, .int 0, .ref qA10, .int 0, .int 0])) : Option (Nat × va_E)) ∧ u[kA2]? = (some (qA2, .inl (g 0, 10000, .inl (fun _ => 0))) : Option (Nat × va_E)) ∧ u[kA3]? = (some (qA3, .inl (g 0, 10, .inl (upd (upd (upd (upd (upd (upd (upd (upd (upd (upd (fun _ => 0) 0 1) 1 1) 2 1) 3 1) 4 1) 5 1) 6 1) 7 1) 8 1) 9 1))) : Option (Nat × va_E)) ∧ u[kA4]? = (some (qA4, .inl (g 3, 10, .inl (fun _ => 0))) : Option (Nat × va_E)) ∧ u[kA5]? = (some (qA5, .inl (g 0, 10, .inl (fun _ => 0))) : Option (Nat × va_E)) ∧ u[kA6]? = (some (qA6, .inl (g 0, 4400, .inl (fun _ => 0))) : Option (Nat × va_E))) ∨ (¬ x1 < 0 ∧ ¬ x1 < 10 ∧ q_un ws u [kO0, kA2, kA3, kA4, kA5, kA6] ∧ u[kO0]? = (some (qO0, .inr (14, [.int 1, .ref qA1, .int 0, .ref qA2, .ref qA3, .ref qA4, .ref qA5, .ref qA6, .int 0, .long 0, .int 0, .int 0, .ref qA7, .int 0, .ref qA8, .int 0, .ref qA9, .int 0, .ref qA10, .int 0, .int 0])) : Option (Nat × va_E)) ∧ u[kA2]? = (some (qA2, .inl (g 0, 10000, .inl (fun _ => 0))) : Option (Nat × va_E)) ∧ u[kA3]? = (some (qA3, .inl (g 0, 10, .inl (upd (upd (upd (upd (upd (upd (upd (upd (upd (upd (fun _ => 0) 0 1) 1 1) 2 1) 3 1) 4 1) 5 1) 6 1) 7 1) 8 1) 9 1))) : Option (Nat × va_E)) ∧ u[kA4]? = (some (qA4, .inl (g 3, 10, .inl (fun _ => 0))) : Option (Nat × va_E)) ∧ u[kA5]? = (some (qA5, .inl (g 0, 10, .inl (fun _ => 0))) : Option (Nat × va_E)) ∧ u[kA6]? = (some (qA6, .inl (g 0, 4400, .inl (fun _ => 0))) : Option (Nat × va_E)))) := by
  intro sz
  refine q_into (by decide) (Nat.le_of_ble_eq_true rfl) ?_
  intro p e s m below meth c ls hsz C0 V hl
  have hx := C0.1
  have hb := C0.2.1
  have hl : lv_has ls 11 [(0, .ref qO0), (1, .int x1), (2, .int x2), (3, .int x3), (4, .int x4)] := hl
  have n_A2_O0 := q_df hA2 hO0
  have n_A3_O0 := q_df hA3 hO0
  have n_A4_O0 := q_df hA4 hO0
  have n_A5_O0 := q_df hA5 hO0
  have n_A6_O0 := q_df hA6 hO0
  have hF : q_un ws ws [kO0, kA2, kA3, kA4, kA5, kA6] := q_u0
  refine lv_aload_n hx hb d_15_42_0 rfl (lv_at hl 0 rfl) ?_
  refine lv_iload_n hx hb d_15_42_1 rfl (lv_at hl 1 rfl) ?_
  refine q_goi V (q_runS (As := [.int x1]) (rest := [.ref qO0]) (d := 1) (mc := 0) (ms := 0) C0 V rfl LS_DR_113 (c_DR_no_2 l D g ws x1 _) rfl hl.1 rfl (Nat.le_of_ble_eq_true rfl) ⟨by decide, by decide⟩ ⟨Nat.le_of_ble_eq_true rfl, Nat.le_of_ble_eq_true rfl⟩ d_15_42_2) (fun v3 u2 H locs hp1 V => ?_)
  rcases hp1 with ⟨c4, rfl, rfl⟩ | ⟨c6, c7, rfl, rfl⟩ | ⟨c9, c10, rfl, rfl⟩
  ·
    refine lv_if_ne (tgt := 35) hx hb d_15_42_5 (by decide) (fun c12 => ?_) (fun c12 => absurd c12 (by decide))
    refine lv_iconst (v := 1) hx hb d_15_42_35 (by decide) ?_
    refine lv_goto (tgt := 53) hx hb d_15_42_36 (by decide) ?_
    refine q_put (ci := 14) (j := 0) (v := .int 1) (ty := .int) C0 V i_DR o_DR n_DR rfl rfl hO0 (by decide) w_1996 rfl rfl rfl rfl (Nat.le_of_ble_eq_true rfl) d_15_42_53 (fun H locs w13 hu14 hO0 V => ?_)
    replace hO0 : w13[kO0]? = (some (qO0, .inr (14, [.int 1, .ref qA1, .int 0, .ref qA2, .ref qA3, .ref qA4, .ref qA5, .ref qA6, .int 0, .long 0, .int 0, .int 0, .ref qA7, .int 0, .ref qA8, .int 0, .ref qA9, .int 0, .ref qA10, .int 0, .int 0])) : Option (Nat × va_E)) := hO0
    replace hF := q_us hF hu14 (.head _)
    refine lv_aload_n hx hb d_15_42_56 rfl (lv_at hl 0 rfl) ?_
    refine q_get (ci := 14) (j := 0) (v := .int 1) C0 V i_DR rfl rfl hO0 (by decide) w_1996 rfl d_15_42_57 ?_
    refine lv_if_le (tgt := 64) hx hb d_15_42_60 (by decide) (fun c15 => absurd c15 (by decide)) (fun c15 => ?_)
    replace hA2 := (hu14 _ n_A2_O0).trans (hA2)
    replace hA3 := (hu14 _ n_A3_O0).trans (hA3)
    replace hA4 := (hu14 _ n_A4_O0).trans (hA4)
    replace hA5 := (hu14 _ n_A5_O0).trans (hA5)
    replace hA6 := (hu14 _ n_A6_O0).trans (hA6)
    exact q_retv C0 V (Or.inl ⟨c4, hF, hO0, hA2, hA3, hA4, hA5, hA6⟩) d_15_42_63
  ·
    refine lv_if_ne (tgt := 35) hx hb d_15_42_5 (by decide) (fun c16 => absurd (by decide) c16) (fun c16 => ?_)
    refine lv_iload_n hx hb d_15_42_8 rfl (lv_at hl 2 rfl) ?_
    refine q_goi V (q_runS (As := [.int x2]) (rest := [.ref qO0]) (d := 1) (mc := 0) (ms := 0) C0 V rfl LS_DR_113 (c_DR_no_2 l D g ws x2 _) rfl hl.1 rfl (Nat.le_of_ble_eq_true rfl) ⟨by decide, by decide⟩ ⟨Nat.le_of_ble_eq_true rfl, Nat.le_of_ble_eq_true rfl⟩ d_15_42_9) (fun v19 u18 H locs hp17 V => ?_)
    rcases hp17 with ⟨c20, rfl, rfl⟩ | ⟨c22, c23, rfl, rfl⟩ | ⟨c25, c26, rfl, rfl⟩
    ·
      refine lv_if_ne (tgt := 35) hx hb d_15_42_12 (by decide) (fun c28 => ?_) (fun c28 => absurd c28 (by decide))
      refine lv_iconst (v := 1) hx hb d_15_42_35 (by decide) ?_
      refine lv_goto (tgt := 53) hx hb d_15_42_36 (by decide) ?_
      refine q_put (ci := 14) (j := 0) (v := .int 1) (ty := .int) C0 V i_DR o_DR n_DR rfl rfl hO0 (by decide) w_1996 rfl rfl rfl rfl (Nat.le_of_ble_eq_true rfl) d_15_42_53 (fun H locs w29 hu30 hO0 V => ?_)
      replace hO0 : w29[kO0]? = (some (qO0, .inr (14, [.int 1, .ref qA1, .int 0, .ref qA2, .ref qA3, .ref qA4, .ref qA5, .ref qA6, .int 0, .long 0, .int 0, .int 0, .ref qA7, .int 0, .ref qA8, .int 0, .ref qA9, .int 0, .ref qA10, .int 0, .int 0])) : Option (Nat × va_E)) := hO0
      replace hF := q_us hF hu30 (.head _)
      refine lv_aload_n hx hb d_15_42_56 rfl (lv_at hl 0 rfl) ?_
      refine q_get (ci := 14) (j := 0) (v := .int 1) C0 V i_DR rfl rfl hO0 (by decide) w_1996 rfl d_15_42_57 ?_
      refine lv_if_le (tgt := 64) hx hb d_15_42_60 (by decide) (fun c31 => absurd c31 (by decide)) (fun c31 => ?_)
      replace hA2 := (hu30 _ n_A2_O0).trans (hA2)
      replace hA3 := (hu30 _ n_A3_O0).trans (hA3)
      replace hA4 := (hu30 _ n_A4_O0).trans (hA4)
      replace hA5 := (hu30 _ n_A5_O0).trans (hA5)
      replace hA6 := (hu30 _ n_A6_O0).trans (hA6)
      exact q_retv C0 V (Or.inr (Or.inl ⟨c6, c7, c20, hF, hO0, hA2, hA3, hA4, hA5, hA6⟩)) d_15_42_63
    ·
      refine lv_if_ne (tgt := 35) hx hb d_15_42_12 (by decide) (fun c32 => absurd (by decide) c32) (fun c32 => ?_)
      refine lv_iload hx hb d_15_42_15 (lv_at hl 4 rfl) ?_
      refine q_goi V (q_runS (As := [.int x4]) (rest := [.ref qO0]) (d := 1) (mc := 0) (ms := 0) C0 V rfl LS_DR_147 (c_DR_noMode l D g ws x4 _) rfl hl.1 rfl (Nat.le_of_ble_eq_true rfl) ⟨by decide, by decide⟩ ⟨Nat.le_of_ble_eq_true rfl, Nat.le_of_ble_eq_true rfl⟩ d_15_42_17) (fun v35 u34 H locs hp33 V => ?_)
      rcases hp33 with ⟨c36, rfl, rfl⟩ | ⟨c38, c39, rfl, rfl⟩ | ⟨c41, c42, rfl, rfl⟩
      ·
        refine lv_if_ne (tgt := 35) hx hb d_15_42_20 (by decide) (fun c44 => ?_) (fun c44 => absurd c44 (by decide))
        refine lv_iconst (v := 1) hx hb d_15_42_35 (by decide) ?_
        refine lv_goto (tgt := 53) hx hb d_15_42_36 (by decide) ?_
        refine q_put (ci := 14) (j := 0) (v := .int 1) (ty := .int) C0 V i_DR o_DR n_DR rfl rfl hO0 (by decide) w_1996 rfl rfl rfl rfl (Nat.le_of_ble_eq_true rfl) d_15_42_53 (fun H locs w45 hu46 hO0 V => ?_)
        replace hO0 : w45[kO0]? = (some (qO0, .inr (14, [.int 1, .ref qA1, .int 0, .ref qA2, .ref qA3, .ref qA4, .ref qA5, .ref qA6, .int 0, .long 0, .int 0, .int 0, .ref qA7, .int 0, .ref qA8, .int 0, .ref qA9, .int 0, .ref qA10, .int 0, .int 0])) : Option (Nat × va_E)) := hO0
        replace hF := q_us hF hu46 (.head _)
        refine lv_aload_n hx hb d_15_42_56 rfl (lv_at hl 0 rfl) ?_
        refine q_get (ci := 14) (j := 0) (v := .int 1) C0 V i_DR rfl rfl hO0 (by decide) w_1996 rfl d_15_42_57 ?_
        refine lv_if_le (tgt := 64) hx hb d_15_42_60 (by decide) (fun c47 => absurd c47 (by decide)) (fun c47 => ?_)
        replace hA2 := (hu46 _ n_A2_O0).trans (hA2)
        replace hA3 := (hu46 _ n_A3_O0).trans (hA3)
        replace hA4 := (hu46 _ n_A4_O0).trans (hA4)
        replace hA5 := (hu46 _ n_A5_O0).trans (hA5)
        replace hA6 := (hu46 _ n_A6_O0).trans (hA6)
        exact q_retv C0 V (Or.inr (Or.inr (Or.inl ⟨c6, c7, c22, c23, c36, hF, hO0, hA2, hA3, hA4, hA5, hA6⟩))) d_15_42_63
      ·
        refine lv_if_ne (tgt := 35) hx hb d_15_42_20 (by decide) (fun c48 => absurd (by decide) c48) (fun c48 => ?_)
        refine lv_iload_n hx hb d_15_42_23 rfl (lv_at hl 3 rfl) ?_
        refine lv_iconst (v := 1) hx hb d_15_42_24 (by decide) ?_
        refine lv_icmp_lt (tgt := 35) hx hb d_15_42_25 (by decide) (fun c49 => ?_) (fun c49 => ?_)
        ·
          refine lv_iconst (v := 1) hx hb d_15_42_35 (by decide) ?_
          refine lv_goto (tgt := 53) hx hb d_15_42_36 (by decide) ?_
          refine q_put (ci := 14) (j := 0) (v := .int 1) (ty := .int) C0 V i_DR o_DR n_DR rfl rfl hO0 (by decide) w_1996 rfl rfl rfl rfl (Nat.le_of_ble_eq_true rfl) d_15_42_53 (fun H locs w50 hu51 hO0 V => ?_)
          replace hO0 : w50[kO0]? = (some (qO0, .inr (14, [.int 1, .ref qA1, .int 0, .ref qA2, .ref qA3, .ref qA4, .ref qA5, .ref qA6, .int 0, .long 0, .int 0, .int 0, .ref qA7, .int 0, .ref qA8, .int 0, .ref qA9, .int 0, .ref qA10, .int 0, .int 0])) : Option (Nat × va_E)) := hO0
          replace hF := q_us hF hu51 (.head _)
          refine lv_aload_n hx hb d_15_42_56 rfl (lv_at hl 0 rfl) ?_
          refine q_get (ci := 14) (j := 0) (v := .int 1) C0 V i_DR rfl rfl hO0 (by decide) w_1996 rfl d_15_42_57 ?_
          refine lv_if_le (tgt := 64) hx hb d_15_42_60 (by decide) (fun c52 => absurd c52 (by decide)) (fun c52 => ?_)
          replace hA2 := (hu51 _ n_A2_O0).trans (hA2)
          replace hA3 := (hu51 _ n_A3_O0).trans (hA3)
          replace hA4 := (hu51 _ n_A4_O0).trans (hA4)
          replace hA5 := (hu51 _ n_A5_O0).trans (hA5)
          replace hA6 := (hu51 _ n_A6_O0).trans (hA6)
          exact q_retv C0 V (Or.inr (Or.inr (Or.inr (Or.inl ⟨c6, c7, c22, c23, c38, c39, c49, hF, hO0, hA2, hA3, hA4, hA5, hA6⟩)))) d_15_42_63
        ·
          refine lv_iload_n hx hb d_15_42_28 rfl (lv_at hl 3 rfl) ?_
          refine lv_sipush (v := 1000) hx hb d_15_42_29 (by decide) ?_
          refine lv_icmp_le (tgt := 39) hx hb d_15_42_32 (by decide) (fun c53 => ?_) (fun c53 => ?_)
          ·
            refine lv_aload_n hx hb d_15_42_39 rfl (lv_at hl 0 rfl) ?_
            refine q_get (ci := 14) (j := 5) (v := .ref qA4) C0 V i_DR rfl rfl hO0 (by decide) w_2006 rfl d_15_42_40 ?_
            refine lv_iload_n hx hb d_15_42_43 rfl (lv_at hl 1 rfl) ?_
            refine q_zald C0 V hA4 (q_ix (x := x1.toInt) rfl (by have t1 : 0 ≤ x1.toInt := q_nltI c6; have t2 : x1.toInt < 10 := q_ltI c7; omega) (by have t1 : 0 ≤ x1.toInt := q_nltI c6; have t2 : x1.toInt < 10 := q_ltI c7; omega)) d_15_42_44 ?_
            refine q_ti (v := 0) (by first | rfl | decide | simp [upd, vp_updL, sb_cl0]) ?_
            refine lv_if_eq (tgt := 52) hx hb d_15_42_45 (by decide) (fun c54 => ?_) (fun c54 => absurd (by decide) c54)
            refine lv_iconst (v := 0) hx hb d_15_42_52 (by decide) ?_
            refine q_put (ci := 14) (j := 0) (v := .int 0) (ty := .int) C0 V i_DR o_DR n_DR rfl rfl hO0 (by decide) w_1996 rfl rfl rfl rfl (Nat.le_of_ble_eq_true rfl) d_15_42_53 (fun H locs w55 hu56 hO0 V => ?_)
            replace hO0 : w55[kO0]? = (some (qO0, .inr (14, [.int 0, .ref qA1, .int 0, .ref qA2, .ref qA3, .ref qA4, .ref qA5, .ref qA6, .int 0, .long 0, .int 0, .int 0, .ref qA7, .int 0, .ref qA8, .int 0, .ref qA9, .int 0, .ref qA10, .int 0, .int 0])) : Option (Nat × va_E)) := hO0
            replace hF := q_us hF hu56 (.head _)
            refine lv_aload_n hx hb d_15_42_56 rfl (lv_at hl 0 rfl) ?_
            refine q_get (ci := 14) (j := 0) (v := .int 0) C0 V i_DR rfl rfl hO0 (by decide) w_1996 rfl d_15_42_57 ?_
            refine lv_if_le (tgt := 64) hx hb d_15_42_60 (by decide) (fun c57 => ?_) (fun c57 => absurd (by decide) c57)
            refine lv_aload_n hx hb d_15_42_64 rfl (lv_at hl 0 rfl) ?_
            refine lv_iconst (v := 2) hx hb d_15_42_65 (by decide) ?_
            refine q_put (ci := 14) (j := 20) (v := .int 2) (ty := .int) C0 V i_DR o_DR n_DR rfl rfl hO0 (by decide) w_2024 rfl rfl rfl rfl (Nat.le_of_ble_eq_true rfl) d_15_42_66 (fun H locs w58 hu59 hO0 V => ?_)
            replace hO0 : w58[kO0]? = (some (qO0, .inr (14, [.int 0, .ref qA1, .int 0, .ref qA2, .ref qA3, .ref qA4, .ref qA5, .ref qA6, .int 0, .long 0, .int 0, .int 0, .ref qA7, .int 0, .ref qA8, .int 0, .ref qA9, .int 0, .ref qA10, .int 0, .int 2])) : Option (Nat × va_E)) := hO0
            replace hF := q_us hF hu59 (.head _)
            refine lv_aload_n hx hb d_15_42_69 rfl (lv_at hl 0 rfl) ?_
            refine q_get (ci := 14) (j := 6) (v := .ref qA5) C0 V i_DR rfl rfl hO0 (by decide) w_2008 rfl d_15_42_70 ?_
            refine lv_iload_n hx hb d_15_42_73 rfl (lv_at hl 1 rfl) ?_
            replace hA5 := (hu59 _ n_A5_O0).trans ((hu56 _ n_A5_O0).trans (hA5))
            refine q_iald C0 V hA5 (q_ix (x := x1.toInt) rfl (by have t1 : 0 ≤ x1.toInt := q_nltI c6; have t2 : x1.toInt < 10 := q_ltI c7; omega) (by have t1 : 0 ≤ x1.toInt := q_nltI c6; have t2 : x1.toInt < 10 := q_ltI c7; omega)) d_15_42_74 ?_
            refine q_ti (v := 0) (by first | rfl | decide | simp [upd, vp_updL, sb_cl0]) ?_
            refine lv_istore (lv' := [(5, .int 0), (0, .ref qO0), (1, .int x1), (2, .int x2), (3, .int x3), (4, .int x4)]) hx hb d_15_42_75 hl (by decide) rfl (fun ls hl => ?_)
            refine lv_iload hx hb d_15_42_77 (lv_at hl 0 rfl) ?_
            refine lv_if_lt (tgt := 90) hx hb d_15_42_79 (by decide) (fun c60 => absurd c60 (by decide)) (fun c60 => ?_)
            refine lv_iload hx hb d_15_42_82 (lv_at hl 0 rfl) ?_
            refine lv_iconst (v := 2) hx hb d_15_42_84 (by decide) ?_
            refine lv_idiv hx hb d_15_42_85 (by decide) ?_
            refine q_ti (v := 0) (by decide) ?_
            refine lv_i2l hx hb d_15_42_86 rfl ?_
            refine q_tl (v := 0) (by decide) ?_
            refine lv_goto (tgt := 98) hx hb d_15_42_87 (by decide) ?_
            refine lv_lstore (lv' := [(6, .long 0), (5, .int 0), (0, .ref qO0), (1, .int x1), (2, .int x2), (3, .int x3), (4, .int x4)]) hx hb d_15_42_98 hl (by decide) rfl (fun ls hl => ?_)
            refine lv_aload_n hx hb d_15_42_100 rfl (lv_at hl 2 rfl) ?_
            refine lv_iload_n hx hb d_15_42_101 rfl (lv_at hl 3 rfl) ?_
            replace hA2 := (hu59 _ n_A2_O0).trans ((hu56 _ n_A2_O0).trans (hA2))
            refine q_goi V (q_runV (As := [.int x1]) (rest := []) (d := 1) (mc := 0) (ms := 0) (ci := 14) C0 V rfl LV_DR_120 (c_DR_isZero_2 l D g w58 kO0 kA2 qO0 qA1 qA2 qA3 qA4 qA5 qA6 qA7 qA8 qA9 qA10 x1 hO0 hA2 (q_Ile (x := 0) (y := x1.toInt) (by decide) rfl (by have t1 : 0 ≤ x1.toInt := q_nltI c6; have t2 : x1.toInt < 10 := q_ltI c7; omega)) (q_Ile (x := x1.toInt) (y := 9) rfl (by decide) (by have t1 : 0 ≤ x1.toInt := q_nltI c6; have t2 : x1.toInt < 10 := q_ltI c7; omega)) _) rfl rfl hO0 rfl hl.1 rfl (Nat.le_of_ble_eq_true rfl) ⟨by decide, by decide⟩ ⟨Nat.le_of_ble_eq_true rfl, Nat.le_of_ble_eq_true rfl⟩ d_15_42_102) (fun v63 u62 H locs hp61 V => ?_)
            obtain ⟨rfl, rfl⟩ := hp61
            refine lv_if_eq (tgt := 124) hx hb d_15_42_105 (by decide) (fun c65 => absurd c65 (by decide)) (fun c65 => ?_)
            refine lv_aload_n hx hb d_15_42_108 rfl (lv_at hl 2 rfl) ?_
            refine lv_iload_n hx hb d_15_42_109 rfl (lv_at hl 3 rfl) ?_
            replace hA3 := (hu59 _ n_A3_O0).trans ((hu56 _ n_A3_O0).trans (hA3))
            replace hA4 := (hu59 _ n_A4_O0).trans ((hu56 _ n_A4_O0).trans (hA4))
            replace hA6 := (hu59 _ n_A6_O0).trans ((hu56 _ n_A6_O0).trans (hA6))
            refine q_gov V (q_runV (As := [.int x1]) (rest := []) (d := 1) (mc := 0) (ms := 0) (ci := 14) C0 V rfl LV_DR_132 (c_DR_load l D g w58 kO0 kA2 kA3 kA4 kA5 kA6 qO0 qA1 qA2 qA3 qA4 qA5 qA6 qA7 qA8 qA9 qA10 x1 hO0 hA2 hA3 hA4 hA5 hA6 n_A2_A6 n_A3_A6 n_A4_A6 n_A5_A6 (q_Ile (x := 0) (y := x1.toInt) (by decide) rfl (by have t1 : 0 ≤ x1.toInt := q_nltI c6; have t2 : x1.toInt < 10 := q_ltI c7; omega)) (q_Ile (x := x1.toInt) (y := 9) rfl (by decide) (by have t1 : 0 ≤ x1.toInt := q_nltI c6; have t2 : x1.toInt < 10 := q_ltI c7; omega)) _) rfl rfl hO0 rfl hl.1 rfl (Nat.le_of_ble_eq_true rfl) ⟨by decide, by decide⟩ ⟨Nat.le_of_ble_eq_true rfl, Nat.le_of_ble_eq_true rfl⟩ d_15_42_110) (fun u67 H locs hp66 V => ?_)
            obtain ⟨hg68, hO0, hA6⟩ := hp66
            replace hF := q_uc hF hg68 (q_sc (.head _) (q_sc (List.mem_of_getElem? (i := 5) rfl) (fun _ h => absurd h List.not_mem_nil)))
            refine lv_aload_n hx hb d_15_42_113 rfl (lv_at hl 2 rfl) ?_
            refine lv_iload_n hx hb d_15_42_114 rfl (lv_at hl 5 rfl) ?_
            refine lv_lload hx hb d_15_42_115 (lv_at hl 0 rfl) ?_
            refine lv_iload hx hb d_15_42_117 (lv_at hl 6 rfl) ?_
            refine lv_iload_n hx hb d_15_42_119 rfl (lv_at hl 4 rfl) ?_
            replace hA2 := (hg68 _ (q_nc n_A2_O0 (q_nc n_A2_A6 List.not_mem_nil))).trans (hA2)
            replace hA3 := (hg68 _ (q_nc n_A3_O0 (q_nc n_A3_A6 List.not_mem_nil))).trans (hA3)
            replace hA4 := (hg68 _ (q_nc n_A4_O0 (q_nc n_A4_A6 List.not_mem_nil))).trans (hA4)
            replace hA5 := (hg68 _ (q_nc n_A5_O0 (q_nc n_A5_A6 List.not_mem_nil))).trans (hA5)
            refine q_gov V (q_runV (As := [.int x3, .long 0, .int x4, .int x2]) (rest := []) (d := 3) (mc := 0) (ms := 0) (ci := 14) C0 V rfl LV_DR_166 (c_DR_toPrecision l D g u67 kO0 kA2 kA3 kA4 kA5 kA6 qO0 qA1 qA2 qA3 qA4 qA5 qA6 qA7 qA8 qA9 qA10 x3 x4 x2 hO0 hA2 hA3 hA4 hA5 hA6 n_A2_A3 n_A2_A4 n_A2_A5 n_A2_A6 n_A3_A4 n_A3_A5 n_A3_A6 n_A4_A5 n_A4_A6 n_A5_A6 (q_Ile (x := 1) (y := x3.toInt) (by decide) rfl (by have t1 : 1 ≤ x3.toInt := q_nltI c49; have t2 : x3.toInt ≤ 1000 := q_leI c53; omega)) c53 (q_Ile (x := 0) (y := x4.toInt) (by decide) rfl (by have t1 : 0 ≤ x4.toInt := q_nltI c38; have t2 : x4.toInt ≤ 7 := q_leI c39; omega)) c39 (q_Ile (x := 0) (y := x2.toInt) (by decide) rfl (by have t1 : 0 ≤ x2.toInt := q_nltI c22; have t2 : x2.toInt < 10 := q_ltI c23; omega)) (q_Ile (x := x2.toInt) (y := 9) rfl (by decide) (by have t1 : 0 ≤ x2.toInt := q_nltI c22; have t2 : x2.toInt < 10 := q_ltI c23; omega)) _) rfl rfl hO0 rfl hl.1 rfl (Nat.le_of_ble_eq_true rfl) ⟨by decide, by decide⟩ ⟨Nat.le_of_ble_eq_true rfl, Nat.le_of_ble_eq_true rfl⟩ d_15_42_120) (fun u70 H locs hp69 V => ?_)
            obtain ⟨hg71, hO0, hA2, hA3, hA4, hA5, hA6⟩ := hp69
            replace hF := q_uc hF hg71 (q_sc (.head _) (q_sc (.tail _ (.head _)) (q_sc (.tail _ (.tail _ (.head _))) (q_sc (List.mem_of_getElem? (i := 3) rfl) (q_sc (List.mem_of_getElem? (i := 4) rfl) (q_sc (List.mem_of_getElem? (i := 5) rfl) (fun _ h => absurd h List.not_mem_nil)))))))
            exact q_retv C0 V (Or.inr (Or.inr (Or.inr (Or.inr (Or.inl ⟨c6, c7, c22, c23, c38, c39, c49, c53, hF, hO0, hA2, hA3, hA4, hA5, hA6⟩))))) d_15_42_123
          ·
            refine lv_iconst (v := 1) hx hb d_15_42_35 (by decide) ?_
            refine lv_goto (tgt := 53) hx hb d_15_42_36 (by decide) ?_
            refine q_put (ci := 14) (j := 0) (v := .int 1) (ty := .int) C0 V i_DR o_DR n_DR rfl rfl hO0 (by decide) w_1996 rfl rfl rfl rfl (Nat.le_of_ble_eq_true rfl) d_15_42_53 (fun H locs w72 hu73 hO0 V => ?_)
            replace hO0 : w72[kO0]? = (some (qO0, .inr (14, [.int 1, .ref qA1, .int 0, .ref qA2, .ref qA3, .ref qA4, .ref qA5, .ref qA6, .int 0, .long 0, .int 0, .int 0, .ref qA7, .int 0, .ref qA8, .int 0, .ref qA9, .int 0, .ref qA10, .int 0, .int 0])) : Option (Nat × va_E)) := hO0
            replace hF := q_us hF hu73 (.head _)
            refine lv_aload_n hx hb d_15_42_56 rfl (lv_at hl 0 rfl) ?_
            refine q_get (ci := 14) (j := 0) (v := .int 1) C0 V i_DR rfl rfl hO0 (by decide) w_1996 rfl d_15_42_57 ?_
            refine lv_if_le (tgt := 64) hx hb d_15_42_60 (by decide) (fun c74 => absurd c74 (by decide)) (fun c74 => ?_)
            replace hA2 := (hu73 _ n_A2_O0).trans (hA2)
            replace hA3 := (hu73 _ n_A3_O0).trans (hA3)
            replace hA4 := (hu73 _ n_A4_O0).trans (hA4)
            replace hA5 := (hu73 _ n_A5_O0).trans (hA5)
            replace hA6 := (hu73 _ n_A6_O0).trans (hA6)
            exact q_retv C0 V (Or.inr (Or.inr (Or.inr (Or.inr (Or.inr (Or.inl ⟨c6, c7, c22, c23, c38, c39, c49, c53, hF, hO0, hA2, hA3, hA4, hA5, hA6⟩)))))) d_15_42_63
      ·
        refine lv_if_ne (tgt := 35) hx hb d_15_42_20 (by decide) (fun c75 => ?_) (fun c75 => absurd c75 (by decide))
        refine lv_iconst (v := 1) hx hb d_15_42_35 (by decide) ?_
        refine lv_goto (tgt := 53) hx hb d_15_42_36 (by decide) ?_
        refine q_put (ci := 14) (j := 0) (v := .int 1) (ty := .int) C0 V i_DR o_DR n_DR rfl rfl hO0 (by decide) w_1996 rfl rfl rfl rfl (Nat.le_of_ble_eq_true rfl) d_15_42_53 (fun H locs w76 hu77 hO0 V => ?_)
        replace hO0 : w76[kO0]? = (some (qO0, .inr (14, [.int 1, .ref qA1, .int 0, .ref qA2, .ref qA3, .ref qA4, .ref qA5, .ref qA6, .int 0, .long 0, .int 0, .int 0, .ref qA7, .int 0, .ref qA8, .int 0, .ref qA9, .int 0, .ref qA10, .int 0, .int 0])) : Option (Nat × va_E)) := hO0
        replace hF := q_us hF hu77 (.head _)
        refine lv_aload_n hx hb d_15_42_56 rfl (lv_at hl 0 rfl) ?_
        refine q_get (ci := 14) (j := 0) (v := .int 1) C0 V i_DR rfl rfl hO0 (by decide) w_1996 rfl d_15_42_57 ?_
        refine lv_if_le (tgt := 64) hx hb d_15_42_60 (by decide) (fun c78 => absurd c78 (by decide)) (fun c78 => ?_)
        replace hA2 := (hu77 _ n_A2_O0).trans (hA2)
        replace hA3 := (hu77 _ n_A3_O0).trans (hA3)
        replace hA4 := (hu77 _ n_A4_O0).trans (hA4)
        replace hA5 := (hu77 _ n_A5_O0).trans (hA5)
        replace hA6 := (hu77 _ n_A6_O0).trans (hA6)
        exact q_retv C0 V (Or.inr (Or.inr (Or.inr (Or.inr (Or.inr (Or.inr (Or.inl ⟨c6, c7, c22, c23, c41, c42, hF, hO0, hA2, hA3, hA4, hA5, hA6⟩))))))) d_15_42_63
    ·
      refine lv_if_ne (tgt := 35) hx hb d_15_42_12 (by decide) (fun c79 => ?_) (fun c79 => absurd c79 (by decide))
      refine lv_iconst (v := 1) hx hb d_15_42_35 (by decide) ?_
      refine lv_goto (tgt := 53) hx hb d_15_42_36 (by decide) ?_
      refine q_put (ci := 14) (j := 0) (v := .int 1) (ty := .int) C0 V i_DR o_DR n_DR rfl rfl hO0 (by decide) w_1996 rfl rfl rfl rfl (Nat.le_of_ble_eq_true rfl) d_15_42_53 (fun H locs w80 hu81 hO0 V => ?_)
      replace hO0 : w80[kO0]? = (some (qO0, .inr (14, [.int 1, .ref qA1, .int 0, .ref qA2, .ref qA3, .ref qA4, .ref qA5, .ref qA6, .int 0, .long 0, .int 0, .int 0, .ref qA7, .int 0, .ref qA8, .int 0, .ref qA9, .int 0, .ref qA10, .int 0, .int 0])) : Option (Nat × va_E)) := hO0
      replace hF := q_us hF hu81 (.head _)
      refine lv_aload_n hx hb d_15_42_56 rfl (lv_at hl 0 rfl) ?_
      refine q_get (ci := 14) (j := 0) (v := .int 1) C0 V i_DR rfl rfl hO0 (by decide) w_1996 rfl d_15_42_57 ?_
      refine lv_if_le (tgt := 64) hx hb d_15_42_60 (by decide) (fun c82 => absurd c82 (by decide)) (fun c82 => ?_)
      replace hA2 := (hu81 _ n_A2_O0).trans (hA2)
      replace hA3 := (hu81 _ n_A3_O0).trans (hA3)
      replace hA4 := (hu81 _ n_A4_O0).trans (hA4)
      replace hA5 := (hu81 _ n_A5_O0).trans (hA5)
      replace hA6 := (hu81 _ n_A6_O0).trans (hA6)
      exact q_retv C0 V (Or.inr (Or.inr (Or.inr (Or.inr (Or.inr (Or.inr (Or.inr (Or.inl ⟨c6, c7, c25, c26, hF, hO0, hA2, hA3, hA4, hA5, hA6⟩)))))))) d_15_42_63
  ·
    refine lv_if_ne (tgt := 35) hx hb d_15_42_5 (by decide) (fun c83 => ?_) (fun c83 => absurd c83 (by decide))
    refine lv_iconst (v := 1) hx hb d_15_42_35 (by decide) ?_
    refine lv_goto (tgt := 53) hx hb d_15_42_36 (by decide) ?_
    refine q_put (ci := 14) (j := 0) (v := .int 1) (ty := .int) C0 V i_DR o_DR n_DR rfl rfl hO0 (by decide) w_1996 rfl rfl rfl rfl (Nat.le_of_ble_eq_true rfl) d_15_42_53 (fun H locs w84 hu85 hO0 V => ?_)
    replace hO0 : w84[kO0]? = (some (qO0, .inr (14, [.int 1, .ref qA1, .int 0, .ref qA2, .ref qA3, .ref qA4, .ref qA5, .ref qA6, .int 0, .long 0, .int 0, .int 0, .ref qA7, .int 0, .ref qA8, .int 0, .ref qA9, .int 0, .ref qA10, .int 0, .int 0])) : Option (Nat × va_E)) := hO0
    replace hF := q_us hF hu85 (.head _)
    refine lv_aload_n hx hb d_15_42_56 rfl (lv_at hl 0 rfl) ?_
    refine q_get (ci := 14) (j := 0) (v := .int 1) C0 V i_DR rfl rfl hO0 (by decide) w_1996 rfl d_15_42_57 ?_
    refine lv_if_le (tgt := 64) hx hb d_15_42_60 (by decide) (fun c86 => absurd c86 (by decide)) (fun c86 => ?_)
    replace hA2 := (hu85 _ n_A2_O0).trans (hA2)
    replace hA3 := (hu85 _ n_A3_O0).trans (hA3)
    replace hA4 := (hu85 _ n_A4_O0).trans (hA4)
    replace hA5 := (hu85 _ n_A5_O0).trans (hA5)
    replace hA6 := (hu85 _ n_A6_O0).trans (hA6)
    exact q_retv C0 V (Or.inr (Or.inr (Or.inr (Or.inr (Or.inr (Or.inr (Or.inr (Or.inr (⟨c9, c10, hF, hO0, hA2, hA3, hA4, hA5, hA6⟩))))))))) d_15_42_63
theorem d_15_44_0 : decode prog_15_method_44_code 0 = .ok (.aload_n 0, 1) := by decide +kernel
theorem d_15_44_1 : decode prog_15_method_44_code 1 = .ok (.iload_n 1, 1) := by decide +kernel
theorem d_15_44_2 : decode prog_15_method_44_code 2 = .ok (.invokestatic 113, 3) := by decide +kernel
theorem d_15_44_5 : decode prog_15_method_44_code 5 = .ok (.ifCond .ne 30, 3) := by decide +kernel
theorem d_15_44_35 : decode prog_15_method_44_code 35 = .ok (.iconst 1, 1) := by decide +kernel
theorem d_15_44_36 : decode prog_15_method_44_code 36 = .ok (.goto 4, 3) := by decide +kernel
theorem d_15_44_40 : decode prog_15_method_44_code 40 = .ok (.putfield 41, 3) := by decide +kernel
theorem d_15_44_43 : decode prog_15_method_44_code 43 = .ok (.aload_n 0, 1) := by decide +kernel
theorem d_15_44_44 : decode prog_15_method_44_code 44 = .ok (.getfield 41, 3) := by decide +kernel
theorem d_15_44_47 : decode prog_15_method_44_code 47 = .ok (.ifCond .ne 28, 3) := by decide +kernel
theorem d_15_44_75 : decode prog_15_method_44_code 75 = .ok (.return_, 1) := by decide +kernel
theorem d_15_44_8 : decode prog_15_method_44_code 8 = .ok (.iload_n 2, 1) := by decide +kernel
theorem d_15_44_9 : decode prog_15_method_44_code 9 = .ok (.invokestatic 113, 3) := by decide +kernel
theorem d_15_44_12 : decode prog_15_method_44_code 12 = .ok (.ifCond .ne 23, 3) := by decide +kernel
theorem d_15_44_15 : decode prog_15_method_44_code 15 = .ok (.iload 4, 2) := by decide +kernel
theorem d_15_44_17 : decode prog_15_method_44_code 17 = .ok (.invokestatic 147, 3) := by decide +kernel
theorem d_15_44_20 : decode prog_15_method_44_code 20 = .ok (.ifCond .ne 15, 3) := by decide +kernel
theorem d_15_44_23 : decode prog_15_method_44_code 23 = .ok (.iload_n 3, 1) := by decide +kernel
theorem d_15_44_24 : decode prog_15_method_44_code 24 = .ok (.iconst 1, 1) := by decide +kernel
theorem d_15_44_25 : decode prog_15_method_44_code 25 = .ok (.if_icmp .lt 10, 3) := by decide +kernel
theorem d_15_44_28 : decode prog_15_method_44_code 28 = .ok (.iload_n 3, 1) := by decide +kernel
theorem d_15_44_29 : decode prog_15_method_44_code 29 = .ok (.sipush 1000, 3) := by decide +kernel
theorem d_15_44_32 : decode prog_15_method_44_code 32 = .ok (.if_icmp .le 7, 3) := by decide +kernel
theorem d_15_44_39 : decode prog_15_method_44_code 39 = .ok (.iconst 0, 1) := by decide +kernel
theorem d_15_44_50 : decode prog_15_method_44_code 50 = .ok (.aload_n 0, 1) := by decide +kernel
theorem d_15_44_51 : decode prog_15_method_44_code 51 = .ok (.iconst 2, 1) := by decide +kernel
theorem d_15_44_52 : decode prog_15_method_44_code 52 = .ok (.putfield 66, 3) := by decide +kernel
theorem d_15_44_55 : decode prog_15_method_44_code 55 = .ok (.aload_n 0, 1) := by decide +kernel
theorem d_15_44_56 : decode prog_15_method_44_code 56 = .ok (.iload_n 1, 1) := by decide +kernel
theorem d_15_44_57 : decode prog_15_method_44_code 57 = .ok (.invokevirtual 132, 3) := by decide +kernel
theorem d_15_44_60 : decode prog_15_method_44_code 60 = .ok (.aload_n 0, 1) := by decide +kernel
theorem d_15_44_61 : decode prog_15_method_44_code 61 = .ok (.iload_n 3, 1) := by decide +kernel
theorem d_15_44_62 : decode prog_15_method_44_code 62 = .ok (.aload_n 0, 1) := by decide +kernel
theorem d_15_44_63 : decode prog_15_method_44_code 63 = .ok (.getfield 23, 3) := by decide +kernel
theorem d_15_44_66 : decode prog_15_method_44_code 66 = .ok (.iload_n 1, 1) := by decide +kernel
theorem d_15_44_67 : decode prog_15_method_44_code 67 = .ok (.iaload, 1) := by decide +kernel
theorem d_15_44_68 : decode prog_15_method_44_code 68 = .ok (.i2l, 1) := by decide +kernel
theorem d_15_44_69 : decode prog_15_method_44_code 69 = .ok (.iload 4, 2) := by decide +kernel
theorem d_15_44_71 : decode prog_15_method_44_code 71 = .ok (.iload_n 2, 1) := by decide +kernel
theorem d_15_44_72 : decode prog_15_method_44_code 72 = .ok (.invokevirtual 166, 3) := by decide +kernel
def y_DR_round : MethodName := ⟨"NumberHouseModel$DecimalRows", "round", "(IIII)V"⟩
set_option maxRecDepth 100000 in
set_option maxHeartbeats 4000000 in
theorem c_DR_round (l : Launch) (D : va_G) (g : Nat → ClassId) (ws : va_W) (kO0 kA2 kA3 kA4 kA5 kA6 qO0 qA1 qA2 qA3 qA4 qA5 qA6 qA7 qA8 qA9 qA10 : Nat) (x1 : Int32) (x2 : Int32) (x3 : Int32) (x4 : Int32) (hO0 : ws[kO0]? = (some (qO0, .inr (14, [.int 0, .ref qA1, .int 0, .ref qA2, .ref qA3, .ref qA4, .ref qA5, .ref qA6, .int 0, .long 0, .int 0, .int 0, .ref qA7, .int 0, .ref qA8, .int 0, .ref qA9, .int 0, .ref qA10, .int 0, .int 0])) : Option (Nat × va_E))) (hA2 : ws[kA2]? = (some (qA2, .inl (g 0, 10000, .inl (fun _ => 0))) : Option (Nat × va_E))) (hA3 : ws[kA3]? = (some (qA3, .inl (g 0, 10, .inl (upd (upd (upd (upd (upd (upd (upd (upd (upd (upd (fun _ => 0) 0 1) 1 1) 2 1) 3 1) 4 1) 5 1) 6 1) 7 1) 8 1) 9 1))) : Option (Nat × va_E))) (hA4 : ws[kA4]? = (some (qA4, .inl (g 3, 10, .inl (fun _ => 0))) : Option (Nat × va_E))) (hA5 : ws[kA5]? = (some (qA5, .inl (g 0, 10, .inl (fun _ => 0))) : Option (Nat × va_E))) (hA6 : ws[kA6]? = (some (qA6, .inl (g 0, 4400, .inl (fun _ => 0))) : Option (Nat × va_E))) (n_A2_A3 : kA2 ≠ kA3) (n_A2_A4 : kA2 ≠ kA4) (n_A2_A5 : kA2 ≠ kA5) (n_A2_A6 : kA2 ≠ kA6) (n_A3_A4 : kA3 ≠ kA4) (n_A3_A5 : kA3 ≠ kA5) (n_A3_A6 : kA3 ≠ kA6) (n_A4_A5 : kA4 ≠ kA5) (n_A4_A6 : kA4 ≠ kA6) (n_A5_A6 : kA5 ≠ kA6) : q_mV l y_DR_round prog_15_method_44_code 5 4 0 0 D g [.ref qO0, .int x1, .int x2, .int x3, .int x4] ws (fun u => (x1 < 0 ∧ q_un ws u [kO0, kA2, kA3, kA4, kA5, kA6] ∧ u[kO0]? = (some (qO0, .inr (14, [.int 1, .ref qA1, .int 0, .ref qA2, .ref qA3, .ref qA4, .ref qA5, .ref qA6, .int 0, .long 0, .int 0, .int 0, .ref qA7, .int 0, .ref qA8, .int 0, .ref qA9, .int 0, .ref qA10, .int 0, .int 0])) : Option (Nat × va_E)) ∧ u[kA2]? = (some (qA2, .inl (g 0, 10000, .inl (fun _ => 0))) : Option (Nat × va_E)) ∧ u[kA3]? = (some (qA3, .inl (g 0, 10, .inl (upd (upd (upd (upd (upd (upd (upd (upd (upd (upd (fun _ => 0) 0 1) 1 1) 2 1) 3 1) 4 1) 5 1) 6 1) 7 1) 8 1) 9 1))) : Option (Nat × va_E)) ∧ u[kA4]? = (some (qA4, .inl (g 3, 10, .inl (fun _ => 0))) : Option (Nat × va_E)) ∧ u[kA5]? = (some (qA5, .inl (g 0, 10, .inl (fun _ => 0))) : Option (Nat × va_E)) ∧ u[kA6]? = (some (qA6, .inl (g 0, 4400, .inl (fun _ => 0))) : Option (Nat × va_E))) ∨ (¬ x1 < 0 ∧ x1 < 10 ∧ x2 < 0 ∧ q_un ws u [kO0, kA2, kA3, kA4, kA5, kA6] ∧ u[kO0]? = (some (qO0, .inr (14, [.int 1, .ref qA1, .int 0, .ref qA2, .ref qA3, .ref qA4, .ref qA5, .ref qA6, .int 0, .long 0, .int 0, .int 0, .ref qA7, .int 0, .ref qA8, .int 0, .ref qA9, .int 0, .ref qA10, .int 0, .int 0])) : Option (Nat × va_E)) ∧ u[kA2]? = (some (qA2, .inl (g 0, 10000, .inl (fun _ => 0))) : Option (Nat × va_E)) ∧ u[kA3]? = (some (qA3, .inl (g 0, 10, .inl (upd (upd (upd (upd (upd (upd (upd (upd (upd (upd (fun _ => 0) 0 1) 1 1) 2 1) 3 1) 4 1) 5 1) 6 1) 7 1) 8 1) 9 1))) : Option (Nat × va_E)) ∧ u[kA4]? = (some (qA4, .inl (g 3, 10, .inl (fun _ => 0))) : Option (Nat × va_E)) ∧ u[kA5]? = (some (qA5, .inl (g 0, 10, .inl (fun _ => 0))) : Option (Nat × va_E)) ∧ u[kA6]? = (some (qA6, .inl (g 0, 4400, .inl (fun _ => 0))) : Option (Nat × va_E))) ∨ (¬ x1 < 0 ∧ x1 < 10 ∧ ¬ x2 < 0 ∧ x2 < 10 ∧ x4 < 0 ∧ q_un ws u [kO0, kA2, kA3, kA4, kA5, kA6] ∧ u[kO0]? = (some (qO0, .inr (14, [.int 1, .ref qA1, .int 0, .ref qA2, .ref qA3, .ref qA4, .ref qA5, .ref qA6, .int 0, .long 0, .int 0, .int 0, .ref qA7, .int 0, .ref qA8, .int 0, .ref qA9, .int 0, .ref qA10, .int 0, .int 0])) : Option (Nat × va_E)) ∧ u[kA2]? = (some (qA2, .inl (g 0, 10000, .inl (fun _ => 0))) : Option (Nat × va_E)) ∧ u[kA3]? = (some (qA3, .inl (g 0, 10, .inl (upd (upd (upd (upd (upd (upd (upd (upd (upd (upd (fun _ => 0) 0 1) 1 1) 2 1) 3 1) 4 1) 5 1) 6 1) 7 1) 8 1) 9 1))) : Option (Nat × va_E)) ∧ u[kA4]? = (some (qA4, .inl (g 3, 10, .inl (fun _ => 0))) : Option (Nat × va_E)) ∧ u[kA5]? = (some (qA5, .inl (g 0, 10, .inl (fun _ => 0))) : Option (Nat × va_E)) ∧ u[kA6]? = (some (qA6, .inl (g 0, 4400, .inl (fun _ => 0))) : Option (Nat × va_E))) ∨ (¬ x1 < 0 ∧ x1 < 10 ∧ ¬ x2 < 0 ∧ x2 < 10 ∧ ¬ x4 < 0 ∧ x4 ≤ 7 ∧ x3 < 1 ∧ q_un ws u [kO0, kA2, kA3, kA4, kA5, kA6] ∧ u[kO0]? = (some (qO0, .inr (14, [.int 1, .ref qA1, .int 0, .ref qA2, .ref qA3, .ref qA4, .ref qA5, .ref qA6, .int 0, .long 0, .int 0, .int 0, .ref qA7, .int 0, .ref qA8, .int 0, .ref qA9, .int 0, .ref qA10, .int 0, .int 0])) : Option (Nat × va_E)) ∧ u[kA2]? = (some (qA2, .inl (g 0, 10000, .inl (fun _ => 0))) : Option (Nat × va_E)) ∧ u[kA3]? = (some (qA3, .inl (g 0, 10, .inl (upd (upd (upd (upd (upd (upd (upd (upd (upd (upd (fun _ => 0) 0 1) 1 1) 2 1) 3 1) 4 1) 5 1) 6 1) 7 1) 8 1) 9 1))) : Option (Nat × va_E)) ∧ u[kA4]? = (some (qA4, .inl (g 3, 10, .inl (fun _ => 0))) : Option (Nat × va_E)) ∧ u[kA5]? = (some (qA5, .inl (g 0, 10, .inl (fun _ => 0))) : Option (Nat × va_E)) ∧ u[kA6]? = (some (qA6, .inl (g 0, 4400, .inl (fun _ => 0))) : Option (Nat × va_E))) ∨ (¬ x1 < 0 ∧ x1 < 10 ∧ ¬ x2 < 0 ∧ x2 < 10 ∧ ¬ x4 < 0 ∧ x4 ≤ 7 ∧ ¬ x3 < 1 ∧ x3 ≤ 1000 ∧ q_un ws u [kO0, kA2, kA3, kA4, kA5, kA6] ∧ u[kO0]? = (some (qO0, .inr (14, [.int 0, .ref qA1, .int 0, .ref qA2, .ref qA3, .ref qA4, .ref qA5, .ref qA6, .int 1, .long 0, .int 0, .int 0, .ref qA7, .int 0, .ref qA8, .int 0, .ref qA9, .int 0, .ref qA10, .int 0, .int 2])) : Option (Nat × va_E)) ∧ u[kA2]? = (some (qA2, .inl (g 0, 10000, .inl (fun _ => 0))) : Option (Nat × va_E)) ∧ u[kA3]? = (some (qA3, .inl (g 0, 10, .inl (upd (upd (upd (upd (upd (upd (upd (upd (upd (upd (upd (fun _ => 0) 0 1) 1 1) 2 1) 3 1) 4 1) 5 1) 6 1) 7 1) 8 1) 9 1) x2.toNatClampNeg 1))) : Option (Nat × va_E)) ∧ u[kA4]? = (some (qA4, .inl (g 3, 10, .inl (fun _ => 0))) : Option (Nat × va_E)) ∧ u[kA5]? = (some (qA5, .inl (g 0, 10, .inl (fun _ => 0))) : Option (Nat × va_E)) ∧ u[kA6]? = (some (qA6, .inl (g 0, 4400, .inl (fun _ => 0))) : Option (Nat × va_E))) ∨ (¬ x1 < 0 ∧ x1 < 10 ∧ ¬ x2 < 0 ∧ x2 < 10 ∧ ¬ x4 < 0 ∧ x4 ≤ 7 ∧ ¬ x3 < 1 ∧ ¬ x3 ≤ 1000 ∧ q_un ws u [kO0, kA2, kA3, kA4, kA5, kA6] ∧ u[kO0]? = (some (qO0, .inr (14, [.int 1, .ref qA1, .int 0, .ref qA2, .ref qA3, .ref qA4, .ref qA5, .ref qA6, .int 0, .long 0, .int 0, .int 0, .ref qA7, .int 0, .ref qA8, .int 0, .ref qA9, .int 0, .ref qA10, .int 0, .int 0])) : Option (Nat × va_E)) ∧ u[kA2]? = (some (qA2, .inl (g 0, 10000, .inl (fun _ => 0))) : Option (Nat × va_E)) ∧ u[kA3]? = (some (qA3, .inl (g 0, 10, .inl (upd (upd (upd (upd (upd (upd (upd (upd (upd (upd (fun _ => 0) 0 1) 1 1) 2 1) 3 1) 4 1) 5 1) 6 1) 7 1) 8 1) 9 1))) : Option (Nat × va_E)) ∧ u[kA4]? = (some (qA4, .inl (g 3, 10, .inl (fun _ => 0))) : Option (Nat × va_E)) ∧ u[kA5]? = (some (qA5, .inl (g 0, 10, .inl (fun _ => 0))) : Option (Nat × va_E)) ∧ u[kA6]? = (some (qA6, .inl (g 0, 4400, .inl (fun _ => 0))) : Option (Nat × va_E))) ∨ (¬ x1 < 0 ∧ x1 < 10 ∧ ¬ x2 < 0 ∧ x2 < 10 ∧ ¬ x4 < 0 ∧ ¬ x4 ≤ 7 ∧ q_un ws u [kO0, kA2, kA3, kA4, kA5, kA6] ∧ u[kO0]? = (some (qO0, .inr (14, [.int 1, .ref qA1, .int 0, .ref qA2, .ref qA3, .ref qA4, .ref qA5, .ref qA6, .int 0, .long 0, .int 0, .int 0, .ref qA7, .int 0, .ref qA8, .int 0, .ref qA9, .int 0, .ref qA10, .int 0, .int 0])) : Option (Nat × va_E)) ∧ u[kA2]? = (some (qA2, .inl (g 0, 10000, .inl (fun _ => 0))) : Option (Nat × va_E)) ∧ u[kA3]? = (some (qA3, .inl (g 0, 10, .inl (upd (upd (upd (upd (upd (upd (upd (upd (upd (upd (fun _ => 0) 0 1) 1 1) 2 1) 3 1) 4 1) 5 1) 6 1) 7 1) 8 1) 9 1))) : Option (Nat × va_E)) ∧ u[kA4]? = (some (qA4, .inl (g 3, 10, .inl (fun _ => 0))) : Option (Nat × va_E)) ∧ u[kA5]? = (some (qA5, .inl (g 0, 10, .inl (fun _ => 0))) : Option (Nat × va_E)) ∧ u[kA6]? = (some (qA6, .inl (g 0, 4400, .inl (fun _ => 0))) : Option (Nat × va_E))) ∨ (¬ x1 < 0 ∧ x1 < 10 ∧ ¬ x2 < 0 ∧ ¬ x2 < 10 ∧ q_un ws u [kO0, kA2, kA3, kA4, kA5, kA6] ∧ u[kO0]? = (some (qO0, .inr (14, [.int 1, .ref qA1, .int 0, .ref qA2, .ref qA3, .ref qA4, .ref qA5, .ref qA6, .int 0, .long 0, .int 0, .int 0, .ref qA7, .int 0, .ref qA8, .int 0, .ref qA9, .int 0, .ref qA10, .int 0, .int 0])) : Option (Nat × va_E)) ∧ u[kA2]? = (some (qA2, .inl (g 0, 10000, .inl (fun _ => 0))) : Option (Nat × va_E)) ∧ u[kA3]? = (some (qA3, .inl (g 0, 10, .inl (upd (upd (upd (upd (upd (upd (upd (upd (upd (upd (fun _ => 0) 0 1) 1 1) 2 1) 3 1) 4 1) 5 1) 6 1) 7 1) 8 1) 9 1))) : Option (Nat × va_E)) ∧ u[kA4]? = (some (qA4, .inl (g 3, 10, .inl (fun _ => 0))) : Option (Nat × va_E)) ∧ u[kA5]? = (some (qA5, .inl (g 0, 10, .inl (fun _ => 0))) : Option (Nat × va_E)) ∧ u[kA6]? = (some (qA6, .inl (g 0, 4400, .inl (fun _ => 0))) : Option (Nat × va_E))) ∨ (¬ x1 < 0 ∧ ¬ x1 < 10 ∧ q_un ws u [kO0, kA2, kA3, kA4, kA5, kA6] ∧ u[kO0]? = (some (qO0, .inr (14, [.int 1, .ref qA1, .int 0, .ref qA2, .ref qA3, .ref qA4, .ref qA5, .ref qA6, .int 0, .long 0, .int 0, .int 0, .ref qA7, .int 0, .ref qA8, .int 0, .ref qA9, .int 0, .ref qA10, .int 0, .int 0])) : Option (Nat × va_E)) ∧ u[kA2]? = (some (qA2, .inl (g 0, 10000, .inl (fun _ => 0))) : Option (Nat × va_E)) ∧ u[kA3]? = (some (qA3, .inl (g 0, 10, .inl (upd (upd (upd (upd (upd (upd (upd (upd (upd (upd (fun _ => 0) 0 1) 1 1) 2 1) 3 1) 4 1) 5 1) 6 1) 7 1) 8 1) 9 1))) : Option (Nat × va_E)) ∧ u[kA4]? = (some (qA4, .inl (g 3, 10, .inl (fun _ => 0))) : Option (Nat × va_E)) ∧ u[kA5]? = (some (qA5, .inl (g 0, 10, .inl (fun _ => 0))) : Option (Nat × va_E)) ∧ u[kA6]? = (some (qA6, .inl (g 0, 4400, .inl (fun _ => 0))) : Option (Nat × va_E)))) := by
  intro sz
  refine q_into (by decide) (Nat.le_of_ble_eq_true rfl) ?_
  intro p e s m below meth c ls hsz C0 V hl
  have hx := C0.1
  have hb := C0.2.1
  have hl : lv_has ls 5 [(0, .ref qO0), (1, .int x1), (2, .int x2), (3, .int x3), (4, .int x4)] := hl
  have n_A2_O0 := q_df hA2 hO0
  have n_A3_O0 := q_df hA3 hO0
  have n_A4_O0 := q_df hA4 hO0
  have n_A5_O0 := q_df hA5 hO0
  have n_A6_O0 := q_df hA6 hO0
  have hF : q_un ws ws [kO0, kA2, kA3, kA4, kA5, kA6] := q_u0
  refine lv_aload_n hx hb d_15_44_0 rfl (lv_at hl 0 rfl) ?_
  refine lv_iload_n hx hb d_15_44_1 rfl (lv_at hl 1 rfl) ?_
  refine q_goi V (q_runS (As := [.int x1]) (rest := [.ref qO0]) (d := 1) (mc := 0) (ms := 0) C0 V rfl LS_DR_113 (c_DR_no_2 l D g ws x1 _) rfl hl.1 rfl (Nat.le_of_ble_eq_true rfl) ⟨by decide, by decide⟩ ⟨Nat.le_of_ble_eq_true rfl, Nat.le_of_ble_eq_true rfl⟩ d_15_44_2) (fun v3 u2 H locs hp1 V => ?_)
  rcases hp1 with ⟨c4, rfl, rfl⟩ | ⟨c6, c7, rfl, rfl⟩ | ⟨c9, c10, rfl, rfl⟩
  ·
    refine lv_if_ne (tgt := 35) hx hb d_15_44_5 (by decide) (fun c12 => ?_) (fun c12 => absurd c12 (by decide))
    refine lv_iconst (v := 1) hx hb d_15_44_35 (by decide) ?_
    refine lv_goto (tgt := 40) hx hb d_15_44_36 (by decide) ?_
    refine q_put (ci := 14) (j := 0) (v := .int 1) (ty := .int) C0 V i_DR o_DR n_DR rfl rfl hO0 (by decide) w_1996 rfl rfl rfl rfl (Nat.le_of_ble_eq_true rfl) d_15_44_40 (fun H locs w13 hu14 hO0 V => ?_)
    replace hO0 : w13[kO0]? = (some (qO0, .inr (14, [.int 1, .ref qA1, .int 0, .ref qA2, .ref qA3, .ref qA4, .ref qA5, .ref qA6, .int 0, .long 0, .int 0, .int 0, .ref qA7, .int 0, .ref qA8, .int 0, .ref qA9, .int 0, .ref qA10, .int 0, .int 0])) : Option (Nat × va_E)) := hO0
    replace hF := q_us hF hu14 (.head _)
    refine lv_aload_n hx hb d_15_44_43 rfl (lv_at hl 0 rfl) ?_
    refine q_get (ci := 14) (j := 0) (v := .int 1) C0 V i_DR rfl rfl hO0 (by decide) w_1996 rfl d_15_44_44 ?_
    refine lv_if_ne (tgt := 75) hx hb d_15_44_47 (by decide) (fun c15 => ?_) (fun c15 => absurd c15 (by decide))
    replace hA2 := (hu14 _ n_A2_O0).trans (hA2)
    replace hA3 := (hu14 _ n_A3_O0).trans (hA3)
    replace hA4 := (hu14 _ n_A4_O0).trans (hA4)
    replace hA5 := (hu14 _ n_A5_O0).trans (hA5)
    replace hA6 := (hu14 _ n_A6_O0).trans (hA6)
    exact q_retv C0 V (Or.inl ⟨c4, hF, hO0, hA2, hA3, hA4, hA5, hA6⟩) d_15_44_75
  ·
    refine lv_if_ne (tgt := 35) hx hb d_15_44_5 (by decide) (fun c16 => absurd (by decide) c16) (fun c16 => ?_)
    refine lv_iload_n hx hb d_15_44_8 rfl (lv_at hl 2 rfl) ?_
    refine q_goi V (q_runS (As := [.int x2]) (rest := [.ref qO0]) (d := 1) (mc := 0) (ms := 0) C0 V rfl LS_DR_113 (c_DR_no_2 l D g ws x2 _) rfl hl.1 rfl (Nat.le_of_ble_eq_true rfl) ⟨by decide, by decide⟩ ⟨Nat.le_of_ble_eq_true rfl, Nat.le_of_ble_eq_true rfl⟩ d_15_44_9) (fun v19 u18 H locs hp17 V => ?_)
    rcases hp17 with ⟨c20, rfl, rfl⟩ | ⟨c22, c23, rfl, rfl⟩ | ⟨c25, c26, rfl, rfl⟩
    ·
      refine lv_if_ne (tgt := 35) hx hb d_15_44_12 (by decide) (fun c28 => ?_) (fun c28 => absurd c28 (by decide))
      refine lv_iconst (v := 1) hx hb d_15_44_35 (by decide) ?_
      refine lv_goto (tgt := 40) hx hb d_15_44_36 (by decide) ?_
      refine q_put (ci := 14) (j := 0) (v := .int 1) (ty := .int) C0 V i_DR o_DR n_DR rfl rfl hO0 (by decide) w_1996 rfl rfl rfl rfl (Nat.le_of_ble_eq_true rfl) d_15_44_40 (fun H locs w29 hu30 hO0 V => ?_)
      replace hO0 : w29[kO0]? = (some (qO0, .inr (14, [.int 1, .ref qA1, .int 0, .ref qA2, .ref qA3, .ref qA4, .ref qA5, .ref qA6, .int 0, .long 0, .int 0, .int 0, .ref qA7, .int 0, .ref qA8, .int 0, .ref qA9, .int 0, .ref qA10, .int 0, .int 0])) : Option (Nat × va_E)) := hO0
      replace hF := q_us hF hu30 (.head _)
      refine lv_aload_n hx hb d_15_44_43 rfl (lv_at hl 0 rfl) ?_
      refine q_get (ci := 14) (j := 0) (v := .int 1) C0 V i_DR rfl rfl hO0 (by decide) w_1996 rfl d_15_44_44 ?_
      refine lv_if_ne (tgt := 75) hx hb d_15_44_47 (by decide) (fun c31 => ?_) (fun c31 => absurd c31 (by decide))
      replace hA2 := (hu30 _ n_A2_O0).trans (hA2)
      replace hA3 := (hu30 _ n_A3_O0).trans (hA3)
      replace hA4 := (hu30 _ n_A4_O0).trans (hA4)
      replace hA5 := (hu30 _ n_A5_O0).trans (hA5)
      replace hA6 := (hu30 _ n_A6_O0).trans (hA6)
      exact q_retv C0 V (Or.inr (Or.inl ⟨c6, c7, c20, hF, hO0, hA2, hA3, hA4, hA5, hA6⟩)) d_15_44_75
    ·
      refine lv_if_ne (tgt := 35) hx hb d_15_44_12 (by decide) (fun c32 => absurd (by decide) c32) (fun c32 => ?_)
      refine lv_iload hx hb d_15_44_15 (lv_at hl 4 rfl) ?_
      refine q_goi V (q_runS (As := [.int x4]) (rest := [.ref qO0]) (d := 1) (mc := 0) (ms := 0) C0 V rfl LS_DR_147 (c_DR_noMode l D g ws x4 _) rfl hl.1 rfl (Nat.le_of_ble_eq_true rfl) ⟨by decide, by decide⟩ ⟨Nat.le_of_ble_eq_true rfl, Nat.le_of_ble_eq_true rfl⟩ d_15_44_17) (fun v35 u34 H locs hp33 V => ?_)
      rcases hp33 with ⟨c36, rfl, rfl⟩ | ⟨c38, c39, rfl, rfl⟩ | ⟨c41, c42, rfl, rfl⟩
      ·
        refine lv_if_ne (tgt := 35) hx hb d_15_44_20 (by decide) (fun c44 => ?_) (fun c44 => absurd c44 (by decide))
        refine lv_iconst (v := 1) hx hb d_15_44_35 (by decide) ?_
        refine lv_goto (tgt := 40) hx hb d_15_44_36 (by decide) ?_
        refine q_put (ci := 14) (j := 0) (v := .int 1) (ty := .int) C0 V i_DR o_DR n_DR rfl rfl hO0 (by decide) w_1996 rfl rfl rfl rfl (Nat.le_of_ble_eq_true rfl) d_15_44_40 (fun H locs w45 hu46 hO0 V => ?_)
        replace hO0 : w45[kO0]? = (some (qO0, .inr (14, [.int 1, .ref qA1, .int 0, .ref qA2, .ref qA3, .ref qA4, .ref qA5, .ref qA6, .int 0, .long 0, .int 0, .int 0, .ref qA7, .int 0, .ref qA8, .int 0, .ref qA9, .int 0, .ref qA10, .int 0, .int 0])) : Option (Nat × va_E)) := hO0
        replace hF := q_us hF hu46 (.head _)
        refine lv_aload_n hx hb d_15_44_43 rfl (lv_at hl 0 rfl) ?_
        refine q_get (ci := 14) (j := 0) (v := .int 1) C0 V i_DR rfl rfl hO0 (by decide) w_1996 rfl d_15_44_44 ?_
        refine lv_if_ne (tgt := 75) hx hb d_15_44_47 (by decide) (fun c47 => ?_) (fun c47 => absurd c47 (by decide))
        replace hA2 := (hu46 _ n_A2_O0).trans (hA2)
        replace hA3 := (hu46 _ n_A3_O0).trans (hA3)
        replace hA4 := (hu46 _ n_A4_O0).trans (hA4)
        replace hA5 := (hu46 _ n_A5_O0).trans (hA5)
        replace hA6 := (hu46 _ n_A6_O0).trans (hA6)
        exact q_retv C0 V (Or.inr (Or.inr (Or.inl ⟨c6, c7, c22, c23, c36, hF, hO0, hA2, hA3, hA4, hA5, hA6⟩))) d_15_44_75
      ·
        refine lv_if_ne (tgt := 35) hx hb d_15_44_20 (by decide) (fun c48 => absurd (by decide) c48) (fun c48 => ?_)
        refine lv_iload_n hx hb d_15_44_23 rfl (lv_at hl 3 rfl) ?_
        refine lv_iconst (v := 1) hx hb d_15_44_24 (by decide) ?_
        refine lv_icmp_lt (tgt := 35) hx hb d_15_44_25 (by decide) (fun c49 => ?_) (fun c49 => ?_)
        ·
          refine lv_iconst (v := 1) hx hb d_15_44_35 (by decide) ?_
          refine lv_goto (tgt := 40) hx hb d_15_44_36 (by decide) ?_
          refine q_put (ci := 14) (j := 0) (v := .int 1) (ty := .int) C0 V i_DR o_DR n_DR rfl rfl hO0 (by decide) w_1996 rfl rfl rfl rfl (Nat.le_of_ble_eq_true rfl) d_15_44_40 (fun H locs w50 hu51 hO0 V => ?_)
          replace hO0 : w50[kO0]? = (some (qO0, .inr (14, [.int 1, .ref qA1, .int 0, .ref qA2, .ref qA3, .ref qA4, .ref qA5, .ref qA6, .int 0, .long 0, .int 0, .int 0, .ref qA7, .int 0, .ref qA8, .int 0, .ref qA9, .int 0, .ref qA10, .int 0, .int 0])) : Option (Nat × va_E)) := hO0
          replace hF := q_us hF hu51 (.head _)
          refine lv_aload_n hx hb d_15_44_43 rfl (lv_at hl 0 rfl) ?_
          refine q_get (ci := 14) (j := 0) (v := .int 1) C0 V i_DR rfl rfl hO0 (by decide) w_1996 rfl d_15_44_44 ?_
          refine lv_if_ne (tgt := 75) hx hb d_15_44_47 (by decide) (fun c52 => ?_) (fun c52 => absurd c52 (by decide))
          replace hA2 := (hu51 _ n_A2_O0).trans (hA2)
          replace hA3 := (hu51 _ n_A3_O0).trans (hA3)
          replace hA4 := (hu51 _ n_A4_O0).trans (hA4)
          replace hA5 := (hu51 _ n_A5_O0).trans (hA5)
          replace hA6 := (hu51 _ n_A6_O0).trans (hA6)
          exact q_retv C0 V (Or.inr (Or.inr (Or.inr (Or.inl ⟨c6, c7, c22, c23, c38, c39, c49, hF, hO0, hA2, hA3, hA4, hA5, hA6⟩)))) d_15_44_75
        ·
          refine lv_iload_n hx hb d_15_44_28 rfl (lv_at hl 3 rfl) ?_
          refine lv_sipush (v := 1000) hx hb d_15_44_29 (by decide) ?_
          refine lv_icmp_le (tgt := 39) hx hb d_15_44_32 (by decide) (fun c53 => ?_) (fun c53 => ?_)
          ·
            refine lv_iconst (v := 0) hx hb d_15_44_39 (by decide) ?_
            refine q_put (ci := 14) (j := 0) (v := .int 0) (ty := .int) C0 V i_DR o_DR n_DR rfl rfl hO0 (by decide) w_1996 rfl rfl rfl rfl (Nat.le_of_ble_eq_true rfl) d_15_44_40 (fun H locs w54 hu55 hO0 V => ?_)
            replace hO0 : w54[kO0]? = (some (qO0, .inr (14, [.int 0, .ref qA1, .int 0, .ref qA2, .ref qA3, .ref qA4, .ref qA5, .ref qA6, .int 0, .long 0, .int 0, .int 0, .ref qA7, .int 0, .ref qA8, .int 0, .ref qA9, .int 0, .ref qA10, .int 0, .int 0])) : Option (Nat × va_E)) := hO0
            replace hF := q_us hF hu55 (.head _)
            refine lv_aload_n hx hb d_15_44_43 rfl (lv_at hl 0 rfl) ?_
            refine q_get (ci := 14) (j := 0) (v := .int 0) C0 V i_DR rfl rfl hO0 (by decide) w_1996 rfl d_15_44_44 ?_
            refine lv_if_ne (tgt := 75) hx hb d_15_44_47 (by decide) (fun c56 => absurd (by decide) c56) (fun c56 => ?_)
            refine lv_aload_n hx hb d_15_44_50 rfl (lv_at hl 0 rfl) ?_
            refine lv_iconst (v := 2) hx hb d_15_44_51 (by decide) ?_
            refine q_put (ci := 14) (j := 20) (v := .int 2) (ty := .int) C0 V i_DR o_DR n_DR rfl rfl hO0 (by decide) w_2024 rfl rfl rfl rfl (Nat.le_of_ble_eq_true rfl) d_15_44_52 (fun H locs w57 hu58 hO0 V => ?_)
            replace hO0 : w57[kO0]? = (some (qO0, .inr (14, [.int 0, .ref qA1, .int 0, .ref qA2, .ref qA3, .ref qA4, .ref qA5, .ref qA6, .int 0, .long 0, .int 0, .int 0, .ref qA7, .int 0, .ref qA8, .int 0, .ref qA9, .int 0, .ref qA10, .int 0, .int 2])) : Option (Nat × va_E)) := hO0
            replace hF := q_us hF hu58 (.head _)
            refine lv_aload_n hx hb d_15_44_55 rfl (lv_at hl 0 rfl) ?_
            refine lv_iload_n hx hb d_15_44_56 rfl (lv_at hl 1 rfl) ?_
            replace hA2 := (hu58 _ n_A2_O0).trans ((hu55 _ n_A2_O0).trans (hA2))
            replace hA3 := (hu58 _ n_A3_O0).trans ((hu55 _ n_A3_O0).trans (hA3))
            replace hA4 := (hu58 _ n_A4_O0).trans ((hu55 _ n_A4_O0).trans (hA4))
            replace hA5 := (hu58 _ n_A5_O0).trans ((hu55 _ n_A5_O0).trans (hA5))
            replace hA6 := (hu58 _ n_A6_O0).trans ((hu55 _ n_A6_O0).trans (hA6))
            refine q_gov V (q_runV (As := [.int x1]) (rest := []) (d := 1) (mc := 0) (ms := 0) (ci := 14) C0 V rfl LV_DR_132 (c_DR_load l D g w57 kO0 kA2 kA3 kA4 kA5 kA6 qO0 qA1 qA2 qA3 qA4 qA5 qA6 qA7 qA8 qA9 qA10 x1 hO0 hA2 hA3 hA4 hA5 hA6 n_A2_A6 n_A3_A6 n_A4_A6 n_A5_A6 (q_Ile (x := 0) (y := x1.toInt) (by decide) rfl (by have t1 : 0 ≤ x1.toInt := q_nltI c6; have t2 : x1.toInt < 10 := q_ltI c7; omega)) (q_Ile (x := x1.toInt) (y := 9) rfl (by decide) (by have t1 : 0 ≤ x1.toInt := q_nltI c6; have t2 : x1.toInt < 10 := q_ltI c7; omega)) _) rfl rfl hO0 rfl hl.1 rfl (Nat.le_of_ble_eq_true rfl) ⟨by decide, by decide⟩ ⟨Nat.le_of_ble_eq_true rfl, Nat.le_of_ble_eq_true rfl⟩ d_15_44_57) (fun u60 H locs hp59 V => ?_)
            obtain ⟨hg61, hO0, hA6⟩ := hp59
            replace hF := q_uc hF hg61 (q_sc (.head _) (q_sc (List.mem_of_getElem? (i := 5) rfl) (fun _ h => absurd h List.not_mem_nil)))
            refine lv_aload_n hx hb d_15_44_60 rfl (lv_at hl 0 rfl) ?_
            refine lv_iload_n hx hb d_15_44_61 rfl (lv_at hl 3 rfl) ?_
            refine lv_aload_n hx hb d_15_44_62 rfl (lv_at hl 0 rfl) ?_
            refine q_get (ci := 14) (j := 6) (v := .ref qA5) C0 V i_DR rfl rfl hO0 (by decide) w_2008 rfl d_15_44_63 ?_
            refine lv_iload_n hx hb d_15_44_66 rfl (lv_at hl 1 rfl) ?_
            replace hA5 := (hg61 _ (q_nc n_A5_O0 (q_nc n_A5_A6 List.not_mem_nil))).trans (hA5)
            refine q_iald C0 V hA5 (q_ix (x := x1.toInt) rfl (by have t1 : 0 ≤ x1.toInt := q_nltI c6; have t2 : x1.toInt < 10 := q_ltI c7; omega) (by have t1 : 0 ≤ x1.toInt := q_nltI c6; have t2 : x1.toInt < 10 := q_ltI c7; omega)) d_15_44_67 ?_
            refine q_ti (v := 0) (by first | rfl | decide | simp [upd, vp_updL, sb_cl0]) ?_
            refine lv_i2l hx hb d_15_44_68 rfl ?_
            refine q_tl (v := 0) (by decide) ?_
            refine lv_iload hx hb d_15_44_69 (lv_at hl 4 rfl) ?_
            refine lv_iload_n hx hb d_15_44_71 rfl (lv_at hl 2 rfl) ?_
            replace hA2 := (hg61 _ (q_nc n_A2_O0 (q_nc n_A2_A6 List.not_mem_nil))).trans (hA2)
            replace hA3 := (hg61 _ (q_nc n_A3_O0 (q_nc n_A3_A6 List.not_mem_nil))).trans (hA3)
            replace hA4 := (hg61 _ (q_nc n_A4_O0 (q_nc n_A4_A6 List.not_mem_nil))).trans (hA4)
            refine q_gov V (q_runV (As := [.int x3, .long 0, .int x4, .int x2]) (rest := []) (d := 3) (mc := 0) (ms := 0) (ci := 14) C0 V rfl LV_DR_166 (c_DR_toPrecision l D g u60 kO0 kA2 kA3 kA4 kA5 kA6 qO0 qA1 qA2 qA3 qA4 qA5 qA6 qA7 qA8 qA9 qA10 x3 x4 x2 hO0 hA2 hA3 hA4 hA5 hA6 n_A2_A3 n_A2_A4 n_A2_A5 n_A2_A6 n_A3_A4 n_A3_A5 n_A3_A6 n_A4_A5 n_A4_A6 n_A5_A6 (q_Ile (x := 1) (y := x3.toInt) (by decide) rfl (by have t1 : 1 ≤ x3.toInt := q_nltI c49; have t2 : x3.toInt ≤ 1000 := q_leI c53; omega)) c53 (q_Ile (x := 0) (y := x4.toInt) (by decide) rfl (by have t1 : 0 ≤ x4.toInt := q_nltI c38; have t2 : x4.toInt ≤ 7 := q_leI c39; omega)) c39 (q_Ile (x := 0) (y := x2.toInt) (by decide) rfl (by have t1 : 0 ≤ x2.toInt := q_nltI c22; have t2 : x2.toInt < 10 := q_ltI c23; omega)) (q_Ile (x := x2.toInt) (y := 9) rfl (by decide) (by have t1 : 0 ≤ x2.toInt := q_nltI c22; have t2 : x2.toInt < 10 := q_ltI c23; omega)) _) rfl rfl hO0 rfl hl.1 rfl (Nat.le_of_ble_eq_true rfl) ⟨by decide, by decide⟩ ⟨Nat.le_of_ble_eq_true rfl, Nat.le_of_ble_eq_true rfl⟩ d_15_44_72) (fun u63 H locs hp62 V => ?_)
            obtain ⟨hg64, hO0, hA2, hA3, hA4, hA5, hA6⟩ := hp62
            replace hF := q_uc hF hg64 (q_sc (.head _) (q_sc (.tail _ (.head _)) (q_sc (.tail _ (.tail _ (.head _))) (q_sc (List.mem_of_getElem? (i := 3) rfl) (q_sc (List.mem_of_getElem? (i := 4) rfl) (q_sc (List.mem_of_getElem? (i := 5) rfl) (fun _ h => absurd h List.not_mem_nil)))))))
            exact q_retv C0 V (Or.inr (Or.inr (Or.inr (Or.inr (Or.inl ⟨c6, c7, c22, c23, c38, c39, c49, c53, hF, hO0, hA2, hA3, hA4, hA5, hA6⟩))))) d_15_44_75
          ·
            refine lv_iconst (v := 1) hx hb d_15_44_35 (by decide) ?_
            refine lv_goto (tgt := 40) hx hb d_15_44_36 (by decide) ?_
            refine q_put (ci := 14) (j := 0) (v := .int 1) (ty := .int) C0 V i_DR o_DR n_DR rfl rfl hO0 (by decide) w_1996 rfl rfl rfl rfl (Nat.le_of_ble_eq_true rfl) d_15_44_40 (fun H locs w65 hu66 hO0 V => ?_)
            replace hO0 : w65[kO0]? = (some (qO0, .inr (14, [.int 1, .ref qA1, .int 0, .ref qA2, .ref qA3, .ref qA4, .ref qA5, .ref qA6, .int 0, .long 0, .int 0, .int 0, .ref qA7, .int 0, .ref qA8, .int 0, .ref qA9, .int 0, .ref qA10, .int 0, .int 0])) : Option (Nat × va_E)) := hO0
            replace hF := q_us hF hu66 (.head _)
            refine lv_aload_n hx hb d_15_44_43 rfl (lv_at hl 0 rfl) ?_
            refine q_get (ci := 14) (j := 0) (v := .int 1) C0 V i_DR rfl rfl hO0 (by decide) w_1996 rfl d_15_44_44 ?_
            refine lv_if_ne (tgt := 75) hx hb d_15_44_47 (by decide) (fun c67 => ?_) (fun c67 => absurd c67 (by decide))
            replace hA2 := (hu66 _ n_A2_O0).trans (hA2)
            replace hA3 := (hu66 _ n_A3_O0).trans (hA3)
            replace hA4 := (hu66 _ n_A4_O0).trans (hA4)
            replace hA5 := (hu66 _ n_A5_O0).trans (hA5)
            replace hA6 := (hu66 _ n_A6_O0).trans (hA6)
            exact q_retv C0 V (Or.inr (Or.inr (Or.inr (Or.inr (Or.inr (Or.inl ⟨c6, c7, c22, c23, c38, c39, c49, c53, hF, hO0, hA2, hA3, hA4, hA5, hA6⟩)))))) d_15_44_75
      ·
        refine lv_if_ne (tgt := 35) hx hb d_15_44_20 (by decide) (fun c68 => ?_) (fun c68 => absurd c68 (by decide))
        refine lv_iconst (v := 1) hx hb d_15_44_35 (by decide) ?_
        refine lv_goto (tgt := 40) hx hb d_15_44_36 (by decide) ?_
        refine q_put (ci := 14) (j := 0) (v := .int 1) (ty := .int) C0 V i_DR o_DR n_DR rfl rfl hO0 (by decide) w_1996 rfl rfl rfl rfl (Nat.le_of_ble_eq_true rfl) d_15_44_40 (fun H locs w69 hu70 hO0 V => ?_)
        replace hO0 : w69[kO0]? = (some (qO0, .inr (14, [.int 1, .ref qA1, .int 0, .ref qA2, .ref qA3, .ref qA4, .ref qA5, .ref qA6, .int 0, .long 0, .int 0, .int 0, .ref qA7, .int 0, .ref qA8, .int 0, .ref qA9, .int 0, .ref qA10, .int 0, .int 0])) : Option (Nat × va_E)) := hO0
        replace hF := q_us hF hu70 (.head _)
        refine lv_aload_n hx hb d_15_44_43 rfl (lv_at hl 0 rfl) ?_
        refine q_get (ci := 14) (j := 0) (v := .int 1) C0 V i_DR rfl rfl hO0 (by decide) w_1996 rfl d_15_44_44 ?_
        refine lv_if_ne (tgt := 75) hx hb d_15_44_47 (by decide) (fun c71 => ?_) (fun c71 => absurd c71 (by decide))
        replace hA2 := (hu70 _ n_A2_O0).trans (hA2)
        replace hA3 := (hu70 _ n_A3_O0).trans (hA3)
        replace hA4 := (hu70 _ n_A4_O0).trans (hA4)
        replace hA5 := (hu70 _ n_A5_O0).trans (hA5)
        replace hA6 := (hu70 _ n_A6_O0).trans (hA6)
        exact q_retv C0 V (Or.inr (Or.inr (Or.inr (Or.inr (Or.inr (Or.inr (Or.inl ⟨c6, c7, c22, c23, c41, c42, hF, hO0, hA2, hA3, hA4, hA5, hA6⟩))))))) d_15_44_75
    ·
      refine lv_if_ne (tgt := 35) hx hb d_15_44_12 (by decide) (fun c72 => ?_) (fun c72 => absurd c72 (by decide))
      refine lv_iconst (v := 1) hx hb d_15_44_35 (by decide) ?_
      refine lv_goto (tgt := 40) hx hb d_15_44_36 (by decide) ?_
      refine q_put (ci := 14) (j := 0) (v := .int 1) (ty := .int) C0 V i_DR o_DR n_DR rfl rfl hO0 (by decide) w_1996 rfl rfl rfl rfl (Nat.le_of_ble_eq_true rfl) d_15_44_40 (fun H locs w73 hu74 hO0 V => ?_)
      replace hO0 : w73[kO0]? = (some (qO0, .inr (14, [.int 1, .ref qA1, .int 0, .ref qA2, .ref qA3, .ref qA4, .ref qA5, .ref qA6, .int 0, .long 0, .int 0, .int 0, .ref qA7, .int 0, .ref qA8, .int 0, .ref qA9, .int 0, .ref qA10, .int 0, .int 0])) : Option (Nat × va_E)) := hO0
      replace hF := q_us hF hu74 (.head _)
      refine lv_aload_n hx hb d_15_44_43 rfl (lv_at hl 0 rfl) ?_
      refine q_get (ci := 14) (j := 0) (v := .int 1) C0 V i_DR rfl rfl hO0 (by decide) w_1996 rfl d_15_44_44 ?_
      refine lv_if_ne (tgt := 75) hx hb d_15_44_47 (by decide) (fun c75 => ?_) (fun c75 => absurd c75 (by decide))
      replace hA2 := (hu74 _ n_A2_O0).trans (hA2)
      replace hA3 := (hu74 _ n_A3_O0).trans (hA3)
      replace hA4 := (hu74 _ n_A4_O0).trans (hA4)
      replace hA5 := (hu74 _ n_A5_O0).trans (hA5)
      replace hA6 := (hu74 _ n_A6_O0).trans (hA6)
      exact q_retv C0 V (Or.inr (Or.inr (Or.inr (Or.inr (Or.inr (Or.inr (Or.inr (Or.inl ⟨c6, c7, c25, c26, hF, hO0, hA2, hA3, hA4, hA5, hA6⟩)))))))) d_15_44_75
  ·
    refine lv_if_ne (tgt := 35) hx hb d_15_44_5 (by decide) (fun c76 => ?_) (fun c76 => absurd c76 (by decide))
    refine lv_iconst (v := 1) hx hb d_15_44_35 (by decide) ?_
    refine lv_goto (tgt := 40) hx hb d_15_44_36 (by decide) ?_
    refine q_put (ci := 14) (j := 0) (v := .int 1) (ty := .int) C0 V i_DR o_DR n_DR rfl rfl hO0 (by decide) w_1996 rfl rfl rfl rfl (Nat.le_of_ble_eq_true rfl) d_15_44_40 (fun H locs w77 hu78 hO0 V => ?_)
    replace hO0 : w77[kO0]? = (some (qO0, .inr (14, [.int 1, .ref qA1, .int 0, .ref qA2, .ref qA3, .ref qA4, .ref qA5, .ref qA6, .int 0, .long 0, .int 0, .int 0, .ref qA7, .int 0, .ref qA8, .int 0, .ref qA9, .int 0, .ref qA10, .int 0, .int 0])) : Option (Nat × va_E)) := hO0
    replace hF := q_us hF hu78 (.head _)
    refine lv_aload_n hx hb d_15_44_43 rfl (lv_at hl 0 rfl) ?_
    refine q_get (ci := 14) (j := 0) (v := .int 1) C0 V i_DR rfl rfl hO0 (by decide) w_1996 rfl d_15_44_44 ?_
    refine lv_if_ne (tgt := 75) hx hb d_15_44_47 (by decide) (fun c79 => ?_) (fun c79 => absurd c79 (by decide))
    replace hA2 := (hu78 _ n_A2_O0).trans (hA2)
    replace hA3 := (hu78 _ n_A3_O0).trans (hA3)
    replace hA4 := (hu78 _ n_A4_O0).trans (hA4)
    replace hA5 := (hu78 _ n_A5_O0).trans (hA5)
    replace hA6 := (hu78 _ n_A6_O0).trans (hA6)
    exact q_retv C0 V (Or.inr (Or.inr (Or.inr (Or.inr (Or.inr (Or.inr (Or.inr (Or.inr (⟨c9, c10, hF, hO0, hA2, hA3, hA4, hA5, hA6⟩))))))))) d_15_44_75
theorem d_15_13_0 : decode prog_15_method_13_code 0 = .ok (.aload_n 0, 1) := by decide +kernel
theorem d_15_13_1 : decode prog_15_method_13_code 1 = .ok (.invokevirtual 59, 3) := by decide +kernel
theorem d_15_13_4 : decode prog_15_method_13_code 4 = .ok (.aload_n 0, 1) := by decide +kernel
theorem d_15_13_5 : decode prog_15_method_13_code 5 = .ok (.getfield 26, 3) := by decide +kernel
theorem d_15_13_8 : decode prog_15_method_13_code 8 = .ok (.iconst 0, 1) := by decide +kernel
theorem d_15_13_9 : decode prog_15_method_13_code 9 = .ok (.iaload, 1) := by decide +kernel
theorem d_15_13_10 : decode prog_15_method_13_code 10 = .ok (.ifCond .ne 18, 3) := by decide +kernel
theorem d_15_13_13 : decode prog_15_method_13_code 13 = .ok (.aload_n 0, 1) := by decide +kernel
theorem d_15_13_14 : decode prog_15_method_13_code 14 = .ok (.getfield 52, 3) := by decide +kernel
theorem d_15_13_17 : decode prog_15_method_13_code 17 = .ok (.ifCond .ne 11, 3) := by decide +kernel
theorem d_15_13_20 : decode prog_15_method_13_code 20 = .ok (.aload_n 0, 1) := by decide +kernel
theorem d_15_13_21 : decode prog_15_method_13_code 21 = .ok (.lload_n 1, 1) := by decide +kernel
theorem d_15_13_22 : decode prog_15_method_13_code 22 = .ok (.putfield 48, 3) := by decide +kernel
theorem d_15_13_25 : decode prog_15_method_13_code 25 = .ok (.goto 91, 3) := by decide +kernel
theorem d_15_13_116 : decode prog_15_method_13_code 116 = .ok (.aload_n 0, 1) := by decide +kernel
theorem d_15_13_117 : decode prog_15_method_13_code 117 = .ok (.iload 4, 2) := by decide +kernel
theorem d_15_13_119 : decode prog_15_method_13_code 119 = .ok (.invokevirtual 89, 3) := by decide +kernel
theorem d_15_13_122 : decode prog_15_method_13_code 122 = .ok (.return_, 1) := by decide +kernel
def y_DR_bring : MethodName := ⟨"NumberHouseModel$DecimalRows", "bring", "(JII)V"⟩
set_option maxRecDepth 100000 in
set_option maxHeartbeats 4000000 in
theorem c_DR_bring (l : Launch) (D : va_G) (g : Nat → ClassId) (ws : va_W) (kO0 kA2 kA3 kA4 kA5 kA6 qO0 qA1 qA2 qA3 qA4 qA5 qA6 qA7 qA8 qA9 qA10 : Nat) (x1 : Int64) (x2 : Int32) (x3 : Int32) (hO0 : ws[kO0]? = (some (qO0, .inr (14, [.int 0, .ref qA1, .int 0, .ref qA2, .ref qA3, .ref qA4, .ref qA5, .ref qA6, .int 1, .long 0, .int 0, .int 0, .ref qA7, .int 0, .ref qA8, .int 0, .ref qA9, .int 0, .ref qA10, .int 0, .int 2])) : Option (Nat × va_E))) (hA2 : ws[kA2]? = (some (qA2, .inl (g 0, 10000, .inl (fun _ => 0))) : Option (Nat × va_E))) (hA3 : ws[kA3]? = (some (qA3, .inl (g 0, 10, .inl (upd (upd (upd (upd (upd (upd (upd (upd (upd (upd (fun _ => 0) 0 1) 1 1) 2 1) 3 1) 4 1) 5 1) 6 1) 7 1) 8 1) 9 1))) : Option (Nat × va_E))) (hA4 : ws[kA4]? = (some (qA4, .inl (g 3, 10, .inl (fun _ => 0))) : Option (Nat × va_E))) (hA5 : ws[kA5]? = (some (qA5, .inl (g 0, 10, .inl (fun _ => 0))) : Option (Nat × va_E))) (hA6 : ws[kA6]? = (some (qA6, .inl (g 0, 4400, .inl (fun _ => 0))) : Option (Nat × va_E))) (n_A2_A3 : kA2 ≠ kA3) (n_A2_A4 : kA2 ≠ kA4) (n_A2_A5 : kA2 ≠ kA5) (n_A2_A6 : kA2 ≠ kA6) (n_A3_A4 : kA3 ≠ kA4) (n_A3_A5 : kA3 ≠ kA5) (n_A3_A6 : kA3 ≠ kA6) (n_A4_A5 : kA4 ≠ kA5) (n_A4_A6 : kA4 ≠ kA6) (n_A5_A6 : kA5 ≠ kA6) (x2lo : 0 ≤ x2) (x2hi : x2 ≤ 7) (x3lo : 0 ≤ x3) (x3hi : x3 ≤ 9) : q_mV l y_DR_bring prog_15_method_13_code 7 3 0 0 D g [.ref qO0, .long x1, .int x2, .int x3] ws (fun u => ((lg_cmp x1 (-10000)) < 0 ∧ q_un ws u [kO0, kA2, kA3, kA4, kA5, kA6] ∧ u[kO0]? = (some (qO0, .inr (14, [.int 2, .ref qA1, .int 0, .ref qA2, .ref qA3, .ref qA4, .ref qA5, .ref qA6, .int 1, .long x1, .int 0, .int 0, .ref qA7, .int 0, .ref qA8, .int 0, .ref qA9, .int 0, .ref qA10, .int 0, .int 2])) : Option (Nat × va_E)) ∧ u[kA2]? = (some (qA2, .inl (g 0, 10000, .inl (fun _ => 0))) : Option (Nat × va_E)) ∧ u[kA3]? = (some (qA3, .inl (g 0, 10, .inl (upd (upd (upd (upd (upd (upd (upd (upd (upd (upd (fun _ => 0) 0 1) 1 1) 2 1) 3 1) 4 1) 5 1) 6 1) 7 1) 8 1) 9 1))) : Option (Nat × va_E)) ∧ u[kA4]? = (some (qA4, .inl (g 3, 10, .inl (fun _ => 0))) : Option (Nat × va_E)) ∧ u[kA5]? = (some (qA5, .inl (g 0, 10, .inl (fun _ => 0))) : Option (Nat × va_E)) ∧ u[kA6]? = (some (qA6, .inl (g 0, 4400, .inl (fun _ => 0))) : Option (Nat × va_E))) ∨ (¬ (lg_cmp x1 (-10000)) < 0 ∧ (lg_cmp x1 10000) ≤ 0 ∧ q_un ws u [kO0, kA2, kA3, kA4, kA5, kA6] ∧ u[kO0]? = (some (qO0, .inr (14, [.int 0, .ref qA1, .int 0, .ref qA2, .ref qA3, .ref qA4, .ref qA5, .ref qA6, .int 1, .long x1, .int 0, .int 0, .ref qA7, .int 0, .ref qA8, .int 0, .ref qA9, .int 0, .ref qA10, .int 0, .int 2])) : Option (Nat × va_E)) ∧ u[kA2]? = (some (qA2, .inl (g 0, 10000, .inl (fun _ => 0))) : Option (Nat × va_E)) ∧ u[kA3]? = (some (qA3, .inl (g 0, 10, .inl (upd (upd (upd (upd (upd (upd (upd (upd (upd (upd (upd (fun _ => 0) 0 1) 1 1) 2 1) 3 1) 4 1) 5 1) 6 1) 7 1) 8 1) 9 1) x3.toNatClampNeg 1))) : Option (Nat × va_E)) ∧ u[kA4]? = (some (qA4, .inl (g 3, 10, .inl (fun _ => 0))) : Option (Nat × va_E)) ∧ u[kA5]? = (some (qA5, .inl (g 0, 10, .inl (upd (fun _ => 0) x3.toNatClampNeg x1.toInt32))) : Option (Nat × va_E)) ∧ u[kA6]? = (some (qA6, .inl (g 0, 4400, .inl (fun _ => 0))) : Option (Nat × va_E))) ∨ (¬ (lg_cmp x1 (-10000)) < 0 ∧ ¬ (lg_cmp x1 10000) ≤ 0 ∧ q_un ws u [kO0, kA2, kA3, kA4, kA5, kA6] ∧ u[kO0]? = (some (qO0, .inr (14, [.int 2, .ref qA1, .int 0, .ref qA2, .ref qA3, .ref qA4, .ref qA5, .ref qA6, .int 1, .long x1, .int 0, .int 0, .ref qA7, .int 0, .ref qA8, .int 0, .ref qA9, .int 0, .ref qA10, .int 0, .int 2])) : Option (Nat × va_E)) ∧ u[kA2]? = (some (qA2, .inl (g 0, 10000, .inl (fun _ => 0))) : Option (Nat × va_E)) ∧ u[kA3]? = (some (qA3, .inl (g 0, 10, .inl (upd (upd (upd (upd (upd (upd (upd (upd (upd (upd (fun _ => 0) 0 1) 1 1) 2 1) 3 1) 4 1) 5 1) 6 1) 7 1) 8 1) 9 1))) : Option (Nat × va_E)) ∧ u[kA4]? = (some (qA4, .inl (g 3, 10, .inl (fun _ => 0))) : Option (Nat × va_E)) ∧ u[kA5]? = (some (qA5, .inl (g 0, 10, .inl (fun _ => 0))) : Option (Nat × va_E)) ∧ u[kA6]? = (some (qA6, .inl (g 0, 4400, .inl (fun _ => 0))) : Option (Nat × va_E)))) := by
  intro sz
  refine q_into (by decide) (Nat.le_of_ble_eq_true rfl) ?_
  intro p e s m below meth c ls hsz C0 V hl
  have hx := C0.1
  have hb := C0.2.1
  have hl : lv_has ls 7 [(0, .ref qO0), (1, .long x1), (3, .int x2), (4, .int x3)] := hl
  have n_A2_O0 := q_df hA2 hO0
  have n_A3_O0 := q_df hA3 hO0
  have n_A4_O0 := q_df hA4 hO0
  have n_A5_O0 := q_df hA5 hO0
  have n_A6_O0 := q_df hA6 hO0
  have hF : q_un ws ws [kO0, kA2, kA3, kA4, kA5, kA6] := q_u0
  refine lv_aload_n hx hb d_15_13_0 rfl (lv_at hl 0 rfl) ?_
  refine q_gov V (q_runV (As := []) (rest := []) (d := 1) (mc := 0) (ms := 0) (ci := 14) C0 V rfl LV_DR_59 (c_DR_trim_2 l D g ws kO0 kA6 qO0 qA1 qA2 qA3 qA4 qA5 qA6 qA7 qA8 qA9 qA10 hO0 hA6 _) rfl rfl hO0 rfl hl.1 rfl (Nat.le_of_ble_eq_true rfl) ⟨by decide, by decide⟩ ⟨Nat.le_of_ble_eq_true rfl, Nat.le_of_ble_eq_true rfl⟩ d_15_13_1) (fun u2 H locs hp1 V => ?_)
  obtain ⟨hg3, hO0, hA6⟩ := hp1
  replace hF := q_uc hF hg3 (q_sc (.head _) (q_sc (List.mem_of_getElem? (i := 5) rfl) (fun _ h => absurd h List.not_mem_nil)))
  refine lv_aload_n hx hb d_15_13_4 rfl (lv_at hl 0 rfl) ?_
  refine q_get (ci := 14) (j := 7) (v := .ref qA6) C0 V i_DR rfl rfl hO0 (by decide) w_2010 rfl d_15_13_5 ?_
  refine lv_iconst (v := 0) hx hb d_15_13_8 (by decide) ?_
  refine q_iald C0 V hA6 (by unfold vp_in; decide) d_15_13_9 ?_
  refine q_ti (v := 0) (by first | rfl | decide | simp [upd, vp_updL, sb_cl0]) ?_
  refine lv_if_ne (tgt := 28) hx hb d_15_13_10 (by decide) (fun c4 => absurd (by decide) c4) (fun c4 => ?_)
  refine lv_aload_n hx hb d_15_13_13 rfl (lv_at hl 0 rfl) ?_
  refine q_get (ci := 14) (j := 10) (v := .int 0) C0 V i_DR rfl rfl hO0 (by decide) w_2013 rfl d_15_13_14 ?_
  refine lv_if_ne (tgt := 28) hx hb d_15_13_17 (by decide) (fun c5 => absurd (by decide) c5) (fun c5 => ?_)
  refine lv_aload_n hx hb d_15_13_20 rfl (lv_at hl 0 rfl) ?_
  refine lv_lload_n hx hb d_15_13_21 rfl (lv_at hl 1 rfl) ?_
  refine q_put (ci := 14) (j := 9) (v := .long x1) (ty := .long) C0 V i_DR o_DR n_DR rfl rfl hO0 (by decide) w_2012 rfl rfl rfl rfl (Nat.le_of_ble_eq_true rfl) d_15_13_22 (fun H locs w6 hu7 hO0 V => ?_)
  replace hO0 : w6[kO0]? = (some (qO0, .inr (14, [.int 0, .ref qA1, .int 0, .ref qA2, .ref qA3, .ref qA4, .ref qA5, .ref qA6, .int 1, .long x1, .int 0, .int 0, .ref qA7, .int 0, .ref qA8, .int 0, .ref qA9, .int 0, .ref qA10, .int 0, .int 2])) : Option (Nat × va_E)) := hO0
  replace hF := q_us hF hu7 (.head _)
  refine lv_goto (tgt := 116) hx hb d_15_13_25 (by decide) ?_
  refine lv_aload_n hx hb d_15_13_116 rfl (lv_at hl 0 rfl) ?_
  refine lv_iload hx hb d_15_13_117 (lv_at hl 3 rfl) ?_
  replace hA2 := (hu7 _ n_A2_O0).trans ((hg3 _ (q_nc n_A2_O0 (q_nc n_A2_A6 List.not_mem_nil))).trans (hA2))
  replace hA3 := (hu7 _ n_A3_O0).trans ((hg3 _ (q_nc n_A3_O0 (q_nc n_A3_A6 List.not_mem_nil))).trans (hA3))
  replace hA4 := (hu7 _ n_A4_O0).trans ((hg3 _ (q_nc n_A4_O0 (q_nc n_A4_A6 List.not_mem_nil))).trans (hA4))
  replace hA5 := (hu7 _ n_A5_O0).trans ((hg3 _ (q_nc n_A5_O0 (q_nc n_A5_A6 List.not_mem_nil))).trans (hA5))
  replace hA6 := (hu7 _ n_A6_O0).trans (hA6)
  refine q_gov V (q_runV (As := [.int x3]) (rest := []) (d := 2) (mc := 0) (ms := 0) (ci := 14) C0 V rfl LV_DR_89 (c_DR_store_3 l D g w6 kO0 kA2 kA3 kA4 kA5 kA6 qO0 qA1 qA2 qA3 qA4 qA5 qA6 qA7 qA8 qA9 qA10 x3 x1 hO0 hA2 hA3 hA4 hA5 hA6 n_A2_A3 n_A2_A4 n_A2_A5 n_A2_A6 n_A3_A4 n_A3_A5 n_A3_A6 n_A4_A5 n_A4_A6 n_A5_A6 x3lo x3hi _) rfl rfl hO0 rfl hl.1 rfl (Nat.le_of_ble_eq_true rfl) ⟨by decide, by decide⟩ ⟨Nat.le_of_ble_eq_true rfl, Nat.le_of_ble_eq_true rfl⟩ d_15_13_119) (fun u9 H locs hp8 V => ?_)
  rcases hp8 with ⟨c10, hg11, hO0, hA2, hA3, hA4, hA5, hA6⟩ | ⟨c12, c13, hg14, hO0, hA2, hA3, hA4, hA5, hA6⟩ | ⟨c15, c16, hg17, hO0, hA2, hA3, hA4, hA5, hA6⟩
  ·
    replace hF := q_uc hF hg11 (q_sc (.head _) (q_sc (.tail _ (.head _)) (q_sc (.tail _ (.tail _ (.head _))) (q_sc (List.mem_of_getElem? (i := 3) rfl) (q_sc (List.mem_of_getElem? (i := 4) rfl) (q_sc (List.mem_of_getElem? (i := 5) rfl) (fun _ h => absurd h List.not_mem_nil)))))))
    exact q_retv C0 V (Or.inl ⟨c10, hF, hO0, hA2, hA3, hA4, hA5, hA6⟩) d_15_13_122
  ·
    replace hF := q_uc hF hg14 (q_sc (.head _) (q_sc (.tail _ (.head _)) (q_sc (.tail _ (.tail _ (.head _))) (q_sc (List.mem_of_getElem? (i := 3) rfl) (q_sc (List.mem_of_getElem? (i := 4) rfl) (q_sc (List.mem_of_getElem? (i := 5) rfl) (fun _ h => absurd h List.not_mem_nil)))))))
    exact q_retv C0 V (Or.inr (Or.inl ⟨c12, c13, hF, hO0, hA2, hA3, hA4, hA5, hA6⟩)) d_15_13_122
  ·
    replace hF := q_uc hF hg17 (q_sc (.head _) (q_sc (.tail _ (.head _)) (q_sc (.tail _ (.tail _ (.head _))) (q_sc (List.mem_of_getElem? (i := 3) rfl) (q_sc (List.mem_of_getElem? (i := 4) rfl) (q_sc (List.mem_of_getElem? (i := 5) rfl) (fun _ h => absurd h List.not_mem_nil)))))))
    exact q_retv C0 V (Or.inr (Or.inr (⟨c15, c16, hF, hO0, hA2, hA3, hA4, hA5, hA6⟩))) d_15_13_122
theorem d_15_43_0 : decode prog_15_method_43_code 0 = .ok (.aload_n 0, 1) := by decide +kernel
theorem d_15_43_1 : decode prog_15_method_43_code 1 = .ok (.iload_n 1, 1) := by decide +kernel
theorem d_15_43_2 : decode prog_15_method_43_code 2 = .ok (.invokestatic 113, 3) := by decide +kernel
theorem d_15_43_5 : decode prog_15_method_43_code 5 = .ok (.ifCond .ne 32, 3) := by decide +kernel
theorem d_15_43_37 : decode prog_15_method_43_code 37 = .ok (.iconst 1, 1) := by decide +kernel
theorem d_15_43_38 : decode prog_15_method_43_code 38 = .ok (.goto 4, 3) := by decide +kernel
theorem d_15_43_42 : decode prog_15_method_43_code 42 = .ok (.putfield 41, 3) := by decide +kernel
theorem d_15_43_45 : decode prog_15_method_43_code 45 = .ok (.aload_n 0, 1) := by decide +kernel
theorem d_15_43_46 : decode prog_15_method_43_code 46 = .ok (.getfield 41, 3) := by decide +kernel
theorem d_15_43_49 : decode prog_15_method_43_code 49 = .ok (.ifCond .ne 22, 3) := by decide +kernel
theorem d_15_43_71 : decode prog_15_method_43_code 71 = .ok (.return_, 1) := by decide +kernel
theorem d_15_43_8 : decode prog_15_method_43_code 8 = .ok (.iload_n 2, 1) := by decide +kernel
theorem d_15_43_9 : decode prog_15_method_43_code 9 = .ok (.invokestatic 113, 3) := by decide +kernel
theorem d_15_43_12 : decode prog_15_method_43_code 12 = .ok (.ifCond .ne 25, 3) := by decide +kernel
theorem d_15_43_15 : decode prog_15_method_43_code 15 = .ok (.iload 4, 2) := by decide +kernel
theorem d_15_43_17 : decode prog_15_method_43_code 17 = .ok (.invokestatic 147, 3) := by decide +kernel
theorem d_15_43_20 : decode prog_15_method_43_code 20 = .ok (.ifCond .ne 17, 3) := by decide +kernel
theorem d_15_43_23 : decode prog_15_method_43_code 23 = .ok (.iload_n 3, 1) := by decide +kernel
theorem d_15_43_24 : decode prog_15_method_43_code 24 = .ok (.sipush (-10000), 3) := by decide +kernel
theorem d_15_43_27 : decode prog_15_method_43_code 27 = .ok (.if_icmp .lt 10, 3) := by decide +kernel
theorem d_15_43_30 : decode prog_15_method_43_code 30 = .ok (.iload_n 3, 1) := by decide +kernel
theorem d_15_43_31 : decode prog_15_method_43_code 31 = .ok (.sipush 10000, 3) := by decide +kernel
theorem d_15_43_34 : decode prog_15_method_43_code 34 = .ok (.if_icmp .le 7, 3) := by decide +kernel
theorem d_15_43_41 : decode prog_15_method_43_code 41 = .ok (.iconst 0, 1) := by decide +kernel
theorem d_15_43_52 : decode prog_15_method_43_code 52 = .ok (.aload_n 0, 1) := by decide +kernel
theorem d_15_43_53 : decode prog_15_method_43_code 53 = .ok (.iconst 2, 1) := by decide +kernel
theorem d_15_43_54 : decode prog_15_method_43_code 54 = .ok (.putfield 66, 3) := by decide +kernel
theorem d_15_43_57 : decode prog_15_method_43_code 57 = .ok (.aload_n 0, 1) := by decide +kernel
theorem d_15_43_58 : decode prog_15_method_43_code 58 = .ok (.iload_n 1, 1) := by decide +kernel
theorem d_15_43_59 : decode prog_15_method_43_code 59 = .ok (.invokevirtual 132, 3) := by decide +kernel
theorem d_15_43_62 : decode prog_15_method_43_code 62 = .ok (.aload_n 0, 1) := by decide +kernel
theorem d_15_43_63 : decode prog_15_method_43_code 63 = .ok (.iload_n 3, 1) := by decide +kernel
theorem d_15_43_64 : decode prog_15_method_43_code 64 = .ok (.i2l, 1) := by decide +kernel
theorem d_15_43_65 : decode prog_15_method_43_code 65 = .ok (.iload 4, 2) := by decide +kernel
theorem d_15_43_67 : decode prog_15_method_43_code 67 = .ok (.iload_n 2, 1) := by decide +kernel
theorem d_15_43_68 : decode prog_15_method_43_code 68 = .ok (.invokevirtual 170, 3) := by decide +kernel
theorem w_2806 : (Cond.code ({ cls := "NumberHouseModel$DecimalRows", name := "bring", desc := "(JII)V" } : MethodName) prog_15_method_13_code (7 : Nat) (none : Option ClassFile.FieldType)) ∈ q_tbl := q_of 2806 (by decide +kernel) (by decide +kernel)
theorem w_2803 : (Cond.methodLink "NumberHouseModel$DecimalRows" (170 : Nat) ({ cls := "NumberHouseModel$DecimalRows", name := "bring", desc := "(JII)V" } : MethodName)) ∈ q_tbl := q_of 2803 (by decide +kernel) (by decide +kernel)
theorem w_2805 : (Cond.instanceMethod ({ cls := "NumberHouseModel$DecimalRows", name := "bring", desc := "(JII)V" } : MethodName)) ∈ q_tbl := q_of 2805 (by decide +kernel) (by decide +kernel)
theorem ws_113 : Cond.selects "NumberHouseModel$DecimalRows" (⟨"NumberHouseModel$DecimalRows", "bring", "(JII)V"⟩ : MethodName) (⟨"NumberHouseModel$DecimalRows", "bring", "(JII)V"⟩ : MethodName) ∈ q_tbl := q_ofs 113 (by decide +kernel) (by decide +kernel)
theorem LV_DR_170 : q_LV "NumberHouseModel$DecimalRows" 170 y_DR_bring prog_15_method_13_code 7 none 3 := ⟨w_2806, w_16, w_2803, w_2805, ws_113, ⟨by decide, by decide, by decide +kernel⟩⟩
def y_DR_toScale : MethodName := ⟨"NumberHouseModel$DecimalRows", "toScale", "(IIII)V"⟩
set_option maxRecDepth 100000 in
set_option maxHeartbeats 4000000 in
theorem c_DR_toScale (l : Launch) (D : va_G) (g : Nat → ClassId) (ws : va_W) (kO0 kA2 kA3 kA4 kA5 kA6 qO0 qA1 qA2 qA3 qA4 qA5 qA6 qA7 qA8 qA9 qA10 : Nat) (x1 : Int32) (x2 : Int32) (x3 : Int32) (x4 : Int32) (hO0 : ws[kO0]? = (some (qO0, .inr (14, [.int 0, .ref qA1, .int 0, .ref qA2, .ref qA3, .ref qA4, .ref qA5, .ref qA6, .int 0, .long 0, .int 0, .int 0, .ref qA7, .int 0, .ref qA8, .int 0, .ref qA9, .int 0, .ref qA10, .int 0, .int 0])) : Option (Nat × va_E))) (hA2 : ws[kA2]? = (some (qA2, .inl (g 0, 10000, .inl (fun _ => 0))) : Option (Nat × va_E))) (hA3 : ws[kA3]? = (some (qA3, .inl (g 0, 10, .inl (upd (upd (upd (upd (upd (upd (upd (upd (upd (upd (fun _ => 0) 0 1) 1 1) 2 1) 3 1) 4 1) 5 1) 6 1) 7 1) 8 1) 9 1))) : Option (Nat × va_E))) (hA4 : ws[kA4]? = (some (qA4, .inl (g 3, 10, .inl (fun _ => 0))) : Option (Nat × va_E))) (hA5 : ws[kA5]? = (some (qA5, .inl (g 0, 10, .inl (fun _ => 0))) : Option (Nat × va_E))) (hA6 : ws[kA6]? = (some (qA6, .inl (g 0, 4400, .inl (fun _ => 0))) : Option (Nat × va_E))) (n_A2_A3 : kA2 ≠ kA3) (n_A2_A4 : kA2 ≠ kA4) (n_A2_A5 : kA2 ≠ kA5) (n_A2_A6 : kA2 ≠ kA6) (n_A3_A4 : kA3 ≠ kA4) (n_A3_A5 : kA3 ≠ kA5) (n_A3_A6 : kA3 ≠ kA6) (n_A4_A5 : kA4 ≠ kA5) (n_A4_A6 : kA4 ≠ kA6) (n_A5_A6 : kA5 ≠ kA6) : q_mV l y_DR_toScale prog_15_method_43_code 5 4 0 0 D g [.ref qO0, .int x1, .int x2, .int x3, .int x4] ws (fun u => (x1 < 0 ∧ q_un ws u [kO0, kA2, kA3, kA4, kA5, kA6] ∧ u[kO0]? = (some (qO0, .inr (14, [.int 1, .ref qA1, .int 0, .ref qA2, .ref qA3, .ref qA4, .ref qA5, .ref qA6, .int 0, .long 0, .int 0, .int 0, .ref qA7, .int 0, .ref qA8, .int 0, .ref qA9, .int 0, .ref qA10, .int 0, .int 0])) : Option (Nat × va_E)) ∧ u[kA2]? = (some (qA2, .inl (g 0, 10000, .inl (fun _ => 0))) : Option (Nat × va_E)) ∧ u[kA3]? = (some (qA3, .inl (g 0, 10, .inl (upd (upd (upd (upd (upd (upd (upd (upd (upd (upd (fun _ => 0) 0 1) 1 1) 2 1) 3 1) 4 1) 5 1) 6 1) 7 1) 8 1) 9 1))) : Option (Nat × va_E)) ∧ u[kA4]? = (some (qA4, .inl (g 3, 10, .inl (fun _ => 0))) : Option (Nat × va_E)) ∧ u[kA5]? = (some (qA5, .inl (g 0, 10, .inl (fun _ => 0))) : Option (Nat × va_E)) ∧ u[kA6]? = (some (qA6, .inl (g 0, 4400, .inl (fun _ => 0))) : Option (Nat × va_E))) ∨ (¬ x1 < 0 ∧ x1 < 10 ∧ x2 < 0 ∧ q_un ws u [kO0, kA2, kA3, kA4, kA5, kA6] ∧ u[kO0]? = (some (qO0, .inr (14, [.int 1, .ref qA1, .int 0, .ref qA2, .ref qA3, .ref qA4, .ref qA5, .ref qA6, .int 0, .long 0, .int 0, .int 0, .ref qA7, .int 0, .ref qA8, .int 0, .ref qA9, .int 0, .ref qA10, .int 0, .int 0])) : Option (Nat × va_E)) ∧ u[kA2]? = (some (qA2, .inl (g 0, 10000, .inl (fun _ => 0))) : Option (Nat × va_E)) ∧ u[kA3]? = (some (qA3, .inl (g 0, 10, .inl (upd (upd (upd (upd (upd (upd (upd (upd (upd (upd (fun _ => 0) 0 1) 1 1) 2 1) 3 1) 4 1) 5 1) 6 1) 7 1) 8 1) 9 1))) : Option (Nat × va_E)) ∧ u[kA4]? = (some (qA4, .inl (g 3, 10, .inl (fun _ => 0))) : Option (Nat × va_E)) ∧ u[kA5]? = (some (qA5, .inl (g 0, 10, .inl (fun _ => 0))) : Option (Nat × va_E)) ∧ u[kA6]? = (some (qA6, .inl (g 0, 4400, .inl (fun _ => 0))) : Option (Nat × va_E))) ∨ (¬ x1 < 0 ∧ x1 < 10 ∧ ¬ x2 < 0 ∧ x2 < 10 ∧ x4 < 0 ∧ q_un ws u [kO0, kA2, kA3, kA4, kA5, kA6] ∧ u[kO0]? = (some (qO0, .inr (14, [.int 1, .ref qA1, .int 0, .ref qA2, .ref qA3, .ref qA4, .ref qA5, .ref qA6, .int 0, .long 0, .int 0, .int 0, .ref qA7, .int 0, .ref qA8, .int 0, .ref qA9, .int 0, .ref qA10, .int 0, .int 0])) : Option (Nat × va_E)) ∧ u[kA2]? = (some (qA2, .inl (g 0, 10000, .inl (fun _ => 0))) : Option (Nat × va_E)) ∧ u[kA3]? = (some (qA3, .inl (g 0, 10, .inl (upd (upd (upd (upd (upd (upd (upd (upd (upd (upd (fun _ => 0) 0 1) 1 1) 2 1) 3 1) 4 1) 5 1) 6 1) 7 1) 8 1) 9 1))) : Option (Nat × va_E)) ∧ u[kA4]? = (some (qA4, .inl (g 3, 10, .inl (fun _ => 0))) : Option (Nat × va_E)) ∧ u[kA5]? = (some (qA5, .inl (g 0, 10, .inl (fun _ => 0))) : Option (Nat × va_E)) ∧ u[kA6]? = (some (qA6, .inl (g 0, 4400, .inl (fun _ => 0))) : Option (Nat × va_E))) ∨ (¬ x1 < 0 ∧ x1 < 10 ∧ ¬ x2 < 0 ∧ x2 < 10 ∧ ¬ x4 < 0 ∧ x4 ≤ 7 ∧ x3 < (-10000) ∧ q_un ws u [kO0, kA2, kA3, kA4, kA5, kA6] ∧ u[kO0]? = (some (qO0, .inr (14, [.int 1, .ref qA1, .int 0, .ref qA2, .ref qA3, .ref qA4, .ref qA5, .ref qA6, .int 0, .long 0, .int 0, .int 0, .ref qA7, .int 0, .ref qA8, .int 0, .ref qA9, .int 0, .ref qA10, .int 0, .int 0])) : Option (Nat × va_E)) ∧ u[kA2]? = (some (qA2, .inl (g 0, 10000, .inl (fun _ => 0))) : Option (Nat × va_E)) ∧ u[kA3]? = (some (qA3, .inl (g 0, 10, .inl (upd (upd (upd (upd (upd (upd (upd (upd (upd (upd (fun _ => 0) 0 1) 1 1) 2 1) 3 1) 4 1) 5 1) 6 1) 7 1) 8 1) 9 1))) : Option (Nat × va_E)) ∧ u[kA4]? = (some (qA4, .inl (g 3, 10, .inl (fun _ => 0))) : Option (Nat × va_E)) ∧ u[kA5]? = (some (qA5, .inl (g 0, 10, .inl (fun _ => 0))) : Option (Nat × va_E)) ∧ u[kA6]? = (some (qA6, .inl (g 0, 4400, .inl (fun _ => 0))) : Option (Nat × va_E))) ∨ (¬ x1 < 0 ∧ x1 < 10 ∧ ¬ x2 < 0 ∧ x2 < 10 ∧ ¬ x4 < 0 ∧ x4 ≤ 7 ∧ ¬ x3 < (-10000) ∧ x3 ≤ 10000 ∧ ¬ (lg_cmp x3.toInt64 (-10000)) < 0 ∧ (lg_cmp x3.toInt64 10000) ≤ 0 ∧ q_un ws u [kO0, kA2, kA3, kA4, kA5, kA6] ∧ u[kO0]? = (some (qO0, .inr (14, [.int 0, .ref qA1, .int 0, .ref qA2, .ref qA3, .ref qA4, .ref qA5, .ref qA6, .int 1, .long x3.toInt64, .int 0, .int 0, .ref qA7, .int 0, .ref qA8, .int 0, .ref qA9, .int 0, .ref qA10, .int 0, .int 2])) : Option (Nat × va_E)) ∧ u[kA2]? = (some (qA2, .inl (g 0, 10000, .inl (fun _ => 0))) : Option (Nat × va_E)) ∧ u[kA3]? = (some (qA3, .inl (g 0, 10, .inl (upd (upd (upd (upd (upd (upd (upd (upd (upd (upd (upd (fun _ => 0) 0 1) 1 1) 2 1) 3 1) 4 1) 5 1) 6 1) 7 1) 8 1) 9 1) x2.toNatClampNeg 1))) : Option (Nat × va_E)) ∧ u[kA4]? = (some (qA4, .inl (g 3, 10, .inl (fun _ => 0))) : Option (Nat × va_E)) ∧ u[kA5]? = (some (qA5, .inl (g 0, 10, .inl (upd (fun _ => 0) x2.toNatClampNeg x3.toInt64.toInt32))) : Option (Nat × va_E)) ∧ u[kA6]? = (some (qA6, .inl (g 0, 4400, .inl (fun _ => 0))) : Option (Nat × va_E))) ∨ (¬ x1 < 0 ∧ x1 < 10 ∧ ¬ x2 < 0 ∧ x2 < 10 ∧ ¬ x4 < 0 ∧ x4 ≤ 7 ∧ ¬ x3 < (-10000) ∧ ¬ x3 ≤ 10000 ∧ q_un ws u [kO0, kA2, kA3, kA4, kA5, kA6] ∧ u[kO0]? = (some (qO0, .inr (14, [.int 1, .ref qA1, .int 0, .ref qA2, .ref qA3, .ref qA4, .ref qA5, .ref qA6, .int 0, .long 0, .int 0, .int 0, .ref qA7, .int 0, .ref qA8, .int 0, .ref qA9, .int 0, .ref qA10, .int 0, .int 0])) : Option (Nat × va_E)) ∧ u[kA2]? = (some (qA2, .inl (g 0, 10000, .inl (fun _ => 0))) : Option (Nat × va_E)) ∧ u[kA3]? = (some (qA3, .inl (g 0, 10, .inl (upd (upd (upd (upd (upd (upd (upd (upd (upd (upd (fun _ => 0) 0 1) 1 1) 2 1) 3 1) 4 1) 5 1) 6 1) 7 1) 8 1) 9 1))) : Option (Nat × va_E)) ∧ u[kA4]? = (some (qA4, .inl (g 3, 10, .inl (fun _ => 0))) : Option (Nat × va_E)) ∧ u[kA5]? = (some (qA5, .inl (g 0, 10, .inl (fun _ => 0))) : Option (Nat × va_E)) ∧ u[kA6]? = (some (qA6, .inl (g 0, 4400, .inl (fun _ => 0))) : Option (Nat × va_E))) ∨ (¬ x1 < 0 ∧ x1 < 10 ∧ ¬ x2 < 0 ∧ x2 < 10 ∧ ¬ x4 < 0 ∧ ¬ x4 ≤ 7 ∧ q_un ws u [kO0, kA2, kA3, kA4, kA5, kA6] ∧ u[kO0]? = (some (qO0, .inr (14, [.int 1, .ref qA1, .int 0, .ref qA2, .ref qA3, .ref qA4, .ref qA5, .ref qA6, .int 0, .long 0, .int 0, .int 0, .ref qA7, .int 0, .ref qA8, .int 0, .ref qA9, .int 0, .ref qA10, .int 0, .int 0])) : Option (Nat × va_E)) ∧ u[kA2]? = (some (qA2, .inl (g 0, 10000, .inl (fun _ => 0))) : Option (Nat × va_E)) ∧ u[kA3]? = (some (qA3, .inl (g 0, 10, .inl (upd (upd (upd (upd (upd (upd (upd (upd (upd (upd (fun _ => 0) 0 1) 1 1) 2 1) 3 1) 4 1) 5 1) 6 1) 7 1) 8 1) 9 1))) : Option (Nat × va_E)) ∧ u[kA4]? = (some (qA4, .inl (g 3, 10, .inl (fun _ => 0))) : Option (Nat × va_E)) ∧ u[kA5]? = (some (qA5, .inl (g 0, 10, .inl (fun _ => 0))) : Option (Nat × va_E)) ∧ u[kA6]? = (some (qA6, .inl (g 0, 4400, .inl (fun _ => 0))) : Option (Nat × va_E))) ∨ (¬ x1 < 0 ∧ x1 < 10 ∧ ¬ x2 < 0 ∧ ¬ x2 < 10 ∧ q_un ws u [kO0, kA2, kA3, kA4, kA5, kA6] ∧ u[kO0]? = (some (qO0, .inr (14, [.int 1, .ref qA1, .int 0, .ref qA2, .ref qA3, .ref qA4, .ref qA5, .ref qA6, .int 0, .long 0, .int 0, .int 0, .ref qA7, .int 0, .ref qA8, .int 0, .ref qA9, .int 0, .ref qA10, .int 0, .int 0])) : Option (Nat × va_E)) ∧ u[kA2]? = (some (qA2, .inl (g 0, 10000, .inl (fun _ => 0))) : Option (Nat × va_E)) ∧ u[kA3]? = (some (qA3, .inl (g 0, 10, .inl (upd (upd (upd (upd (upd (upd (upd (upd (upd (upd (fun _ => 0) 0 1) 1 1) 2 1) 3 1) 4 1) 5 1) 6 1) 7 1) 8 1) 9 1))) : Option (Nat × va_E)) ∧ u[kA4]? = (some (qA4, .inl (g 3, 10, .inl (fun _ => 0))) : Option (Nat × va_E)) ∧ u[kA5]? = (some (qA5, .inl (g 0, 10, .inl (fun _ => 0))) : Option (Nat × va_E)) ∧ u[kA6]? = (some (qA6, .inl (g 0, 4400, .inl (fun _ => 0))) : Option (Nat × va_E))) ∨ (¬ x1 < 0 ∧ ¬ x1 < 10 ∧ q_un ws u [kO0, kA2, kA3, kA4, kA5, kA6] ∧ u[kO0]? = (some (qO0, .inr (14, [.int 1, .ref qA1, .int 0, .ref qA2, .ref qA3, .ref qA4, .ref qA5, .ref qA6, .int 0, .long 0, .int 0, .int 0, .ref qA7, .int 0, .ref qA8, .int 0, .ref qA9, .int 0, .ref qA10, .int 0, .int 0])) : Option (Nat × va_E)) ∧ u[kA2]? = (some (qA2, .inl (g 0, 10000, .inl (fun _ => 0))) : Option (Nat × va_E)) ∧ u[kA3]? = (some (qA3, .inl (g 0, 10, .inl (upd (upd (upd (upd (upd (upd (upd (upd (upd (upd (fun _ => 0) 0 1) 1 1) 2 1) 3 1) 4 1) 5 1) 6 1) 7 1) 8 1) 9 1))) : Option (Nat × va_E)) ∧ u[kA4]? = (some (qA4, .inl (g 3, 10, .inl (fun _ => 0))) : Option (Nat × va_E)) ∧ u[kA5]? = (some (qA5, .inl (g 0, 10, .inl (fun _ => 0))) : Option (Nat × va_E)) ∧ u[kA6]? = (some (qA6, .inl (g 0, 4400, .inl (fun _ => 0))) : Option (Nat × va_E)))) := by
  intro sz
  refine q_into (by decide) (Nat.le_of_ble_eq_true rfl) ?_
  intro p e s m below meth c ls hsz C0 V hl
  have hx := C0.1
  have hb := C0.2.1
  have hl : lv_has ls 5 [(0, .ref qO0), (1, .int x1), (2, .int x2), (3, .int x3), (4, .int x4)] := hl
  have n_A2_O0 := q_df hA2 hO0
  have n_A3_O0 := q_df hA3 hO0
  have n_A4_O0 := q_df hA4 hO0
  have n_A5_O0 := q_df hA5 hO0
  have n_A6_O0 := q_df hA6 hO0
  have hF : q_un ws ws [kO0, kA2, kA3, kA4, kA5, kA6] := q_u0
  refine lv_aload_n hx hb d_15_43_0 rfl (lv_at hl 0 rfl) ?_
  refine lv_iload_n hx hb d_15_43_1 rfl (lv_at hl 1 rfl) ?_
  refine q_goi V (q_runS (As := [.int x1]) (rest := [.ref qO0]) (d := 1) (mc := 0) (ms := 0) C0 V rfl LS_DR_113 (c_DR_no_2 l D g ws x1 _) rfl hl.1 rfl (Nat.le_of_ble_eq_true rfl) ⟨by decide, by decide⟩ ⟨Nat.le_of_ble_eq_true rfl, Nat.le_of_ble_eq_true rfl⟩ d_15_43_2) (fun v3 u2 H locs hp1 V => ?_)
  rcases hp1 with ⟨c4, rfl, rfl⟩ | ⟨c6, c7, rfl, rfl⟩ | ⟨c9, c10, rfl, rfl⟩
  ·
    refine lv_if_ne (tgt := 37) hx hb d_15_43_5 (by decide) (fun c12 => ?_) (fun c12 => absurd c12 (by decide))
    refine lv_iconst (v := 1) hx hb d_15_43_37 (by decide) ?_
    refine lv_goto (tgt := 42) hx hb d_15_43_38 (by decide) ?_
    refine q_put (ci := 14) (j := 0) (v := .int 1) (ty := .int) C0 V i_DR o_DR n_DR rfl rfl hO0 (by decide) w_1996 rfl rfl rfl rfl (Nat.le_of_ble_eq_true rfl) d_15_43_42 (fun H locs w13 hu14 hO0 V => ?_)
    replace hO0 : w13[kO0]? = (some (qO0, .inr (14, [.int 1, .ref qA1, .int 0, .ref qA2, .ref qA3, .ref qA4, .ref qA5, .ref qA6, .int 0, .long 0, .int 0, .int 0, .ref qA7, .int 0, .ref qA8, .int 0, .ref qA9, .int 0, .ref qA10, .int 0, .int 0])) : Option (Nat × va_E)) := hO0
    replace hF := q_us hF hu14 (.head _)
    refine lv_aload_n hx hb d_15_43_45 rfl (lv_at hl 0 rfl) ?_
    refine q_get (ci := 14) (j := 0) (v := .int 1) C0 V i_DR rfl rfl hO0 (by decide) w_1996 rfl d_15_43_46 ?_
    refine lv_if_ne (tgt := 71) hx hb d_15_43_49 (by decide) (fun c15 => ?_) (fun c15 => absurd c15 (by decide))
    replace hA2 := (hu14 _ n_A2_O0).trans (hA2)
    replace hA3 := (hu14 _ n_A3_O0).trans (hA3)
    replace hA4 := (hu14 _ n_A4_O0).trans (hA4)
    replace hA5 := (hu14 _ n_A5_O0).trans (hA5)
    replace hA6 := (hu14 _ n_A6_O0).trans (hA6)
    exact q_retv C0 V (Or.inl ⟨c4, hF, hO0, hA2, hA3, hA4, hA5, hA6⟩) d_15_43_71
  ·
    refine lv_if_ne (tgt := 37) hx hb d_15_43_5 (by decide) (fun c16 => absurd (by decide) c16) (fun c16 => ?_)
    refine lv_iload_n hx hb d_15_43_8 rfl (lv_at hl 2 rfl) ?_
    refine q_goi V (q_runS (As := [.int x2]) (rest := [.ref qO0]) (d := 1) (mc := 0) (ms := 0) C0 V rfl LS_DR_113 (c_DR_no_2 l D g ws x2 _) rfl hl.1 rfl (Nat.le_of_ble_eq_true rfl) ⟨by decide, by decide⟩ ⟨Nat.le_of_ble_eq_true rfl, Nat.le_of_ble_eq_true rfl⟩ d_15_43_9) (fun v19 u18 H locs hp17 V => ?_)
    rcases hp17 with ⟨c20, rfl, rfl⟩ | ⟨c22, c23, rfl, rfl⟩ | ⟨c25, c26, rfl, rfl⟩
    ·
      refine lv_if_ne (tgt := 37) hx hb d_15_43_12 (by decide) (fun c28 => ?_) (fun c28 => absurd c28 (by decide))
      refine lv_iconst (v := 1) hx hb d_15_43_37 (by decide) ?_
      refine lv_goto (tgt := 42) hx hb d_15_43_38 (by decide) ?_
      refine q_put (ci := 14) (j := 0) (v := .int 1) (ty := .int) C0 V i_DR o_DR n_DR rfl rfl hO0 (by decide) w_1996 rfl rfl rfl rfl (Nat.le_of_ble_eq_true rfl) d_15_43_42 (fun H locs w29 hu30 hO0 V => ?_)
      replace hO0 : w29[kO0]? = (some (qO0, .inr (14, [.int 1, .ref qA1, .int 0, .ref qA2, .ref qA3, .ref qA4, .ref qA5, .ref qA6, .int 0, .long 0, .int 0, .int 0, .ref qA7, .int 0, .ref qA8, .int 0, .ref qA9, .int 0, .ref qA10, .int 0, .int 0])) : Option (Nat × va_E)) := hO0
      replace hF := q_us hF hu30 (.head _)
      refine lv_aload_n hx hb d_15_43_45 rfl (lv_at hl 0 rfl) ?_
      refine q_get (ci := 14) (j := 0) (v := .int 1) C0 V i_DR rfl rfl hO0 (by decide) w_1996 rfl d_15_43_46 ?_
      refine lv_if_ne (tgt := 71) hx hb d_15_43_49 (by decide) (fun c31 => ?_) (fun c31 => absurd c31 (by decide))
      replace hA2 := (hu30 _ n_A2_O0).trans (hA2)
      replace hA3 := (hu30 _ n_A3_O0).trans (hA3)
      replace hA4 := (hu30 _ n_A4_O0).trans (hA4)
      replace hA5 := (hu30 _ n_A5_O0).trans (hA5)
      replace hA6 := (hu30 _ n_A6_O0).trans (hA6)
      exact q_retv C0 V (Or.inr (Or.inl ⟨c6, c7, c20, hF, hO0, hA2, hA3, hA4, hA5, hA6⟩)) d_15_43_71
    ·
      refine lv_if_ne (tgt := 37) hx hb d_15_43_12 (by decide) (fun c32 => absurd (by decide) c32) (fun c32 => ?_)
      refine lv_iload hx hb d_15_43_15 (lv_at hl 4 rfl) ?_
      refine q_goi V (q_runS (As := [.int x4]) (rest := [.ref qO0]) (d := 1) (mc := 0) (ms := 0) C0 V rfl LS_DR_147 (c_DR_noMode l D g ws x4 _) rfl hl.1 rfl (Nat.le_of_ble_eq_true rfl) ⟨by decide, by decide⟩ ⟨Nat.le_of_ble_eq_true rfl, Nat.le_of_ble_eq_true rfl⟩ d_15_43_17) (fun v35 u34 H locs hp33 V => ?_)
      rcases hp33 with ⟨c36, rfl, rfl⟩ | ⟨c38, c39, rfl, rfl⟩ | ⟨c41, c42, rfl, rfl⟩
      ·
        refine lv_if_ne (tgt := 37) hx hb d_15_43_20 (by decide) (fun c44 => ?_) (fun c44 => absurd c44 (by decide))
        refine lv_iconst (v := 1) hx hb d_15_43_37 (by decide) ?_
        refine lv_goto (tgt := 42) hx hb d_15_43_38 (by decide) ?_
        refine q_put (ci := 14) (j := 0) (v := .int 1) (ty := .int) C0 V i_DR o_DR n_DR rfl rfl hO0 (by decide) w_1996 rfl rfl rfl rfl (Nat.le_of_ble_eq_true rfl) d_15_43_42 (fun H locs w45 hu46 hO0 V => ?_)
        replace hO0 : w45[kO0]? = (some (qO0, .inr (14, [.int 1, .ref qA1, .int 0, .ref qA2, .ref qA3, .ref qA4, .ref qA5, .ref qA6, .int 0, .long 0, .int 0, .int 0, .ref qA7, .int 0, .ref qA8, .int 0, .ref qA9, .int 0, .ref qA10, .int 0, .int 0])) : Option (Nat × va_E)) := hO0
        replace hF := q_us hF hu46 (.head _)
        refine lv_aload_n hx hb d_15_43_45 rfl (lv_at hl 0 rfl) ?_
        refine q_get (ci := 14) (j := 0) (v := .int 1) C0 V i_DR rfl rfl hO0 (by decide) w_1996 rfl d_15_43_46 ?_
        refine lv_if_ne (tgt := 71) hx hb d_15_43_49 (by decide) (fun c47 => ?_) (fun c47 => absurd c47 (by decide))
        replace hA2 := (hu46 _ n_A2_O0).trans (hA2)
        replace hA3 := (hu46 _ n_A3_O0).trans (hA3)
        replace hA4 := (hu46 _ n_A4_O0).trans (hA4)
        replace hA5 := (hu46 _ n_A5_O0).trans (hA5)
        replace hA6 := (hu46 _ n_A6_O0).trans (hA6)
        exact q_retv C0 V (Or.inr (Or.inr (Or.inl ⟨c6, c7, c22, c23, c36, hF, hO0, hA2, hA3, hA4, hA5, hA6⟩))) d_15_43_71
      ·
        refine lv_if_ne (tgt := 37) hx hb d_15_43_20 (by decide) (fun c48 => absurd (by decide) c48) (fun c48 => ?_)
        refine lv_iload_n hx hb d_15_43_23 rfl (lv_at hl 3 rfl) ?_
        refine lv_sipush (v := (-10000)) hx hb d_15_43_24 (by decide) ?_
        refine lv_icmp_lt (tgt := 37) hx hb d_15_43_27 (by decide) (fun c49 => ?_) (fun c49 => ?_)
        ·
          refine lv_iconst (v := 1) hx hb d_15_43_37 (by decide) ?_
          refine lv_goto (tgt := 42) hx hb d_15_43_38 (by decide) ?_
          refine q_put (ci := 14) (j := 0) (v := .int 1) (ty := .int) C0 V i_DR o_DR n_DR rfl rfl hO0 (by decide) w_1996 rfl rfl rfl rfl (Nat.le_of_ble_eq_true rfl) d_15_43_42 (fun H locs w50 hu51 hO0 V => ?_)
          replace hO0 : w50[kO0]? = (some (qO0, .inr (14, [.int 1, .ref qA1, .int 0, .ref qA2, .ref qA3, .ref qA4, .ref qA5, .ref qA6, .int 0, .long 0, .int 0, .int 0, .ref qA7, .int 0, .ref qA8, .int 0, .ref qA9, .int 0, .ref qA10, .int 0, .int 0])) : Option (Nat × va_E)) := hO0
          replace hF := q_us hF hu51 (.head _)
          refine lv_aload_n hx hb d_15_43_45 rfl (lv_at hl 0 rfl) ?_
          refine q_get (ci := 14) (j := 0) (v := .int 1) C0 V i_DR rfl rfl hO0 (by decide) w_1996 rfl d_15_43_46 ?_
          refine lv_if_ne (tgt := 71) hx hb d_15_43_49 (by decide) (fun c52 => ?_) (fun c52 => absurd c52 (by decide))
          replace hA2 := (hu51 _ n_A2_O0).trans (hA2)
          replace hA3 := (hu51 _ n_A3_O0).trans (hA3)
          replace hA4 := (hu51 _ n_A4_O0).trans (hA4)
          replace hA5 := (hu51 _ n_A5_O0).trans (hA5)
          replace hA6 := (hu51 _ n_A6_O0).trans (hA6)
          exact q_retv C0 V (Or.inr (Or.inr (Or.inr (Or.inl ⟨c6, c7, c22, c23, c38, c39, c49, hF, hO0, hA2, hA3, hA4, hA5, hA6⟩)))) d_15_43_71
        ·
          refine lv_iload_n hx hb d_15_43_30 rfl (lv_at hl 3 rfl) ?_
          refine lv_sipush (v := 10000) hx hb d_15_43_31 (by decide) ?_
          refine lv_icmp_le (tgt := 41) hx hb d_15_43_34 (by decide) (fun c53 => ?_) (fun c53 => ?_)
          ·
            refine lv_iconst (v := 0) hx hb d_15_43_41 (by decide) ?_
            refine q_put (ci := 14) (j := 0) (v := .int 0) (ty := .int) C0 V i_DR o_DR n_DR rfl rfl hO0 (by decide) w_1996 rfl rfl rfl rfl (Nat.le_of_ble_eq_true rfl) d_15_43_42 (fun H locs w54 hu55 hO0 V => ?_)
            replace hO0 : w54[kO0]? = (some (qO0, .inr (14, [.int 0, .ref qA1, .int 0, .ref qA2, .ref qA3, .ref qA4, .ref qA5, .ref qA6, .int 0, .long 0, .int 0, .int 0, .ref qA7, .int 0, .ref qA8, .int 0, .ref qA9, .int 0, .ref qA10, .int 0, .int 0])) : Option (Nat × va_E)) := hO0
            replace hF := q_us hF hu55 (.head _)
            refine lv_aload_n hx hb d_15_43_45 rfl (lv_at hl 0 rfl) ?_
            refine q_get (ci := 14) (j := 0) (v := .int 0) C0 V i_DR rfl rfl hO0 (by decide) w_1996 rfl d_15_43_46 ?_
            refine lv_if_ne (tgt := 71) hx hb d_15_43_49 (by decide) (fun c56 => absurd (by decide) c56) (fun c56 => ?_)
            refine lv_aload_n hx hb d_15_43_52 rfl (lv_at hl 0 rfl) ?_
            refine lv_iconst (v := 2) hx hb d_15_43_53 (by decide) ?_
            refine q_put (ci := 14) (j := 20) (v := .int 2) (ty := .int) C0 V i_DR o_DR n_DR rfl rfl hO0 (by decide) w_2024 rfl rfl rfl rfl (Nat.le_of_ble_eq_true rfl) d_15_43_54 (fun H locs w57 hu58 hO0 V => ?_)
            replace hO0 : w57[kO0]? = (some (qO0, .inr (14, [.int 0, .ref qA1, .int 0, .ref qA2, .ref qA3, .ref qA4, .ref qA5, .ref qA6, .int 0, .long 0, .int 0, .int 0, .ref qA7, .int 0, .ref qA8, .int 0, .ref qA9, .int 0, .ref qA10, .int 0, .int 2])) : Option (Nat × va_E)) := hO0
            replace hF := q_us hF hu58 (.head _)
            refine lv_aload_n hx hb d_15_43_57 rfl (lv_at hl 0 rfl) ?_
            refine lv_iload_n hx hb d_15_43_58 rfl (lv_at hl 1 rfl) ?_
            replace hA2 := (hu58 _ n_A2_O0).trans ((hu55 _ n_A2_O0).trans (hA2))
            replace hA3 := (hu58 _ n_A3_O0).trans ((hu55 _ n_A3_O0).trans (hA3))
            replace hA4 := (hu58 _ n_A4_O0).trans ((hu55 _ n_A4_O0).trans (hA4))
            replace hA5 := (hu58 _ n_A5_O0).trans ((hu55 _ n_A5_O0).trans (hA5))
            replace hA6 := (hu58 _ n_A6_O0).trans ((hu55 _ n_A6_O0).trans (hA6))
            refine q_gov V (q_runV (As := [.int x1]) (rest := []) (d := 1) (mc := 0) (ms := 0) (ci := 14) C0 V rfl LV_DR_132 (c_DR_load l D g w57 kO0 kA2 kA3 kA4 kA5 kA6 qO0 qA1 qA2 qA3 qA4 qA5 qA6 qA7 qA8 qA9 qA10 x1 hO0 hA2 hA3 hA4 hA5 hA6 n_A2_A6 n_A3_A6 n_A4_A6 n_A5_A6 (q_Ile (x := 0) (y := x1.toInt) (by decide) rfl (by have t1 : 0 ≤ x1.toInt := q_nltI c6; have t2 : x1.toInt < 10 := q_ltI c7; omega)) (q_Ile (x := x1.toInt) (y := 9) rfl (by decide) (by have t1 : 0 ≤ x1.toInt := q_nltI c6; have t2 : x1.toInt < 10 := q_ltI c7; omega)) _) rfl rfl hO0 rfl hl.1 rfl (Nat.le_of_ble_eq_true rfl) ⟨by decide, by decide⟩ ⟨Nat.le_of_ble_eq_true rfl, Nat.le_of_ble_eq_true rfl⟩ d_15_43_59) (fun u60 H locs hp59 V => ?_)
            obtain ⟨hg61, hO0, hA6⟩ := hp59
            replace hF := q_uc hF hg61 (q_sc (.head _) (q_sc (List.mem_of_getElem? (i := 5) rfl) (fun _ h => absurd h List.not_mem_nil)))
            refine lv_aload_n hx hb d_15_43_62 rfl (lv_at hl 0 rfl) ?_
            refine lv_iload_n hx hb d_15_43_63 rfl (lv_at hl 3 rfl) ?_
            refine lv_i2l hx hb d_15_43_64 rfl ?_
            refine lv_iload hx hb d_15_43_65 (lv_at hl 4 rfl) ?_
            refine lv_iload_n hx hb d_15_43_67 rfl (lv_at hl 2 rfl) ?_
            replace hA2 := (hg61 _ (q_nc n_A2_O0 (q_nc n_A2_A6 List.not_mem_nil))).trans (hA2)
            replace hA3 := (hg61 _ (q_nc n_A3_O0 (q_nc n_A3_A6 List.not_mem_nil))).trans (hA3)
            replace hA4 := (hg61 _ (q_nc n_A4_O0 (q_nc n_A4_A6 List.not_mem_nil))).trans (hA4)
            replace hA5 := (hg61 _ (q_nc n_A5_O0 (q_nc n_A5_A6 List.not_mem_nil))).trans (hA5)
            refine q_gov V (q_runV (As := [.long x3.toInt64, .int x4, .int x2]) (rest := []) (d := 3) (mc := 0) (ms := 0) (ci := 14) C0 V rfl LV_DR_170 (c_DR_bring l D g u60 kO0 kA2 kA3 kA4 kA5 kA6 qO0 qA1 qA2 qA3 qA4 qA5 qA6 qA7 qA8 qA9 qA10 x3.toInt64 x4 x2 hO0 hA2 hA3 hA4 hA5 hA6 n_A2_A3 n_A2_A4 n_A2_A5 n_A2_A6 n_A3_A4 n_A3_A5 n_A3_A6 n_A4_A5 n_A4_A6 n_A5_A6 (q_Ile (x := 0) (y := x4.toInt) (by decide) rfl (by have t1 : 0 ≤ x4.toInt := q_nltI c38; have t2 : x4.toInt ≤ 7 := q_leI c39; omega)) c39 (q_Ile (x := 0) (y := x2.toInt) (by decide) rfl (by have t1 : 0 ≤ x2.toInt := q_nltI c22; have t2 : x2.toInt < 10 := q_ltI c23; omega)) (q_Ile (x := x2.toInt) (y := 9) rfl (by decide) (by have t1 : 0 ≤ x2.toInt := q_nltI c22; have t2 : x2.toInt < 10 := q_ltI c23; omega)) _) rfl rfl hO0 rfl hl.1 rfl (Nat.le_of_ble_eq_true rfl) ⟨by decide, by decide⟩ ⟨Nat.le_of_ble_eq_true rfl, Nat.le_of_ble_eq_true rfl⟩ d_15_43_68) (fun u63 H locs hp62 V => ?_)
            rcases hp62 with ⟨c64, hg65, hO0, hA2, hA3, hA4, hA5, hA6⟩ | ⟨c66, c67, hg68, hO0, hA2, hA3, hA4, hA5, hA6⟩ | ⟨c69, c70, hg71, hO0, hA2, hA3, hA4, hA5, hA6⟩
            ·
              exfalso; exact (by have t1 : 0 ≤ x1.toInt := q_nltI c6; have t2 : x1.toInt < 10 := q_ltI c7; have t3 : 0 ≤ x2.toInt := q_nltI c22; have t4 : x2.toInt < 10 := q_ltI c23; have t5 : 0 ≤ x4.toInt := q_nltI c38; have t6 : x4.toInt ≤ 7 := q_leI c39; have t7 : (-10000) ≤ x3.toInt := q_nltI c49; have t8 : x3.toInt ≤ 10000 := q_leI c53; have ea : (x3.toInt64 : Int64).toInt = x3.toInt := (q_i2l (x := x3.toInt) rfl); have eb : ((-10000) : Int64).toInt = (-10000) := (by decide); have ec := q_k1 c64; have b0l := q_lo32 (x := x3); have b0h := q_hi32 (x := x3); omega)
            ·
              replace hF := q_uc hF hg68 (q_sc (.head _) (q_sc (.tail _ (.head _)) (q_sc (.tail _ (.tail _ (.head _))) (q_sc (List.mem_of_getElem? (i := 3) rfl) (q_sc (List.mem_of_getElem? (i := 4) rfl) (q_sc (List.mem_of_getElem? (i := 5) rfl) (fun _ h => absurd h List.not_mem_nil)))))))
              exact q_retv C0 V (Or.inr (Or.inr (Or.inr (Or.inr (Or.inl ⟨c6, c7, c22, c23, c38, c39, c49, c53, c66, c67, hF, hO0, hA2, hA3, hA4, hA5, hA6⟩))))) d_15_43_71
            ·
              exfalso; exact (by have t1 : 0 ≤ x1.toInt := q_nltI c6; have t2 : x1.toInt < 10 := q_ltI c7; have t3 : 0 ≤ x2.toInt := q_nltI c22; have t4 : x2.toInt < 10 := q_ltI c23; have t5 : 0 ≤ x4.toInt := q_nltI c38; have t6 : x4.toInt ≤ 7 := q_leI c39; have t7 : (-10000) ≤ x3.toInt := q_nltI c49; have t8 : x3.toInt ≤ 10000 := q_leI c53; have ea : (x3.toInt64 : Int64).toInt = x3.toInt := (q_i2l (x := x3.toInt) rfl); have eb : (10000 : Int64).toInt = 10000 := (by decide); have ec := q_k6 c70; have b0l := q_lo32 (x := x3); have b0h := q_hi32 (x := x3); omega)
          ·
            refine lv_iconst (v := 1) hx hb d_15_43_37 (by decide) ?_
            refine lv_goto (tgt := 42) hx hb d_15_43_38 (by decide) ?_
            refine q_put (ci := 14) (j := 0) (v := .int 1) (ty := .int) C0 V i_DR o_DR n_DR rfl rfl hO0 (by decide) w_1996 rfl rfl rfl rfl (Nat.le_of_ble_eq_true rfl) d_15_43_42 (fun H locs w72 hu73 hO0 V => ?_)
            replace hO0 : w72[kO0]? = (some (qO0, .inr (14, [.int 1, .ref qA1, .int 0, .ref qA2, .ref qA3, .ref qA4, .ref qA5, .ref qA6, .int 0, .long 0, .int 0, .int 0, .ref qA7, .int 0, .ref qA8, .int 0, .ref qA9, .int 0, .ref qA10, .int 0, .int 0])) : Option (Nat × va_E)) := hO0
            replace hF := q_us hF hu73 (.head _)
            refine lv_aload_n hx hb d_15_43_45 rfl (lv_at hl 0 rfl) ?_
            refine q_get (ci := 14) (j := 0) (v := .int 1) C0 V i_DR rfl rfl hO0 (by decide) w_1996 rfl d_15_43_46 ?_
            refine lv_if_ne (tgt := 71) hx hb d_15_43_49 (by decide) (fun c74 => ?_) (fun c74 => absurd c74 (by decide))
            replace hA2 := (hu73 _ n_A2_O0).trans (hA2)
            replace hA3 := (hu73 _ n_A3_O0).trans (hA3)
            replace hA4 := (hu73 _ n_A4_O0).trans (hA4)
            replace hA5 := (hu73 _ n_A5_O0).trans (hA5)
            replace hA6 := (hu73 _ n_A6_O0).trans (hA6)
            exact q_retv C0 V (Or.inr (Or.inr (Or.inr (Or.inr (Or.inr (Or.inl ⟨c6, c7, c22, c23, c38, c39, c49, c53, hF, hO0, hA2, hA3, hA4, hA5, hA6⟩)))))) d_15_43_71
      ·
        refine lv_if_ne (tgt := 37) hx hb d_15_43_20 (by decide) (fun c75 => ?_) (fun c75 => absurd c75 (by decide))
        refine lv_iconst (v := 1) hx hb d_15_43_37 (by decide) ?_
        refine lv_goto (tgt := 42) hx hb d_15_43_38 (by decide) ?_
        refine q_put (ci := 14) (j := 0) (v := .int 1) (ty := .int) C0 V i_DR o_DR n_DR rfl rfl hO0 (by decide) w_1996 rfl rfl rfl rfl (Nat.le_of_ble_eq_true rfl) d_15_43_42 (fun H locs w76 hu77 hO0 V => ?_)
        replace hO0 : w76[kO0]? = (some (qO0, .inr (14, [.int 1, .ref qA1, .int 0, .ref qA2, .ref qA3, .ref qA4, .ref qA5, .ref qA6, .int 0, .long 0, .int 0, .int 0, .ref qA7, .int 0, .ref qA8, .int 0, .ref qA9, .int 0, .ref qA10, .int 0, .int 0])) : Option (Nat × va_E)) := hO0
        replace hF := q_us hF hu77 (.head _)
        refine lv_aload_n hx hb d_15_43_45 rfl (lv_at hl 0 rfl) ?_
        refine q_get (ci := 14) (j := 0) (v := .int 1) C0 V i_DR rfl rfl hO0 (by decide) w_1996 rfl d_15_43_46 ?_
        refine lv_if_ne (tgt := 71) hx hb d_15_43_49 (by decide) (fun c78 => ?_) (fun c78 => absurd c78 (by decide))
        replace hA2 := (hu77 _ n_A2_O0).trans (hA2)
        replace hA3 := (hu77 _ n_A3_O0).trans (hA3)
        replace hA4 := (hu77 _ n_A4_O0).trans (hA4)
        replace hA5 := (hu77 _ n_A5_O0).trans (hA5)
        replace hA6 := (hu77 _ n_A6_O0).trans (hA6)
        exact q_retv C0 V (Or.inr (Or.inr (Or.inr (Or.inr (Or.inr (Or.inr (Or.inl ⟨c6, c7, c22, c23, c41, c42, hF, hO0, hA2, hA3, hA4, hA5, hA6⟩))))))) d_15_43_71
    ·
      refine lv_if_ne (tgt := 37) hx hb d_15_43_12 (by decide) (fun c79 => ?_) (fun c79 => absurd c79 (by decide))
      refine lv_iconst (v := 1) hx hb d_15_43_37 (by decide) ?_
      refine lv_goto (tgt := 42) hx hb d_15_43_38 (by decide) ?_
      refine q_put (ci := 14) (j := 0) (v := .int 1) (ty := .int) C0 V i_DR o_DR n_DR rfl rfl hO0 (by decide) w_1996 rfl rfl rfl rfl (Nat.le_of_ble_eq_true rfl) d_15_43_42 (fun H locs w80 hu81 hO0 V => ?_)
      replace hO0 : w80[kO0]? = (some (qO0, .inr (14, [.int 1, .ref qA1, .int 0, .ref qA2, .ref qA3, .ref qA4, .ref qA5, .ref qA6, .int 0, .long 0, .int 0, .int 0, .ref qA7, .int 0, .ref qA8, .int 0, .ref qA9, .int 0, .ref qA10, .int 0, .int 0])) : Option (Nat × va_E)) := hO0
      replace hF := q_us hF hu81 (.head _)
      refine lv_aload_n hx hb d_15_43_45 rfl (lv_at hl 0 rfl) ?_
      refine q_get (ci := 14) (j := 0) (v := .int 1) C0 V i_DR rfl rfl hO0 (by decide) w_1996 rfl d_15_43_46 ?_
      refine lv_if_ne (tgt := 71) hx hb d_15_43_49 (by decide) (fun c82 => ?_) (fun c82 => absurd c82 (by decide))
      replace hA2 := (hu81 _ n_A2_O0).trans (hA2)
      replace hA3 := (hu81 _ n_A3_O0).trans (hA3)
      replace hA4 := (hu81 _ n_A4_O0).trans (hA4)
      replace hA5 := (hu81 _ n_A5_O0).trans (hA5)
      replace hA6 := (hu81 _ n_A6_O0).trans (hA6)
      exact q_retv C0 V (Or.inr (Or.inr (Or.inr (Or.inr (Or.inr (Or.inr (Or.inr (Or.inl ⟨c6, c7, c25, c26, hF, hO0, hA2, hA3, hA4, hA5, hA6⟩)))))))) d_15_43_71
  ·
    refine lv_if_ne (tgt := 37) hx hb d_15_43_5 (by decide) (fun c83 => ?_) (fun c83 => absurd c83 (by decide))
    refine lv_iconst (v := 1) hx hb d_15_43_37 (by decide) ?_
    refine lv_goto (tgt := 42) hx hb d_15_43_38 (by decide) ?_
    refine q_put (ci := 14) (j := 0) (v := .int 1) (ty := .int) C0 V i_DR o_DR n_DR rfl rfl hO0 (by decide) w_1996 rfl rfl rfl rfl (Nat.le_of_ble_eq_true rfl) d_15_43_42 (fun H locs w84 hu85 hO0 V => ?_)
    replace hO0 : w84[kO0]? = (some (qO0, .inr (14, [.int 1, .ref qA1, .int 0, .ref qA2, .ref qA3, .ref qA4, .ref qA5, .ref qA6, .int 0, .long 0, .int 0, .int 0, .ref qA7, .int 0, .ref qA8, .int 0, .ref qA9, .int 0, .ref qA10, .int 0, .int 0])) : Option (Nat × va_E)) := hO0
    replace hF := q_us hF hu85 (.head _)
    refine lv_aload_n hx hb d_15_43_45 rfl (lv_at hl 0 rfl) ?_
    refine q_get (ci := 14) (j := 0) (v := .int 1) C0 V i_DR rfl rfl hO0 (by decide) w_1996 rfl d_15_43_46 ?_
    refine lv_if_ne (tgt := 71) hx hb d_15_43_49 (by decide) (fun c86 => ?_) (fun c86 => absurd c86 (by decide))
    replace hA2 := (hu85 _ n_A2_O0).trans (hA2)
    replace hA3 := (hu85 _ n_A3_O0).trans (hA3)
    replace hA4 := (hu85 _ n_A4_O0).trans (hA4)
    replace hA5 := (hu85 _ n_A5_O0).trans (hA5)
    replace hA6 := (hu85 _ n_A6_O0).trans (hA6)
    exact q_retv C0 V (Or.inr (Or.inr (Or.inr (Or.inr (Or.inr (Or.inr (Or.inr (Or.inr (⟨c9, c10, hF, hO0, hA2, hA3, hA4, hA5, hA6⟩))))))))) d_15_43_71
theorem d_14_27_0 : decode prog_14_method_27_code 0 = .ok (.aload_n 0, 1) := by decide +kernel
theorem d_14_27_1 : decode prog_14_method_27_code 1 = .ok (.iload_n 1, 1) := by decide +kernel
theorem d_14_27_2 : decode prog_14_method_27_code 2 = .ok (.ifCond .lt 8, 3) := by decide +kernel
theorem d_14_27_10 : decode prog_14_method_27_code 10 = .ok (.iconst 1, 1) := by decide +kernel
theorem d_14_27_11 : decode prog_14_method_27_code 11 = .ok (.goto 4, 3) := by decide +kernel
theorem d_14_27_15 : decode prog_14_method_27_code 15 = .ok (.putfield 58, 3) := by decide +kernel
theorem d_14_27_18 : decode prog_14_method_27_code 18 = .ok (.aload_n 0, 1) := by decide +kernel
theorem d_14_27_19 : decode prog_14_method_27_code 19 = .ok (.getfield 58, 3) := by decide +kernel
theorem d_14_27_22 : decode prog_14_method_27_code 22 = .ok (.ifCond .le 4, 3) := by decide +kernel
theorem d_14_27_25 : decode prog_14_method_27_code 25 = .ok (.return_, 1) := by decide +kernel
theorem d_14_27_5 : decode prog_14_method_27_code 5 = .ok (.iload_n 1, 1) := by decide +kernel
theorem d_14_27_6 : decode prog_14_method_27_code 6 = .ok (.iconst 2, 1) := by decide +kernel
theorem d_14_27_7 : decode prog_14_method_27_code 7 = .ok (.if_icmp .le 7, 3) := by decide +kernel
theorem d_14_27_14 : decode prog_14_method_27_code 14 = .ok (.iconst 0, 1) := by decide +kernel
theorem d_14_27_26 : decode prog_14_method_27_code 26 = .ok (.iload_n 1, 1) := by decide +kernel
theorem d_14_27_27 : decode prog_14_method_27_code 27 = .ok (.ifCond .ne 19, 3) := by decide +kernel
theorem d_14_27_46 : decode prog_14_method_27_code 46 = .ok (.iload_n 1, 1) := by decide +kernel
theorem d_14_27_47 : decode prog_14_method_27_code 47 = .ok (.iconst 1, 1) := by decide +kernel
theorem d_14_27_48 : decode prog_14_method_27_code 48 = .ok (.if_icmp .ne 19, 3) := by decide +kernel
theorem d_14_27_67 : decode prog_14_method_27_code 67 = .ok (.aload_n 0, 1) := by decide +kernel
theorem d_14_27_68 : decode prog_14_method_27_code 68 = .ok (.getfield 26, 3) := by decide +kernel
theorem d_14_27_71 : decode prog_14_method_27_code 71 = .ok (.iload_n 2, 1) := by decide +kernel
theorem d_14_27_72 : decode prog_14_method_27_code 72 = .ok (.iload_n 3, 1) := by decide +kernel
theorem d_14_27_73 : decode prog_14_method_27_code 73 = .ok (.iload 4, 2) := by decide +kernel
theorem d_14_27_75 : decode prog_14_method_27_code 75 = .ok (.iload 5, 2) := by decide +kernel
theorem d_14_27_77 : decode prog_14_method_27_code 77 = .ok (.invokevirtual 225, 3) := by decide +kernel
theorem w_2910 : (Cond.code ({ cls := "NumberHouseModel$DecimalRows", name := "root", desc := "(IIII)V" } : MethodName) prog_15_method_42_code (11 : Nat) (none : Option ClassFile.FieldType)) ∈ q_tbl := q_of 2910 (by decide +kernel) (by decide +kernel)
theorem w_2907 : (Cond.methodLink "NumberHouseModel" (225 : Nat) ({ cls := "NumberHouseModel$DecimalRows", name := "root", desc := "(IIII)V" } : MethodName)) ∈ q_tbl := q_of 2907 (by decide +kernel) (by decide +kernel)
theorem w_2908 : (Cond.instanceMethod ({ cls := "NumberHouseModel$DecimalRows", name := "root", desc := "(IIII)V" } : MethodName)) ∈ q_tbl := q_of 2908 (by decide +kernel) (by decide +kernel)
theorem w_2909 : (Cond.selects "NumberHouseModel$DecimalRows" ({ cls := "NumberHouseModel$DecimalRows", name := "root", desc := "(IIII)V" } : MethodName) ({ cls := "NumberHouseModel$DecimalRows", name := "root", desc := "(IIII)V" } : MethodName)) ∈ q_tbl := q_of 2909 (by decide +kernel) (by decide +kernel)
theorem LV_NM_225 : q_LV "NumberHouseModel" 225 y_DR_root prog_15_method_42_code 11 none 4 := ⟨w_2910, w_16, w_2907, w_2908, w_2909, ⟨by decide, by decide, by decide +kernel⟩⟩
theorem d_14_27_80 : decode prog_14_method_27_code 80 = .ok (.aload_n 0, 1) := by decide +kernel
theorem d_14_27_81 : decode prog_14_method_27_code 81 = .ok (.aload_n 0, 1) := by decide +kernel
theorem d_14_27_82 : decode prog_14_method_27_code 82 = .ok (.getfield 26, 3) := by decide +kernel
theorem d_14_27_85 : decode prog_14_method_27_code 85 = .ok (.getfield 105, 3) := by decide +kernel
theorem d_14_27_88 : decode prog_14_method_27_code 88 = .ok (.putfield 58, 3) := by decide +kernel
theorem d_14_27_91 : decode prog_14_method_27_code 91 = .ok (.return_, 1) := by decide +kernel
theorem d_14_27_51 : decode prog_14_method_27_code 51 = .ok (.aload_n 0, 1) := by decide +kernel
theorem d_14_27_52 : decode prog_14_method_27_code 52 = .ok (.getfield 26, 3) := by decide +kernel
theorem d_14_27_55 : decode prog_14_method_27_code 55 = .ok (.iload_n 2, 1) := by decide +kernel
theorem d_14_27_56 : decode prog_14_method_27_code 56 = .ok (.iload_n 3, 1) := by decide +kernel
theorem d_14_27_57 : decode prog_14_method_27_code 57 = .ok (.iload 4, 2) := by decide +kernel
theorem d_14_27_59 : decode prog_14_method_27_code 59 = .ok (.iload 5, 2) := by decide +kernel
theorem d_14_27_61 : decode prog_14_method_27_code 61 = .ok (.invokevirtual 222, 3) := by decide +kernel
theorem w_2906 : (Cond.code ({ cls := "NumberHouseModel$DecimalRows", name := "round", desc := "(IIII)V" } : MethodName) prog_15_method_44_code (5 : Nat) (none : Option ClassFile.FieldType)) ∈ q_tbl := q_of 2906 (by decide +kernel) (by decide +kernel)
theorem w_2903 : (Cond.methodLink "NumberHouseModel" (222 : Nat) ({ cls := "NumberHouseModel$DecimalRows", name := "round", desc := "(IIII)V" } : MethodName)) ∈ q_tbl := q_of 2903 (by decide +kernel) (by decide +kernel)
theorem w_2904 : (Cond.instanceMethod ({ cls := "NumberHouseModel$DecimalRows", name := "round", desc := "(IIII)V" } : MethodName)) ∈ q_tbl := q_of 2904 (by decide +kernel) (by decide +kernel)
theorem w_2905 : (Cond.selects "NumberHouseModel$DecimalRows" ({ cls := "NumberHouseModel$DecimalRows", name := "round", desc := "(IIII)V" } : MethodName) ({ cls := "NumberHouseModel$DecimalRows", name := "round", desc := "(IIII)V" } : MethodName)) ∈ q_tbl := q_of 2905 (by decide +kernel) (by decide +kernel)
theorem LV_NM_222 : q_LV "NumberHouseModel" 222 y_DR_round prog_15_method_44_code 5 none 4 := ⟨w_2906, w_16, w_2903, w_2904, w_2905, ⟨by decide, by decide, by decide +kernel⟩⟩
theorem d_14_27_64 : decode prog_14_method_27_code 64 = .ok (.goto 16, 3) := by decide +kernel
theorem d_14_27_30 : decode prog_14_method_27_code 30 = .ok (.aload_n 0, 1) := by decide +kernel
theorem d_14_27_31 : decode prog_14_method_27_code 31 = .ok (.getfield 26, 3) := by decide +kernel
theorem d_14_27_34 : decode prog_14_method_27_code 34 = .ok (.iload_n 2, 1) := by decide +kernel
theorem d_14_27_35 : decode prog_14_method_27_code 35 = .ok (.iload_n 3, 1) := by decide +kernel
theorem d_14_27_36 : decode prog_14_method_27_code 36 = .ok (.iload 4, 2) := by decide +kernel
theorem d_14_27_38 : decode prog_14_method_27_code 38 = .ok (.iload 5, 2) := by decide +kernel
theorem d_14_27_40 : decode prog_14_method_27_code 40 = .ok (.invokevirtual 219, 3) := by decide +kernel
theorem w_2902 : (Cond.code ({ cls := "NumberHouseModel$DecimalRows", name := "toScale", desc := "(IIII)V" } : MethodName) prog_15_method_43_code (5 : Nat) (none : Option ClassFile.FieldType)) ∈ q_tbl := q_of 2902 (by decide +kernel) (by decide +kernel)
theorem w_2899 : (Cond.methodLink "NumberHouseModel" (219 : Nat) ({ cls := "NumberHouseModel$DecimalRows", name := "toScale", desc := "(IIII)V" } : MethodName)) ∈ q_tbl := q_of 2899 (by decide +kernel) (by decide +kernel)
theorem w_2900 : (Cond.instanceMethod ({ cls := "NumberHouseModel$DecimalRows", name := "toScale", desc := "(IIII)V" } : MethodName)) ∈ q_tbl := q_of 2900 (by decide +kernel) (by decide +kernel)
theorem w_2901 : (Cond.selects "NumberHouseModel$DecimalRows" ({ cls := "NumberHouseModel$DecimalRows", name := "toScale", desc := "(IIII)V" } : MethodName) ({ cls := "NumberHouseModel$DecimalRows", name := "toScale", desc := "(IIII)V" } : MethodName)) ∈ q_tbl := q_of 2901 (by decide +kernel) (by decide +kernel)
theorem LV_NM_219 : q_LV "NumberHouseModel" 219 y_DR_toScale prog_15_method_43_code 5 none 4 := ⟨w_2902, w_16, w_2899, w_2900, w_2901, ⟨by decide, by decide, by decide +kernel⟩⟩
theorem d_14_27_43 : decode prog_14_method_27_code 43 = .ok (.goto 37, 3) := by decide +kernel
def y_NM_shape : MethodName := ⟨"NumberHouseModel", "shape", "(IIIII)V"⟩
set_option maxRecDepth 100000 in
set_option maxHeartbeats 4000000 in
/-- shape on a fresh object -/
theorem c_NM_shape (l : Launch) (D : va_G) (g : Nat → ClassId) (ws : va_W) ( qO0 qA1 qA2 qO3 qO4 qO5 qO6 qO7 qA8 qA9 qA24 qA25 qA26 qA27 qA28 qA29 qA30 qA31 qA32 qA33 : Nat) (x1 : Int32) (x2 : Int32) (x3 : Int32) (x4 : Int32) (x5 : Int32) (hO0 : ws[116]? = (some (qO0, .inr (12, [.int 0, .ref qA1, .int 0, .ref qA2, .int 0, .ref qO3, .ref qO4, .ref qO5, .ref qO6, .ref qO7, .ref qA8, .ref qA9])) : Option (Nat × va_E))) (hO4 : ws[134]? = (some (qO4, .inr (14, [.int 0, .ref qA24, .int 0, .ref qA25, .ref qA26, .ref qA27, .ref qA28, .ref qA29, .int 0, .long 0, .int 0, .int 0, .ref qA30, .int 0, .ref qA31, .int 0, .ref qA32, .int 0, .ref qA33, .int 0, .int 0])) : Option (Nat × va_E))) (hA25 : ws[136]? = (some (qA25, .inl (g 0, 10000, .inl (fun _ => 0))) : Option (Nat × va_E))) (hA26 : ws[137]? = (some (qA26, .inl (g 0, 10, .inl (upd (upd (upd (upd (upd (upd (upd (upd (upd (upd (fun _ => 0) 0 1) 1 1) 2 1) 3 1) 4 1) 5 1) 6 1) 7 1) 8 1) 9 1))) : Option (Nat × va_E))) (hA27 : ws[138]? = (some (qA27, .inl (g 3, 10, .inl (fun _ => 0))) : Option (Nat × va_E))) (hA28 : ws[139]? = (some (qA28, .inl (g 0, 10, .inl (fun _ => 0))) : Option (Nat × va_E))) (hA29 : ws[140]? = (some (qA29, .inl (g 0, 4400, .inl (fun _ => 0))) : Option (Nat × va_E))) : q_mV l y_NM_shape prog_14_method_27_code 6 5 0 0 D g [.ref qO0, .int x1, .int x2, .int x3, .int x4, .int x5] ws (fun u => ∃ (t0 z2 z4 : Int32), u[116]? = (some (qO0, .inr (12, [.int t0, .ref qA1, .int z2, .ref qA2, .int z4, .ref qO3, .ref qO4, .ref qO5, .ref qO6, .ref qO7, .ref qA8, .ref qA9])) : Option (Nat × va_E)) ∧ ((t0.toInt = 0 ∧ ((0 ≤ x1.toInt ∧ x1.toInt ≤ 2) ∧ (0 ≤ x2.toInt ∧ x2.toInt ≤ 9) ∧ (0 ≤ x3.toInt ∧ x3.toInt ≤ 9) ∧ (0 ≤ x5.toInt ∧ x5.toInt ≤ 7) ∧ (x1.toInt = 0 → ((-10000) ≤ x4.toInt ∧ x4.toInt ≤ 10000)) ∧ (x1.toInt ≠ 0 → (1 ≤ x4.toInt ∧ x4.toInt ≤ 1000)))) ∨ (t0.toInt = 1 ∧ ¬ ((0 ≤ x1.toInt ∧ x1.toInt ≤ 2) ∧ (0 ≤ x2.toInt ∧ x2.toInt ≤ 9) ∧ (0 ≤ x3.toInt ∧ x3.toInt ≤ 9) ∧ (0 ≤ x5.toInt ∧ x5.toInt ≤ 7) ∧ (x1.toInt = 0 → ((-10000) ≤ x4.toInt ∧ x4.toInt ≤ 10000)) ∧ (x1.toInt ≠ 0 → (1 ≤ x4.toInt ∧ x4.toInt ≤ 1000))))) ∧ q_ge 169 ws u) := by
  intro sz
  refine q_into (by decide) (Nat.le_of_ble_eq_true rfl) ?_
  intro p e s m below meth c ls hsz C0 V hl
  have hx := C0.1
  have hb := C0.2.1
  have hl : lv_has ls 6 [(0, .ref qO0), (1, .int x1), (2, .int x2), (3, .int x3), (4, .int x4), (5, .int x5)] := hl
  have hF : q_ge 169 ws ws := q_g0
  refine lv_aload_n hx hb d_14_27_0 rfl (lv_at hl 0 rfl) ?_
  refine lv_iload_n hx hb d_14_27_1 rfl (lv_at hl 1 rfl) ?_
  refine lv_if_lt (tgt := 10) hx hb d_14_27_2 (by decide) (fun c1 => ?_) (fun c1 => ?_)
  ·
    refine lv_iconst (v := 1) hx hb d_14_27_10 (by decide) ?_
    refine lv_goto (tgt := 15) hx hb d_14_27_11 (by decide) ?_
    refine q_put (ci := 12) (j := 0) (v := .int 1) (ty := .int) C0 V i_NM o_NM n_NM rfl rfl hO0 (by decide) w_2298 rfl rfl rfl rfl (Nat.le_of_ble_eq_true rfl) d_14_27_15 (fun H locs w2 hu3 hO0 V => ?_)
    replace hO0 : w2[116]? = (some (qO0, .inr (12, [.int 1, .ref qA1, .int 0, .ref qA2, .int 0, .ref qO3, .ref qO4, .ref qO5, .ref qO6, .ref qO7, .ref qA8, .ref qA9])) : Option (Nat × va_E)) := hO0
    replace hF := q_gs hF hu3 (Nat.le_of_ble_eq_true rfl)
    refine lv_aload_n hx hb d_14_27_18 rfl (lv_at hl 0 rfl) ?_
    refine q_get (ci := 12) (j := 0) (v := .int 1) C0 V i_NM rfl rfl hO0 (by decide) w_2298 rfl d_14_27_19 ?_
    refine lv_if_le (tgt := 26) hx hb d_14_27_22 (by decide) (fun c4 => absurd c4 (by decide)) (fun c4 => ?_)
    exact q_retv C0 V (⟨1, 0, 0, hO0, (show ((1 : Int32).toInt = 0 ∧ ((0 ≤ x1.toInt ∧ x1.toInt ≤ 2) ∧ (0 ≤ x2.toInt ∧ x2.toInt ≤ 9) ∧ (0 ≤ x3.toInt ∧ x3.toInt ≤ 9) ∧ (0 ≤ x5.toInt ∧ x5.toInt ≤ 7) ∧ (x1.toInt = 0 → ((-10000) ≤ x4.toInt ∧ x4.toInt ≤ 10000)) ∧ (x1.toInt ≠ 0 → (1 ≤ x4.toInt ∧ x4.toInt ≤ 1000)))) ∨ ((1 : Int32).toInt = 1 ∧ ¬ ((0 ≤ x1.toInt ∧ x1.toInt ≤ 2) ∧ (0 ≤ x2.toInt ∧ x2.toInt ≤ 9) ∧ (0 ≤ x3.toInt ∧ x3.toInt ≤ 9) ∧ (0 ≤ x5.toInt ∧ x5.toInt ≤ 7) ∧ (x1.toInt = 0 → ((-10000) ≤ x4.toInt ∧ x4.toInt ≤ 10000)) ∧ (x1.toInt ≠ 0 → (1 ≤ x4.toInt ∧ x4.toInt ≤ 1000)))) from by have t1 : x1.toInt < 0 := q_ltI c1; have e0 : (1 : Int32).toInt = 1 := (by decide); omega), hF⟩) d_14_27_25
  ·
    refine lv_iload_n hx hb d_14_27_5 rfl (lv_at hl 1 rfl) ?_
    refine lv_iconst (v := 2) hx hb d_14_27_6 (by decide) ?_
    refine lv_icmp_le (tgt := 14) hx hb d_14_27_7 (by decide) (fun c5 => ?_) (fun c5 => ?_)
    ·
      refine lv_iconst (v := 0) hx hb d_14_27_14 (by decide) ?_
      refine q_put (ci := 12) (j := 0) (v := .int 0) (ty := .int) C0 V i_NM o_NM n_NM rfl rfl hO0 (by decide) w_2298 rfl rfl rfl rfl (Nat.le_of_ble_eq_true rfl) d_14_27_15 (fun H locs w6 hu7 hO0 V => ?_)
      replace hO0 : w6[116]? = (some (qO0, .inr (12, [.int 0, .ref qA1, .int 0, .ref qA2, .int 0, .ref qO3, .ref qO4, .ref qO5, .ref qO6, .ref qO7, .ref qA8, .ref qA9])) : Option (Nat × va_E)) := hO0
      replace hF := q_gs hF hu7 (Nat.le_of_ble_eq_true rfl)
      refine lv_aload_n hx hb d_14_27_18 rfl (lv_at hl 0 rfl) ?_
      refine q_get (ci := 12) (j := 0) (v := .int 0) C0 V i_NM rfl rfl hO0 (by decide) w_2298 rfl d_14_27_19 ?_
      refine lv_if_le (tgt := 26) hx hb d_14_27_22 (by decide) (fun c8 => ?_) (fun c8 => absurd (by decide) c8)
      refine lv_iload_n hx hb d_14_27_26 rfl (lv_at hl 1 rfl) ?_
      refine lv_if_ne (tgt := 46) hx hb d_14_27_27 (by decide) (fun c9 => ?_) (fun c9 => ?_)
      ·
        refine lv_iload_n hx hb d_14_27_46 rfl (lv_at hl 1 rfl) ?_
        refine lv_iconst (v := 1) hx hb d_14_27_47 (by decide) ?_
        refine lv_icmp_ne (tgt := 67) hx hb d_14_27_48 (by decide) (fun c10 => ?_) (fun c10 => ?_)
        ·
          refine lv_aload_n hx hb d_14_27_67 rfl (lv_at hl 0 rfl) ?_
          refine q_get (ci := 12) (j := 6) (v := .ref qO4) C0 V i_NM rfl rfl hO0 (by decide) w_2304 rfl d_14_27_68 ?_
          refine lv_iload_n hx hb d_14_27_71 rfl (lv_at hl 2 rfl) ?_
          refine lv_iload_n hx hb d_14_27_72 rfl (lv_at hl 3 rfl) ?_
          refine lv_iload hx hb d_14_27_73 (lv_at hl 4 rfl) ?_
          refine lv_iload hx hb d_14_27_75 (lv_at hl 5 rfl) ?_
          replace hO4 := (hu7 _ (q_pd 134 116 rfl)).trans (hO4)
          replace hA25 := (hu7 _ (q_pd 136 116 rfl)).trans (hA25)
          replace hA26 := (hu7 _ (q_pd 137 116 rfl)).trans (hA26)
          replace hA27 := (hu7 _ (q_pd 138 116 rfl)).trans (hA27)
          replace hA28 := (hu7 _ (q_pd 139 116 rfl)).trans (hA28)
          replace hA29 := (hu7 _ (q_pd 140 116 rfl)).trans (hA29)
          refine q_gov V (q_runV (As := [.int x2, .int x3, .int x4, .int x5]) (rest := []) (d := 4) (mc := 0) (ms := 0) (ci := 14) C0 V rfl LV_NM_225 (c_DR_root l D g w6 134 136 137 138 139 140 qO4 qA24 qA25 qA26 qA27 qA28 qA29 qA30 qA31 qA32 qA33 x2 x3 x4 x5 hO4 hA25 hA26 hA27 hA28 hA29 (q_pd 136 137 rfl) (q_pd 136 138 rfl) (q_pd 136 139 rfl) (q_pd 136 140 rfl) (q_pd 137 138 rfl) (q_pd 137 139 rfl) (q_pd 137 140 rfl) (q_pd 138 139 rfl) (q_pd 138 140 rfl) (q_pd 139 140 rfl) _) rfl rfl hO4 rfl hl.1 rfl (Nat.le_of_ble_eq_true rfl) ⟨by decide, by decide⟩ ⟨Nat.le_of_ble_eq_true rfl, Nat.le_of_ble_eq_true rfl⟩ d_14_27_77) (fun u12 H locs hp11 V => ?_)
          rcases hp11 with ⟨c13, hg14, hO4, hA25, hA26, hA27, hA28, hA29⟩ | ⟨c15, c16, c17, hg18, hO4, hA25, hA26, hA27, hA28, hA29⟩ | ⟨c19, c20, c21, c22, c23, hg24, hO4, hA25, hA26, hA27, hA28, hA29⟩ | ⟨c25, c26, c27, c28, c29, c30, c31, hg32, hO4, hA25, hA26, hA27, hA28, hA29⟩ | ⟨c33, c34, c35, c36, c37, c38, c39, c40, hg41, hO4, hA25, hA26, hA27, hA28, hA29⟩ | ⟨c42, c43, c44, c45, c46, c47, c48, c49, hg50, hO4, hA25, hA26, hA27, hA28, hA29⟩ | ⟨c51, c52, c53, c54, c55, c56, hg57, hO4, hA25, hA26, hA27, hA28, hA29⟩ | ⟨c58, c59, c60, c61, hg62, hO4, hA25, hA26, hA27, hA28, hA29⟩ | ⟨c63, c64, hg65, hO4, hA25, hA26, hA27, hA28, hA29⟩
          ·
            replace hF := q_gc hF hg14 (q_al (Nat.le_of_ble_eq_true rfl) (q_al (Nat.le_of_ble_eq_true rfl) (q_al (Nat.le_of_ble_eq_true rfl) (q_al (Nat.le_of_ble_eq_true rfl) (q_al (Nat.le_of_ble_eq_true rfl) (q_al (Nat.le_of_ble_eq_true rfl) (fun _ h => absurd h List.not_mem_nil)))))))
            refine lv_aload_n hx hb d_14_27_80 rfl (lv_at hl 0 rfl) ?_
            refine lv_aload_n hx hb d_14_27_81 rfl (lv_at hl 0 rfl) ?_
            replace hO0 := (hg14 _ (q_nc (q_pd 116 134 rfl) (q_nc (q_pd 116 136 rfl) (q_nc (q_pd 116 137 rfl) (q_nc (q_pd 116 138 rfl) (q_nc (q_pd 116 139 rfl) (q_nc (q_pd 116 140 rfl) List.not_mem_nil))))))).trans (hO0)
            refine q_get (ci := 12) (j := 6) (v := .ref qO4) C0 V i_NM rfl rfl hO0 (by decide) w_2304 rfl d_14_27_82 ?_
            refine q_getN (ci := 14) (j := 0) (v := .int 1) C0 V i_DR rfl rfl hO4 (by decide) wo_1997 rfl d_14_27_85 ?_
            refine q_put (ci := 12) (j := 0) (v := .int 1) (ty := .int) C0 V i_NM o_NM n_NM rfl rfl hO0 (by decide) w_2298 rfl rfl rfl rfl (Nat.le_of_ble_eq_true rfl) d_14_27_88 (fun H locs w66 hu67 hO0 V => ?_)
            replace hO0 : w66[116]? = (some (qO0, .inr (12, [.int 1, .ref qA1, .int 0, .ref qA2, .int 0, .ref qO3, .ref qO4, .ref qO5, .ref qO6, .ref qO7, .ref qA8, .ref qA9])) : Option (Nat × va_E)) := hO0
            replace hF := q_gs hF hu67 (Nat.le_of_ble_eq_true rfl)
            exact q_retv C0 V (⟨1, 0, 0, hO0, (show ((1 : Int32).toInt = 0 ∧ ((0 ≤ x1.toInt ∧ x1.toInt ≤ 2) ∧ (0 ≤ x2.toInt ∧ x2.toInt ≤ 9) ∧ (0 ≤ x3.toInt ∧ x3.toInt ≤ 9) ∧ (0 ≤ x5.toInt ∧ x5.toInt ≤ 7) ∧ (x1.toInt = 0 → ((-10000) ≤ x4.toInt ∧ x4.toInt ≤ 10000)) ∧ (x1.toInt ≠ 0 → (1 ≤ x4.toInt ∧ x4.toInt ≤ 1000)))) ∨ ((1 : Int32).toInt = 1 ∧ ¬ ((0 ≤ x1.toInt ∧ x1.toInt ≤ 2) ∧ (0 ≤ x2.toInt ∧ x2.toInt ≤ 9) ∧ (0 ≤ x3.toInt ∧ x3.toInt ≤ 9) ∧ (0 ≤ x5.toInt ∧ x5.toInt ≤ 7) ∧ (x1.toInt = 0 → ((-10000) ≤ x4.toInt ∧ x4.toInt ≤ 10000)) ∧ (x1.toInt ≠ 0 → (1 ≤ x4.toInt ∧ x4.toInt ≤ 1000)))) from by have t1 : 0 ≤ x1.toInt := q_nltI c1; have t2 : x1.toInt ≤ 2 := q_leI c5; have t3 : x1.toInt ≠ 0 := q_neI c9; have t4 : x1.toInt ≠ 1 := q_neI c10; have t5 : x2.toInt < 0 := q_ltI c13; have e0 : (1 : Int32).toInt = 1 := (by decide); omega), hF⟩) d_14_27_91
          ·
            replace hF := q_gc hF hg18 (q_al (Nat.le_of_ble_eq_true rfl) (q_al (Nat.le_of_ble_eq_true rfl) (q_al (Nat.le_of_ble_eq_true rfl) (q_al (Nat.le_of_ble_eq_true rfl) (q_al (Nat.le_of_ble_eq_true rfl) (q_al (Nat.le_of_ble_eq_true rfl) (fun _ h => absurd h List.not_mem_nil)))))))
            refine lv_aload_n hx hb d_14_27_80 rfl (lv_at hl 0 rfl) ?_
            refine lv_aload_n hx hb d_14_27_81 rfl (lv_at hl 0 rfl) ?_
            replace hO0 := (hg18 _ (q_nc (q_pd 116 134 rfl) (q_nc (q_pd 116 136 rfl) (q_nc (q_pd 116 137 rfl) (q_nc (q_pd 116 138 rfl) (q_nc (q_pd 116 139 rfl) (q_nc (q_pd 116 140 rfl) List.not_mem_nil))))))).trans (hO0)
            refine q_get (ci := 12) (j := 6) (v := .ref qO4) C0 V i_NM rfl rfl hO0 (by decide) w_2304 rfl d_14_27_82 ?_
            refine q_getN (ci := 14) (j := 0) (v := .int 1) C0 V i_DR rfl rfl hO4 (by decide) wo_1997 rfl d_14_27_85 ?_
            refine q_put (ci := 12) (j := 0) (v := .int 1) (ty := .int) C0 V i_NM o_NM n_NM rfl rfl hO0 (by decide) w_2298 rfl rfl rfl rfl (Nat.le_of_ble_eq_true rfl) d_14_27_88 (fun H locs w68 hu69 hO0 V => ?_)
            replace hO0 : w68[116]? = (some (qO0, .inr (12, [.int 1, .ref qA1, .int 0, .ref qA2, .int 0, .ref qO3, .ref qO4, .ref qO5, .ref qO6, .ref qO7, .ref qA8, .ref qA9])) : Option (Nat × va_E)) := hO0
            replace hF := q_gs hF hu69 (Nat.le_of_ble_eq_true rfl)
            exact q_retv C0 V (⟨1, 0, 0, hO0, (show ((1 : Int32).toInt = 0 ∧ ((0 ≤ x1.toInt ∧ x1.toInt ≤ 2) ∧ (0 ≤ x2.toInt ∧ x2.toInt ≤ 9) ∧ (0 ≤ x3.toInt ∧ x3.toInt ≤ 9) ∧ (0 ≤ x5.toInt ∧ x5.toInt ≤ 7) ∧ (x1.toInt = 0 → ((-10000) ≤ x4.toInt ∧ x4.toInt ≤ 10000)) ∧ (x1.toInt ≠ 0 → (1 ≤ x4.toInt ∧ x4.toInt ≤ 1000)))) ∨ ((1 : Int32).toInt = 1 ∧ ¬ ((0 ≤ x1.toInt ∧ x1.toInt ≤ 2) ∧ (0 ≤ x2.toInt ∧ x2.toInt ≤ 9) ∧ (0 ≤ x3.toInt ∧ x3.toInt ≤ 9) ∧ (0 ≤ x5.toInt ∧ x5.toInt ≤ 7) ∧ (x1.toInt = 0 → ((-10000) ≤ x4.toInt ∧ x4.toInt ≤ 10000)) ∧ (x1.toInt ≠ 0 → (1 ≤ x4.toInt ∧ x4.toInt ≤ 1000)))) from by have t1 : 0 ≤ x1.toInt := q_nltI c1; have t2 : x1.toInt ≤ 2 := q_leI c5; have t3 : x1.toInt ≠ 0 := q_neI c9; have t4 : x1.toInt ≠ 1 := q_neI c10; have t5 : 0 ≤ x2.toInt := q_nltI c15; have t6 : x2.toInt < 10 := q_ltI c16; have t7 : x3.toInt < 0 := q_ltI c17; have e0 : (1 : Int32).toInt = 1 := (by decide); omega), hF⟩) d_14_27_91
          ·
            replace hF := q_gc hF hg24 (q_al (Nat.le_of_ble_eq_true rfl) (q_al (Nat.le_of_ble_eq_true rfl) (q_al (Nat.le_of_ble_eq_true rfl) (q_al (Nat.le_of_ble_eq_true rfl) (q_al (Nat.le_of_ble_eq_true rfl) (q_al (Nat.le_of_ble_eq_true rfl) (fun _ h => absurd h List.not_mem_nil)))))))
            refine lv_aload_n hx hb d_14_27_80 rfl (lv_at hl 0 rfl) ?_
            refine lv_aload_n hx hb d_14_27_81 rfl (lv_at hl 0 rfl) ?_
            replace hO0 := (hg24 _ (q_nc (q_pd 116 134 rfl) (q_nc (q_pd 116 136 rfl) (q_nc (q_pd 116 137 rfl) (q_nc (q_pd 116 138 rfl) (q_nc (q_pd 116 139 rfl) (q_nc (q_pd 116 140 rfl) List.not_mem_nil))))))).trans (hO0)
            refine q_get (ci := 12) (j := 6) (v := .ref qO4) C0 V i_NM rfl rfl hO0 (by decide) w_2304 rfl d_14_27_82 ?_
            refine q_getN (ci := 14) (j := 0) (v := .int 1) C0 V i_DR rfl rfl hO4 (by decide) wo_1997 rfl d_14_27_85 ?_
            refine q_put (ci := 12) (j := 0) (v := .int 1) (ty := .int) C0 V i_NM o_NM n_NM rfl rfl hO0 (by decide) w_2298 rfl rfl rfl rfl (Nat.le_of_ble_eq_true rfl) d_14_27_88 (fun H locs w70 hu71 hO0 V => ?_)
            replace hO0 : w70[116]? = (some (qO0, .inr (12, [.int 1, .ref qA1, .int 0, .ref qA2, .int 0, .ref qO3, .ref qO4, .ref qO5, .ref qO6, .ref qO7, .ref qA8, .ref qA9])) : Option (Nat × va_E)) := hO0
            replace hF := q_gs hF hu71 (Nat.le_of_ble_eq_true rfl)
            exact q_retv C0 V (⟨1, 0, 0, hO0, (show ((1 : Int32).toInt = 0 ∧ ((0 ≤ x1.toInt ∧ x1.toInt ≤ 2) ∧ (0 ≤ x2.toInt ∧ x2.toInt ≤ 9) ∧ (0 ≤ x3.toInt ∧ x3.toInt ≤ 9) ∧ (0 ≤ x5.toInt ∧ x5.toInt ≤ 7) ∧ (x1.toInt = 0 → ((-10000) ≤ x4.toInt ∧ x4.toInt ≤ 10000)) ∧ (x1.toInt ≠ 0 → (1 ≤ x4.toInt ∧ x4.toInt ≤ 1000)))) ∨ ((1 : Int32).toInt = 1 ∧ ¬ ((0 ≤ x1.toInt ∧ x1.toInt ≤ 2) ∧ (0 ≤ x2.toInt ∧ x2.toInt ≤ 9) ∧ (0 ≤ x3.toInt ∧ x3.toInt ≤ 9) ∧ (0 ≤ x5.toInt ∧ x5.toInt ≤ 7) ∧ (x1.toInt = 0 → ((-10000) ≤ x4.toInt ∧ x4.toInt ≤ 10000)) ∧ (x1.toInt ≠ 0 → (1 ≤ x4.toInt ∧ x4.toInt ≤ 1000)))) from by have t1 : 0 ≤ x1.toInt := q_nltI c1; have t2 : x1.toInt ≤ 2 := q_leI c5; have t3 : x1.toInt ≠ 0 := q_neI c9; have t4 : x1.toInt ≠ 1 := q_neI c10; have t5 : 0 ≤ x2.toInt := q_nltI c19; have t6 : x2.toInt < 10 := q_ltI c20; have t7 : 0 ≤ x3.toInt := q_nltI c21; have t8 : x3.toInt < 10 := q_ltI c22; have t9 : x5.toInt < 0 := q_ltI c23; have e0 : (1 : Int32).toInt = 1 := (by decide); omega), hF⟩) d_14_27_91
          ·
            replace hF := q_gc hF hg32 (q_al (Nat.le_of_ble_eq_true rfl) (q_al (Nat.le_of_ble_eq_true rfl) (q_al (Nat.le_of_ble_eq_true rfl) (q_al (Nat.le_of_ble_eq_true rfl) (q_al (Nat.le_of_ble_eq_true rfl) (q_al (Nat.le_of_ble_eq_true rfl) (fun _ h => absurd h List.not_mem_nil)))))))
            refine lv_aload_n hx hb d_14_27_80 rfl (lv_at hl 0 rfl) ?_
            refine lv_aload_n hx hb d_14_27_81 rfl (lv_at hl 0 rfl) ?_
            replace hO0 := (hg32 _ (q_nc (q_pd 116 134 rfl) (q_nc (q_pd 116 136 rfl) (q_nc (q_pd 116 137 rfl) (q_nc (q_pd 116 138 rfl) (q_nc (q_pd 116 139 rfl) (q_nc (q_pd 116 140 rfl) List.not_mem_nil))))))).trans (hO0)
            refine q_get (ci := 12) (j := 6) (v := .ref qO4) C0 V i_NM rfl rfl hO0 (by decide) w_2304 rfl d_14_27_82 ?_
            refine q_getN (ci := 14) (j := 0) (v := .int 1) C0 V i_DR rfl rfl hO4 (by decide) wo_1997 rfl d_14_27_85 ?_
            refine q_put (ci := 12) (j := 0) (v := .int 1) (ty := .int) C0 V i_NM o_NM n_NM rfl rfl hO0 (by decide) w_2298 rfl rfl rfl rfl (Nat.le_of_ble_eq_true rfl) d_14_27_88 (fun H locs w72 hu73 hO0 V => ?_)
            replace hO0 : w72[116]? = (some (qO0, .inr (12, [.int 1, .ref qA1, .int 0, .ref qA2, .int 0, .ref qO3, .ref qO4, .ref qO5, .ref qO6, .ref qO7, .ref qA8, .ref qA9])) : Option (Nat × va_E)) := hO0
            replace hF := q_gs hF hu73 (Nat.le_of_ble_eq_true rfl)
            exact q_retv C0 V (⟨1, 0, 0, hO0, (show ((1 : Int32).toInt = 0 ∧ ((0 ≤ x1.toInt ∧ x1.toInt ≤ 2) ∧ (0 ≤ x2.toInt ∧ x2.toInt ≤ 9) ∧ (0 ≤ x3.toInt ∧ x3.toInt ≤ 9) ∧ (0 ≤ x5.toInt ∧ x5.toInt ≤ 7) ∧ (x1.toInt = 0 → ((-10000) ≤ x4.toInt ∧ x4.toInt ≤ 10000)) ∧ (x1.toInt ≠ 0 → (1 ≤ x4.toInt ∧ x4.toInt ≤ 1000)))) ∨ ((1 : Int32).toInt = 1 ∧ ¬ ((0 ≤ x1.toInt ∧ x1.toInt ≤ 2) ∧ (0 ≤ x2.toInt ∧ x2.toInt ≤ 9) ∧ (0 ≤ x3.toInt ∧ x3.toInt ≤ 9) ∧ (0 ≤ x5.toInt ∧ x5.toInt ≤ 7) ∧ (x1.toInt = 0 → ((-10000) ≤ x4.toInt ∧ x4.toInt ≤ 10000)) ∧ (x1.toInt ≠ 0 → (1 ≤ x4.toInt ∧ x4.toInt ≤ 1000)))) from by have t1 : 0 ≤ x1.toInt := q_nltI c1; have t2 : x1.toInt ≤ 2 := q_leI c5; have t3 : x1.toInt ≠ 0 := q_neI c9; have t4 : x1.toInt ≠ 1 := q_neI c10; have t5 : 0 ≤ x2.toInt := q_nltI c25; have t6 : x2.toInt < 10 := q_ltI c26; have t7 : 0 ≤ x3.toInt := q_nltI c27; have t8 : x3.toInt < 10 := q_ltI c28; have t9 : 0 ≤ x5.toInt := q_nltI c29; have t10 : x5.toInt ≤ 7 := q_leI c30; have t11 : x4.toInt < 1 := q_ltI c31; have e0 : (1 : Int32).toInt = 1 := (by decide); omega), hF⟩) d_14_27_91
          ·
            replace hF := q_gc hF hg41 (q_al (Nat.le_of_ble_eq_true rfl) (q_al (Nat.le_of_ble_eq_true rfl) (q_al (Nat.le_of_ble_eq_true rfl) (q_al (Nat.le_of_ble_eq_true rfl) (q_al (Nat.le_of_ble_eq_true rfl) (q_al (Nat.le_of_ble_eq_true rfl) (fun _ h => absurd h List.not_mem_nil)))))))
            refine lv_aload_n hx hb d_14_27_80 rfl (lv_at hl 0 rfl) ?_
            refine lv_aload_n hx hb d_14_27_81 rfl (lv_at hl 0 rfl) ?_
            replace hO0 := (hg41 _ (q_nc (q_pd 116 134 rfl) (q_nc (q_pd 116 136 rfl) (q_nc (q_pd 116 137 rfl) (q_nc (q_pd 116 138 rfl) (q_nc (q_pd 116 139 rfl) (q_nc (q_pd 116 140 rfl) List.not_mem_nil))))))).trans (hO0)
            refine q_get (ci := 12) (j := 6) (v := .ref qO4) C0 V i_NM rfl rfl hO0 (by decide) w_2304 rfl d_14_27_82 ?_
            refine q_getN (ci := 14) (j := 0) (v := .int 0) C0 V i_DR rfl rfl hO4 (by decide) wo_1997 rfl d_14_27_85 ?_
            refine q_put (ci := 12) (j := 0) (v := .int 0) (ty := .int) C0 V i_NM o_NM n_NM rfl rfl hO0 (by decide) w_2298 rfl rfl rfl rfl (Nat.le_of_ble_eq_true rfl) d_14_27_88 (fun H locs w74 hu75 hO0 V => ?_)
            replace hO0 : w74[116]? = (some (qO0, .inr (12, [.int 0, .ref qA1, .int 0, .ref qA2, .int 0, .ref qO3, .ref qO4, .ref qO5, .ref qO6, .ref qO7, .ref qA8, .ref qA9])) : Option (Nat × va_E)) := hO0
            replace hF := q_gs hF hu75 (Nat.le_of_ble_eq_true rfl)
            exact q_retv C0 V (⟨0, 0, 0, hO0, (show ((0 : Int32).toInt = 0 ∧ ((0 ≤ x1.toInt ∧ x1.toInt ≤ 2) ∧ (0 ≤ x2.toInt ∧ x2.toInt ≤ 9) ∧ (0 ≤ x3.toInt ∧ x3.toInt ≤ 9) ∧ (0 ≤ x5.toInt ∧ x5.toInt ≤ 7) ∧ (x1.toInt = 0 → ((-10000) ≤ x4.toInt ∧ x4.toInt ≤ 10000)) ∧ (x1.toInt ≠ 0 → (1 ≤ x4.toInt ∧ x4.toInt ≤ 1000)))) ∨ ((0 : Int32).toInt = 1 ∧ ¬ ((0 ≤ x1.toInt ∧ x1.toInt ≤ 2) ∧ (0 ≤ x2.toInt ∧ x2.toInt ≤ 9) ∧ (0 ≤ x3.toInt ∧ x3.toInt ≤ 9) ∧ (0 ≤ x5.toInt ∧ x5.toInt ≤ 7) ∧ (x1.toInt = 0 → ((-10000) ≤ x4.toInt ∧ x4.toInt ≤ 10000)) ∧ (x1.toInt ≠ 0 → (1 ≤ x4.toInt ∧ x4.toInt ≤ 1000)))) from by have t1 : 0 ≤ x1.toInt := q_nltI c1; have t2 : x1.toInt ≤ 2 := q_leI c5; have t3 : x1.toInt ≠ 0 := q_neI c9; have t4 : x1.toInt ≠ 1 := q_neI c10; have t5 : 0 ≤ x2.toInt := q_nltI c33; have t6 : x2.toInt < 10 := q_ltI c34; have t7 : 0 ≤ x3.toInt := q_nltI c35; have t8 : x3.toInt < 10 := q_ltI c36; have t9 : 0 ≤ x5.toInt := q_nltI c37; have t10 : x5.toInt ≤ 7 := q_leI c38; have t11 : 1 ≤ x4.toInt := q_nltI c39; have t12 : x4.toInt ≤ 1000 := q_leI c40; have e0 : (0 : Int32).toInt = 0 := (by decide); omega), hF⟩) d_14_27_91
          ·
            replace hF := q_gc hF hg50 (q_al (Nat.le_of_ble_eq_true rfl) (q_al (Nat.le_of_ble_eq_true rfl) (q_al (Nat.le_of_ble_eq_true rfl) (q_al (Nat.le_of_ble_eq_true rfl) (q_al (Nat.le_of_ble_eq_true rfl) (q_al (Nat.le_of_ble_eq_true rfl) (fun _ h => absurd h List.not_mem_nil)))))))
            refine lv_aload_n hx hb d_14_27_80 rfl (lv_at hl 0 rfl) ?_
            refine lv_aload_n hx hb d_14_27_81 rfl (lv_at hl 0 rfl) ?_
            replace hO0 := (hg50 _ (q_nc (q_pd 116 134 rfl) (q_nc (q_pd 116 136 rfl) (q_nc (q_pd 116 137 rfl) (q_nc (q_pd 116 138 rfl) (q_nc (q_pd 116 139 rfl) (q_nc (q_pd 116 140 rfl) List.not_mem_nil))))))).trans (hO0)
            refine q_get (ci := 12) (j := 6) (v := .ref qO4) C0 V i_NM rfl rfl hO0 (by decide) w_2304 rfl d_14_27_82 ?_
            refine q_getN (ci := 14) (j := 0) (v := .int 1) C0 V i_DR rfl rfl hO4 (by decide) wo_1997 rfl d_14_27_85 ?_
            refine q_put (ci := 12) (j := 0) (v := .int 1) (ty := .int) C0 V i_NM o_NM n_NM rfl rfl hO0 (by decide) w_2298 rfl rfl rfl rfl (Nat.le_of_ble_eq_true rfl) d_14_27_88 (fun H locs w76 hu77 hO0 V => ?_)
            replace hO0 : w76[116]? = (some (qO0, .inr (12, [.int 1, .ref qA1, .int 0, .ref qA2, .int 0, .ref qO3, .ref qO4, .ref qO5, .ref qO6, .ref qO7, .ref qA8, .ref qA9])) : Option (Nat × va_E)) := hO0
            replace hF := q_gs hF hu77 (Nat.le_of_ble_eq_true rfl)
            exact q_retv C0 V (⟨1, 0, 0, hO0, (show ((1 : Int32).toInt = 0 ∧ ((0 ≤ x1.toInt ∧ x1.toInt ≤ 2) ∧ (0 ≤ x2.toInt ∧ x2.toInt ≤ 9) ∧ (0 ≤ x3.toInt ∧ x3.toInt ≤ 9) ∧ (0 ≤ x5.toInt ∧ x5.toInt ≤ 7) ∧ (x1.toInt = 0 → ((-10000) ≤ x4.toInt ∧ x4.toInt ≤ 10000)) ∧ (x1.toInt ≠ 0 → (1 ≤ x4.toInt ∧ x4.toInt ≤ 1000)))) ∨ ((1 : Int32).toInt = 1 ∧ ¬ ((0 ≤ x1.toInt ∧ x1.toInt ≤ 2) ∧ (0 ≤ x2.toInt ∧ x2.toInt ≤ 9) ∧ (0 ≤ x3.toInt ∧ x3.toInt ≤ 9) ∧ (0 ≤ x5.toInt ∧ x5.toInt ≤ 7) ∧ (x1.toInt = 0 → ((-10000) ≤ x4.toInt ∧ x4.toInt ≤ 10000)) ∧ (x1.toInt ≠ 0 → (1 ≤ x4.toInt ∧ x4.toInt ≤ 1000)))) from by have t1 : 0 ≤ x1.toInt := q_nltI c1; have t2 : x1.toInt ≤ 2 := q_leI c5; have t3 : x1.toInt ≠ 0 := q_neI c9; have t4 : x1.toInt ≠ 1 := q_neI c10; have t5 : 0 ≤ x2.toInt := q_nltI c42; have t6 : x2.toInt < 10 := q_ltI c43; have t7 : 0 ≤ x3.toInt := q_nltI c44; have t8 : x3.toInt < 10 := q_ltI c45; have t9 : 0 ≤ x5.toInt := q_nltI c46; have t10 : x5.toInt ≤ 7 := q_leI c47; have t11 : 1 ≤ x4.toInt := q_nltI c48; have t12 : 1000 < x4.toInt := q_nleI c49; have e0 : (1 : Int32).toInt = 1 := (by decide); omega), hF⟩) d_14_27_91
          ·
            replace hF := q_gc hF hg57 (q_al (Nat.le_of_ble_eq_true rfl) (q_al (Nat.le_of_ble_eq_true rfl) (q_al (Nat.le_of_ble_eq_true rfl) (q_al (Nat.le_of_ble_eq_true rfl) (q_al (Nat.le_of_ble_eq_true rfl) (q_al (Nat.le_of_ble_eq_true rfl) (fun _ h => absurd h List.not_mem_nil)))))))
            refine lv_aload_n hx hb d_14_27_80 rfl (lv_at hl 0 rfl) ?_
            refine lv_aload_n hx hb d_14_27_81 rfl (lv_at hl 0 rfl) ?_
            replace hO0 := (hg57 _ (q_nc (q_pd 116 134 rfl) (q_nc (q_pd 116 136 rfl) (q_nc (q_pd 116 137 rfl) (q_nc (q_pd 116 138 rfl) (q_nc (q_pd 116 139 rfl) (q_nc (q_pd 116 140 rfl) List.not_mem_nil))))))).trans (hO0)
            refine q_get (ci := 12) (j := 6) (v := .ref qO4) C0 V i_NM rfl rfl hO0 (by decide) w_2304 rfl d_14_27_82 ?_
            refine q_getN (ci := 14) (j := 0) (v := .int 1) C0 V i_DR rfl rfl hO4 (by decide) wo_1997 rfl d_14_27_85 ?_
            refine q_put (ci := 12) (j := 0) (v := .int 1) (ty := .int) C0 V i_NM o_NM n_NM rfl rfl hO0 (by decide) w_2298 rfl rfl rfl rfl (Nat.le_of_ble_eq_true rfl) d_14_27_88 (fun H locs w78 hu79 hO0 V => ?_)
            replace hO0 : w78[116]? = (some (qO0, .inr (12, [.int 1, .ref qA1, .int 0, .ref qA2, .int 0, .ref qO3, .ref qO4, .ref qO5, .ref qO6, .ref qO7, .ref qA8, .ref qA9])) : Option (Nat × va_E)) := hO0
            replace hF := q_gs hF hu79 (Nat.le_of_ble_eq_true rfl)
            exact q_retv C0 V (⟨1, 0, 0, hO0, (show ((1 : Int32).toInt = 0 ∧ ((0 ≤ x1.toInt ∧ x1.toInt ≤ 2) ∧ (0 ≤ x2.toInt ∧ x2.toInt ≤ 9) ∧ (0 ≤ x3.toInt ∧ x3.toInt ≤ 9) ∧ (0 ≤ x5.toInt ∧ x5.toInt ≤ 7) ∧ (x1.toInt = 0 → ((-10000) ≤ x4.toInt ∧ x4.toInt ≤ 10000)) ∧ (x1.toInt ≠ 0 → (1 ≤ x4.toInt ∧ x4.toInt ≤ 1000)))) ∨ ((1 : Int32).toInt = 1 ∧ ¬ ((0 ≤ x1.toInt ∧ x1.toInt ≤ 2) ∧ (0 ≤ x2.toInt ∧ x2.toInt ≤ 9) ∧ (0 ≤ x3.toInt ∧ x3.toInt ≤ 9) ∧ (0 ≤ x5.toInt ∧ x5.toInt ≤ 7) ∧ (x1.toInt = 0 → ((-10000) ≤ x4.toInt ∧ x4.toInt ≤ 10000)) ∧ (x1.toInt ≠ 0 → (1 ≤ x4.toInt ∧ x4.toInt ≤ 1000)))) from by have t1 : 0 ≤ x1.toInt := q_nltI c1; have t2 : x1.toInt ≤ 2 := q_leI c5; have t3 : x1.toInt ≠ 0 := q_neI c9; have t4 : x1.toInt ≠ 1 := q_neI c10; have t5 : 0 ≤ x2.toInt := q_nltI c51; have t6 : x2.toInt < 10 := q_ltI c52; have t7 : 0 ≤ x3.toInt := q_nltI c53; have t8 : x3.toInt < 10 := q_ltI c54; have t9 : 0 ≤ x5.toInt := q_nltI c55; have t10 : 7 < x5.toInt := q_nleI c56; have e0 : (1 : Int32).toInt = 1 := (by decide); omega), hF⟩) d_14_27_91
          ·
            replace hF := q_gc hF hg62 (q_al (Nat.le_of_ble_eq_true rfl) (q_al (Nat.le_of_ble_eq_true rfl) (q_al (Nat.le_of_ble_eq_true rfl) (q_al (Nat.le_of_ble_eq_true rfl) (q_al (Nat.le_of_ble_eq_true rfl) (q_al (Nat.le_of_ble_eq_true rfl) (fun _ h => absurd h List.not_mem_nil)))))))
            refine lv_aload_n hx hb d_14_27_80 rfl (lv_at hl 0 rfl) ?_
            refine lv_aload_n hx hb d_14_27_81 rfl (lv_at hl 0 rfl) ?_
            replace hO0 := (hg62 _ (q_nc (q_pd 116 134 rfl) (q_nc (q_pd 116 136 rfl) (q_nc (q_pd 116 137 rfl) (q_nc (q_pd 116 138 rfl) (q_nc (q_pd 116 139 rfl) (q_nc (q_pd 116 140 rfl) List.not_mem_nil))))))).trans (hO0)
            refine q_get (ci := 12) (j := 6) (v := .ref qO4) C0 V i_NM rfl rfl hO0 (by decide) w_2304 rfl d_14_27_82 ?_
            refine q_getN (ci := 14) (j := 0) (v := .int 1) C0 V i_DR rfl rfl hO4 (by decide) wo_1997 rfl d_14_27_85 ?_
            refine q_put (ci := 12) (j := 0) (v := .int 1) (ty := .int) C0 V i_NM o_NM n_NM rfl rfl hO0 (by decide) w_2298 rfl rfl rfl rfl (Nat.le_of_ble_eq_true rfl) d_14_27_88 (fun H locs w80 hu81 hO0 V => ?_)
            replace hO0 : w80[116]? = (some (qO0, .inr (12, [.int 1, .ref qA1, .int 0, .ref qA2, .int 0, .ref qO3, .ref qO4, .ref qO5, .ref qO6, .ref qO7, .ref qA8, .ref qA9])) : Option (Nat × va_E)) := hO0
            replace hF := q_gs hF hu81 (Nat.le_of_ble_eq_true rfl)
            exact q_retv C0 V (⟨1, 0, 0, hO0, (show ((1 : Int32).toInt = 0 ∧ ((0 ≤ x1.toInt ∧ x1.toInt ≤ 2) ∧ (0 ≤ x2.toInt ∧ x2.toInt ≤ 9) ∧ (0 ≤ x3.toInt ∧ x3.toInt ≤ 9) ∧ (0 ≤ x5.toInt ∧ x5.toInt ≤ 7) ∧ (x1.toInt = 0 → ((-10000) ≤ x4.toInt ∧ x4.toInt ≤ 10000)) ∧ (x1.toInt ≠ 0 → (1 ≤ x4.toInt ∧ x4.toInt ≤ 1000)))) ∨ ((1 : Int32).toInt = 1 ∧ ¬ ((0 ≤ x1.toInt ∧ x1.toInt ≤ 2) ∧ (0 ≤ x2.toInt ∧ x2.toInt ≤ 9) ∧ (0 ≤ x3.toInt ∧ x3.toInt ≤ 9) ∧ (0 ≤ x5.toInt ∧ x5.toInt ≤ 7) ∧ (x1.toInt = 0 → ((-10000) ≤ x4.toInt ∧ x4.toInt ≤ 10000)) ∧ (x1.toInt ≠ 0 → (1 ≤ x4.toInt ∧ x4.toInt ≤ 1000)))) from by have t1 : 0 ≤ x1.toInt := q_nltI c1; have t2 : x1.toInt ≤ 2 := q_leI c5; have t3 : x1.toInt ≠ 0 := q_neI c9; have t4 : x1.toInt ≠ 1 := q_neI c10; have t5 : 0 ≤ x2.toInt := q_nltI c58; have t6 : x2.toInt < 10 := q_ltI c59; have t7 : 0 ≤ x3.toInt := q_nltI c60; have t8 : 10 ≤ x3.toInt := q_nltI c61; have e0 : (1 : Int32).toInt = 1 := (by decide); omega), hF⟩) d_14_27_91
          ·
            replace hF := q_gc hF hg65 (q_al (Nat.le_of_ble_eq_true rfl) (q_al (Nat.le_of_ble_eq_true rfl) (q_al (Nat.le_of_ble_eq_true rfl) (q_al (Nat.le_of_ble_eq_true rfl) (q_al (Nat.le_of_ble_eq_true rfl) (q_al (Nat.le_of_ble_eq_true rfl) (fun _ h => absurd h List.not_mem_nil)))))))
            refine lv_aload_n hx hb d_14_27_80 rfl (lv_at hl 0 rfl) ?_
            refine lv_aload_n hx hb d_14_27_81 rfl (lv_at hl 0 rfl) ?_
            replace hO0 := (hg65 _ (q_nc (q_pd 116 134 rfl) (q_nc (q_pd 116 136 rfl) (q_nc (q_pd 116 137 rfl) (q_nc (q_pd 116 138 rfl) (q_nc (q_pd 116 139 rfl) (q_nc (q_pd 116 140 rfl) List.not_mem_nil))))))).trans (hO0)
            refine q_get (ci := 12) (j := 6) (v := .ref qO4) C0 V i_NM rfl rfl hO0 (by decide) w_2304 rfl d_14_27_82 ?_
            refine q_getN (ci := 14) (j := 0) (v := .int 1) C0 V i_DR rfl rfl hO4 (by decide) wo_1997 rfl d_14_27_85 ?_
            refine q_put (ci := 12) (j := 0) (v := .int 1) (ty := .int) C0 V i_NM o_NM n_NM rfl rfl hO0 (by decide) w_2298 rfl rfl rfl rfl (Nat.le_of_ble_eq_true rfl) d_14_27_88 (fun H locs w82 hu83 hO0 V => ?_)
            replace hO0 : w82[116]? = (some (qO0, .inr (12, [.int 1, .ref qA1, .int 0, .ref qA2, .int 0, .ref qO3, .ref qO4, .ref qO5, .ref qO6, .ref qO7, .ref qA8, .ref qA9])) : Option (Nat × va_E)) := hO0
            replace hF := q_gs hF hu83 (Nat.le_of_ble_eq_true rfl)
            exact q_retv C0 V (⟨1, 0, 0, hO0, (show ((1 : Int32).toInt = 0 ∧ ((0 ≤ x1.toInt ∧ x1.toInt ≤ 2) ∧ (0 ≤ x2.toInt ∧ x2.toInt ≤ 9) ∧ (0 ≤ x3.toInt ∧ x3.toInt ≤ 9) ∧ (0 ≤ x5.toInt ∧ x5.toInt ≤ 7) ∧ (x1.toInt = 0 → ((-10000) ≤ x4.toInt ∧ x4.toInt ≤ 10000)) ∧ (x1.toInt ≠ 0 → (1 ≤ x4.toInt ∧ x4.toInt ≤ 1000)))) ∨ ((1 : Int32).toInt = 1 ∧ ¬ ((0 ≤ x1.toInt ∧ x1.toInt ≤ 2) ∧ (0 ≤ x2.toInt ∧ x2.toInt ≤ 9) ∧ (0 ≤ x3.toInt ∧ x3.toInt ≤ 9) ∧ (0 ≤ x5.toInt ∧ x5.toInt ≤ 7) ∧ (x1.toInt = 0 → ((-10000) ≤ x4.toInt ∧ x4.toInt ≤ 10000)) ∧ (x1.toInt ≠ 0 → (1 ≤ x4.toInt ∧ x4.toInt ≤ 1000)))) from by have t1 : 0 ≤ x1.toInt := q_nltI c1; have t2 : x1.toInt ≤ 2 := q_leI c5; have t3 : x1.toInt ≠ 0 := q_neI c9; have t4 : x1.toInt ≠ 1 := q_neI c10; have t5 : 0 ≤ x2.toInt := q_nltI c63; have t6 : 10 ≤ x2.toInt := q_nltI c64; have e0 : (1 : Int32).toInt = 1 := (by decide); omega), hF⟩) d_14_27_91
        ·
          refine lv_aload_n hx hb d_14_27_51 rfl (lv_at hl 0 rfl) ?_
          refine q_get (ci := 12) (j := 6) (v := .ref qO4) C0 V i_NM rfl rfl hO0 (by decide) w_2304 rfl d_14_27_52 ?_
          refine lv_iload_n hx hb d_14_27_55 rfl (lv_at hl 2 rfl) ?_
          refine lv_iload_n hx hb d_14_27_56 rfl (lv_at hl 3 rfl) ?_
          refine lv_iload hx hb d_14_27_57 (lv_at hl 4 rfl) ?_
          refine lv_iload hx hb d_14_27_59 (lv_at hl 5 rfl) ?_
          replace hO4 := (hu7 _ (q_pd 134 116 rfl)).trans (hO4)
          replace hA25 := (hu7 _ (q_pd 136 116 rfl)).trans (hA25)
          replace hA26 := (hu7 _ (q_pd 137 116 rfl)).trans (hA26)
          replace hA27 := (hu7 _ (q_pd 138 116 rfl)).trans (hA27)
          replace hA28 := (hu7 _ (q_pd 139 116 rfl)).trans (hA28)
          replace hA29 := (hu7 _ (q_pd 140 116 rfl)).trans (hA29)
          refine q_gov V (q_runV (As := [.int x2, .int x3, .int x4, .int x5]) (rest := []) (d := 4) (mc := 0) (ms := 0) (ci := 14) C0 V rfl LV_NM_222 (c_DR_round l D g w6 134 136 137 138 139 140 qO4 qA24 qA25 qA26 qA27 qA28 qA29 qA30 qA31 qA32 qA33 x2 x3 x4 x5 hO4 hA25 hA26 hA27 hA28 hA29 (q_pd 136 137 rfl) (q_pd 136 138 rfl) (q_pd 136 139 rfl) (q_pd 136 140 rfl) (q_pd 137 138 rfl) (q_pd 137 139 rfl) (q_pd 137 140 rfl) (q_pd 138 139 rfl) (q_pd 138 140 rfl) (q_pd 139 140 rfl) _) rfl rfl hO4 rfl hl.1 rfl (Nat.le_of_ble_eq_true rfl) ⟨by decide, by decide⟩ ⟨Nat.le_of_ble_eq_true rfl, Nat.le_of_ble_eq_true rfl⟩ d_14_27_61) (fun u85 H locs hp84 V => ?_)
          rcases hp84 with ⟨c86, hg87, hO4, hA25, hA26, hA27, hA28, hA29⟩ | ⟨c88, c89, c90, hg91, hO4, hA25, hA26, hA27, hA28, hA29⟩ | ⟨c92, c93, c94, c95, c96, hg97, hO4, hA25, hA26, hA27, hA28, hA29⟩ | ⟨c98, c99, c100, c101, c102, c103, c104, hg105, hO4, hA25, hA26, hA27, hA28, hA29⟩ | ⟨c106, c107, c108, c109, c110, c111, c112, c113, hg114, hO4, hA25, hA26, hA27, hA28, hA29⟩ | ⟨c115, c116, c117, c118, c119, c120, c121, c122, hg123, hO4, hA25, hA26, hA27, hA28, hA29⟩ | ⟨c124, c125, c126, c127, c128, c129, hg130, hO4, hA25, hA26, hA27, hA28, hA29⟩ | ⟨c131, c132, c133, c134, hg135, hO4, hA25, hA26, hA27, hA28, hA29⟩ | ⟨c136, c137, hg138, hO4, hA25, hA26, hA27, hA28, hA29⟩
          ·
            replace hF := q_gc hF hg87 (q_al (Nat.le_of_ble_eq_true rfl) (q_al (Nat.le_of_ble_eq_true rfl) (q_al (Nat.le_of_ble_eq_true rfl) (q_al (Nat.le_of_ble_eq_true rfl) (q_al (Nat.le_of_ble_eq_true rfl) (q_al (Nat.le_of_ble_eq_true rfl) (fun _ h => absurd h List.not_mem_nil)))))))
            refine lv_goto (tgt := 80) hx hb d_14_27_64 (by decide) ?_
            refine lv_aload_n hx hb d_14_27_80 rfl (lv_at hl 0 rfl) ?_
            refine lv_aload_n hx hb d_14_27_81 rfl (lv_at hl 0 rfl) ?_
            replace hO0 := (hg87 _ (q_nc (q_pd 116 134 rfl) (q_nc (q_pd 116 136 rfl) (q_nc (q_pd 116 137 rfl) (q_nc (q_pd 116 138 rfl) (q_nc (q_pd 116 139 rfl) (q_nc (q_pd 116 140 rfl) List.not_mem_nil))))))).trans (hO0)
            refine q_get (ci := 12) (j := 6) (v := .ref qO4) C0 V i_NM rfl rfl hO0 (by decide) w_2304 rfl d_14_27_82 ?_
            refine q_getN (ci := 14) (j := 0) (v := .int 1) C0 V i_DR rfl rfl hO4 (by decide) wo_1997 rfl d_14_27_85 ?_
            refine q_put (ci := 12) (j := 0) (v := .int 1) (ty := .int) C0 V i_NM o_NM n_NM rfl rfl hO0 (by decide) w_2298 rfl rfl rfl rfl (Nat.le_of_ble_eq_true rfl) d_14_27_88 (fun H locs w139 hu140 hO0 V => ?_)
            replace hO0 : w139[116]? = (some (qO0, .inr (12, [.int 1, .ref qA1, .int 0, .ref qA2, .int 0, .ref qO3, .ref qO4, .ref qO5, .ref qO6, .ref qO7, .ref qA8, .ref qA9])) : Option (Nat × va_E)) := hO0
            replace hF := q_gs hF hu140 (Nat.le_of_ble_eq_true rfl)
            exact q_retv C0 V (⟨1, 0, 0, hO0, (show ((1 : Int32).toInt = 0 ∧ ((0 ≤ x1.toInt ∧ x1.toInt ≤ 2) ∧ (0 ≤ x2.toInt ∧ x2.toInt ≤ 9) ∧ (0 ≤ x3.toInt ∧ x3.toInt ≤ 9) ∧ (0 ≤ x5.toInt ∧ x5.toInt ≤ 7) ∧ (x1.toInt = 0 → ((-10000) ≤ x4.toInt ∧ x4.toInt ≤ 10000)) ∧ (x1.toInt ≠ 0 → (1 ≤ x4.toInt ∧ x4.toInt ≤ 1000)))) ∨ ((1 : Int32).toInt = 1 ∧ ¬ ((0 ≤ x1.toInt ∧ x1.toInt ≤ 2) ∧ (0 ≤ x2.toInt ∧ x2.toInt ≤ 9) ∧ (0 ≤ x3.toInt ∧ x3.toInt ≤ 9) ∧ (0 ≤ x5.toInt ∧ x5.toInt ≤ 7) ∧ (x1.toInt = 0 → ((-10000) ≤ x4.toInt ∧ x4.toInt ≤ 10000)) ∧ (x1.toInt ≠ 0 → (1 ≤ x4.toInt ∧ x4.toInt ≤ 1000)))) from by have t1 : 0 ≤ x1.toInt := q_nltI c1; have t2 : x1.toInt ≤ 2 := q_leI c5; have t3 : x1.toInt ≠ 0 := q_neI c9; have t4 : x1.toInt = 1 := q_eqI c10; have t5 : x2.toInt < 0 := q_ltI c86; have e0 : (1 : Int32).toInt = 1 := (by decide); omega), hF⟩) d_14_27_91
          ·
            replace hF := q_gc hF hg91 (q_al (Nat.le_of_ble_eq_true rfl) (q_al (Nat.le_of_ble_eq_true rfl) (q_al (Nat.le_of_ble_eq_true rfl) (q_al (Nat.le_of_ble_eq_true rfl) (q_al (Nat.le_of_ble_eq_true rfl) (q_al (Nat.le_of_ble_eq_true rfl) (fun _ h => absurd h List.not_mem_nil)))))))
            refine lv_goto (tgt := 80) hx hb d_14_27_64 (by decide) ?_
            refine lv_aload_n hx hb d_14_27_80 rfl (lv_at hl 0 rfl) ?_
            refine lv_aload_n hx hb d_14_27_81 rfl (lv_at hl 0 rfl) ?_
            replace hO0 := (hg91 _ (q_nc (q_pd 116 134 rfl) (q_nc (q_pd 116 136 rfl) (q_nc (q_pd 116 137 rfl) (q_nc (q_pd 116 138 rfl) (q_nc (q_pd 116 139 rfl) (q_nc (q_pd 116 140 rfl) List.not_mem_nil))))))).trans (hO0)
            refine q_get (ci := 12) (j := 6) (v := .ref qO4) C0 V i_NM rfl rfl hO0 (by decide) w_2304 rfl d_14_27_82 ?_
            refine q_getN (ci := 14) (j := 0) (v := .int 1) C0 V i_DR rfl rfl hO4 (by decide) wo_1997 rfl d_14_27_85 ?_
            refine q_put (ci := 12) (j := 0) (v := .int 1) (ty := .int) C0 V i_NM o_NM n_NM rfl rfl hO0 (by decide) w_2298 rfl rfl rfl rfl (Nat.le_of_ble_eq_true rfl) d_14_27_88 (fun H locs w141 hu142 hO0 V => ?_)
            replace hO0 : w141[116]? = (some (qO0, .inr (12, [.int 1, .ref qA1, .int 0, .ref qA2, .int 0, .ref qO3, .ref qO4, .ref qO5, .ref qO6, .ref qO7, .ref qA8, .ref qA9])) : Option (Nat × va_E)) := hO0
            replace hF := q_gs hF hu142 (Nat.le_of_ble_eq_true rfl)
            exact q_retv C0 V (⟨1, 0, 0, hO0, (show ((1 : Int32).toInt = 0 ∧ ((0 ≤ x1.toInt ∧ x1.toInt ≤ 2) ∧ (0 ≤ x2.toInt ∧ x2.toInt ≤ 9) ∧ (0 ≤ x3.toInt ∧ x3.toInt ≤ 9) ∧ (0 ≤ x5.toInt ∧ x5.toInt ≤ 7) ∧ (x1.toInt = 0 → ((-10000) ≤ x4.toInt ∧ x4.toInt ≤ 10000)) ∧ (x1.toInt ≠ 0 → (1 ≤ x4.toInt ∧ x4.toInt ≤ 1000)))) ∨ ((1 : Int32).toInt = 1 ∧ ¬ ((0 ≤ x1.toInt ∧ x1.toInt ≤ 2) ∧ (0 ≤ x2.toInt ∧ x2.toInt ≤ 9) ∧ (0 ≤ x3.toInt ∧ x3.toInt ≤ 9) ∧ (0 ≤ x5.toInt ∧ x5.toInt ≤ 7) ∧ (x1.toInt = 0 → ((-10000) ≤ x4.toInt ∧ x4.toInt ≤ 10000)) ∧ (x1.toInt ≠ 0 → (1 ≤ x4.toInt ∧ x4.toInt ≤ 1000)))) from by have t1 : 0 ≤ x1.toInt := q_nltI c1; have t2 : x1.toInt ≤ 2 := q_leI c5; have t3 : x1.toInt ≠ 0 := q_neI c9; have t4 : x1.toInt = 1 := q_eqI c10; have t5 : 0 ≤ x2.toInt := q_nltI c88; have t6 : x2.toInt < 10 := q_ltI c89; have t7 : x3.toInt < 0 := q_ltI c90; have e0 : (1 : Int32).toInt = 1 := (by decide); omega), hF⟩) d_14_27_91
          ·
            replace hF := q_gc hF hg97 (q_al (Nat.le_of_ble_eq_true rfl) (q_al (Nat.le_of_ble_eq_true rfl) (q_al (Nat.le_of_ble_eq_true rfl) (q_al (Nat.le_of_ble_eq_true rfl) (q_al (Nat.le_of_ble_eq_true rfl) (q_al (Nat.le_of_ble_eq_true rfl) (fun _ h => absurd h List.not_mem_nil)))))))
            refine lv_goto (tgt := 80) hx hb d_14_27_64 (by decide) ?_
            refine lv_aload_n hx hb d_14_27_80 rfl (lv_at hl 0 rfl) ?_
            refine lv_aload_n hx hb d_14_27_81 rfl (lv_at hl 0 rfl) ?_
            replace hO0 := (hg97 _ (q_nc (q_pd 116 134 rfl) (q_nc (q_pd 116 136 rfl) (q_nc (q_pd 116 137 rfl) (q_nc (q_pd 116 138 rfl) (q_nc (q_pd 116 139 rfl) (q_nc (q_pd 116 140 rfl) List.not_mem_nil))))))).trans (hO0)
            refine q_get (ci := 12) (j := 6) (v := .ref qO4) C0 V i_NM rfl rfl hO0 (by decide) w_2304 rfl d_14_27_82 ?_
            refine q_getN (ci := 14) (j := 0) (v := .int 1) C0 V i_DR rfl rfl hO4 (by decide) wo_1997 rfl d_14_27_85 ?_
            refine q_put (ci := 12) (j := 0) (v := .int 1) (ty := .int) C0 V i_NM o_NM n_NM rfl rfl hO0 (by decide) w_2298 rfl rfl rfl rfl (Nat.le_of_ble_eq_true rfl) d_14_27_88 (fun H locs w143 hu144 hO0 V => ?_)
            replace hO0 : w143[116]? = (some (qO0, .inr (12, [.int 1, .ref qA1, .int 0, .ref qA2, .int 0, .ref qO3, .ref qO4, .ref qO5, .ref qO6, .ref qO7, .ref qA8, .ref qA9])) : Option (Nat × va_E)) := hO0
            replace hF := q_gs hF hu144 (Nat.le_of_ble_eq_true rfl)
            exact q_retv C0 V (⟨1, 0, 0, hO0, (show ((1 : Int32).toInt = 0 ∧ ((0 ≤ x1.toInt ∧ x1.toInt ≤ 2) ∧ (0 ≤ x2.toInt ∧ x2.toInt ≤ 9) ∧ (0 ≤ x3.toInt ∧ x3.toInt ≤ 9) ∧ (0 ≤ x5.toInt ∧ x5.toInt ≤ 7) ∧ (x1.toInt = 0 → ((-10000) ≤ x4.toInt ∧ x4.toInt ≤ 10000)) ∧ (x1.toInt ≠ 0 → (1 ≤ x4.toInt ∧ x4.toInt ≤ 1000)))) ∨ ((1 : Int32).toInt = 1 ∧ ¬ ((0 ≤ x1.toInt ∧ x1.toInt ≤ 2) ∧ (0 ≤ x2.toInt ∧ x2.toInt ≤ 9) ∧ (0 ≤ x3.toInt ∧ x3.toInt ≤ 9) ∧ (0 ≤ x5.toInt ∧ x5.toInt ≤ 7) ∧ (x1.toInt = 0 → ((-10000) ≤ x4.toInt ∧ x4.toInt ≤ 10000)) ∧ (x1.toInt ≠ 0 → (1 ≤ x4.toInt ∧ x4.toInt ≤ 1000)))) from by have t1 : 0 ≤ x1.toInt := q_nltI c1; have t2 : x1.toInt ≤ 2 := q_leI c5; have t3 : x1.toInt ≠ 0 := q_neI c9; have t4 : x1.toInt = 1 := q_eqI c10; have t5 : 0 ≤ x2.toInt := q_nltI c92; have t6 : x2.toInt < 10 := q_ltI c93; have t7 : 0 ≤ x3.toInt := q_nltI c94; have t8 : x3.toInt < 10 := q_ltI c95; have t9 : x5.toInt < 0 := q_ltI c96; have e0 : (1 : Int32).toInt = 1 := (by decide); omega), hF⟩) d_14_27_91
          ·
            replace hF := q_gc hF hg105 (q_al (Nat.le_of_ble_eq_true rfl) (q_al (Nat.le_of_ble_eq_true rfl) (q_al (Nat.le_of_ble_eq_true rfl) (q_al (Nat.le_of_ble_eq_true rfl) (q_al (Nat.le_of_ble_eq_true rfl) (q_al (Nat.le_of_ble_eq_true rfl) (fun _ h => absurd h List.not_mem_nil)))))))
            refine lv_goto (tgt := 80) hx hb d_14_27_64 (by decide) ?_
            refine lv_aload_n hx hb d_14_27_80 rfl (lv_at hl 0 rfl) ?_
            refine lv_aload_n hx hb d_14_27_81 rfl (lv_at hl 0 rfl) ?_
            replace hO0 := (hg105 _ (q_nc (q_pd 116 134 rfl) (q_nc (q_pd 116 136 rfl) (q_nc (q_pd 116 137 rfl) (q_nc (q_pd 116 138 rfl) (q_nc (q_pd 116 139 rfl) (q_nc (q_pd 116 140 rfl) List.not_mem_nil))))))).trans (hO0)
            refine q_get (ci := 12) (j := 6) (v := .ref qO4) C0 V i_NM rfl rfl hO0 (by decide) w_2304 rfl d_14_27_82 ?_
            refine q_getN (ci := 14) (j := 0) (v := .int 1) C0 V i_DR rfl rfl hO4 (by decide) wo_1997 rfl d_14_27_85 ?_
            refine q_put (ci := 12) (j := 0) (v := .int 1) (ty := .int) C0 V i_NM o_NM n_NM rfl rfl hO0 (by decide) w_2298 rfl rfl rfl rfl (Nat.le_of_ble_eq_true rfl) d_14_27_88 (fun H locs w145 hu146 hO0 V => ?_)
            replace hO0 : w145[116]? = (some (qO0, .inr (12, [.int 1, .ref qA1, .int 0, .ref qA2, .int 0, .ref qO3, .ref qO4, .ref qO5, .ref qO6, .ref qO7, .ref qA8, .ref qA9])) : Option (Nat × va_E)) := hO0
            replace hF := q_gs hF hu146 (Nat.le_of_ble_eq_true rfl)
            exact q_retv C0 V (⟨1, 0, 0, hO0, (show ((1 : Int32).toInt = 0 ∧ ((0 ≤ x1.toInt ∧ x1.toInt ≤ 2) ∧ (0 ≤ x2.toInt ∧ x2.toInt ≤ 9) ∧ (0 ≤ x3.toInt ∧ x3.toInt ≤ 9) ∧ (0 ≤ x5.toInt ∧ x5.toInt ≤ 7) ∧ (x1.toInt = 0 → ((-10000) ≤ x4.toInt ∧ x4.toInt ≤ 10000)) ∧ (x1.toInt ≠ 0 → (1 ≤ x4.toInt ∧ x4.toInt ≤ 1000)))) ∨ ((1 : Int32).toInt = 1 ∧ ¬ ((0 ≤ x1.toInt ∧ x1.toInt ≤ 2) ∧ (0 ≤ x2.toInt ∧ x2.toInt ≤ 9) ∧ (0 ≤ x3.toInt ∧ x3.toInt ≤ 9) ∧ (0 ≤ x5.toInt ∧ x5.toInt ≤ 7) ∧ (x1.toInt = 0 → ((-10000) ≤ x4.toInt ∧ x4.toInt ≤ 10000)) ∧ (x1.toInt ≠ 0 → (1 ≤ x4.toInt ∧ x4.toInt ≤ 1000)))) from by have t1 : 0 ≤ x1.toInt := q_nltI c1; have t2 : x1.toInt ≤ 2 := q_leI c5; have t3 : x1.toInt ≠ 0 := q_neI c9; have t4 : x1.toInt = 1 := q_eqI c10; have t5 : 0 ≤ x2.toInt := q_nltI c98; have t6 : x2.toInt < 10 := q_ltI c99; have t7 : 0 ≤ x3.toInt := q_nltI c100; have t8 : x3.toInt < 10 := q_ltI c101; have t9 : 0 ≤ x5.toInt := q_nltI c102; have t10 : x5.toInt ≤ 7 := q_leI c103; have t11 : x4.toInt < 1 := q_ltI c104; have e0 : (1 : Int32).toInt = 1 := (by decide); omega), hF⟩) d_14_27_91
          ·
            replace hF := q_gc hF hg114 (q_al (Nat.le_of_ble_eq_true rfl) (q_al (Nat.le_of_ble_eq_true rfl) (q_al (Nat.le_of_ble_eq_true rfl) (q_al (Nat.le_of_ble_eq_true rfl) (q_al (Nat.le_of_ble_eq_true rfl) (q_al (Nat.le_of_ble_eq_true rfl) (fun _ h => absurd h List.not_mem_nil)))))))
            refine lv_goto (tgt := 80) hx hb d_14_27_64 (by decide) ?_
            refine lv_aload_n hx hb d_14_27_80 rfl (lv_at hl 0 rfl) ?_
            refine lv_aload_n hx hb d_14_27_81 rfl (lv_at hl 0 rfl) ?_
            replace hO0 := (hg114 _ (q_nc (q_pd 116 134 rfl) (q_nc (q_pd 116 136 rfl) (q_nc (q_pd 116 137 rfl) (q_nc (q_pd 116 138 rfl) (q_nc (q_pd 116 139 rfl) (q_nc (q_pd 116 140 rfl) List.not_mem_nil))))))).trans (hO0)
            refine q_get (ci := 12) (j := 6) (v := .ref qO4) C0 V i_NM rfl rfl hO0 (by decide) w_2304 rfl d_14_27_82 ?_
            refine q_getN (ci := 14) (j := 0) (v := .int 0) C0 V i_DR rfl rfl hO4 (by decide) wo_1997 rfl d_14_27_85 ?_
            refine q_put (ci := 12) (j := 0) (v := .int 0) (ty := .int) C0 V i_NM o_NM n_NM rfl rfl hO0 (by decide) w_2298 rfl rfl rfl rfl (Nat.le_of_ble_eq_true rfl) d_14_27_88 (fun H locs w147 hu148 hO0 V => ?_)
            replace hO0 : w147[116]? = (some (qO0, .inr (12, [.int 0, .ref qA1, .int 0, .ref qA2, .int 0, .ref qO3, .ref qO4, .ref qO5, .ref qO6, .ref qO7, .ref qA8, .ref qA9])) : Option (Nat × va_E)) := hO0
            replace hF := q_gs hF hu148 (Nat.le_of_ble_eq_true rfl)
            exact q_retv C0 V (⟨0, 0, 0, hO0, (show ((0 : Int32).toInt = 0 ∧ ((0 ≤ x1.toInt ∧ x1.toInt ≤ 2) ∧ (0 ≤ x2.toInt ∧ x2.toInt ≤ 9) ∧ (0 ≤ x3.toInt ∧ x3.toInt ≤ 9) ∧ (0 ≤ x5.toInt ∧ x5.toInt ≤ 7) ∧ (x1.toInt = 0 → ((-10000) ≤ x4.toInt ∧ x4.toInt ≤ 10000)) ∧ (x1.toInt ≠ 0 → (1 ≤ x4.toInt ∧ x4.toInt ≤ 1000)))) ∨ ((0 : Int32).toInt = 1 ∧ ¬ ((0 ≤ x1.toInt ∧ x1.toInt ≤ 2) ∧ (0 ≤ x2.toInt ∧ x2.toInt ≤ 9) ∧ (0 ≤ x3.toInt ∧ x3.toInt ≤ 9) ∧ (0 ≤ x5.toInt ∧ x5.toInt ≤ 7) ∧ (x1.toInt = 0 → ((-10000) ≤ x4.toInt ∧ x4.toInt ≤ 10000)) ∧ (x1.toInt ≠ 0 → (1 ≤ x4.toInt ∧ x4.toInt ≤ 1000)))) from by have t1 : 0 ≤ x1.toInt := q_nltI c1; have t2 : x1.toInt ≤ 2 := q_leI c5; have t3 : x1.toInt ≠ 0 := q_neI c9; have t4 : x1.toInt = 1 := q_eqI c10; have t5 : 0 ≤ x2.toInt := q_nltI c106; have t6 : x2.toInt < 10 := q_ltI c107; have t7 : 0 ≤ x3.toInt := q_nltI c108; have t8 : x3.toInt < 10 := q_ltI c109; have t9 : 0 ≤ x5.toInt := q_nltI c110; have t10 : x5.toInt ≤ 7 := q_leI c111; have t11 : 1 ≤ x4.toInt := q_nltI c112; have t12 : x4.toInt ≤ 1000 := q_leI c113; have e0 : (0 : Int32).toInt = 0 := (by decide); omega), hF⟩) d_14_27_91
          ·
            replace hF := q_gc hF hg123 (q_al (Nat.le_of_ble_eq_true rfl) (q_al (Nat.le_of_ble_eq_true rfl) (q_al (Nat.le_of_ble_eq_true rfl) (q_al (Nat.le_of_ble_eq_true rfl) (q_al (Nat.le_of_ble_eq_true rfl) (q_al (Nat.le_of_ble_eq_true rfl) (fun _ h => absurd h List.not_mem_nil)))))))
            refine lv_goto (tgt := 80) hx hb d_14_27_64 (by decide) ?_
            refine lv_aload_n hx hb d_14_27_80 rfl (lv_at hl 0 rfl) ?_
            refine lv_aload_n hx hb d_14_27_81 rfl (lv_at hl 0 rfl) ?_
            replace hO0 := (hg123 _ (q_nc (q_pd 116 134 rfl) (q_nc (q_pd 116 136 rfl) (q_nc (q_pd 116 137 rfl) (q_nc (q_pd 116 138 rfl) (q_nc (q_pd 116 139 rfl) (q_nc (q_pd 116 140 rfl) List.not_mem_nil))))))).trans (hO0)
            refine q_get (ci := 12) (j := 6) (v := .ref qO4) C0 V i_NM rfl rfl hO0 (by decide) w_2304 rfl d_14_27_82 ?_
            refine q_getN (ci := 14) (j := 0) (v := .int 1) C0 V i_DR rfl rfl hO4 (by decide) wo_1997 rfl d_14_27_85 ?_
            refine q_put (ci := 12) (j := 0) (v := .int 1) (ty := .int) C0 V i_NM o_NM n_NM rfl rfl hO0 (by decide) w_2298 rfl rfl rfl rfl (Nat.le_of_ble_eq_true rfl) d_14_27_88 (fun H locs w149 hu150 hO0 V => ?_)
            replace hO0 : w149[116]? = (some (qO0, .inr (12, [.int 1, .ref qA1, .int 0, .ref qA2, .int 0, .ref qO3, .ref qO4, .ref qO5, .ref qO6, .ref qO7, .ref qA8, .ref qA9])) : Option (Nat × va_E)) := hO0
            replace hF := q_gs hF hu150 (Nat.le_of_ble_eq_true rfl)
            exact q_retv C0 V (⟨1, 0, 0, hO0, (show ((1 : Int32).toInt = 0 ∧ ((0 ≤ x1.toInt ∧ x1.toInt ≤ 2) ∧ (0 ≤ x2.toInt ∧ x2.toInt ≤ 9) ∧ (0 ≤ x3.toInt ∧ x3.toInt ≤ 9) ∧ (0 ≤ x5.toInt ∧ x5.toInt ≤ 7) ∧ (x1.toInt = 0 → ((-10000) ≤ x4.toInt ∧ x4.toInt ≤ 10000)) ∧ (x1.toInt ≠ 0 → (1 ≤ x4.toInt ∧ x4.toInt ≤ 1000)))) ∨ ((1 : Int32).toInt = 1 ∧ ¬ ((0 ≤ x1.toInt ∧ x1.toInt ≤ 2) ∧ (0 ≤ x2.toInt ∧ x2.toInt ≤ 9) ∧ (0 ≤ x3.toInt ∧ x3.toInt ≤ 9) ∧ (0 ≤ x5.toInt ∧ x5.toInt ≤ 7) ∧ (x1.toInt = 0 → ((-10000) ≤ x4.toInt ∧ x4.toInt ≤ 10000)) ∧ (x1.toInt ≠ 0 → (1 ≤ x4.toInt ∧ x4.toInt ≤ 1000)))) from by have t1 : 0 ≤ x1.toInt := q_nltI c1; have t2 : x1.toInt ≤ 2 := q_leI c5; have t3 : x1.toInt ≠ 0 := q_neI c9; have t4 : x1.toInt = 1 := q_eqI c10; have t5 : 0 ≤ x2.toInt := q_nltI c115; have t6 : x2.toInt < 10 := q_ltI c116; have t7 : 0 ≤ x3.toInt := q_nltI c117; have t8 : x3.toInt < 10 := q_ltI c118; have t9 : 0 ≤ x5.toInt := q_nltI c119; have t10 : x5.toInt ≤ 7 := q_leI c120; have t11 : 1 ≤ x4.toInt := q_nltI c121; have t12 : 1000 < x4.toInt := q_nleI c122; have e0 : (1 : Int32).toInt = 1 := (by decide); omega), hF⟩) d_14_27_91
          ·
            replace hF := q_gc hF hg130 (q_al (Nat.le_of_ble_eq_true rfl) (q_al (Nat.le_of_ble_eq_true rfl) (q_al (Nat.le_of_ble_eq_true rfl) (q_al (Nat.le_of_ble_eq_true rfl) (q_al (Nat.le_of_ble_eq_true rfl) (q_al (Nat.le_of_ble_eq_true rfl) (fun _ h => absurd h List.not_mem_nil)))))))
            refine lv_goto (tgt := 80) hx hb d_14_27_64 (by decide) ?_
            refine lv_aload_n hx hb d_14_27_80 rfl (lv_at hl 0 rfl) ?_
            refine lv_aload_n hx hb d_14_27_81 rfl (lv_at hl 0 rfl) ?_
            replace hO0 := (hg130 _ (q_nc (q_pd 116 134 rfl) (q_nc (q_pd 116 136 rfl) (q_nc (q_pd 116 137 rfl) (q_nc (q_pd 116 138 rfl) (q_nc (q_pd 116 139 rfl) (q_nc (q_pd 116 140 rfl) List.not_mem_nil))))))).trans (hO0)
            refine q_get (ci := 12) (j := 6) (v := .ref qO4) C0 V i_NM rfl rfl hO0 (by decide) w_2304 rfl d_14_27_82 ?_
            refine q_getN (ci := 14) (j := 0) (v := .int 1) C0 V i_DR rfl rfl hO4 (by decide) wo_1997 rfl d_14_27_85 ?_
            refine q_put (ci := 12) (j := 0) (v := .int 1) (ty := .int) C0 V i_NM o_NM n_NM rfl rfl hO0 (by decide) w_2298 rfl rfl rfl rfl (Nat.le_of_ble_eq_true rfl) d_14_27_88 (fun H locs w151 hu152 hO0 V => ?_)
            replace hO0 : w151[116]? = (some (qO0, .inr (12, [.int 1, .ref qA1, .int 0, .ref qA2, .int 0, .ref qO3, .ref qO4, .ref qO5, .ref qO6, .ref qO7, .ref qA8, .ref qA9])) : Option (Nat × va_E)) := hO0
            replace hF := q_gs hF hu152 (Nat.le_of_ble_eq_true rfl)
            exact q_retv C0 V (⟨1, 0, 0, hO0, (show ((1 : Int32).toInt = 0 ∧ ((0 ≤ x1.toInt ∧ x1.toInt ≤ 2) ∧ (0 ≤ x2.toInt ∧ x2.toInt ≤ 9) ∧ (0 ≤ x3.toInt ∧ x3.toInt ≤ 9) ∧ (0 ≤ x5.toInt ∧ x5.toInt ≤ 7) ∧ (x1.toInt = 0 → ((-10000) ≤ x4.toInt ∧ x4.toInt ≤ 10000)) ∧ (x1.toInt ≠ 0 → (1 ≤ x4.toInt ∧ x4.toInt ≤ 1000)))) ∨ ((1 : Int32).toInt = 1 ∧ ¬ ((0 ≤ x1.toInt ∧ x1.toInt ≤ 2) ∧ (0 ≤ x2.toInt ∧ x2.toInt ≤ 9) ∧ (0 ≤ x3.toInt ∧ x3.toInt ≤ 9) ∧ (0 ≤ x5.toInt ∧ x5.toInt ≤ 7) ∧ (x1.toInt = 0 → ((-10000) ≤ x4.toInt ∧ x4.toInt ≤ 10000)) ∧ (x1.toInt ≠ 0 → (1 ≤ x4.toInt ∧ x4.toInt ≤ 1000)))) from by have t1 : 0 ≤ x1.toInt := q_nltI c1; have t2 : x1.toInt ≤ 2 := q_leI c5; have t3 : x1.toInt ≠ 0 := q_neI c9; have t4 : x1.toInt = 1 := q_eqI c10; have t5 : 0 ≤ x2.toInt := q_nltI c124; have t6 : x2.toInt < 10 := q_ltI c125; have t7 : 0 ≤ x3.toInt := q_nltI c126; have t8 : x3.toInt < 10 := q_ltI c127; have t9 : 0 ≤ x5.toInt := q_nltI c128; have t10 : 7 < x5.toInt := q_nleI c129; have e0 : (1 : Int32).toInt = 1 := (by decide); omega), hF⟩) d_14_27_91
          ·
            replace hF := q_gc hF hg135 (q_al (Nat.le_of_ble_eq_true rfl) (q_al (Nat.le_of_ble_eq_true rfl) (q_al (Nat.le_of_ble_eq_true rfl) (q_al (Nat.le_of_ble_eq_true rfl) (q_al (Nat.le_of_ble_eq_true rfl) (q_al (Nat.le_of_ble_eq_true rfl) (fun _ h => absurd h List.not_mem_nil)))))))
            refine lv_goto (tgt := 80) hx hb d_14_27_64 (by decide) ?_
            refine lv_aload_n hx hb d_14_27_80 rfl (lv_at hl 0 rfl) ?_
            refine lv_aload_n hx hb d_14_27_81 rfl (lv_at hl 0 rfl) ?_
            replace hO0 := (hg135 _ (q_nc (q_pd 116 134 rfl) (q_nc (q_pd 116 136 rfl) (q_nc (q_pd 116 137 rfl) (q_nc (q_pd 116 138 rfl) (q_nc (q_pd 116 139 rfl) (q_nc (q_pd 116 140 rfl) List.not_mem_nil))))))).trans (hO0)
            refine q_get (ci := 12) (j := 6) (v := .ref qO4) C0 V i_NM rfl rfl hO0 (by decide) w_2304 rfl d_14_27_82 ?_
            refine q_getN (ci := 14) (j := 0) (v := .int 1) C0 V i_DR rfl rfl hO4 (by decide) wo_1997 rfl d_14_27_85 ?_
            refine q_put (ci := 12) (j := 0) (v := .int 1) (ty := .int) C0 V i_NM o_NM n_NM rfl rfl hO0 (by decide) w_2298 rfl rfl rfl rfl (Nat.le_of_ble_eq_true rfl) d_14_27_88 (fun H locs w153 hu154 hO0 V => ?_)
            replace hO0 : w153[116]? = (some (qO0, .inr (12, [.int 1, .ref qA1, .int 0, .ref qA2, .int 0, .ref qO3, .ref qO4, .ref qO5, .ref qO6, .ref qO7, .ref qA8, .ref qA9])) : Option (Nat × va_E)) := hO0
            replace hF := q_gs hF hu154 (Nat.le_of_ble_eq_true rfl)
            exact q_retv C0 V (⟨1, 0, 0, hO0, (show ((1 : Int32).toInt = 0 ∧ ((0 ≤ x1.toInt ∧ x1.toInt ≤ 2) ∧ (0 ≤ x2.toInt ∧ x2.toInt ≤ 9) ∧ (0 ≤ x3.toInt ∧ x3.toInt ≤ 9) ∧ (0 ≤ x5.toInt ∧ x5.toInt ≤ 7) ∧ (x1.toInt = 0 → ((-10000) ≤ x4.toInt ∧ x4.toInt ≤ 10000)) ∧ (x1.toInt ≠ 0 → (1 ≤ x4.toInt ∧ x4.toInt ≤ 1000)))) ∨ ((1 : Int32).toInt = 1 ∧ ¬ ((0 ≤ x1.toInt ∧ x1.toInt ≤ 2) ∧ (0 ≤ x2.toInt ∧ x2.toInt ≤ 9) ∧ (0 ≤ x3.toInt ∧ x3.toInt ≤ 9) ∧ (0 ≤ x5.toInt ∧ x5.toInt ≤ 7) ∧ (x1.toInt = 0 → ((-10000) ≤ x4.toInt ∧ x4.toInt ≤ 10000)) ∧ (x1.toInt ≠ 0 → (1 ≤ x4.toInt ∧ x4.toInt ≤ 1000)))) from by have t1 : 0 ≤ x1.toInt := q_nltI c1; have t2 : x1.toInt ≤ 2 := q_leI c5; have t3 : x1.toInt ≠ 0 := q_neI c9; have t4 : x1.toInt = 1 := q_eqI c10; have t5 : 0 ≤ x2.toInt := q_nltI c131; have t6 : x2.toInt < 10 := q_ltI c132; have t7 : 0 ≤ x3.toInt := q_nltI c133; have t8 : 10 ≤ x3.toInt := q_nltI c134; have e0 : (1 : Int32).toInt = 1 := (by decide); omega), hF⟩) d_14_27_91
          ·
            replace hF := q_gc hF hg138 (q_al (Nat.le_of_ble_eq_true rfl) (q_al (Nat.le_of_ble_eq_true rfl) (q_al (Nat.le_of_ble_eq_true rfl) (q_al (Nat.le_of_ble_eq_true rfl) (q_al (Nat.le_of_ble_eq_true rfl) (q_al (Nat.le_of_ble_eq_true rfl) (fun _ h => absurd h List.not_mem_nil)))))))
            refine lv_goto (tgt := 80) hx hb d_14_27_64 (by decide) ?_
            refine lv_aload_n hx hb d_14_27_80 rfl (lv_at hl 0 rfl) ?_
            refine lv_aload_n hx hb d_14_27_81 rfl (lv_at hl 0 rfl) ?_
            replace hO0 := (hg138 _ (q_nc (q_pd 116 134 rfl) (q_nc (q_pd 116 136 rfl) (q_nc (q_pd 116 137 rfl) (q_nc (q_pd 116 138 rfl) (q_nc (q_pd 116 139 rfl) (q_nc (q_pd 116 140 rfl) List.not_mem_nil))))))).trans (hO0)
            refine q_get (ci := 12) (j := 6) (v := .ref qO4) C0 V i_NM rfl rfl hO0 (by decide) w_2304 rfl d_14_27_82 ?_
            refine q_getN (ci := 14) (j := 0) (v := .int 1) C0 V i_DR rfl rfl hO4 (by decide) wo_1997 rfl d_14_27_85 ?_
            refine q_put (ci := 12) (j := 0) (v := .int 1) (ty := .int) C0 V i_NM o_NM n_NM rfl rfl hO0 (by decide) w_2298 rfl rfl rfl rfl (Nat.le_of_ble_eq_true rfl) d_14_27_88 (fun H locs w155 hu156 hO0 V => ?_)
            replace hO0 : w155[116]? = (some (qO0, .inr (12, [.int 1, .ref qA1, .int 0, .ref qA2, .int 0, .ref qO3, .ref qO4, .ref qO5, .ref qO6, .ref qO7, .ref qA8, .ref qA9])) : Option (Nat × va_E)) := hO0
            replace hF := q_gs hF hu156 (Nat.le_of_ble_eq_true rfl)
            exact q_retv C0 V (⟨1, 0, 0, hO0, (show ((1 : Int32).toInt = 0 ∧ ((0 ≤ x1.toInt ∧ x1.toInt ≤ 2) ∧ (0 ≤ x2.toInt ∧ x2.toInt ≤ 9) ∧ (0 ≤ x3.toInt ∧ x3.toInt ≤ 9) ∧ (0 ≤ x5.toInt ∧ x5.toInt ≤ 7) ∧ (x1.toInt = 0 → ((-10000) ≤ x4.toInt ∧ x4.toInt ≤ 10000)) ∧ (x1.toInt ≠ 0 → (1 ≤ x4.toInt ∧ x4.toInt ≤ 1000)))) ∨ ((1 : Int32).toInt = 1 ∧ ¬ ((0 ≤ x1.toInt ∧ x1.toInt ≤ 2) ∧ (0 ≤ x2.toInt ∧ x2.toInt ≤ 9) ∧ (0 ≤ x3.toInt ∧ x3.toInt ≤ 9) ∧ (0 ≤ x5.toInt ∧ x5.toInt ≤ 7) ∧ (x1.toInt = 0 → ((-10000) ≤ x4.toInt ∧ x4.toInt ≤ 10000)) ∧ (x1.toInt ≠ 0 → (1 ≤ x4.toInt ∧ x4.toInt ≤ 1000)))) from by have t1 : 0 ≤ x1.toInt := q_nltI c1; have t2 : x1.toInt ≤ 2 := q_leI c5; have t3 : x1.toInt ≠ 0 := q_neI c9; have t4 : x1.toInt = 1 := q_eqI c10; have t5 : 0 ≤ x2.toInt := q_nltI c136; have t6 : 10 ≤ x2.toInt := q_nltI c137; have e0 : (1 : Int32).toInt = 1 := (by decide); omega), hF⟩) d_14_27_91
      ·
        refine lv_aload_n hx hb d_14_27_30 rfl (lv_at hl 0 rfl) ?_
        refine q_get (ci := 12) (j := 6) (v := .ref qO4) C0 V i_NM rfl rfl hO0 (by decide) w_2304 rfl d_14_27_31 ?_
        refine lv_iload_n hx hb d_14_27_34 rfl (lv_at hl 2 rfl) ?_
        refine lv_iload_n hx hb d_14_27_35 rfl (lv_at hl 3 rfl) ?_
        refine lv_iload hx hb d_14_27_36 (lv_at hl 4 rfl) ?_
        refine lv_iload hx hb d_14_27_38 (lv_at hl 5 rfl) ?_
        replace hO4 := (hu7 _ (q_pd 134 116 rfl)).trans (hO4)
        replace hA25 := (hu7 _ (q_pd 136 116 rfl)).trans (hA25)
        replace hA26 := (hu7 _ (q_pd 137 116 rfl)).trans (hA26)
        replace hA27 := (hu7 _ (q_pd 138 116 rfl)).trans (hA27)
        replace hA28 := (hu7 _ (q_pd 139 116 rfl)).trans (hA28)
        replace hA29 := (hu7 _ (q_pd 140 116 rfl)).trans (hA29)
        refine q_gov V (q_runV (As := [.int x2, .int x3, .int x4, .int x5]) (rest := []) (d := 4) (mc := 0) (ms := 0) (ci := 14) C0 V rfl LV_NM_219 (c_DR_toScale l D g w6 134 136 137 138 139 140 qO4 qA24 qA25 qA26 qA27 qA28 qA29 qA30 qA31 qA32 qA33 x2 x3 x4 x5 hO4 hA25 hA26 hA27 hA28 hA29 (q_pd 136 137 rfl) (q_pd 136 138 rfl) (q_pd 136 139 rfl) (q_pd 136 140 rfl) (q_pd 137 138 rfl) (q_pd 137 139 rfl) (q_pd 137 140 rfl) (q_pd 138 139 rfl) (q_pd 138 140 rfl) (q_pd 139 140 rfl) _) rfl rfl hO4 rfl hl.1 rfl (Nat.le_of_ble_eq_true rfl) ⟨by decide, by decide⟩ ⟨Nat.le_of_ble_eq_true rfl, Nat.le_of_ble_eq_true rfl⟩ d_14_27_40) (fun u158 H locs hp157 V => ?_)
        rcases hp157 with ⟨c159, hg160, hO4, hA25, hA26, hA27, hA28, hA29⟩ | ⟨c161, c162, c163, hg164, hO4, hA25, hA26, hA27, hA28, hA29⟩ | ⟨c165, c166, c167, c168, c169, hg170, hO4, hA25, hA26, hA27, hA28, hA29⟩ | ⟨c171, c172, c173, c174, c175, c176, c177, hg178, hO4, hA25, hA26, hA27, hA28, hA29⟩ | ⟨c179, c180, c181, c182, c183, c184, c185, c186, c187, c188, hg189, hO4, hA25, hA26, hA27, hA28, hA29⟩ | ⟨c190, c191, c192, c193, c194, c195, c196, c197, hg198, hO4, hA25, hA26, hA27, hA28, hA29⟩ | ⟨c199, c200, c201, c202, c203, c204, hg205, hO4, hA25, hA26, hA27, hA28, hA29⟩ | ⟨c206, c207, c208, c209, hg210, hO4, hA25, hA26, hA27, hA28, hA29⟩ | ⟨c211, c212, hg213, hO4, hA25, hA26, hA27, hA28, hA29⟩
        ·
          replace hF := q_gc hF hg160 (q_al (Nat.le_of_ble_eq_true rfl) (q_al (Nat.le_of_ble_eq_true rfl) (q_al (Nat.le_of_ble_eq_true rfl) (q_al (Nat.le_of_ble_eq_true rfl) (q_al (Nat.le_of_ble_eq_true rfl) (q_al (Nat.le_of_ble_eq_true rfl) (fun _ h => absurd h List.not_mem_nil)))))))
          refine lv_goto (tgt := 80) hx hb d_14_27_43 (by decide) ?_
          refine lv_aload_n hx hb d_14_27_80 rfl (lv_at hl 0 rfl) ?_
          refine lv_aload_n hx hb d_14_27_81 rfl (lv_at hl 0 rfl) ?_
          replace hO0 := (hg160 _ (q_nc (q_pd 116 134 rfl) (q_nc (q_pd 116 136 rfl) (q_nc (q_pd 116 137 rfl) (q_nc (q_pd 116 138 rfl) (q_nc (q_pd 116 139 rfl) (q_nc (q_pd 116 140 rfl) List.not_mem_nil))))))).trans (hO0)
          refine q_get (ci := 12) (j := 6) (v := .ref qO4) C0 V i_NM rfl rfl hO0 (by decide) w_2304 rfl d_14_27_82 ?_
          refine q_getN (ci := 14) (j := 0) (v := .int 1) C0 V i_DR rfl rfl hO4 (by decide) wo_1997 rfl d_14_27_85 ?_
          refine q_put (ci := 12) (j := 0) (v := .int 1) (ty := .int) C0 V i_NM o_NM n_NM rfl rfl hO0 (by decide) w_2298 rfl rfl rfl rfl (Nat.le_of_ble_eq_true rfl) d_14_27_88 (fun H locs w214 hu215 hO0 V => ?_)
          replace hO0 : w214[116]? = (some (qO0, .inr (12, [.int 1, .ref qA1, .int 0, .ref qA2, .int 0, .ref qO3, .ref qO4, .ref qO5, .ref qO6, .ref qO7, .ref qA8, .ref qA9])) : Option (Nat × va_E)) := hO0
          replace hF := q_gs hF hu215 (Nat.le_of_ble_eq_true rfl)
          exact q_retv C0 V (⟨1, 0, 0, hO0, (show ((1 : Int32).toInt = 0 ∧ ((0 ≤ x1.toInt ∧ x1.toInt ≤ 2) ∧ (0 ≤ x2.toInt ∧ x2.toInt ≤ 9) ∧ (0 ≤ x3.toInt ∧ x3.toInt ≤ 9) ∧ (0 ≤ x5.toInt ∧ x5.toInt ≤ 7) ∧ (x1.toInt = 0 → ((-10000) ≤ x4.toInt ∧ x4.toInt ≤ 10000)) ∧ (x1.toInt ≠ 0 → (1 ≤ x4.toInt ∧ x4.toInt ≤ 1000)))) ∨ ((1 : Int32).toInt = 1 ∧ ¬ ((0 ≤ x1.toInt ∧ x1.toInt ≤ 2) ∧ (0 ≤ x2.toInt ∧ x2.toInt ≤ 9) ∧ (0 ≤ x3.toInt ∧ x3.toInt ≤ 9) ∧ (0 ≤ x5.toInt ∧ x5.toInt ≤ 7) ∧ (x1.toInt = 0 → ((-10000) ≤ x4.toInt ∧ x4.toInt ≤ 10000)) ∧ (x1.toInt ≠ 0 → (1 ≤ x4.toInt ∧ x4.toInt ≤ 1000)))) from by have t1 : 0 ≤ x1.toInt := q_nltI c1; have t2 : x1.toInt ≤ 2 := q_leI c5; have t3 : x1.toInt = 0 := q_eqI c9; have t4 : x2.toInt < 0 := q_ltI c159; have e0 : (1 : Int32).toInt = 1 := (by decide); omega), hF⟩) d_14_27_91
        ·
          replace hF := q_gc hF hg164 (q_al (Nat.le_of_ble_eq_true rfl) (q_al (Nat.le_of_ble_eq_true rfl) (q_al (Nat.le_of_ble_eq_true rfl) (q_al (Nat.le_of_ble_eq_true rfl) (q_al (Nat.le_of_ble_eq_true rfl) (q_al (Nat.le_of_ble_eq_true rfl) (fun _ h => absurd h List.not_mem_nil)))))))
          refine lv_goto (tgt := 80) hx hb d_14_27_43 (by decide) ?_
          refine lv_aload_n hx hb d_14_27_80 rfl (lv_at hl 0 rfl) ?_
          refine lv_aload_n hx hb d_14_27_81 rfl (lv_at hl 0 rfl) ?_
          replace hO0 := (hg164 _ (q_nc (q_pd 116 134 rfl) (q_nc (q_pd 116 136 rfl) (q_nc (q_pd 116 137 rfl) (q_nc (q_pd 116 138 rfl) (q_nc (q_pd 116 139 rfl) (q_nc (q_pd 116 140 rfl) List.not_mem_nil))))))).trans (hO0)
          refine q_get (ci := 12) (j := 6) (v := .ref qO4) C0 V i_NM rfl rfl hO0 (by decide) w_2304 rfl d_14_27_82 ?_
          refine q_getN (ci := 14) (j := 0) (v := .int 1) C0 V i_DR rfl rfl hO4 (by decide) wo_1997 rfl d_14_27_85 ?_
          refine q_put (ci := 12) (j := 0) (v := .int 1) (ty := .int) C0 V i_NM o_NM n_NM rfl rfl hO0 (by decide) w_2298 rfl rfl rfl rfl (Nat.le_of_ble_eq_true rfl) d_14_27_88 (fun H locs w216 hu217 hO0 V => ?_)
          replace hO0 : w216[116]? = (some (qO0, .inr (12, [.int 1, .ref qA1, .int 0, .ref qA2, .int 0, .ref qO3, .ref qO4, .ref qO5, .ref qO6, .ref qO7, .ref qA8, .ref qA9])) : Option (Nat × va_E)) := hO0
          replace hF := q_gs hF hu217 (Nat.le_of_ble_eq_true rfl)
          exact q_retv C0 V (⟨1, 0, 0, hO0, (show ((1 : Int32).toInt = 0 ∧ ((0 ≤ x1.toInt ∧ x1.toInt ≤ 2) ∧ (0 ≤ x2.toInt ∧ x2.toInt ≤ 9) ∧ (0 ≤ x3.toInt ∧ x3.toInt ≤ 9) ∧ (0 ≤ x5.toInt ∧ x5.toInt ≤ 7) ∧ (x1.toInt = 0 → ((-10000) ≤ x4.toInt ∧ x4.toInt ≤ 10000)) ∧ (x1.toInt ≠ 0 → (1 ≤ x4.toInt ∧ x4.toInt ≤ 1000)))) ∨ ((1 : Int32).toInt = 1 ∧ ¬ ((0 ≤ x1.toInt ∧ x1.toInt ≤ 2) ∧ (0 ≤ x2.toInt ∧ x2.toInt ≤ 9) ∧ (0 ≤ x3.toInt ∧ x3.toInt ≤ 9) ∧ (0 ≤ x5.toInt ∧ x5.toInt ≤ 7) ∧ (x1.toInt = 0 → ((-10000) ≤ x4.toInt ∧ x4.toInt ≤ 10000)) ∧ (x1.toInt ≠ 0 → (1 ≤ x4.toInt ∧ x4.toInt ≤ 1000)))) from by have t1 : 0 ≤ x1.toInt := q_nltI c1; have t2 : x1.toInt ≤ 2 := q_leI c5; have t3 : x1.toInt = 0 := q_eqI c9; have t4 : 0 ≤ x2.toInt := q_nltI c161; have t5 : x2.toInt < 10 := q_ltI c162; have t6 : x3.toInt < 0 := q_ltI c163; have e0 : (1 : Int32).toInt = 1 := (by decide); omega), hF⟩) d_14_27_91
        ·
          replace hF := q_gc hF hg170 (q_al (Nat.le_of_ble_eq_true rfl) (q_al (Nat.le_of_ble_eq_true rfl) (q_al (Nat.le_of_ble_eq_true rfl) (q_al (Nat.le_of_ble_eq_true rfl) (q_al (Nat.le_of_ble_eq_true rfl) (q_al (Nat.le_of_ble_eq_true rfl) (fun _ h => absurd h List.not_mem_nil)))))))
          refine lv_goto (tgt := 80) hx hb d_14_27_43 (by decide) ?_
          refine lv_aload_n hx hb d_14_27_80 rfl (lv_at hl 0 rfl) ?_
          refine lv_aload_n hx hb d_14_27_81 rfl (lv_at hl 0 rfl) ?_
          replace hO0 := (hg170 _ (q_nc (q_pd 116 134 rfl) (q_nc (q_pd 116 136 rfl) (q_nc (q_pd 116 137 rfl) (q_nc (q_pd 116 138 rfl) (q_nc (q_pd 116 139 rfl) (q_nc (q_pd 116 140 rfl) List.not_mem_nil))))))).trans (hO0)
          refine q_get (ci := 12) (j := 6) (v := .ref qO4) C0 V i_NM rfl rfl hO0 (by decide) w_2304 rfl d_14_27_82 ?_
          refine q_getN (ci := 14) (j := 0) (v := .int 1) C0 V i_DR rfl rfl hO4 (by decide) wo_1997 rfl d_14_27_85 ?_
          refine q_put (ci := 12) (j := 0) (v := .int 1) (ty := .int) C0 V i_NM o_NM n_NM rfl rfl hO0 (by decide) w_2298 rfl rfl rfl rfl (Nat.le_of_ble_eq_true rfl) d_14_27_88 (fun H locs w218 hu219 hO0 V => ?_)
          replace hO0 : w218[116]? = (some (qO0, .inr (12, [.int 1, .ref qA1, .int 0, .ref qA2, .int 0, .ref qO3, .ref qO4, .ref qO5, .ref qO6, .ref qO7, .ref qA8, .ref qA9])) : Option (Nat × va_E)) := hO0
          replace hF := q_gs hF hu219 (Nat.le_of_ble_eq_true rfl)
          exact q_retv C0 V (⟨1, 0, 0, hO0, (show ((1 : Int32).toInt = 0 ∧ ((0 ≤ x1.toInt ∧ x1.toInt ≤ 2) ∧ (0 ≤ x2.toInt ∧ x2.toInt ≤ 9) ∧ (0 ≤ x3.toInt ∧ x3.toInt ≤ 9) ∧ (0 ≤ x5.toInt ∧ x5.toInt ≤ 7) ∧ (x1.toInt = 0 → ((-10000) ≤ x4.toInt ∧ x4.toInt ≤ 10000)) ∧ (x1.toInt ≠ 0 → (1 ≤ x4.toInt ∧ x4.toInt ≤ 1000)))) ∨ ((1 : Int32).toInt = 1 ∧ ¬ ((0 ≤ x1.toInt ∧ x1.toInt ≤ 2) ∧ (0 ≤ x2.toInt ∧ x2.toInt ≤ 9) ∧ (0 ≤ x3.toInt ∧ x3.toInt ≤ 9) ∧ (0 ≤ x5.toInt ∧ x5.toInt ≤ 7) ∧ (x1.toInt = 0 → ((-10000) ≤ x4.toInt ∧ x4.toInt ≤ 10000)) ∧ (x1.toInt ≠ 0 → (1 ≤ x4.toInt ∧ x4.toInt ≤ 1000)))) from by have t1 : 0 ≤ x1.toInt := q_nltI c1; have t2 : x1.toInt ≤ 2 := q_leI c5; have t3 : x1.toInt = 0 := q_eqI c9; have t4 : 0 ≤ x2.toInt := q_nltI c165; have t5 : x2.toInt < 10 := q_ltI c166; have t6 : 0 ≤ x3.toInt := q_nltI c167; have t7 : x3.toInt < 10 := q_ltI c168; have t8 : x5.toInt < 0 := q_ltI c169; have e0 : (1 : Int32).toInt = 1 := (by decide); omega), hF⟩) d_14_27_91
        ·
          replace hF := q_gc hF hg178 (q_al (Nat.le_of_ble_eq_true rfl) (q_al (Nat.le_of_ble_eq_true rfl) (q_al (Nat.le_of_ble_eq_true rfl) (q_al (Nat.le_of_ble_eq_true rfl) (q_al (Nat.le_of_ble_eq_true rfl) (q_al (Nat.le_of_ble_eq_true rfl) (fun _ h => absurd h List.not_mem_nil)))))))
          refine lv_goto (tgt := 80) hx hb d_14_27_43 (by decide) ?_
          refine lv_aload_n hx hb d_14_27_80 rfl (lv_at hl 0 rfl) ?_
          refine lv_aload_n hx hb d_14_27_81 rfl (lv_at hl 0 rfl) ?_
          replace hO0 := (hg178 _ (q_nc (q_pd 116 134 rfl) (q_nc (q_pd 116 136 rfl) (q_nc (q_pd 116 137 rfl) (q_nc (q_pd 116 138 rfl) (q_nc (q_pd 116 139 rfl) (q_nc (q_pd 116 140 rfl) List.not_mem_nil))))))).trans (hO0)
          refine q_get (ci := 12) (j := 6) (v := .ref qO4) C0 V i_NM rfl rfl hO0 (by decide) w_2304 rfl d_14_27_82 ?_
          refine q_getN (ci := 14) (j := 0) (v := .int 1) C0 V i_DR rfl rfl hO4 (by decide) wo_1997 rfl d_14_27_85 ?_
          refine q_put (ci := 12) (j := 0) (v := .int 1) (ty := .int) C0 V i_NM o_NM n_NM rfl rfl hO0 (by decide) w_2298 rfl rfl rfl rfl (Nat.le_of_ble_eq_true rfl) d_14_27_88 (fun H locs w220 hu221 hO0 V => ?_)
          replace hO0 : w220[116]? = (some (qO0, .inr (12, [.int 1, .ref qA1, .int 0, .ref qA2, .int 0, .ref qO3, .ref qO4, .ref qO5, .ref qO6, .ref qO7, .ref qA8, .ref qA9])) : Option (Nat × va_E)) := hO0
          replace hF := q_gs hF hu221 (Nat.le_of_ble_eq_true rfl)
          exact q_retv C0 V (⟨1, 0, 0, hO0, (show ((1 : Int32).toInt = 0 ∧ ((0 ≤ x1.toInt ∧ x1.toInt ≤ 2) ∧ (0 ≤ x2.toInt ∧ x2.toInt ≤ 9) ∧ (0 ≤ x3.toInt ∧ x3.toInt ≤ 9) ∧ (0 ≤ x5.toInt ∧ x5.toInt ≤ 7) ∧ (x1.toInt = 0 → ((-10000) ≤ x4.toInt ∧ x4.toInt ≤ 10000)) ∧ (x1.toInt ≠ 0 → (1 ≤ x4.toInt ∧ x4.toInt ≤ 1000)))) ∨ ((1 : Int32).toInt = 1 ∧ ¬ ((0 ≤ x1.toInt ∧ x1.toInt ≤ 2) ∧ (0 ≤ x2.toInt ∧ x2.toInt ≤ 9) ∧ (0 ≤ x3.toInt ∧ x3.toInt ≤ 9) ∧ (0 ≤ x5.toInt ∧ x5.toInt ≤ 7) ∧ (x1.toInt = 0 → ((-10000) ≤ x4.toInt ∧ x4.toInt ≤ 10000)) ∧ (x1.toInt ≠ 0 → (1 ≤ x4.toInt ∧ x4.toInt ≤ 1000)))) from by have t1 : 0 ≤ x1.toInt := q_nltI c1; have t2 : x1.toInt ≤ 2 := q_leI c5; have t3 : x1.toInt = 0 := q_eqI c9; have t4 : 0 ≤ x2.toInt := q_nltI c171; have t5 : x2.toInt < 10 := q_ltI c172; have t6 : 0 ≤ x3.toInt := q_nltI c173; have t7 : x3.toInt < 10 := q_ltI c174; have t8 : 0 ≤ x5.toInt := q_nltI c175; have t9 : x5.toInt ≤ 7 := q_leI c176; have t10 : x4.toInt < (-10000) := q_ltI c177; have e0 : (1 : Int32).toInt = 1 := (by decide); omega), hF⟩) d_14_27_91
        ·
          replace hF := q_gc hF hg189 (q_al (Nat.le_of_ble_eq_true rfl) (q_al (Nat.le_of_ble_eq_true rfl) (q_al (Nat.le_of_ble_eq_true rfl) (q_al (Nat.le_of_ble_eq_true rfl) (q_al (Nat.le_of_ble_eq_true rfl) (q_al (Nat.le_of_ble_eq_true rfl) (fun _ h => absurd h List.not_mem_nil)))))))
          refine lv_goto (tgt := 80) hx hb d_14_27_43 (by decide) ?_
          refine lv_aload_n hx hb d_14_27_80 rfl (lv_at hl 0 rfl) ?_
          refine lv_aload_n hx hb d_14_27_81 rfl (lv_at hl 0 rfl) ?_
          replace hO0 := (hg189 _ (q_nc (q_pd 116 134 rfl) (q_nc (q_pd 116 136 rfl) (q_nc (q_pd 116 137 rfl) (q_nc (q_pd 116 138 rfl) (q_nc (q_pd 116 139 rfl) (q_nc (q_pd 116 140 rfl) List.not_mem_nil))))))).trans (hO0)
          refine q_get (ci := 12) (j := 6) (v := .ref qO4) C0 V i_NM rfl rfl hO0 (by decide) w_2304 rfl d_14_27_82 ?_
          refine q_getN (ci := 14) (j := 0) (v := .int 0) C0 V i_DR rfl rfl hO4 (by decide) wo_1997 rfl d_14_27_85 ?_
          refine q_put (ci := 12) (j := 0) (v := .int 0) (ty := .int) C0 V i_NM o_NM n_NM rfl rfl hO0 (by decide) w_2298 rfl rfl rfl rfl (Nat.le_of_ble_eq_true rfl) d_14_27_88 (fun H locs w222 hu223 hO0 V => ?_)
          replace hO0 : w222[116]? = (some (qO0, .inr (12, [.int 0, .ref qA1, .int 0, .ref qA2, .int 0, .ref qO3, .ref qO4, .ref qO5, .ref qO6, .ref qO7, .ref qA8, .ref qA9])) : Option (Nat × va_E)) := hO0
          replace hF := q_gs hF hu223 (Nat.le_of_ble_eq_true rfl)
          exact q_retv C0 V (⟨0, 0, 0, hO0, (show ((0 : Int32).toInt = 0 ∧ ((0 ≤ x1.toInt ∧ x1.toInt ≤ 2) ∧ (0 ≤ x2.toInt ∧ x2.toInt ≤ 9) ∧ (0 ≤ x3.toInt ∧ x3.toInt ≤ 9) ∧ (0 ≤ x5.toInt ∧ x5.toInt ≤ 7) ∧ (x1.toInt = 0 → ((-10000) ≤ x4.toInt ∧ x4.toInt ≤ 10000)) ∧ (x1.toInt ≠ 0 → (1 ≤ x4.toInt ∧ x4.toInt ≤ 1000)))) ∨ ((0 : Int32).toInt = 1 ∧ ¬ ((0 ≤ x1.toInt ∧ x1.toInt ≤ 2) ∧ (0 ≤ x2.toInt ∧ x2.toInt ≤ 9) ∧ (0 ≤ x3.toInt ∧ x3.toInt ≤ 9) ∧ (0 ≤ x5.toInt ∧ x5.toInt ≤ 7) ∧ (x1.toInt = 0 → ((-10000) ≤ x4.toInt ∧ x4.toInt ≤ 10000)) ∧ (x1.toInt ≠ 0 → (1 ≤ x4.toInt ∧ x4.toInt ≤ 1000)))) from by have t1 : 0 ≤ x1.toInt := q_nltI c1; have t2 : x1.toInt ≤ 2 := q_leI c5; have t3 : x1.toInt = 0 := q_eqI c9; have t4 : 0 ≤ x2.toInt := q_nltI c179; have t5 : x2.toInt < 10 := q_ltI c180; have t6 : 0 ≤ x3.toInt := q_nltI c181; have t7 : x3.toInt < 10 := q_ltI c182; have t8 : 0 ≤ x5.toInt := q_nltI c183; have t9 : x5.toInt ≤ 7 := q_leI c184; have t10 : (-10000) ≤ x4.toInt := q_nltI c185; have t11 : x4.toInt ≤ 10000 := q_leI c186; have ea12 : (x4.toInt64 : Int64).toInt = x4.toInt := (q_i2l (x := x4.toInt) rfl); have eb12 : ((-10000) : Int64).toInt = (-10000) := (by decide); have ec12 := q_k2 c187; have ea13 : (x4.toInt64 : Int64).toInt = x4.toInt := (q_i2l (x := x4.toInt) rfl); have eb13 : (10000 : Int64).toInt = 10000 := (by decide); have ec13 := q_k5 c188; have e0 : (0 : Int32).toInt = 0 := (by decide); omega), hF⟩) d_14_27_91
        ·
          replace hF := q_gc hF hg198 (q_al (Nat.le_of_ble_eq_true rfl) (q_al (Nat.le_of_ble_eq_true rfl) (q_al (Nat.le_of_ble_eq_true rfl) (q_al (Nat.le_of_ble_eq_true rfl) (q_al (Nat.le_of_ble_eq_true rfl) (q_al (Nat.le_of_ble_eq_true rfl) (fun _ h => absurd h List.not_mem_nil)))))))
          refine lv_goto (tgt := 80) hx hb d_14_27_43 (by decide) ?_
          refine lv_aload_n hx hb d_14_27_80 rfl (lv_at hl 0 rfl) ?_
          refine lv_aload_n hx hb d_14_27_81 rfl (lv_at hl 0 rfl) ?_
          replace hO0 := (hg198 _ (q_nc (q_pd 116 134 rfl) (q_nc (q_pd 116 136 rfl) (q_nc (q_pd 116 137 rfl) (q_nc (q_pd 116 138 rfl) (q_nc (q_pd 116 139 rfl) (q_nc (q_pd 116 140 rfl) List.not_mem_nil))))))).trans (hO0)
          refine q_get (ci := 12) (j := 6) (v := .ref qO4) C0 V i_NM rfl rfl hO0 (by decide) w_2304 rfl d_14_27_82 ?_
          refine q_getN (ci := 14) (j := 0) (v := .int 1) C0 V i_DR rfl rfl hO4 (by decide) wo_1997 rfl d_14_27_85 ?_
          refine q_put (ci := 12) (j := 0) (v := .int 1) (ty := .int) C0 V i_NM o_NM n_NM rfl rfl hO0 (by decide) w_2298 rfl rfl rfl rfl (Nat.le_of_ble_eq_true rfl) d_14_27_88 (fun H locs w224 hu225 hO0 V => ?_)
          replace hO0 : w224[116]? = (some (qO0, .inr (12, [.int 1, .ref qA1, .int 0, .ref qA2, .int 0, .ref qO3, .ref qO4, .ref qO5, .ref qO6, .ref qO7, .ref qA8, .ref qA9])) : Option (Nat × va_E)) := hO0
          replace hF := q_gs hF hu225 (Nat.le_of_ble_eq_true rfl)
          exact q_retv C0 V (⟨1, 0, 0, hO0, (show ((1 : Int32).toInt = 0 ∧ ((0 ≤ x1.toInt ∧ x1.toInt ≤ 2) ∧ (0 ≤ x2.toInt ∧ x2.toInt ≤ 9) ∧ (0 ≤ x3.toInt ∧ x3.toInt ≤ 9) ∧ (0 ≤ x5.toInt ∧ x5.toInt ≤ 7) ∧ (x1.toInt = 0 → ((-10000) ≤ x4.toInt ∧ x4.toInt ≤ 10000)) ∧ (x1.toInt ≠ 0 → (1 ≤ x4.toInt ∧ x4.toInt ≤ 1000)))) ∨ ((1 : Int32).toInt = 1 ∧ ¬ ((0 ≤ x1.toInt ∧ x1.toInt ≤ 2) ∧ (0 ≤ x2.toInt ∧ x2.toInt ≤ 9) ∧ (0 ≤ x3.toInt ∧ x3.toInt ≤ 9) ∧ (0 ≤ x5.toInt ∧ x5.toInt ≤ 7) ∧ (x1.toInt = 0 → ((-10000) ≤ x4.toInt ∧ x4.toInt ≤ 10000)) ∧ (x1.toInt ≠ 0 → (1 ≤ x4.toInt ∧ x4.toInt ≤ 1000)))) from by have t1 : 0 ≤ x1.toInt := q_nltI c1; have t2 : x1.toInt ≤ 2 := q_leI c5; have t3 : x1.toInt = 0 := q_eqI c9; have t4 : 0 ≤ x2.toInt := q_nltI c190; have t5 : x2.toInt < 10 := q_ltI c191; have t6 : 0 ≤ x3.toInt := q_nltI c192; have t7 : x3.toInt < 10 := q_ltI c193; have t8 : 0 ≤ x5.toInt := q_nltI c194; have t9 : x5.toInt ≤ 7 := q_leI c195; have t10 : (-10000) ≤ x4.toInt := q_nltI c196; have t11 : 10000 < x4.toInt := q_nleI c197; have e0 : (1 : Int32).toInt = 1 := (by decide); omega), hF⟩) d_14_27_91
        ·
          replace hF := q_gc hF hg205 (q_al (Nat.le_of_ble_eq_true rfl) (q_al (Nat.le_of_ble_eq_true rfl) (q_al (Nat.le_of_ble_eq_true rfl) (q_al (Nat.le_of_ble_eq_true rfl) (q_al (Nat.le_of_ble_eq_true rfl) (q_al (Nat.le_of_ble_eq_true rfl) (fun _ h => absurd h List.not_mem_nil)))))))
          refine lv_goto (tgt := 80) hx hb d_14_27_43 (by decide) ?_
          refine lv_aload_n hx hb d_14_27_80 rfl (lv_at hl 0 rfl) ?_
          refine lv_aload_n hx hb d_14_27_81 rfl (lv_at hl 0 rfl) ?_
          replace hO0 := (hg205 _ (q_nc (q_pd 116 134 rfl) (q_nc (q_pd 116 136 rfl) (q_nc (q_pd 116 137 rfl) (q_nc (q_pd 116 138 rfl) (q_nc (q_pd 116 139 rfl) (q_nc (q_pd 116 140 rfl) List.not_mem_nil))))))).trans (hO0)
          refine q_get (ci := 12) (j := 6) (v := .ref qO4) C0 V i_NM rfl rfl hO0 (by decide) w_2304 rfl d_14_27_82 ?_
          refine q_getN (ci := 14) (j := 0) (v := .int 1) C0 V i_DR rfl rfl hO4 (by decide) wo_1997 rfl d_14_27_85 ?_
          refine q_put (ci := 12) (j := 0) (v := .int 1) (ty := .int) C0 V i_NM o_NM n_NM rfl rfl hO0 (by decide) w_2298 rfl rfl rfl rfl (Nat.le_of_ble_eq_true rfl) d_14_27_88 (fun H locs w226 hu227 hO0 V => ?_)
          replace hO0 : w226[116]? = (some (qO0, .inr (12, [.int 1, .ref qA1, .int 0, .ref qA2, .int 0, .ref qO3, .ref qO4, .ref qO5, .ref qO6, .ref qO7, .ref qA8, .ref qA9])) : Option (Nat × va_E)) := hO0
          replace hF := q_gs hF hu227 (Nat.le_of_ble_eq_true rfl)
          exact q_retv C0 V (⟨1, 0, 0, hO0, (show ((1 : Int32).toInt = 0 ∧ ((0 ≤ x1.toInt ∧ x1.toInt ≤ 2) ∧ (0 ≤ x2.toInt ∧ x2.toInt ≤ 9) ∧ (0 ≤ x3.toInt ∧ x3.toInt ≤ 9) ∧ (0 ≤ x5.toInt ∧ x5.toInt ≤ 7) ∧ (x1.toInt = 0 → ((-10000) ≤ x4.toInt ∧ x4.toInt ≤ 10000)) ∧ (x1.toInt ≠ 0 → (1 ≤ x4.toInt ∧ x4.toInt ≤ 1000)))) ∨ ((1 : Int32).toInt = 1 ∧ ¬ ((0 ≤ x1.toInt ∧ x1.toInt ≤ 2) ∧ (0 ≤ x2.toInt ∧ x2.toInt ≤ 9) ∧ (0 ≤ x3.toInt ∧ x3.toInt ≤ 9) ∧ (0 ≤ x5.toInt ∧ x5.toInt ≤ 7) ∧ (x1.toInt = 0 → ((-10000) ≤ x4.toInt ∧ x4.toInt ≤ 10000)) ∧ (x1.toInt ≠ 0 → (1 ≤ x4.toInt ∧ x4.toInt ≤ 1000)))) from by have t1 : 0 ≤ x1.toInt := q_nltI c1; have t2 : x1.toInt ≤ 2 := q_leI c5; have t3 : x1.toInt = 0 := q_eqI c9; have t4 : 0 ≤ x2.toInt := q_nltI c199; have t5 : x2.toInt < 10 := q_ltI c200; have t6 : 0 ≤ x3.toInt := q_nltI c201; have t7 : x3.toInt < 10 := q_ltI c202; have t8 : 0 ≤ x5.toInt := q_nltI c203; have t9 : 7 < x5.toInt := q_nleI c204; have e0 : (1 : Int32).toInt = 1 := (by decide); omega), hF⟩) d_14_27_91
        ·
          replace hF := q_gc hF hg210 (q_al (Nat.le_of_ble_eq_true rfl) (q_al (Nat.le_of_ble_eq_true rfl) (q_al (Nat.le_of_ble_eq_true rfl) (q_al (Nat.le_of_ble_eq_true rfl) (q_al (Nat.le_of_ble_eq_true rfl) (q_al (Nat.le_of_ble_eq_true rfl) (fun _ h => absurd h List.not_mem_nil)))))))
          refine lv_goto (tgt := 80) hx hb d_14_27_43 (by decide) ?_
          refine lv_aload_n hx hb d_14_27_80 rfl (lv_at hl 0 rfl) ?_
          refine lv_aload_n hx hb d_14_27_81 rfl (lv_at hl 0 rfl) ?_
          replace hO0 := (hg210 _ (q_nc (q_pd 116 134 rfl) (q_nc (q_pd 116 136 rfl) (q_nc (q_pd 116 137 rfl) (q_nc (q_pd 116 138 rfl) (q_nc (q_pd 116 139 rfl) (q_nc (q_pd 116 140 rfl) List.not_mem_nil))))))).trans (hO0)
          refine q_get (ci := 12) (j := 6) (v := .ref qO4) C0 V i_NM rfl rfl hO0 (by decide) w_2304 rfl d_14_27_82 ?_
          refine q_getN (ci := 14) (j := 0) (v := .int 1) C0 V i_DR rfl rfl hO4 (by decide) wo_1997 rfl d_14_27_85 ?_
          refine q_put (ci := 12) (j := 0) (v := .int 1) (ty := .int) C0 V i_NM o_NM n_NM rfl rfl hO0 (by decide) w_2298 rfl rfl rfl rfl (Nat.le_of_ble_eq_true rfl) d_14_27_88 (fun H locs w228 hu229 hO0 V => ?_)
          replace hO0 : w228[116]? = (some (qO0, .inr (12, [.int 1, .ref qA1, .int 0, .ref qA2, .int 0, .ref qO3, .ref qO4, .ref qO5, .ref qO6, .ref qO7, .ref qA8, .ref qA9])) : Option (Nat × va_E)) := hO0
          replace hF := q_gs hF hu229 (Nat.le_of_ble_eq_true rfl)
          exact q_retv C0 V (⟨1, 0, 0, hO0, (show ((1 : Int32).toInt = 0 ∧ ((0 ≤ x1.toInt ∧ x1.toInt ≤ 2) ∧ (0 ≤ x2.toInt ∧ x2.toInt ≤ 9) ∧ (0 ≤ x3.toInt ∧ x3.toInt ≤ 9) ∧ (0 ≤ x5.toInt ∧ x5.toInt ≤ 7) ∧ (x1.toInt = 0 → ((-10000) ≤ x4.toInt ∧ x4.toInt ≤ 10000)) ∧ (x1.toInt ≠ 0 → (1 ≤ x4.toInt ∧ x4.toInt ≤ 1000)))) ∨ ((1 : Int32).toInt = 1 ∧ ¬ ((0 ≤ x1.toInt ∧ x1.toInt ≤ 2) ∧ (0 ≤ x2.toInt ∧ x2.toInt ≤ 9) ∧ (0 ≤ x3.toInt ∧ x3.toInt ≤ 9) ∧ (0 ≤ x5.toInt ∧ x5.toInt ≤ 7) ∧ (x1.toInt = 0 → ((-10000) ≤ x4.toInt ∧ x4.toInt ≤ 10000)) ∧ (x1.toInt ≠ 0 → (1 ≤ x4.toInt ∧ x4.toInt ≤ 1000)))) from by have t1 : 0 ≤ x1.toInt := q_nltI c1; have t2 : x1.toInt ≤ 2 := q_leI c5; have t3 : x1.toInt = 0 := q_eqI c9; have t4 : 0 ≤ x2.toInt := q_nltI c206; have t5 : x2.toInt < 10 := q_ltI c207; have t6 : 0 ≤ x3.toInt := q_nltI c208; have t7 : 10 ≤ x3.toInt := q_nltI c209; have e0 : (1 : Int32).toInt = 1 := (by decide); omega), hF⟩) d_14_27_91
        ·
          replace hF := q_gc hF hg213 (q_al (Nat.le_of_ble_eq_true rfl) (q_al (Nat.le_of_ble_eq_true rfl) (q_al (Nat.le_of_ble_eq_true rfl) (q_al (Nat.le_of_ble_eq_true rfl) (q_al (Nat.le_of_ble_eq_true rfl) (q_al (Nat.le_of_ble_eq_true rfl) (fun _ h => absurd h List.not_mem_nil)))))))
          refine lv_goto (tgt := 80) hx hb d_14_27_43 (by decide) ?_
          refine lv_aload_n hx hb d_14_27_80 rfl (lv_at hl 0 rfl) ?_
          refine lv_aload_n hx hb d_14_27_81 rfl (lv_at hl 0 rfl) ?_
          replace hO0 := (hg213 _ (q_nc (q_pd 116 134 rfl) (q_nc (q_pd 116 136 rfl) (q_nc (q_pd 116 137 rfl) (q_nc (q_pd 116 138 rfl) (q_nc (q_pd 116 139 rfl) (q_nc (q_pd 116 140 rfl) List.not_mem_nil))))))).trans (hO0)
          refine q_get (ci := 12) (j := 6) (v := .ref qO4) C0 V i_NM rfl rfl hO0 (by decide) w_2304 rfl d_14_27_82 ?_
          refine q_getN (ci := 14) (j := 0) (v := .int 1) C0 V i_DR rfl rfl hO4 (by decide) wo_1997 rfl d_14_27_85 ?_
          refine q_put (ci := 12) (j := 0) (v := .int 1) (ty := .int) C0 V i_NM o_NM n_NM rfl rfl hO0 (by decide) w_2298 rfl rfl rfl rfl (Nat.le_of_ble_eq_true rfl) d_14_27_88 (fun H locs w230 hu231 hO0 V => ?_)
          replace hO0 : w230[116]? = (some (qO0, .inr (12, [.int 1, .ref qA1, .int 0, .ref qA2, .int 0, .ref qO3, .ref qO4, .ref qO5, .ref qO6, .ref qO7, .ref qA8, .ref qA9])) : Option (Nat × va_E)) := hO0
          replace hF := q_gs hF hu231 (Nat.le_of_ble_eq_true rfl)
          exact q_retv C0 V (⟨1, 0, 0, hO0, (show ((1 : Int32).toInt = 0 ∧ ((0 ≤ x1.toInt ∧ x1.toInt ≤ 2) ∧ (0 ≤ x2.toInt ∧ x2.toInt ≤ 9) ∧ (0 ≤ x3.toInt ∧ x3.toInt ≤ 9) ∧ (0 ≤ x5.toInt ∧ x5.toInt ≤ 7) ∧ (x1.toInt = 0 → ((-10000) ≤ x4.toInt ∧ x4.toInt ≤ 10000)) ∧ (x1.toInt ≠ 0 → (1 ≤ x4.toInt ∧ x4.toInt ≤ 1000)))) ∨ ((1 : Int32).toInt = 1 ∧ ¬ ((0 ≤ x1.toInt ∧ x1.toInt ≤ 2) ∧ (0 ≤ x2.toInt ∧ x2.toInt ≤ 9) ∧ (0 ≤ x3.toInt ∧ x3.toInt ≤ 9) ∧ (0 ≤ x5.toInt ∧ x5.toInt ≤ 7) ∧ (x1.toInt = 0 → ((-10000) ≤ x4.toInt ∧ x4.toInt ≤ 10000)) ∧ (x1.toInt ≠ 0 → (1 ≤ x4.toInt ∧ x4.toInt ≤ 1000)))) from by have t1 : 0 ≤ x1.toInt := q_nltI c1; have t2 : x1.toInt ≤ 2 := q_leI c5; have t3 : x1.toInt = 0 := q_eqI c9; have t4 : 0 ≤ x2.toInt := q_nltI c211; have t5 : 10 ≤ x2.toInt := q_nltI c212; have e0 : (1 : Int32).toInt = 1 := (by decide); omega), hF⟩) d_14_27_91
    ·
      refine lv_iconst (v := 1) hx hb d_14_27_10 (by decide) ?_
      refine lv_goto (tgt := 15) hx hb d_14_27_11 (by decide) ?_
      refine q_put (ci := 12) (j := 0) (v := .int 1) (ty := .int) C0 V i_NM o_NM n_NM rfl rfl hO0 (by decide) w_2298 rfl rfl rfl rfl (Nat.le_of_ble_eq_true rfl) d_14_27_15 (fun H locs w232 hu233 hO0 V => ?_)
      replace hO0 : w232[116]? = (some (qO0, .inr (12, [.int 1, .ref qA1, .int 0, .ref qA2, .int 0, .ref qO3, .ref qO4, .ref qO5, .ref qO6, .ref qO7, .ref qA8, .ref qA9])) : Option (Nat × va_E)) := hO0
      replace hF := q_gs hF hu233 (Nat.le_of_ble_eq_true rfl)
      refine lv_aload_n hx hb d_14_27_18 rfl (lv_at hl 0 rfl) ?_
      refine q_get (ci := 12) (j := 0) (v := .int 1) C0 V i_NM rfl rfl hO0 (by decide) w_2298 rfl d_14_27_19 ?_
      refine lv_if_le (tgt := 26) hx hb d_14_27_22 (by decide) (fun c234 => absurd c234 (by decide)) (fun c234 => ?_)
      exact q_retv C0 V (⟨1, 0, 0, hO0, (show ((1 : Int32).toInt = 0 ∧ ((0 ≤ x1.toInt ∧ x1.toInt ≤ 2) ∧ (0 ≤ x2.toInt ∧ x2.toInt ≤ 9) ∧ (0 ≤ x3.toInt ∧ x3.toInt ≤ 9) ∧ (0 ≤ x5.toInt ∧ x5.toInt ≤ 7) ∧ (x1.toInt = 0 → ((-10000) ≤ x4.toInt ∧ x4.toInt ≤ 10000)) ∧ (x1.toInt ≠ 0 → (1 ≤ x4.toInt ∧ x4.toInt ≤ 1000)))) ∨ ((1 : Int32).toInt = 1 ∧ ¬ ((0 ≤ x1.toInt ∧ x1.toInt ≤ 2) ∧ (0 ≤ x2.toInt ∧ x2.toInt ≤ 9) ∧ (0 ≤ x3.toInt ∧ x3.toInt ≤ 9) ∧ (0 ≤ x5.toInt ∧ x5.toInt ≤ 7) ∧ (x1.toInt = 0 → ((-10000) ≤ x4.toInt ∧ x4.toInt ≤ 10000)) ∧ (x1.toInt ≠ 0 → (1 ≤ x4.toInt ∧ x4.toInt ≤ 1000)))) from by have t1 : 0 ≤ x1.toInt := q_nltI c1; have t2 : 2 < x1.toInt := q_nleI c5; have e0 : (1 : Int32).toInt = 1 := (by decide); omega), hF⟩) d_14_27_25
