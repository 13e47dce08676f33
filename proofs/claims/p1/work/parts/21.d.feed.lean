/-! the class on a fresh object: feed -/
theorem d_11_3_0 : decode prog_11_method_3_code 0 = .ok (.aload_n 0, 1) := by decide +kernel
theorem d_11_3_1 : decode prog_11_method_3_code 1 = .ok (.getfield 17, 3) := by decide +kernel
theorem d_11_3_4 : decode prog_11_method_3_code 4 = .ok (.aload_n 0, 1) := by decide +kernel
theorem d_11_3_5 : decode prog_11_method_3_code 5 = .ok (.getfield 7, 3) := by decide +kernel
theorem d_11_3_8 : decode prog_11_method_3_code 8 = .ok (.if_icmp .ge 55, 3) := by decide +kernel
theorem d_11_3_11 : decode prog_11_method_3_code 11 = .ok (.bipush 8, 2) := by decide +kernel
theorem d_11_3_13 : decode prog_11_method_3_code 13 = .ok (.aload_n 0, 1) := by decide +kernel
theorem d_11_3_14 : decode prog_11_method_3_code 14 = .ok (.getfield 17, 3) := by decide +kernel
theorem d_11_3_17 : decode prog_11_method_3_code 17 = .ok (.bipush 7, 2) := by decide +kernel
theorem d_11_3_19 : decode prog_11_method_3_code 19 = .ok (.iand, 1) := by decide +kernel
theorem d_11_3_20 : decode prog_11_method_3_code 20 = .ok (.imul, 1) := by decide +kernel
theorem d_11_3_21 : decode prog_11_method_3_code 21 = .ok (.istore_n 2, 1) := by decide +kernel
theorem d_11_3_22 : decode prog_11_method_3_code 22 = .ok (.aload_n 0, 1) := by decide +kernel
theorem d_11_3_23 : decode prog_11_method_3_code 23 = .ok (.getfield 13, 3) := by decide +kernel
theorem d_11_3_26 : decode prog_11_method_3_code 26 = .ok (.aload_n 0, 1) := by decide +kernel
theorem d_11_3_27 : decode prog_11_method_3_code 27 = .ok (.getfield 17, 3) := by decide +kernel
theorem d_11_3_30 : decode prog_11_method_3_code 30 = .ok (.iconst 3, 1) := by decide +kernel
theorem d_11_3_31 : decode prog_11_method_3_code 31 = .ok (.ishr, 1) := by decide +kernel
theorem d_11_3_32 : decode prog_11_method_3_code 32 = .ok (.aload_n 0, 1) := by decide +kernel
theorem d_11_3_33 : decode prog_11_method_3_code 33 = .ok (.getfield 13, 3) := by decide +kernel
theorem d_11_3_36 : decode prog_11_method_3_code 36 = .ok (.aload_n 0, 1) := by decide +kernel
theorem d_11_3_37 : decode prog_11_method_3_code 37 = .ok (.getfield 17, 3) := by decide +kernel
theorem d_11_3_40 : decode prog_11_method_3_code 40 = .ok (.iconst 3, 1) := by decide +kernel
theorem d_11_3_41 : decode prog_11_method_3_code 41 = .ok (.ishr, 1) := by decide +kernel
theorem d_11_3_42 : decode prog_11_method_3_code 42 = .ok (.laload, 1) := by decide +kernel
theorem d_11_3_43 : decode prog_11_method_3_code 43 = .ok (.ldc2_w 20, 3) := by decide +kernel
theorem w_565 : (Cond.constantLong "NumberHouse$Sheet" (20 : Nat) (255 : Int64)) ∈ q_tbl := q_of 565 (by decide +kernel) (by decide +kernel)
theorem d_11_3_46 : decode prog_11_method_3_code 46 = .ok (.iload_n 2, 1) := by decide +kernel
theorem d_11_3_47 : decode prog_11_method_3_code 47 = .ok (.lshl, 1) := by decide +kernel
theorem d_11_3_48 : decode prog_11_method_3_code 48 = .ok (.ldc2_w 22, 3) := by decide +kernel
theorem w_566 : (Cond.constantLong "NumberHouse$Sheet" (22 : Nat) (-1 : Int64)) ∈ q_tbl := q_of 566 (by decide +kernel) (by decide +kernel)
theorem d_11_3_51 : decode prog_11_method_3_code 51 = .ok (.lxor, 1) := by decide +kernel
theorem d_11_3_52 : decode prog_11_method_3_code 52 = .ok (.land, 1) := by decide +kernel
theorem d_11_3_53 : decode prog_11_method_3_code 53 = .ok (.iload_n 1, 1) := by decide +kernel
theorem d_11_3_54 : decode prog_11_method_3_code 54 = .ok (.sipush 255, 3) := by decide +kernel
theorem d_11_3_57 : decode prog_11_method_3_code 57 = .ok (.iand, 1) := by decide +kernel
theorem d_11_3_58 : decode prog_11_method_3_code 58 = .ok (.i2l, 1) := by decide +kernel
theorem d_11_3_59 : decode prog_11_method_3_code 59 = .ok (.iload_n 2, 1) := by decide +kernel
theorem d_11_3_60 : decode prog_11_method_3_code 60 = .ok (.lshl, 1) := by decide +kernel
theorem d_11_3_61 : decode prog_11_method_3_code 61 = .ok (.lor, 1) := by decide +kernel
theorem d_11_3_62 : decode prog_11_method_3_code 62 = .ok (.lastore, 1) := by decide +kernel
theorem d_11_3_63 : decode prog_11_method_3_code 63 = .ok (.aload_n 0, 1) := by decide +kernel
theorem d_11_3_64 : decode prog_11_method_3_code 64 = .ok (.dup, 1) := by decide +kernel
theorem d_11_3_65 : decode prog_11_method_3_code 65 = .ok (.getfield 17, 3) := by decide +kernel
theorem d_11_3_68 : decode prog_11_method_3_code 68 = .ok (.iconst 1, 1) := by decide +kernel
theorem d_11_3_69 : decode prog_11_method_3_code 69 = .ok (.iadd, 1) := by decide +kernel
theorem d_11_3_70 : decode prog_11_method_3_code 70 = .ok (.putfield 17, 3) := by decide +kernel
theorem d_11_3_73 : decode prog_11_method_3_code 73 = .ok (.return_, 1) := by decide +kernel
def y_She_add : MethodName := ⟨"NumberHouse$Sheet", "add", "(I)V"⟩
set_option maxRecDepth 100000 in
set_option maxHeartbeats 4000000 in
theorem c_She_add (l : Launch) (D : va_G) (g : Nat → ClassId) (ws : va_W) (kO0 kA1 qO0 qA1 : Nat) (x1 : Int32) (hO0 : ws[kO0]? = (some (qO0, .inr (1, [.ref qA1, .int 4100, .int 0])) : Option (Nat × va_E))) (hA1 : ws[kA1]? = (some (qA1, .inl (g 1, 513, .inr (.inl (fun _ => 0)))) : Option (Nat × va_E))) : q_mV l y_She_add prog_11_method_3_code 3 1 0 0 D g [.ref qO0, .int x1] ws (fun u => q_un ws u [kO0, kA1] ∧ u[kO0]? = (some (qO0, .inr (1, [.ref qA1, .int 4100, .int 1])) : Option (Nat × va_E)) ∧ u[kA1]? = (some (qA1, .inl (g 1, 513, .inr (.inl (vp_updL (fun _ => 0) 0 (((x1 &&& 255).toInt64) <<< ((0 : Int32).toInt64 &&& 63)))))) : Option (Nat × va_E))) := by
  intro sz
  refine q_into (by decide) (Nat.le_of_ble_eq_true rfl) ?_
  intro p e s m below meth c ls hsz C0 V hl
  have hx := C0.1
  have hb := C0.2.1
  have hl : lv_has ls 3 [(0, .ref qO0), (1, .int x1)] := hl
  have n_A1_O0 := q_df hA1 hO0
  have n_O0_A1 := Ne.symm (q_df hA1 hO0)
  have hF : q_un ws ws [kO0, kA1] := q_u0
  refine lv_aload_n hx hb d_11_3_0 rfl (lv_at hl 0 rfl) ?_
  refine q_get (ci := 1) (j := 2) (v := .int 0) C0 V i_She rfl rfl hO0 (by decide) w_54 rfl d_11_3_1 ?_
  refine lv_aload_n hx hb d_11_3_4 rfl (lv_at hl 0 rfl) ?_
  refine q_get (ci := 1) (j := 1) (v := .int 4100) C0 V i_She rfl rfl hO0 (by decide) w_53 rfl d_11_3_5 ?_
  refine lv_icmp_ge (tgt := 63) hx hb d_11_3_8 (by decide) (fun c1 => absurd c1 (by decide)) (fun c1 => ?_)
  refine lv_bipush (v := 8) hx hb d_11_3_11 (by decide) ?_
  refine lv_aload_n hx hb d_11_3_13 rfl (lv_at hl 0 rfl) ?_
  refine q_get (ci := 1) (j := 2) (v := .int 0) C0 V i_She rfl rfl hO0 (by decide) w_54 rfl d_11_3_14 ?_
  refine lv_bipush (v := 7) hx hb d_11_3_17 (by decide) ?_
  refine lv_iand hx hb d_11_3_19 ?_
  refine q_ti (v := 0) (by decide) ?_
  refine lv_imul hx hb d_11_3_20 ?_
  refine q_ti (v := 0) (by decide) ?_
  refine lv_istore_n (lv' := [(2, .int 0), (0, .ref qO0), (1, .int x1)]) hx hb d_11_3_21 rfl hl (by decide) rfl (fun ls hl => ?_)
  refine lv_aload_n hx hb d_11_3_22 rfl (lv_at hl 1 rfl) ?_
  refine q_get (ci := 1) (j := 0) (v := .ref qA1) C0 V i_She rfl rfl hO0 (by decide) w_52 rfl d_11_3_23 ?_
  refine lv_aload_n hx hb d_11_3_26 rfl (lv_at hl 1 rfl) ?_
  refine q_get (ci := 1) (j := 2) (v := .int 0) C0 V i_She rfl rfl hO0 (by decide) w_54 rfl d_11_3_27 ?_
  refine lv_iconst (v := 3) hx hb d_11_3_30 (by decide) ?_
  refine lv_ishr hx hb d_11_3_31 ?_
  refine q_ti (v := 0) (by decide) ?_
  refine lv_aload_n hx hb d_11_3_32 rfl (lv_at hl 1 rfl) ?_
  refine q_get (ci := 1) (j := 0) (v := .ref qA1) C0 V i_She rfl rfl hO0 (by decide) w_52 rfl d_11_3_33 ?_
  refine lv_aload_n hx hb d_11_3_36 rfl (lv_at hl 1 rfl) ?_
  refine q_get (ci := 1) (j := 2) (v := .int 0) C0 V i_She rfl rfl hO0 (by decide) w_54 rfl d_11_3_37 ?_
  refine lv_iconst (v := 3) hx hb d_11_3_40 (by decide) ?_
  refine lv_ishr hx hb d_11_3_41 ?_
  refine q_ti (v := 0) (by decide) ?_
  refine q_lald C0 V hA1 (by unfold vp_in; decide) d_11_3_42 ?_
  refine q_tl (v := 0) (by first | rfl | decide | simp [upd, vp_updL, sb_cl0]) ?_
  refine q_ldc2 C0 rfl w_565 d_11_3_43 ?_
  refine lv_iload_n hx hb d_11_3_46 rfl (lv_at hl 0 rfl) ?_
  refine lv_lshl hx hb d_11_3_47 rfl ?_
  refine q_tl (v := 255) (by decide) ?_
  refine q_ldc2 C0 rfl w_566 d_11_3_48 ?_
  refine lv_lxor hx hb d_11_3_51 ?_
  refine q_tl (v := (-256)) (by decide) ?_
  refine lv_land hx hb d_11_3_52 ?_
  refine q_tl (v := 0) (by decide) ?_
  refine lv_iload_n hx hb d_11_3_53 rfl (lv_at hl 2 rfl) ?_
  refine lv_sipush (v := 255) hx hb d_11_3_54 (by decide) ?_
  refine lv_iand hx hb d_11_3_57 ?_
  refine lv_i2l hx hb d_11_3_58 rfl ?_
  refine lv_iload_n hx hb d_11_3_59 rfl (lv_at hl 0 rfl) ?_
  refine lv_lshl hx hb d_11_3_60 rfl ?_
  refine lv_lor hx hb d_11_3_61 ?_
  refine q_tl (v := ((x1 &&& 255).toInt64) <<< ((0 : Int32).toInt64 &&& 63)) (by simp) ?_
  refine q_last C0 V hA1 (by unfold vp_in; decide) d_11_3_62 (fun H locs w2 hu3 hA1 V => ?_)
  replace hA1 : w2[kA1]? = (some (qA1, .inl (g 1, 513, .inr (.inl (vp_updL (fun _ => 0) 0 (((x1 &&& 255).toInt64) <<< ((0 : Int32).toInt64 &&& 63)))))) : Option (Nat × va_E)) := hA1
  replace hF := q_us hF hu3 (.tail _ (.head _))
  refine lv_aload_n hx hb d_11_3_63 rfl (lv_at hl 1 rfl) ?_
  refine lv_dup hx hb d_11_3_64 rfl ?_
  replace hO0 := (hu3 _ n_O0_A1).trans (hO0)
  refine q_get (ci := 1) (j := 2) (v := .int 0) C0 V i_She rfl rfl hO0 (by decide) w_54 rfl d_11_3_65 ?_
  refine lv_iconst (v := 1) hx hb d_11_3_68 (by decide) ?_
  refine lv_iadd hx hb d_11_3_69 ?_
  refine q_ti (v := 1) (by decide) ?_
  refine q_put (ci := 1) (j := 2) (v := .int 1) (ty := .int) C0 V i_She o_She n_She rfl rfl hO0 (by decide) w_54 rfl rfl rfl rfl (Nat.le_of_ble_eq_true rfl) d_11_3_70 (fun H locs w4 hu5 hO0 V => ?_)
  replace hO0 : w4[kO0]? = (some (qO0, .inr (1, [.ref qA1, .int 4100, .int 1])) : Option (Nat × va_E)) := hO0
  replace hF := q_us hF hu5 (.head _)
  replace hA1 := (hu5 _ n_A1_O0).trans (hA1)
  exact q_retv C0 V (⟨hF, hO0, hA1⟩) d_11_3_73
set_option maxRecDepth 100000 in
set_option maxHeartbeats 4000000 in
theorem c_She_add_2 (l : Launch) (D : va_G) (g : Nat → ClassId) (ws : va_W) (kO0 kA1 qO0 qA1 : Nat) (x1 : Int32) (v2 : Int64) (hO0 : ws[kO0]? = (some (qO0, .inr (1, [.ref qA1, .int 4100, .int 1])) : Option (Nat × va_E))) (hA1 : ws[kA1]? = (some (qA1, .inl (g 1, 513, .inr (.inl (vp_updL (fun _ => 0) 0 v2)))) : Option (Nat × va_E))) : q_mV l y_She_add prog_11_method_3_code 3 1 0 0 D g [.ref qO0, .int x1] ws (fun u => q_un ws u [kO0, kA1] ∧ u[kO0]? = (some (qO0, .inr (1, [.ref qA1, .int 4100, .int 2])) : Option (Nat × va_E)) ∧ u[kA1]? = (some (qA1, .inl (g 1, 513, .inr (.inl (vp_updL (fun _ => 0) 0 ((v2 &&& (-65281)) ||| (((x1 &&& 255).toInt64) <<< ((8 : Int32).toInt64 &&& 63))))))) : Option (Nat × va_E))) := by
  intro sz
  refine q_into (by decide) (Nat.le_of_ble_eq_true rfl) ?_
  intro p e s m below meth c ls hsz C0 V hl
  have hx := C0.1
  have hb := C0.2.1
  have hl : lv_has ls 3 [(0, .ref qO0), (1, .int x1)] := hl
  have n_A1_O0 := q_df hA1 hO0
  have n_O0_A1 := Ne.symm (q_df hA1 hO0)
  have hF : q_un ws ws [kO0, kA1] := q_u0
  refine lv_aload_n hx hb d_11_3_0 rfl (lv_at hl 0 rfl) ?_
  refine q_get (ci := 1) (j := 2) (v := .int 1) C0 V i_She rfl rfl hO0 (by decide) w_54 rfl d_11_3_1 ?_
  refine lv_aload_n hx hb d_11_3_4 rfl (lv_at hl 0 rfl) ?_
  refine q_get (ci := 1) (j := 1) (v := .int 4100) C0 V i_She rfl rfl hO0 (by decide) w_53 rfl d_11_3_5 ?_
  refine lv_icmp_ge (tgt := 63) hx hb d_11_3_8 (by decide) (fun c1 => absurd c1 (by decide)) (fun c1 => ?_)
  refine lv_bipush (v := 8) hx hb d_11_3_11 (by decide) ?_
  refine lv_aload_n hx hb d_11_3_13 rfl (lv_at hl 0 rfl) ?_
  refine q_get (ci := 1) (j := 2) (v := .int 1) C0 V i_She rfl rfl hO0 (by decide) w_54 rfl d_11_3_14 ?_
  refine lv_bipush (v := 7) hx hb d_11_3_17 (by decide) ?_
  refine lv_iand hx hb d_11_3_19 ?_
  refine q_ti (v := 1) (by decide) ?_
  refine lv_imul hx hb d_11_3_20 ?_
  refine q_ti (v := 8) (by decide) ?_
  refine lv_istore_n (lv' := [(2, .int 8), (0, .ref qO0), (1, .int x1)]) hx hb d_11_3_21 rfl hl (by decide) rfl (fun ls hl => ?_)
  refine lv_aload_n hx hb d_11_3_22 rfl (lv_at hl 1 rfl) ?_
  refine q_get (ci := 1) (j := 0) (v := .ref qA1) C0 V i_She rfl rfl hO0 (by decide) w_52 rfl d_11_3_23 ?_
  refine lv_aload_n hx hb d_11_3_26 rfl (lv_at hl 1 rfl) ?_
  refine q_get (ci := 1) (j := 2) (v := .int 1) C0 V i_She rfl rfl hO0 (by decide) w_54 rfl d_11_3_27 ?_
  refine lv_iconst (v := 3) hx hb d_11_3_30 (by decide) ?_
  refine lv_ishr hx hb d_11_3_31 ?_
  refine q_ti (v := 0) (by decide) ?_
  refine lv_aload_n hx hb d_11_3_32 rfl (lv_at hl 1 rfl) ?_
  refine q_get (ci := 1) (j := 0) (v := .ref qA1) C0 V i_She rfl rfl hO0 (by decide) w_52 rfl d_11_3_33 ?_
  refine lv_aload_n hx hb d_11_3_36 rfl (lv_at hl 1 rfl) ?_
  refine q_get (ci := 1) (j := 2) (v := .int 1) C0 V i_She rfl rfl hO0 (by decide) w_54 rfl d_11_3_37 ?_
  refine lv_iconst (v := 3) hx hb d_11_3_40 (by decide) ?_
  refine lv_ishr hx hb d_11_3_41 ?_
  refine q_ti (v := 0) (by decide) ?_
  refine q_lald C0 V hA1 (by unfold vp_in; decide) d_11_3_42 ?_
  refine q_tl (v := v2) (by first | rfl | decide | simp [upd, vp_updL, sb_cl0]) ?_
  refine q_ldc2 C0 rfl w_565 d_11_3_43 ?_
  refine lv_iload_n hx hb d_11_3_46 rfl (lv_at hl 0 rfl) ?_
  refine lv_lshl hx hb d_11_3_47 rfl ?_
  refine q_tl (v := 65280) (by decide) ?_
  refine q_ldc2 C0 rfl w_566 d_11_3_48 ?_
  refine lv_lxor hx hb d_11_3_51 ?_
  refine q_tl (v := (-65281)) (by decide) ?_
  refine lv_land hx hb d_11_3_52 ?_
  refine lv_iload_n hx hb d_11_3_53 rfl (lv_at hl 2 rfl) ?_
  refine lv_sipush (v := 255) hx hb d_11_3_54 (by decide) ?_
  refine lv_iand hx hb d_11_3_57 ?_
  refine lv_i2l hx hb d_11_3_58 rfl ?_
  refine lv_iload_n hx hb d_11_3_59 rfl (lv_at hl 0 rfl) ?_
  refine lv_lshl hx hb d_11_3_60 rfl ?_
  refine lv_lor hx hb d_11_3_61 ?_
  refine q_last C0 V hA1 (by unfold vp_in; decide) d_11_3_62 (fun H locs w2 hu3 hA1 V => ?_)
  replace hA1 : w2[kA1]? = (some (qA1, .inl (g 1, 513, .inr (.inl (vp_updL (vp_updL (fun _ => 0) 0 v2) 0 ((v2 &&& (-65281)) ||| (((x1 &&& 255).toInt64) <<< ((8 : Int32).toInt64 &&& 63))))))) : Option (Nat × va_E)) := hA1
  replace hA1 := q_re (y := (qA1, .inl (g 1, 513, .inr (.inl (vp_updL (fun _ => 0) 0 ((v2 &&& (-65281)) ||| (((x1 &&& 255).toInt64) <<< ((8 : Int32).toInt64 &&& 63)))))))) hA1 (q_eL (by funext k; simp only [vp_updL]; (repeat' split) <;> first | rfl | omega))
  replace hA1 : w2[kA1]? = (some (qA1, .inl (g 1, 513, .inr (.inl (vp_updL (fun _ => 0) 0 ((v2 &&& (-65281)) ||| (((x1 &&& 255).toInt64) <<< ((8 : Int32).toInt64 &&& 63))))))) : Option (Nat × va_E)) := hA1
  replace hF := q_us hF hu3 (.tail _ (.head _))
  refine lv_aload_n hx hb d_11_3_63 rfl (lv_at hl 1 rfl) ?_
  refine lv_dup hx hb d_11_3_64 rfl ?_
  replace hO0 := (hu3 _ n_O0_A1).trans (hO0)
  refine q_get (ci := 1) (j := 2) (v := .int 1) C0 V i_She rfl rfl hO0 (by decide) w_54 rfl d_11_3_65 ?_
  refine lv_iconst (v := 1) hx hb d_11_3_68 (by decide) ?_
  refine lv_iadd hx hb d_11_3_69 ?_
  refine q_ti (v := 2) (by decide) ?_
  refine q_put (ci := 1) (j := 2) (v := .int 2) (ty := .int) C0 V i_She o_She n_She rfl rfl hO0 (by decide) w_54 rfl rfl rfl rfl (Nat.le_of_ble_eq_true rfl) d_11_3_70 (fun H locs w4 hu5 hO0 V => ?_)
  replace hO0 : w4[kO0]? = (some (qO0, .inr (1, [.ref qA1, .int 4100, .int 2])) : Option (Nat × va_E)) := hO0
  replace hF := q_us hF hu5 (.head _)
  replace hA1 := (hu5 _ n_A1_O0).trans (hA1)
  exact q_retv C0 V (⟨hF, hO0, hA1⟩) d_11_3_73
set_option maxRecDepth 100000 in
set_option maxHeartbeats 4000000 in
theorem c_She_add_3 (l : Launch) (D : va_G) (g : Nat → ClassId) (ws : va_W) (kO0 kA1 qO0 qA1 : Nat) (x1 : Int32) (v2 : Int64) (hO0 : ws[kO0]? = (some (qO0, .inr (1, [.ref qA1, .int 4100, .int 2])) : Option (Nat × va_E))) (hA1 : ws[kA1]? = (some (qA1, .inl (g 1, 513, .inr (.inl (vp_updL (fun _ => 0) 0 v2)))) : Option (Nat × va_E))) : q_mV l y_She_add prog_11_method_3_code 3 1 0 0 D g [.ref qO0, .int x1] ws (fun u => q_un ws u [kO0, kA1] ∧ u[kO0]? = (some (qO0, .inr (1, [.ref qA1, .int 4100, .int 3])) : Option (Nat × va_E)) ∧ u[kA1]? = (some (qA1, .inl (g 1, 513, .inr (.inl (vp_updL (fun _ => 0) 0 ((v2 &&& (-16711681)) ||| (((x1 &&& 255).toInt64) <<< ((16 : Int32).toInt64 &&& 63))))))) : Option (Nat × va_E))) := by
  intro sz
  refine q_into (by decide) (Nat.le_of_ble_eq_true rfl) ?_
  intro p e s m below meth c ls hsz C0 V hl
  have hx := C0.1
  have hb := C0.2.1
  have hl : lv_has ls 3 [(0, .ref qO0), (1, .int x1)] := hl
  have n_A1_O0 := q_df hA1 hO0
  have n_O0_A1 := Ne.symm (q_df hA1 hO0)
  have hF : q_un ws ws [kO0, kA1] := q_u0
  refine lv_aload_n hx hb d_11_3_0 rfl (lv_at hl 0 rfl) ?_
  refine q_get (ci := 1) (j := 2) (v := .int 2) C0 V i_She rfl rfl hO0 (by decide) w_54 rfl d_11_3_1 ?_
  refine lv_aload_n hx hb d_11_3_4 rfl (lv_at hl 0 rfl) ?_
  refine q_get (ci := 1) (j := 1) (v := .int 4100) C0 V i_She rfl rfl hO0 (by decide) w_53 rfl d_11_3_5 ?_
  refine lv_icmp_ge (tgt := 63) hx hb d_11_3_8 (by decide) (fun c1 => absurd c1 (by decide)) (fun c1 => ?_)
  refine lv_bipush (v := 8) hx hb d_11_3_11 (by decide) ?_
  refine lv_aload_n hx hb d_11_3_13 rfl (lv_at hl 0 rfl) ?_
  refine q_get (ci := 1) (j := 2) (v := .int 2) C0 V i_She rfl rfl hO0 (by decide) w_54 rfl d_11_3_14 ?_
  refine lv_bipush (v := 7) hx hb d_11_3_17 (by decide) ?_
  refine lv_iand hx hb d_11_3_19 ?_
  refine q_ti (v := 2) (by decide) ?_
  refine lv_imul hx hb d_11_3_20 ?_
  refine q_ti (v := 16) (by decide) ?_
  refine lv_istore_n (lv' := [(2, .int 16), (0, .ref qO0), (1, .int x1)]) hx hb d_11_3_21 rfl hl (by decide) rfl (fun ls hl => ?_)
  refine lv_aload_n hx hb d_11_3_22 rfl (lv_at hl 1 rfl) ?_
  refine q_get (ci := 1) (j := 0) (v := .ref qA1) C0 V i_She rfl rfl hO0 (by decide) w_52 rfl d_11_3_23 ?_
  refine lv_aload_n hx hb d_11_3_26 rfl (lv_at hl 1 rfl) ?_
  refine q_get (ci := 1) (j := 2) (v := .int 2) C0 V i_She rfl rfl hO0 (by decide) w_54 rfl d_11_3_27 ?_
  refine lv_iconst (v := 3) hx hb d_11_3_30 (by decide) ?_
  refine lv_ishr hx hb d_11_3_31 ?_
  refine q_ti (v := 0) (by decide) ?_
  refine lv_aload_n hx hb d_11_3_32 rfl (lv_at hl 1 rfl) ?_
  refine q_get (ci := 1) (j := 0) (v := .ref qA1) C0 V i_She rfl rfl hO0 (by decide) w_52 rfl d_11_3_33 ?_
  refine lv_aload_n hx hb d_11_3_36 rfl (lv_at hl 1 rfl) ?_
  refine q_get (ci := 1) (j := 2) (v := .int 2) C0 V i_She rfl rfl hO0 (by decide) w_54 rfl d_11_3_37 ?_
  refine lv_iconst (v := 3) hx hb d_11_3_40 (by decide) ?_
  refine lv_ishr hx hb d_11_3_41 ?_
  refine q_ti (v := 0) (by decide) ?_
  refine q_lald C0 V hA1 (by unfold vp_in; decide) d_11_3_42 ?_
  refine q_tl (v := v2) (by first | rfl | decide | simp [upd, vp_updL, sb_cl0]) ?_
  refine q_ldc2 C0 rfl w_565 d_11_3_43 ?_
  refine lv_iload_n hx hb d_11_3_46 rfl (lv_at hl 0 rfl) ?_
  refine lv_lshl hx hb d_11_3_47 rfl ?_
  refine q_tl (v := 16711680) (by decide) ?_
  refine q_ldc2 C0 rfl w_566 d_11_3_48 ?_
  refine lv_lxor hx hb d_11_3_51 ?_
  refine q_tl (v := (-16711681)) (by decide) ?_
  refine lv_land hx hb d_11_3_52 ?_
  refine lv_iload_n hx hb d_11_3_53 rfl (lv_at hl 2 rfl) ?_
  refine lv_sipush (v := 255) hx hb d_11_3_54 (by decide) ?_
  refine lv_iand hx hb d_11_3_57 ?_
  refine lv_i2l hx hb d_11_3_58 rfl ?_
  refine lv_iload_n hx hb d_11_3_59 rfl (lv_at hl 0 rfl) ?_
  refine lv_lshl hx hb d_11_3_60 rfl ?_
  refine lv_lor hx hb d_11_3_61 ?_
  refine q_last C0 V hA1 (by unfold vp_in; decide) d_11_3_62 (fun H locs w2 hu3 hA1 V => ?_)
  replace hA1 : w2[kA1]? = (some (qA1, .inl (g 1, 513, .inr (.inl (vp_updL (vp_updL (fun _ => 0) 0 v2) 0 ((v2 &&& (-16711681)) ||| (((x1 &&& 255).toInt64) <<< ((16 : Int32).toInt64 &&& 63))))))) : Option (Nat × va_E)) := hA1
  replace hA1 := q_re (y := (qA1, .inl (g 1, 513, .inr (.inl (vp_updL (fun _ => 0) 0 ((v2 &&& (-16711681)) ||| (((x1 &&& 255).toInt64) <<< ((16 : Int32).toInt64 &&& 63)))))))) hA1 (q_eL (by funext k; simp only [vp_updL]; (repeat' split) <;> first | rfl | omega))
  replace hA1 : w2[kA1]? = (some (qA1, .inl (g 1, 513, .inr (.inl (vp_updL (fun _ => 0) 0 ((v2 &&& (-16711681)) ||| (((x1 &&& 255).toInt64) <<< ((16 : Int32).toInt64 &&& 63))))))) : Option (Nat × va_E)) := hA1
  replace hF := q_us hF hu3 (.tail _ (.head _))
  refine lv_aload_n hx hb d_11_3_63 rfl (lv_at hl 1 rfl) ?_
  refine lv_dup hx hb d_11_3_64 rfl ?_
  replace hO0 := (hu3 _ n_O0_A1).trans (hO0)
  refine q_get (ci := 1) (j := 2) (v := .int 2) C0 V i_She rfl rfl hO0 (by decide) w_54 rfl d_11_3_65 ?_
  refine lv_iconst (v := 1) hx hb d_11_3_68 (by decide) ?_
  refine lv_iadd hx hb d_11_3_69 ?_
  refine q_ti (v := 3) (by decide) ?_
  refine q_put (ci := 1) (j := 2) (v := .int 3) (ty := .int) C0 V i_She o_She n_She rfl rfl hO0 (by decide) w_54 rfl rfl rfl rfl (Nat.le_of_ble_eq_true rfl) d_11_3_70 (fun H locs w4 hu5 hO0 V => ?_)
  replace hO0 : w4[kO0]? = (some (qO0, .inr (1, [.ref qA1, .int 4100, .int 3])) : Option (Nat × va_E)) := hO0
  replace hF := q_us hF hu5 (.head _)
  replace hA1 := (hu5 _ n_A1_O0).trans (hA1)
  exact q_retv C0 V (⟨hF, hO0, hA1⟩) d_11_3_73
set_option maxRecDepth 100000 in
set_option maxHeartbeats 4000000 in
theorem c_She_add_4 (l : Launch) (D : va_G) (g : Nat → ClassId) (ws : va_W) (kO0 kA1 qO0 qA1 : Nat) (x1 : Int32) (v2 : Int64) (hO0 : ws[kO0]? = (some (qO0, .inr (1, [.ref qA1, .int 4100, .int 3])) : Option (Nat × va_E))) (hA1 : ws[kA1]? = (some (qA1, .inl (g 1, 513, .inr (.inl (vp_updL (fun _ => 0) 0 v2)))) : Option (Nat × va_E))) : q_mV l y_She_add prog_11_method_3_code 3 1 0 0 D g [.ref qO0, .int x1] ws (fun u => q_un ws u [kO0, kA1] ∧ u[kO0]? = (some (qO0, .inr (1, [.ref qA1, .int 4100, .int 4])) : Option (Nat × va_E)) ∧ u[kA1]? = (some (qA1, .inl (g 1, 513, .inr (.inl (vp_updL (fun _ => 0) 0 ((v2 &&& (-4278190081)) ||| (((x1 &&& 255).toInt64) <<< ((24 : Int32).toInt64 &&& 63))))))) : Option (Nat × va_E))) := by
  intro sz
  refine q_into (by decide) (Nat.le_of_ble_eq_true rfl) ?_
  intro p e s m below meth c ls hsz C0 V hl
  have hx := C0.1
  have hb := C0.2.1
  have hl : lv_has ls 3 [(0, .ref qO0), (1, .int x1)] := hl
  have n_A1_O0 := q_df hA1 hO0
  have n_O0_A1 := Ne.symm (q_df hA1 hO0)
  have hF : q_un ws ws [kO0, kA1] := q_u0
  refine lv_aload_n hx hb d_11_3_0 rfl (lv_at hl 0 rfl) ?_
  refine q_get (ci := 1) (j := 2) (v := .int 3) C0 V i_She rfl rfl hO0 (by decide) w_54 rfl d_11_3_1 ?_
  refine lv_aload_n hx hb d_11_3_4 rfl (lv_at hl 0 rfl) ?_
  refine q_get (ci := 1) (j := 1) (v := .int 4100) C0 V i_She rfl rfl hO0 (by decide) w_53 rfl d_11_3_5 ?_
  refine lv_icmp_ge (tgt := 63) hx hb d_11_3_8 (by decide) (fun c1 => absurd c1 (by decide)) (fun c1 => ?_)
  refine lv_bipush (v := 8) hx hb d_11_3_11 (by decide) ?_
  refine lv_aload_n hx hb d_11_3_13 rfl (lv_at hl 0 rfl) ?_
  refine q_get (ci := 1) (j := 2) (v := .int 3) C0 V i_She rfl rfl hO0 (by decide) w_54 rfl d_11_3_14 ?_
  refine lv_bipush (v := 7) hx hb d_11_3_17 (by decide) ?_
  refine lv_iand hx hb d_11_3_19 ?_
  refine q_ti (v := 3) (by decide) ?_
  refine lv_imul hx hb d_11_3_20 ?_
  refine q_ti (v := 24) (by decide) ?_
  refine lv_istore_n (lv' := [(2, .int 24), (0, .ref qO0), (1, .int x1)]) hx hb d_11_3_21 rfl hl (by decide) rfl (fun ls hl => ?_)
  refine lv_aload_n hx hb d_11_3_22 rfl (lv_at hl 1 rfl) ?_
  refine q_get (ci := 1) (j := 0) (v := .ref qA1) C0 V i_She rfl rfl hO0 (by decide) w_52 rfl d_11_3_23 ?_
  refine lv_aload_n hx hb d_11_3_26 rfl (lv_at hl 1 rfl) ?_
  refine q_get (ci := 1) (j := 2) (v := .int 3) C0 V i_She rfl rfl hO0 (by decide) w_54 rfl d_11_3_27 ?_
  refine lv_iconst (v := 3) hx hb d_11_3_30 (by decide) ?_
  refine lv_ishr hx hb d_11_3_31 ?_
  refine q_ti (v := 0) (by decide) ?_
  refine lv_aload_n hx hb d_11_3_32 rfl (lv_at hl 1 rfl) ?_
  refine q_get (ci := 1) (j := 0) (v := .ref qA1) C0 V i_She rfl rfl hO0 (by decide) w_52 rfl d_11_3_33 ?_
  refine lv_aload_n hx hb d_11_3_36 rfl (lv_at hl 1 rfl) ?_
  refine q_get (ci := 1) (j := 2) (v := .int 3) C0 V i_She rfl rfl hO0 (by decide) w_54 rfl d_11_3_37 ?_
  refine lv_iconst (v := 3) hx hb d_11_3_40 (by decide) ?_
  refine lv_ishr hx hb d_11_3_41 ?_
  refine q_ti (v := 0) (by decide) ?_
  refine q_lald C0 V hA1 (by unfold vp_in; decide) d_11_3_42 ?_
  refine q_tl (v := v2) (by first | rfl | decide | simp [upd, vp_updL, sb_cl0]) ?_
  refine q_ldc2 C0 rfl w_565 d_11_3_43 ?_
  refine lv_iload_n hx hb d_11_3_46 rfl (lv_at hl 0 rfl) ?_
  refine lv_lshl hx hb d_11_3_47 rfl ?_
  refine q_tl (v := 4278190080) (by decide) ?_
  refine q_ldc2 C0 rfl w_566 d_11_3_48 ?_
  refine lv_lxor hx hb d_11_3_51 ?_
  refine q_tl (v := (-4278190081)) (by decide) ?_
  refine lv_land hx hb d_11_3_52 ?_
  refine lv_iload_n hx hb d_11_3_53 rfl (lv_at hl 2 rfl) ?_
  refine lv_sipush (v := 255) hx hb d_11_3_54 (by decide) ?_
  refine lv_iand hx hb d_11_3_57 ?_
  refine lv_i2l hx hb d_11_3_58 rfl ?_
  refine lv_iload_n hx hb d_11_3_59 rfl (lv_at hl 0 rfl) ?_
  refine lv_lshl hx hb d_11_3_60 rfl ?_
  refine lv_lor hx hb d_11_3_61 ?_
  refine q_last C0 V hA1 (by unfold vp_in; decide) d_11_3_62 (fun H locs w2 hu3 hA1 V => ?_)
  replace hA1 : w2[kA1]? = (some (qA1, .inl (g 1, 513, .inr (.inl (vp_updL (vp_updL (fun _ => 0) 0 v2) 0 ((v2 &&& (-4278190081)) ||| (((x1 &&& 255).toInt64) <<< ((24 : Int32).toInt64 &&& 63))))))) : Option (Nat × va_E)) := hA1
  replace hA1 := q_re (y := (qA1, .inl (g 1, 513, .inr (.inl (vp_updL (fun _ => 0) 0 ((v2 &&& (-4278190081)) ||| (((x1 &&& 255).toInt64) <<< ((24 : Int32).toInt64 &&& 63)))))))) hA1 (q_eL (by funext k; simp only [vp_updL]; (repeat' split) <;> first | rfl | omega))
  replace hA1 : w2[kA1]? = (some (qA1, .inl (g 1, 513, .inr (.inl (vp_updL (fun _ => 0) 0 ((v2 &&& (-4278190081)) ||| (((x1 &&& 255).toInt64) <<< ((24 : Int32).toInt64 &&& 63))))))) : Option (Nat × va_E)) := hA1
  replace hF := q_us hF hu3 (.tail _ (.head _))
  refine lv_aload_n hx hb d_11_3_63 rfl (lv_at hl 1 rfl) ?_
  refine lv_dup hx hb d_11_3_64 rfl ?_
  replace hO0 := (hu3 _ n_O0_A1).trans (hO0)
  refine q_get (ci := 1) (j := 2) (v := .int 3) C0 V i_She rfl rfl hO0 (by decide) w_54 rfl d_11_3_65 ?_
  refine lv_iconst (v := 1) hx hb d_11_3_68 (by decide) ?_
  refine lv_iadd hx hb d_11_3_69 ?_
  refine q_ti (v := 4) (by decide) ?_
  refine q_put (ci := 1) (j := 2) (v := .int 4) (ty := .int) C0 V i_She o_She n_She rfl rfl hO0 (by decide) w_54 rfl rfl rfl rfl (Nat.le_of_ble_eq_true rfl) d_11_3_70 (fun H locs w4 hu5 hO0 V => ?_)
  replace hO0 : w4[kO0]? = (some (qO0, .inr (1, [.ref qA1, .int 4100, .int 4])) : Option (Nat × va_E)) := hO0
  replace hF := q_us hF hu5 (.head _)
  replace hA1 := (hu5 _ n_A1_O0).trans (hA1)
  exact q_retv C0 V (⟨hF, hO0, hA1⟩) d_11_3_73
set_option maxRecDepth 100000 in
set_option maxHeartbeats 4000000 in
theorem c_She_add_5 (l : Launch) (D : va_G) (g : Nat → ClassId) (ws : va_W) (kO0 kA1 qO0 qA1 : Nat) (x1 : Int32) (v2 : Int64) (hO0 : ws[kO0]? = (some (qO0, .inr (1, [.ref qA1, .int 4100, .int 4])) : Option (Nat × va_E))) (hA1 : ws[kA1]? = (some (qA1, .inl (g 1, 513, .inr (.inl (vp_updL (fun _ => 0) 0 v2)))) : Option (Nat × va_E))) : q_mV l y_She_add prog_11_method_3_code 3 1 0 0 D g [.ref qO0, .int x1] ws (fun u => q_un ws u [kO0, kA1] ∧ u[kO0]? = (some (qO0, .inr (1, [.ref qA1, .int 4100, .int 5])) : Option (Nat × va_E)) ∧ u[kA1]? = (some (qA1, .inl (g 1, 513, .inr (.inl (vp_updL (fun _ => 0) 0 ((v2 &&& (-1095216660481)) ||| (((x1 &&& 255).toInt64) <<< ((32 : Int32).toInt64 &&& 63))))))) : Option (Nat × va_E))) := by
  intro sz
  refine q_into (by decide) (Nat.le_of_ble_eq_true rfl) ?_
  intro p e s m below meth c ls hsz C0 V hl
  have hx := C0.1
  have hb := C0.2.1
  have hl : lv_has ls 3 [(0, .ref qO0), (1, .int x1)] := hl
  have n_A1_O0 := q_df hA1 hO0
  have n_O0_A1 := Ne.symm (q_df hA1 hO0)
  have hF : q_un ws ws [kO0, kA1] := q_u0
  refine lv_aload_n hx hb d_11_3_0 rfl (lv_at hl 0 rfl) ?_
  refine q_get (ci := 1) (j := 2) (v := .int 4) C0 V i_She rfl rfl hO0 (by decide) w_54 rfl d_11_3_1 ?_
  refine lv_aload_n hx hb d_11_3_4 rfl (lv_at hl 0 rfl) ?_
  refine q_get (ci := 1) (j := 1) (v := .int 4100) C0 V i_She rfl rfl hO0 (by decide) w_53 rfl d_11_3_5 ?_
  refine lv_icmp_ge (tgt := 63) hx hb d_11_3_8 (by decide) (fun c1 => absurd c1 (by decide)) (fun c1 => ?_)
  refine lv_bipush (v := 8) hx hb d_11_3_11 (by decide) ?_
  refine lv_aload_n hx hb d_11_3_13 rfl (lv_at hl 0 rfl) ?_
  refine q_get (ci := 1) (j := 2) (v := .int 4) C0 V i_She rfl rfl hO0 (by decide) w_54 rfl d_11_3_14 ?_
  refine lv_bipush (v := 7) hx hb d_11_3_17 (by decide) ?_
  refine lv_iand hx hb d_11_3_19 ?_
  refine q_ti (v := 4) (by decide) ?_
  refine lv_imul hx hb d_11_3_20 ?_
  refine q_ti (v := 32) (by decide) ?_
  refine lv_istore_n (lv' := [(2, .int 32), (0, .ref qO0), (1, .int x1)]) hx hb d_11_3_21 rfl hl (by decide) rfl (fun ls hl => ?_)
  refine lv_aload_n hx hb d_11_3_22 rfl (lv_at hl 1 rfl) ?_
  refine q_get (ci := 1) (j := 0) (v := .ref qA1) C0 V i_She rfl rfl hO0 (by decide) w_52 rfl d_11_3_23 ?_
  refine lv_aload_n hx hb d_11_3_26 rfl (lv_at hl 1 rfl) ?_
  refine q_get (ci := 1) (j := 2) (v := .int 4) C0 V i_She rfl rfl hO0 (by decide) w_54 rfl d_11_3_27 ?_
  refine lv_iconst (v := 3) hx hb d_11_3_30 (by decide) ?_
  refine lv_ishr hx hb d_11_3_31 ?_
  refine q_ti (v := 0) (by decide) ?_
  refine lv_aload_n hx hb d_11_3_32 rfl (lv_at hl 1 rfl) ?_
  refine q_get (ci := 1) (j := 0) (v := .ref qA1) C0 V i_She rfl rfl hO0 (by decide) w_52 rfl d_11_3_33 ?_
  refine lv_aload_n hx hb d_11_3_36 rfl (lv_at hl 1 rfl) ?_
  refine q_get (ci := 1) (j := 2) (v := .int 4) C0 V i_She rfl rfl hO0 (by decide) w_54 rfl d_11_3_37 ?_
  refine lv_iconst (v := 3) hx hb d_11_3_40 (by decide) ?_
  refine lv_ishr hx hb d_11_3_41 ?_
  refine q_ti (v := 0) (by decide) ?_
  refine q_lald C0 V hA1 (by unfold vp_in; decide) d_11_3_42 ?_
  refine q_tl (v := v2) (by first | rfl | decide | simp [upd, vp_updL, sb_cl0]) ?_
  refine q_ldc2 C0 rfl w_565 d_11_3_43 ?_
  refine lv_iload_n hx hb d_11_3_46 rfl (lv_at hl 0 rfl) ?_
  refine lv_lshl hx hb d_11_3_47 rfl ?_
  refine q_tl (v := 1095216660480) (by decide) ?_
  refine q_ldc2 C0 rfl w_566 d_11_3_48 ?_
  refine lv_lxor hx hb d_11_3_51 ?_
  refine q_tl (v := (-1095216660481)) (by decide) ?_
  refine lv_land hx hb d_11_3_52 ?_
  refine lv_iload_n hx hb d_11_3_53 rfl (lv_at hl 2 rfl) ?_
  refine lv_sipush (v := 255) hx hb d_11_3_54 (by decide) ?_
  refine lv_iand hx hb d_11_3_57 ?_
  refine lv_i2l hx hb d_11_3_58 rfl ?_
  refine lv_iload_n hx hb d_11_3_59 rfl (lv_at hl 0 rfl) ?_
  refine lv_lshl hx hb d_11_3_60 rfl ?_
  refine lv_lor hx hb d_11_3_61 ?_
  refine q_last C0 V hA1 (by unfold vp_in; decide) d_11_3_62 (fun H locs w2 hu3 hA1 V => ?_)
  replace hA1 : w2[kA1]? = (some (qA1, .inl (g 1, 513, .inr (.inl (vp_updL (vp_updL (fun _ => 0) 0 v2) 0 ((v2 &&& (-1095216660481)) ||| (((x1 &&& 255).toInt64) <<< ((32 : Int32).toInt64 &&& 63))))))) : Option (Nat × va_E)) := hA1
  replace hA1 := q_re (y := (qA1, .inl (g 1, 513, .inr (.inl (vp_updL (fun _ => 0) 0 ((v2 &&& (-1095216660481)) ||| (((x1 &&& 255).toInt64) <<< ((32 : Int32).toInt64 &&& 63)))))))) hA1 (q_eL (by funext k; simp only [vp_updL]; (repeat' split) <;> first | rfl | omega))
  replace hA1 : w2[kA1]? = (some (qA1, .inl (g 1, 513, .inr (.inl (vp_updL (fun _ => 0) 0 ((v2 &&& (-1095216660481)) ||| (((x1 &&& 255).toInt64) <<< ((32 : Int32).toInt64 &&& 63))))))) : Option (Nat × va_E)) := hA1
  replace hF := q_us hF hu3 (.tail _ (.head _))
  refine lv_aload_n hx hb d_11_3_63 rfl (lv_at hl 1 rfl) ?_
  refine lv_dup hx hb d_11_3_64 rfl ?_
  replace hO0 := (hu3 _ n_O0_A1).trans (hO0)
  refine q_get (ci := 1) (j := 2) (v := .int 4) C0 V i_She rfl rfl hO0 (by decide) w_54 rfl d_11_3_65 ?_
  refine lv_iconst (v := 1) hx hb d_11_3_68 (by decide) ?_
  refine lv_iadd hx hb d_11_3_69 ?_
  refine q_ti (v := 5) (by decide) ?_
  refine q_put (ci := 1) (j := 2) (v := .int 5) (ty := .int) C0 V i_She o_She n_She rfl rfl hO0 (by decide) w_54 rfl rfl rfl rfl (Nat.le_of_ble_eq_true rfl) d_11_3_70 (fun H locs w4 hu5 hO0 V => ?_)
  replace hO0 : w4[kO0]? = (some (qO0, .inr (1, [.ref qA1, .int 4100, .int 5])) : Option (Nat × va_E)) := hO0
  replace hF := q_us hF hu5 (.head _)
  replace hA1 := (hu5 _ n_A1_O0).trans (hA1)
  exact q_retv C0 V (⟨hF, hO0, hA1⟩) d_11_3_73
set_option maxRecDepth 100000 in
set_option maxHeartbeats 4000000 in
theorem c_She_add_6 (l : Launch) (D : va_G) (g : Nat → ClassId) (ws : va_W) (kO0 kA1 qO0 qA1 : Nat) (x1 : Int32) (v2 : Int64) (hO0 : ws[kO0]? = (some (qO0, .inr (1, [.ref qA1, .int 4100, .int 5])) : Option (Nat × va_E))) (hA1 : ws[kA1]? = (some (qA1, .inl (g 1, 513, .inr (.inl (vp_updL (fun _ => 0) 0 v2)))) : Option (Nat × va_E))) : q_mV l y_She_add prog_11_method_3_code 3 1 0 0 D g [.ref qO0, .int x1] ws (fun u => q_un ws u [kO0, kA1] ∧ u[kO0]? = (some (qO0, .inr (1, [.ref qA1, .int 4100, .int 6])) : Option (Nat × va_E)) ∧ u[kA1]? = (some (qA1, .inl (g 1, 513, .inr (.inl (vp_updL (fun _ => 0) 0 ((v2 &&& (-280375465082881)) ||| (((x1 &&& 255).toInt64) <<< ((40 : Int32).toInt64 &&& 63))))))) : Option (Nat × va_E))) := by
  intro sz
  refine q_into (by decide) (Nat.le_of_ble_eq_true rfl) ?_
  intro p e s m below meth c ls hsz C0 V hl
  have hx := C0.1
  have hb := C0.2.1
  have hl : lv_has ls 3 [(0, .ref qO0), (1, .int x1)] := hl
  have n_A1_O0 := q_df hA1 hO0
  have n_O0_A1 := Ne.symm (q_df hA1 hO0)
  have hF : q_un ws ws [kO0, kA1] := q_u0
  refine lv_aload_n hx hb d_11_3_0 rfl (lv_at hl 0 rfl) ?_
  refine q_get (ci := 1) (j := 2) (v := .int 5) C0 V i_She rfl rfl hO0 (by decide) w_54 rfl d_11_3_1 ?_
  refine lv_aload_n hx hb d_11_3_4 rfl (lv_at hl 0 rfl) ?_
  refine q_get (ci := 1) (j := 1) (v := .int 4100) C0 V i_She rfl rfl hO0 (by decide) w_53 rfl d_11_3_5 ?_
  refine lv_icmp_ge (tgt := 63) hx hb d_11_3_8 (by decide) (fun c1 => absurd c1 (by decide)) (fun c1 => ?_)
  refine lv_bipush (v := 8) hx hb d_11_3_11 (by decide) ?_
  refine lv_aload_n hx hb d_11_3_13 rfl (lv_at hl 0 rfl) ?_
  refine q_get (ci := 1) (j := 2) (v := .int 5) C0 V i_She rfl rfl hO0 (by decide) w_54 rfl d_11_3_14 ?_
  refine lv_bipush (v := 7) hx hb d_11_3_17 (by decide) ?_
  refine lv_iand hx hb d_11_3_19 ?_
  refine q_ti (v := 5) (by decide) ?_
  refine lv_imul hx hb d_11_3_20 ?_
  refine q_ti (v := 40) (by decide) ?_
  refine lv_istore_n (lv' := [(2, .int 40), (0, .ref qO0), (1, .int x1)]) hx hb d_11_3_21 rfl hl (by decide) rfl (fun ls hl => ?_)
  refine lv_aload_n hx hb d_11_3_22 rfl (lv_at hl 1 rfl) ?_
  refine q_get (ci := 1) (j := 0) (v := .ref qA1) C0 V i_She rfl rfl hO0 (by decide) w_52 rfl d_11_3_23 ?_
  refine lv_aload_n hx hb d_11_3_26 rfl (lv_at hl 1 rfl) ?_
  refine q_get (ci := 1) (j := 2) (v := .int 5) C0 V i_She rfl rfl hO0 (by decide) w_54 rfl d_11_3_27 ?_
  refine lv_iconst (v := 3) hx hb d_11_3_30 (by decide) ?_
  refine lv_ishr hx hb d_11_3_31 ?_
  refine q_ti (v := 0) (by decide) ?_
  refine lv_aload_n hx hb d_11_3_32 rfl (lv_at hl 1 rfl) ?_
  refine q_get (ci := 1) (j := 0) (v := .ref qA1) C0 V i_She rfl rfl hO0 (by decide) w_52 rfl d_11_3_33 ?_
  refine lv_aload_n hx hb d_11_3_36 rfl (lv_at hl 1 rfl) ?_
  refine q_get (ci := 1) (j := 2) (v := .int 5) C0 V i_She rfl rfl hO0 (by decide) w_54 rfl d_11_3_37 ?_
  refine lv_iconst (v := 3) hx hb d_11_3_40 (by decide) ?_
  refine lv_ishr hx hb d_11_3_41 ?_
  refine q_ti (v := 0) (by decide) ?_
  refine q_lald C0 V hA1 (by unfold vp_in; decide) d_11_3_42 ?_
  refine q_tl (v := v2) (by first | rfl | decide | simp [upd, vp_updL, sb_cl0]) ?_
  refine q_ldc2 C0 rfl w_565 d_11_3_43 ?_
  refine lv_iload_n hx hb d_11_3_46 rfl (lv_at hl 0 rfl) ?_
  refine lv_lshl hx hb d_11_3_47 rfl ?_
  refine q_tl (v := 280375465082880) (by decide) ?_
  refine q_ldc2 C0 rfl w_566 d_11_3_48 ?_
  refine lv_lxor hx hb d_11_3_51 ?_
  refine q_tl (v := (-280375465082881)) (by decide) ?_
  refine lv_land hx hb d_11_3_52 ?_
  refine lv_iload_n hx hb d_11_3_53 rfl (lv_at hl 2 rfl) ?_
  refine lv_sipush (v := 255) hx hb d_11_3_54 (by decide) ?_
  refine lv_iand hx hb d_11_3_57 ?_
  refine lv_i2l hx hb d_11_3_58 rfl ?_
  refine lv_iload_n hx hb d_11_3_59 rfl (lv_at hl 0 rfl) ?_
  refine lv_lshl hx hb d_11_3_60 rfl ?_
  refine lv_lor hx hb d_11_3_61 ?_
  refine q_last C0 V hA1 (by unfold vp_in; decide) d_11_3_62 (fun H locs w2 hu3 hA1 V => ?_)
  replace hA1 : w2[kA1]? = (some (qA1, .inl (g 1, 513, .inr (.inl (vp_updL (vp_updL (fun _ => 0) 0 v2) 0 ((v2 &&& (-280375465082881)) ||| (((x1 &&& 255).toInt64) <<< ((40 : Int32).toInt64 &&& 63))))))) : Option (Nat × va_E)) := hA1
  replace hA1 := q_re (y := (qA1, .inl (g 1, 513, .inr (.inl (vp_updL (fun _ => 0) 0 ((v2 &&& (-280375465082881)) ||| (((x1 &&& 255).toInt64) <<< ((40 : Int32).toInt64 &&& 63)))))))) hA1 (q_eL (by funext k; simp only [vp_updL]; (repeat' split) <;> first | rfl | omega))
  replace hA1 : w2[kA1]? = (some (qA1, .inl (g 1, 513, .inr (.inl (vp_updL (fun _ => 0) 0 ((v2 &&& (-280375465082881)) ||| (((x1 &&& 255).toInt64) <<< ((40 : Int32).toInt64 &&& 63))))))) : Option (Nat × va_E)) := hA1
  replace hF := q_us hF hu3 (.tail _ (.head _))
  refine lv_aload_n hx hb d_11_3_63 rfl (lv_at hl 1 rfl) ?_
  refine lv_dup hx hb d_11_3_64 rfl ?_
  replace hO0 := (hu3 _ n_O0_A1).trans (hO0)
  refine q_get (ci := 1) (j := 2) (v := .int 5) C0 V i_She rfl rfl hO0 (by decide) w_54 rfl d_11_3_65 ?_
  refine lv_iconst (v := 1) hx hb d_11_3_68 (by decide) ?_
  refine lv_iadd hx hb d_11_3_69 ?_
  refine q_ti (v := 6) (by decide) ?_
  refine q_put (ci := 1) (j := 2) (v := .int 6) (ty := .int) C0 V i_She o_She n_She rfl rfl hO0 (by decide) w_54 rfl rfl rfl rfl (Nat.le_of_ble_eq_true rfl) d_11_3_70 (fun H locs w4 hu5 hO0 V => ?_)
  replace hO0 : w4[kO0]? = (some (qO0, .inr (1, [.ref qA1, .int 4100, .int 6])) : Option (Nat × va_E)) := hO0
  replace hF := q_us hF hu5 (.head _)
  replace hA1 := (hu5 _ n_A1_O0).trans (hA1)
  exact q_retv C0 V (⟨hF, hO0, hA1⟩) d_11_3_73
set_option maxRecDepth 100000 in
set_option maxHeartbeats 4000000 in
theorem c_She_add_7 (l : Launch) (D : va_G) (g : Nat → ClassId) (ws : va_W) (kO0 kA1 qO0 qA1 : Nat) (x1 : Int32) (v2 : Int64) (hO0 : ws[kO0]? = (some (qO0, .inr (1, [.ref qA1, .int 4100, .int 6])) : Option (Nat × va_E))) (hA1 : ws[kA1]? = (some (qA1, .inl (g 1, 513, .inr (.inl (vp_updL (fun _ => 0) 0 v2)))) : Option (Nat × va_E))) : q_mV l y_She_add prog_11_method_3_code 3 1 0 0 D g [.ref qO0, .int x1] ws (fun u => q_un ws u [kO0, kA1] ∧ u[kO0]? = (some (qO0, .inr (1, [.ref qA1, .int 4100, .int 7])) : Option (Nat × va_E)) ∧ u[kA1]? = (some (qA1, .inl (g 1, 513, .inr (.inl (vp_updL (fun _ => 0) 0 ((v2 &&& (-71776119061217281)) ||| (((x1 &&& 255).toInt64) <<< ((48 : Int32).toInt64 &&& 63))))))) : Option (Nat × va_E))) := by
  intro sz
  refine q_into (by decide) (Nat.le_of_ble_eq_true rfl) ?_
  intro p e s m below meth c ls hsz C0 V hl
  have hx := C0.1
  have hb := C0.2.1
  have hl : lv_has ls 3 [(0, .ref qO0), (1, .int x1)] := hl
  have n_A1_O0 := q_df hA1 hO0
  have n_O0_A1 := Ne.symm (q_df hA1 hO0)
  have hF : q_un ws ws [kO0, kA1] := q_u0
  refine lv_aload_n hx hb d_11_3_0 rfl (lv_at hl 0 rfl) ?_
  refine q_get (ci := 1) (j := 2) (v := .int 6) C0 V i_She rfl rfl hO0 (by decide) w_54 rfl d_11_3_1 ?_
  refine lv_aload_n hx hb d_11_3_4 rfl (lv_at hl 0 rfl) ?_
  refine q_get (ci := 1) (j := 1) (v := .int 4100) C0 V i_She rfl rfl hO0 (by decide) w_53 rfl d_11_3_5 ?_
  refine lv_icmp_ge (tgt := 63) hx hb d_11_3_8 (by decide) (fun c1 => absurd c1 (by decide)) (fun c1 => ?_)
  refine lv_bipush (v := 8) hx hb d_11_3_11 (by decide) ?_
  refine lv_aload_n hx hb d_11_3_13 rfl (lv_at hl 0 rfl) ?_
  refine q_get (ci := 1) (j := 2) (v := .int 6) C0 V i_She rfl rfl hO0 (by decide) w_54 rfl d_11_3_14 ?_
  refine lv_bipush (v := 7) hx hb d_11_3_17 (by decide) ?_
  refine lv_iand hx hb d_11_3_19 ?_
  refine q_ti (v := 6) (by decide) ?_
  refine lv_imul hx hb d_11_3_20 ?_
  refine q_ti (v := 48) (by decide) ?_
  refine lv_istore_n (lv' := [(2, .int 48), (0, .ref qO0), (1, .int x1)]) hx hb d_11_3_21 rfl hl (by decide) rfl (fun ls hl => ?_)
  refine lv_aload_n hx hb d_11_3_22 rfl (lv_at hl 1 rfl) ?_
  refine q_get (ci := 1) (j := 0) (v := .ref qA1) C0 V i_She rfl rfl hO0 (by decide) w_52 rfl d_11_3_23 ?_
  refine lv_aload_n hx hb d_11_3_26 rfl (lv_at hl 1 rfl) ?_
  refine q_get (ci := 1) (j := 2) (v := .int 6) C0 V i_She rfl rfl hO0 (by decide) w_54 rfl d_11_3_27 ?_
  refine lv_iconst (v := 3) hx hb d_11_3_30 (by decide) ?_
  refine lv_ishr hx hb d_11_3_31 ?_
  refine q_ti (v := 0) (by decide) ?_
  refine lv_aload_n hx hb d_11_3_32 rfl (lv_at hl 1 rfl) ?_
  refine q_get (ci := 1) (j := 0) (v := .ref qA1) C0 V i_She rfl rfl hO0 (by decide) w_52 rfl d_11_3_33 ?_
  refine lv_aload_n hx hb d_11_3_36 rfl (lv_at hl 1 rfl) ?_
  refine q_get (ci := 1) (j := 2) (v := .int 6) C0 V i_She rfl rfl hO0 (by decide) w_54 rfl d_11_3_37 ?_
  refine lv_iconst (v := 3) hx hb d_11_3_40 (by decide) ?_
  refine lv_ishr hx hb d_11_3_41 ?_
  refine q_ti (v := 0) (by decide) ?_
  refine q_lald C0 V hA1 (by unfold vp_in; decide) d_11_3_42 ?_
  refine q_tl (v := v2) (by first | rfl | decide | simp [upd, vp_updL, sb_cl0]) ?_
  refine q_ldc2 C0 rfl w_565 d_11_3_43 ?_
  refine lv_iload_n hx hb d_11_3_46 rfl (lv_at hl 0 rfl) ?_
  refine lv_lshl hx hb d_11_3_47 rfl ?_
  refine q_tl (v := 71776119061217280) (by decide) ?_
  refine q_ldc2 C0 rfl w_566 d_11_3_48 ?_
  refine lv_lxor hx hb d_11_3_51 ?_
  refine q_tl (v := (-71776119061217281)) (by decide) ?_
  refine lv_land hx hb d_11_3_52 ?_
  refine lv_iload_n hx hb d_11_3_53 rfl (lv_at hl 2 rfl) ?_
  refine lv_sipush (v := 255) hx hb d_11_3_54 (by decide) ?_
  refine lv_iand hx hb d_11_3_57 ?_
  refine lv_i2l hx hb d_11_3_58 rfl ?_
  refine lv_iload_n hx hb d_11_3_59 rfl (lv_at hl 0 rfl) ?_
  refine lv_lshl hx hb d_11_3_60 rfl ?_
  refine lv_lor hx hb d_11_3_61 ?_
  refine q_last C0 V hA1 (by unfold vp_in; decide) d_11_3_62 (fun H locs w2 hu3 hA1 V => ?_)
  replace hA1 : w2[kA1]? = (some (qA1, .inl (g 1, 513, .inr (.inl (vp_updL (vp_updL (fun _ => 0) 0 v2) 0 ((v2 &&& (-71776119061217281)) ||| (((x1 &&& 255).toInt64) <<< ((48 : Int32).toInt64 &&& 63))))))) : Option (Nat × va_E)) := hA1
  replace hA1 := q_re (y := (qA1, .inl (g 1, 513, .inr (.inl (vp_updL (fun _ => 0) 0 ((v2 &&& (-71776119061217281)) ||| (((x1 &&& 255).toInt64) <<< ((48 : Int32).toInt64 &&& 63)))))))) hA1 (q_eL (by funext k; simp only [vp_updL]; (repeat' split) <;> first | rfl | omega))
  replace hA1 : w2[kA1]? = (some (qA1, .inl (g 1, 513, .inr (.inl (vp_updL (fun _ => 0) 0 ((v2 &&& (-71776119061217281)) ||| (((x1 &&& 255).toInt64) <<< ((48 : Int32).toInt64 &&& 63))))))) : Option (Nat × va_E)) := hA1
  replace hF := q_us hF hu3 (.tail _ (.head _))
  refine lv_aload_n hx hb d_11_3_63 rfl (lv_at hl 1 rfl) ?_
  refine lv_dup hx hb d_11_3_64 rfl ?_
  replace hO0 := (hu3 _ n_O0_A1).trans (hO0)
  refine q_get (ci := 1) (j := 2) (v := .int 6) C0 V i_She rfl rfl hO0 (by decide) w_54 rfl d_11_3_65 ?_
  refine lv_iconst (v := 1) hx hb d_11_3_68 (by decide) ?_
  refine lv_iadd hx hb d_11_3_69 ?_
  refine q_ti (v := 7) (by decide) ?_
  refine q_put (ci := 1) (j := 2) (v := .int 7) (ty := .int) C0 V i_She o_She n_She rfl rfl hO0 (by decide) w_54 rfl rfl rfl rfl (Nat.le_of_ble_eq_true rfl) d_11_3_70 (fun H locs w4 hu5 hO0 V => ?_)
  replace hO0 : w4[kO0]? = (some (qO0, .inr (1, [.ref qA1, .int 4100, .int 7])) : Option (Nat × va_E)) := hO0
  replace hF := q_us hF hu5 (.head _)
  replace hA1 := (hu5 _ n_A1_O0).trans (hA1)
  exact q_retv C0 V (⟨hF, hO0, hA1⟩) d_11_3_73
set_option maxRecDepth 100000 in
set_option maxHeartbeats 4000000 in
theorem c_She_add_8 (l : Launch) (D : va_G) (g : Nat → ClassId) (ws : va_W) (kO0 kA1 qO0 qA1 : Nat) (x1 : Int32) (v2 : Int64) (hO0 : ws[kO0]? = (some (qO0, .inr (1, [.ref qA1, .int 4100, .int 7])) : Option (Nat × va_E))) (hA1 : ws[kA1]? = (some (qA1, .inl (g 1, 513, .inr (.inl (vp_updL (fun _ => 0) 0 v2)))) : Option (Nat × va_E))) : q_mV l y_She_add prog_11_method_3_code 3 1 0 0 D g [.ref qO0, .int x1] ws (fun u => q_un ws u [kO0, kA1] ∧ u[kO0]? = (some (qO0, .inr (1, [.ref qA1, .int 4100, .int 8])) : Option (Nat × va_E)) ∧ u[kA1]? = (some (qA1, .inl (g 1, 513, .inr (.inl (vp_updL (fun _ => 0) 0 ((v2 &&& 72057594037927935) ||| (((x1 &&& 255).toInt64) <<< ((56 : Int32).toInt64 &&& 63))))))) : Option (Nat × va_E))) := by
  intro sz
  refine q_into (by decide) (Nat.le_of_ble_eq_true rfl) ?_
  intro p e s m below meth c ls hsz C0 V hl
  have hx := C0.1
  have hb := C0.2.1
  have hl : lv_has ls 3 [(0, .ref qO0), (1, .int x1)] := hl
  have n_A1_O0 := q_df hA1 hO0
  have n_O0_A1 := Ne.symm (q_df hA1 hO0)
  have hF : q_un ws ws [kO0, kA1] := q_u0
  refine lv_aload_n hx hb d_11_3_0 rfl (lv_at hl 0 rfl) ?_
  refine q_get (ci := 1) (j := 2) (v := .int 7) C0 V i_She rfl rfl hO0 (by decide) w_54 rfl d_11_3_1 ?_
  refine lv_aload_n hx hb d_11_3_4 rfl (lv_at hl 0 rfl) ?_
  refine q_get (ci := 1) (j := 1) (v := .int 4100) C0 V i_She rfl rfl hO0 (by decide) w_53 rfl d_11_3_5 ?_
  refine lv_icmp_ge (tgt := 63) hx hb d_11_3_8 (by decide) (fun c1 => absurd c1 (by decide)) (fun c1 => ?_)
  refine lv_bipush (v := 8) hx hb d_11_3_11 (by decide) ?_
  refine lv_aload_n hx hb d_11_3_13 rfl (lv_at hl 0 rfl) ?_
  refine q_get (ci := 1) (j := 2) (v := .int 7) C0 V i_She rfl rfl hO0 (by decide) w_54 rfl d_11_3_14 ?_
  refine lv_bipush (v := 7) hx hb d_11_3_17 (by decide) ?_
  refine lv_iand hx hb d_11_3_19 ?_
  refine q_ti (v := 7) (by decide) ?_
  refine lv_imul hx hb d_11_3_20 ?_
  refine q_ti (v := 56) (by decide) ?_
  refine lv_istore_n (lv' := [(2, .int 56), (0, .ref qO0), (1, .int x1)]) hx hb d_11_3_21 rfl hl (by decide) rfl (fun ls hl => ?_)
  refine lv_aload_n hx hb d_11_3_22 rfl (lv_at hl 1 rfl) ?_
  refine q_get (ci := 1) (j := 0) (v := .ref qA1) C0 V i_She rfl rfl hO0 (by decide) w_52 rfl d_11_3_23 ?_
  refine lv_aload_n hx hb d_11_3_26 rfl (lv_at hl 1 rfl) ?_
  refine q_get (ci := 1) (j := 2) (v := .int 7) C0 V i_She rfl rfl hO0 (by decide) w_54 rfl d_11_3_27 ?_
  refine lv_iconst (v := 3) hx hb d_11_3_30 (by decide) ?_
  refine lv_ishr hx hb d_11_3_31 ?_
  refine q_ti (v := 0) (by decide) ?_
  refine lv_aload_n hx hb d_11_3_32 rfl (lv_at hl 1 rfl) ?_
  refine q_get (ci := 1) (j := 0) (v := .ref qA1) C0 V i_She rfl rfl hO0 (by decide) w_52 rfl d_11_3_33 ?_
  refine lv_aload_n hx hb d_11_3_36 rfl (lv_at hl 1 rfl) ?_
  refine q_get (ci := 1) (j := 2) (v := .int 7) C0 V i_She rfl rfl hO0 (by decide) w_54 rfl d_11_3_37 ?_
  refine lv_iconst (v := 3) hx hb d_11_3_40 (by decide) ?_
  refine lv_ishr hx hb d_11_3_41 ?_
  refine q_ti (v := 0) (by decide) ?_
  refine q_lald C0 V hA1 (by unfold vp_in; decide) d_11_3_42 ?_
  refine q_tl (v := v2) (by first | rfl | decide | simp [upd, vp_updL, sb_cl0]) ?_
  refine q_ldc2 C0 rfl w_565 d_11_3_43 ?_
  refine lv_iload_n hx hb d_11_3_46 rfl (lv_at hl 0 rfl) ?_
  refine lv_lshl hx hb d_11_3_47 rfl ?_
  refine q_tl (v := (-72057594037927936)) (by decide) ?_
  refine q_ldc2 C0 rfl w_566 d_11_3_48 ?_
  refine lv_lxor hx hb d_11_3_51 ?_
  refine q_tl (v := 72057594037927935) (by decide) ?_
  refine lv_land hx hb d_11_3_52 ?_
  refine lv_iload_n hx hb d_11_3_53 rfl (lv_at hl 2 rfl) ?_
  refine lv_sipush (v := 255) hx hb d_11_3_54 (by decide) ?_
  refine lv_iand hx hb d_11_3_57 ?_
  refine lv_i2l hx hb d_11_3_58 rfl ?_
  refine lv_iload_n hx hb d_11_3_59 rfl (lv_at hl 0 rfl) ?_
  refine lv_lshl hx hb d_11_3_60 rfl ?_
  refine lv_lor hx hb d_11_3_61 ?_
  refine q_last C0 V hA1 (by unfold vp_in; decide) d_11_3_62 (fun H locs w2 hu3 hA1 V => ?_)
  replace hA1 : w2[kA1]? = (some (qA1, .inl (g 1, 513, .inr (.inl (vp_updL (vp_updL (fun _ => 0) 0 v2) 0 ((v2 &&& 72057594037927935) ||| (((x1 &&& 255).toInt64) <<< ((56 : Int32).toInt64 &&& 63))))))) : Option (Nat × va_E)) := hA1
  replace hA1 := q_re (y := (qA1, .inl (g 1, 513, .inr (.inl (vp_updL (fun _ => 0) 0 ((v2 &&& 72057594037927935) ||| (((x1 &&& 255).toInt64) <<< ((56 : Int32).toInt64 &&& 63)))))))) hA1 (q_eL (by funext k; simp only [vp_updL]; (repeat' split) <;> first | rfl | omega))
  replace hA1 : w2[kA1]? = (some (qA1, .inl (g 1, 513, .inr (.inl (vp_updL (fun _ => 0) 0 ((v2 &&& 72057594037927935) ||| (((x1 &&& 255).toInt64) <<< ((56 : Int32).toInt64 &&& 63))))))) : Option (Nat × va_E)) := hA1
  replace hF := q_us hF hu3 (.tail _ (.head _))
  refine lv_aload_n hx hb d_11_3_63 rfl (lv_at hl 1 rfl) ?_
  refine lv_dup hx hb d_11_3_64 rfl ?_
  replace hO0 := (hu3 _ n_O0_A1).trans (hO0)
  refine q_get (ci := 1) (j := 2) (v := .int 7) C0 V i_She rfl rfl hO0 (by decide) w_54 rfl d_11_3_65 ?_
  refine lv_iconst (v := 1) hx hb d_11_3_68 (by decide) ?_
  refine lv_iadd hx hb d_11_3_69 ?_
  refine q_ti (v := 8) (by decide) ?_
  refine q_put (ci := 1) (j := 2) (v := .int 8) (ty := .int) C0 V i_She o_She n_She rfl rfl hO0 (by decide) w_54 rfl rfl rfl rfl (Nat.le_of_ble_eq_true rfl) d_11_3_70 (fun H locs w4 hu5 hO0 V => ?_)
  replace hO0 : w4[kO0]? = (some (qO0, .inr (1, [.ref qA1, .int 4100, .int 8])) : Option (Nat × va_E)) := hO0
  replace hF := q_us hF hu5 (.head _)
  replace hA1 := (hu5 _ n_A1_O0).trans (hA1)
  exact q_retv C0 V (⟨hF, hO0, hA1⟩) d_11_3_73
theorem d_1_2_0 : decode prog_1_method_2_code 0 = .ok (.iload_n 1, 1) := by decide +kernel
theorem d_1_2_1 : decode prog_1_method_2_code 1 = .ok (.iconst 1, 1) := by decide +kernel
theorem d_1_2_2 : decode prog_1_method_2_code 2 = .ok (.if_icmp .lt 13, 3) := by decide +kernel
theorem d_1_2_15 : decode prog_1_method_2_code 15 = .ok (.iconst 0, 1) := by decide +kernel
theorem d_1_2_16 : decode prog_1_method_2_code 16 = .ok (.invokestatic 104, 3) := by decide +kernel
theorem w_493 : (Cond.code ({ cls := "NumberHouse", name := "need", desc := "(Z)V" } : MethodName) prog_1_method_36_code (1 : Nat) (none : Option ClassFile.FieldType)) ∈ q_tbl := q_of 493 (by decide +kernel) (by decide +kernel)
theorem w_1 : (Cond.initialized "NumberHouse") ∈ q_tbl := q_of 1 (by decide +kernel) (by decide +kernel)
theorem w_491 : (Cond.methodLink "NumberHouse" (104 : Nat) ({ cls := "NumberHouse", name := "need", desc := "(Z)V" } : MethodName)) ∈ q_tbl := q_of 491 (by decide +kernel) (by decide +kernel)
theorem w_492 : (Cond.static ({ cls := "NumberHouse", name := "need", desc := "(Z)V" } : MethodName)) ∈ q_tbl := q_of 492 (by decide +kernel) (by decide +kernel)
theorem LS_NH_104 : q_LS "NumberHouse" 104 y_NH_need prog_1_method_36_code 1 none 1 := ⟨w_493, w_1, w_491, w_492, ⟨by decide, by decide, by decide +kernel⟩⟩
theorem d_1_2_5 : decode prog_1_method_2_code 5 = .ok (.iload_n 1, 1) := by decide +kernel
theorem d_1_2_6 : decode prog_1_method_2_code 6 = .ok (.bipush 8, 2) := by decide +kernel
theorem d_1_2_8 : decode prog_1_method_2_code 8 = .ok (.if_icmp .gt 7, 3) := by decide +kernel
theorem d_1_2_11 : decode prog_1_method_2_code 11 = .ok (.iconst 1, 1) := by decide +kernel
theorem d_1_2_12 : decode prog_1_method_2_code 12 = .ok (.goto 4, 3) := by decide +kernel
theorem d_1_2_19 : decode prog_1_method_2_code 19 = .ok (.aload_n 0, 1) := by decide +kernel
theorem d_1_2_20 : decode prog_1_method_2_code 20 = .ok (.getfield 14, 3) := by decide +kernel
theorem d_1_2_23 : decode prog_1_method_2_code 23 = .ok (.getfield 108, 3) := by decide +kernel
theorem d_1_2_26 : decode prog_1_method_2_code 26 = .ok (.iload_n 1, 1) := by decide +kernel
theorem d_1_2_27 : decode prog_1_method_2_code 27 = .ok (.iadd, 1) := by decide +kernel
theorem d_1_2_28 : decode prog_1_method_2_code 28 = .ok (.sipush 4100, 3) := by decide +kernel
theorem d_1_2_31 : decode prog_1_method_2_code 31 = .ok (.if_icmp .le 5, 3) := by decide +kernel
theorem d_1_2_36 : decode prog_1_method_2_code 36 = .ok (.iconst 0, 1) := by decide +kernel
theorem d_1_2_37 : decode prog_1_method_2_code 37 = .ok (.istore 4, 2) := by decide +kernel
theorem d_1_2_39 : decode prog_1_method_2_code 39 = .ok (.iload 4, 2) := by decide +kernel
theorem d_1_2_41 : decode prog_1_method_2_code 41 = .ok (.iload_n 1, 1) := by decide +kernel
theorem d_1_2_42 : decode prog_1_method_2_code 42 = .ok (.if_icmp .ge 28, 3) := by decide +kernel
theorem d_1_2_45 : decode prog_1_method_2_code 45 = .ok (.aload_n 0, 1) := by decide +kernel
theorem d_1_2_46 : decode prog_1_method_2_code 46 = .ok (.getfield 14, 3) := by decide +kernel
theorem d_1_2_49 : decode prog_1_method_2_code 49 = .ok (.lload_n 2, 1) := by decide +kernel
theorem d_1_2_50 : decode prog_1_method_2_code 50 = .ok (.bipush 8, 2) := by decide +kernel
theorem d_1_2_52 : decode prog_1_method_2_code 52 = .ok (.iload 4, 2) := by decide +kernel
theorem d_1_2_54 : decode prog_1_method_2_code 54 = .ok (.imul, 1) := by decide +kernel
theorem d_1_2_55 : decode prog_1_method_2_code 55 = .ok (.lushr, 1) := by decide +kernel
theorem d_1_2_56 : decode prog_1_method_2_code 56 = .ok (.l2i, 1) := by decide +kernel
theorem d_1_2_57 : decode prog_1_method_2_code 57 = .ok (.sipush 255, 3) := by decide +kernel
theorem d_1_2_60 : decode prog_1_method_2_code 60 = .ok (.iand, 1) := by decide +kernel
theorem d_1_2_61 : decode prog_1_method_2_code 61 = .ok (.invokevirtual 112, 3) := by decide +kernel
theorem w_564 : (Cond.code ({ cls := "NumberHouse$Sheet", name := "add", desc := "(I)V" } : MethodName) prog_11_method_3_code (3 : Nat) (none : Option ClassFile.FieldType)) ∈ q_tbl := q_of 564 (by decide +kernel) (by decide +kernel)
theorem w_561 : (Cond.methodLink "NumberHouse" (112 : Nat) ({ cls := "NumberHouse$Sheet", name := "add", desc := "(I)V" } : MethodName)) ∈ q_tbl := q_of 561 (by decide +kernel) (by decide +kernel)
theorem w_562 : (Cond.instanceMethod ({ cls := "NumberHouse$Sheet", name := "add", desc := "(I)V" } : MethodName)) ∈ q_tbl := q_of 562 (by decide +kernel) (by decide +kernel)
theorem w_563 : (Cond.selects "NumberHouse$Sheet" ({ cls := "NumberHouse$Sheet", name := "add", desc := "(I)V" } : MethodName) ({ cls := "NumberHouse$Sheet", name := "add", desc := "(I)V" } : MethodName)) ∈ q_tbl := q_of 563 (by decide +kernel) (by decide +kernel)
theorem LV_NH_112 : q_LV "NumberHouse" 112 y_She_add prog_11_method_3_code 3 none 1 := ⟨w_564, w_2, w_561, w_562, w_563, ⟨by decide, by decide, by decide +kernel⟩⟩
theorem d_1_2_64 : decode prog_1_method_2_code 64 = .ok (.iinc 4 1, 3) := by decide +kernel
theorem d_1_2_67 : decode prog_1_method_2_code 67 = .ok (.goto (-28), 3) := by decide +kernel
theorem d_1_2_70 : decode prog_1_method_2_code 70 = .ok (.aload_n 0, 1) := by decide +kernel
theorem d_1_2_71 : decode prog_1_method_2_code 71 = .ok (.getfield 14, 3) := by decide +kernel
theorem d_1_2_74 : decode prog_1_method_2_code 74 = .ok (.getfield 108, 3) := by decide +kernel
theorem d_1_2_77 : decode prog_1_method_2_code 77 = .ok (.ireturn, 1) := by decide +kernel
def y_NH_feed : MethodName := ⟨"NumberHouse", "feed", "(IJ)I"⟩
set_option maxRecDepth 100000 in
set_option maxHeartbeats 4000000 in
/-- feed on a fresh object -/
theorem c_NH_feed (l : Launch) (D : va_G) (g : Nat → ClassId) (ws : va_W) (hlt : l.stackTraces = false) ( qO0 qO1 qO2 qA3 qA4 qA5 qA6 qO7 qO8 qO9 qO10 qO11 qO12 qO13 qO14 qA15 : Nat) (x1 : Int32) (x2 : Int64) (hO0 : ws[0]? = (some (qO0, .inr (0, [.ref qO1, .ref qO2, .ref qA3, .ref qA4, .ref qA5, .ref qA6, .ref qO7, .ref qO8, .ref qO9, .ref qO10, .ref qO11, .ref qO12, .ref qO13, .ref qO14])) : Option (Nat × va_E))) (hO1 : ws[1]? = (some (qO1, .inr (1, [.ref qA15, .int 4100, .int 0])) : Option (Nat × va_E))) (hA15 : ws[2]? = (some (qA15, .inl (g 1, 513, .inr (.inl (fun _ => 0)))) : Option (Nat × va_E))) : q_xI l y_NH_feed prog_1_method_2_code 5 (.int) 8 1 6 D g [.ref qO0, .int x1, .long x2] ws (fun r u => (((1 ≤ x1.toInt ∧ x1.toInt ≤ 8)) ∧ r.toInt = x1.toInt) ∧ q_ge 116 ws u) (fun E u => (("java/lang/IllegalArgumentException" = E ∧ (¬ ((1 ≤ x1.toInt ∧ x1.toInt ≤ 8))))) ∧ q_ge 116 ws u) := by
  intro sz
  refine q_intoX (by decide) (Nat.le_of_ble_eq_true rfl) ?_
  intro p e s m below meth c ls hsz C0 V hno hl
  have hx := C0.1
  have hb := C0.2.1
  have hl : lv_has ls 5 [(0, .ref qO0), (1, .int x1), (2, .long x2)] := hl
  have hF : q_ge 116 ws ws := q_g0
  refine lv_iload_n hx hb d_1_2_0 rfl (lv_at hl 1 rfl) ?_
  refine lv_iconst (v := 1) hx hb d_1_2_1 (by decide) ?_
  refine lv_icmp_lt (tgt := 15) hx hb d_1_2_2 (by decide) (fun c1 => ?_) (fun c1 => ?_)
  ·
    refine lv_iconst (v := 0) hx hb d_1_2_15 (by decide) ?_
    refine q_goxv V (q_runSX (As := [.int 0]) (rest := []) (d := 7) (mc := 1) (ms := 6) C0 V rfl LS_NH_104 (c_NH_need l D g ws hlt 0 _) rfl hl.1 rfl (Nat.le_of_ble_eq_true rfl) ⟨by decide, by decide⟩ ⟨Nat.le_of_ble_eq_true rfl, Nat.le_of_ble_eq_true rfl⟩ d_1_2_16) (fun qx Ex ce u3 H locs hp2 V hce hcv hcl => ?_) (fun u3 H locs hp2 V => ?_)
    ·
      obtain ⟨c4, rfl, rfl⟩ := hp2
      exact q_outT hno C0 V (⟨⟨rfl, (show ¬ ((1 ≤ x1.toInt ∧ x1.toInt ≤ 8)) from by have t1 : x1.toInt < 1 := q_ltI c1; omega)⟩, hF⟩) hce hcv hcl (Nat.le_of_ble_eq_true rfl) (Nat.le_of_ble_eq_true rfl)
    ·
      obtain ⟨c6, rfl⟩ := hp2
      exact absurd c6 (by decide)
  ·
    refine lv_iload_n hx hb d_1_2_5 rfl (lv_at hl 1 rfl) ?_
    refine lv_bipush (v := 8) hx hb d_1_2_6 (by decide) ?_
    refine lv_icmp_gt (tgt := 15) hx hb d_1_2_8 (by decide) (fun c8 => ?_) (fun c8 => ?_)
    ·
      refine lv_iconst (v := 0) hx hb d_1_2_15 (by decide) ?_
      refine q_goxv V (q_runSX (As := [.int 0]) (rest := []) (d := 7) (mc := 1) (ms := 6) C0 V rfl LS_NH_104 (c_NH_need l D g ws hlt 0 _) rfl hl.1 rfl (Nat.le_of_ble_eq_true rfl) ⟨by decide, by decide⟩ ⟨Nat.le_of_ble_eq_true rfl, Nat.le_of_ble_eq_true rfl⟩ d_1_2_16) (fun qx Ex ce u10 H locs hp9 V hce hcv hcl => ?_) (fun u10 H locs hp9 V => ?_)
      ·
        obtain ⟨c11, rfl, rfl⟩ := hp9
        exact q_outT hno C0 V (⟨⟨rfl, (show ¬ ((1 ≤ x1.toInt ∧ x1.toInt ≤ 8)) from by have t1 : 1 ≤ x1.toInt := q_nltI c1; have t2 : 8 < x1.toInt := q_ltI c8; omega)⟩, hF⟩) hce hcv hcl (Nat.le_of_ble_eq_true rfl) (Nat.le_of_ble_eq_true rfl)
      ·
        obtain ⟨c13, rfl⟩ := hp9
        exact absurd c13 (by decide)
    ·
      refine lv_iconst (v := 1) hx hb d_1_2_11 (by decide) ?_
      refine lv_goto (tgt := 16) hx hb d_1_2_12 (by decide) ?_
      refine q_goxv V (q_runSX (As := [.int 1]) (rest := []) (d := 7) (mc := 1) (ms := 6) C0 V rfl LS_NH_104 (c_NH_need l D g ws hlt 1 _) rfl hl.1 rfl (Nat.le_of_ble_eq_true rfl) ⟨by decide, by decide⟩ ⟨Nat.le_of_ble_eq_true rfl, Nat.le_of_ble_eq_true rfl⟩ d_1_2_16) (fun qx Ex ce u16 H locs hp15 V hce hcv hcl => ?_) (fun u16 H locs hp15 V => ?_)
      ·
        obtain ⟨c17, rfl, rfl⟩ := hp15
        exact absurd c17 (by decide)
      ·
        obtain ⟨c19, rfl⟩ := hp15
        refine lv_aload_n hx hb d_1_2_19 rfl (lv_at hl 0 rfl) ?_
        refine q_get (ci := 0) (j := 0) (v := .ref qO1) C0 V i_NH rfl rfl hO0 (by decide) w_424 rfl d_1_2_20 ?_
        refine q_get (ci := 1) (j := 2) (v := .int 0) C0 V i_She rfl rfl hO1 (by decide) w_56 rfl d_1_2_23 ?_
        refine lv_iload_n hx hb d_1_2_26 rfl (lv_at hl 1 rfl) ?_
        refine lv_iadd hx hb d_1_2_27 ?_
        refine q_ti (v := x1) (by simp) ?_
        refine lv_sipush (v := 4100) hx hb d_1_2_28 (by decide) ?_
        refine lv_icmp_le (tgt := 36) hx hb d_1_2_31 (by decide) (fun c21 => ?_) (fun c21 => absurd (q_Ile (x := x1.toInt) (y := 4100) rfl (by decide) (by have t1 : 1 ≤ x1.toInt := q_nltI c1; have t2 : x1.toInt ≤ 8 := q_nltI c8; omega)) c21)
        refine lv_iconst (v := 0) hx hb d_1_2_36 (by decide) ?_
        refine lv_istore (lv' := [(4, .int 0), (0, .ref qO0), (1, .int x1), (2, .long x2)]) hx hb d_1_2_37 hl (by decide) rfl (fun ls hl => ?_)
        refine lv_iload hx hb d_1_2_39 (lv_at hl 0 rfl) ?_
        refine lv_iload_n hx hb d_1_2_41 rfl (lv_at hl 2 rfl) ?_
        refine lv_icmp_ge (tgt := 70) hx hb d_1_2_42 (by decide) (fun c22 => absurd c22 (Int32.not_le.mpr (q_Ilt (x := 0) (y := x1.toInt) (by decide) rfl (by have t1 : 1 ≤ x1.toInt := q_nltI c1; have t2 : x1.toInt ≤ 8 := q_nltI c8; omega)))) (fun c22 => ?_)
        refine lv_aload_n hx hb d_1_2_45 rfl (lv_at hl 1 rfl) ?_
        refine q_get (ci := 0) (j := 0) (v := .ref qO1) C0 V i_NH rfl rfl hO0 (by decide) w_424 rfl d_1_2_46 ?_
        refine lv_lload_n hx hb d_1_2_49 rfl (lv_at hl 3 rfl) ?_
        refine lv_bipush (v := 8) hx hb d_1_2_50 (by decide) ?_
        refine lv_iload hx hb d_1_2_52 (lv_at hl 0 rfl) ?_
        refine lv_imul hx hb d_1_2_54 ?_
        refine q_ti (v := 0) (by decide) ?_
        refine lv_lushr hx hb d_1_2_55 rfl ?_
        refine lv_l2i hx hb d_1_2_56 rfl ?_
        refine lv_sipush (v := 255) hx hb d_1_2_57 (by decide) ?_
        refine lv_iand hx hb d_1_2_60 ?_
        refine q_gov V (q_runV (As := [.int ((((x2.toUInt64 >>> ((0 : Int32).toInt64.toUInt64 &&& Int64.toUInt64 63)).toInt64).toInt32) &&& 255)]) (rest := []) (d := 1) (mc := 0) (ms := 0) (ci := 1) C0 V rfl LV_NH_112 (c_She_add l D g ws 1 2 qO1 qA15 ((((x2.toUInt64 >>> ((0 : Int32).toInt64.toUInt64 &&& Int64.toUInt64 63)).toInt64).toInt32) &&& 255) hO1 hA15 _) rfl rfl hO1 rfl hl.1 rfl (Nat.le_of_ble_eq_true rfl) ⟨by decide, by decide⟩ ⟨Nat.le_of_ble_eq_true rfl, Nat.le_of_ble_eq_true rfl⟩ d_1_2_61) (fun u24 H locs hp23 V => ?_)
        obtain ⟨hg25, hO1, hA15⟩ := hp23
        replace hF := q_gc hF hg25 (q_al (Nat.le_of_ble_eq_true rfl) (q_al (Nat.le_of_ble_eq_true rfl) (fun _ h => absurd h List.not_mem_nil)))
        refine lv_iinc (v := 1) (lv' := [(4, .int 1), (0, .ref qO0), (1, .int x1), (2, .long x2)]) hx hb d_1_2_64 hl (k := 0) rfl (by decide) (by decide) rfl (fun ls hl => ?_)
        refine lv_goto (tgt := 39) hx hb d_1_2_67 (by decide) ?_
        refine lv_iload hx hb d_1_2_39 (lv_at hl 0 rfl) ?_
        refine lv_iload_n hx hb d_1_2_41 rfl (lv_at hl 2 rfl) ?_
        refine lv_icmp_ge (tgt := 70) hx hb d_1_2_42 (by decide) (fun c26 => ?_) (fun c26 => ?_)
        ·
          refine lv_aload_n hx hb d_1_2_70 rfl (lv_at hl 1 rfl) ?_
          replace hO0 := (hg25 _ (q_nc (q_pd 0 1 rfl) (q_nc (q_pd 0 2 rfl) List.not_mem_nil))).trans (hO0)
          refine q_get (ci := 0) (j := 0) (v := .ref qO1) C0 V i_NH rfl rfl hO0 (by decide) w_424 rfl d_1_2_71 ?_
          refine q_get (ci := 1) (j := 2) (v := .int 1) C0 V i_She rfl rfl hO1 (by decide) w_56 rfl d_1_2_74 ?_
          exact q_retX (q_reti C0 V (⟨(show ((1 ≤ x1.toInt ∧ x1.toInt ≤ 8)) ∧ (1 : Int32).toInt = x1.toInt from by have t1 : 1 ≤ x1.toInt := q_nltI c1; have t2 : x1.toInt ≤ 8 := q_nltI c8; have t3 : x1.toInt ≤ 1 := q_leI c26; have e0 : (1 : Int32).toInt = 1 := (by decide); omega), hF⟩) d_1_2_77)
        ·
          refine lv_aload_n hx hb d_1_2_45 rfl (lv_at hl 1 rfl) ?_
          replace hO0 := (hg25 _ (q_nc (q_pd 0 1 rfl) (q_nc (q_pd 0 2 rfl) List.not_mem_nil))).trans (hO0)
          refine q_get (ci := 0) (j := 0) (v := .ref qO1) C0 V i_NH rfl rfl hO0 (by decide) w_424 rfl d_1_2_46 ?_
          refine lv_lload_n hx hb d_1_2_49 rfl (lv_at hl 3 rfl) ?_
          refine lv_bipush (v := 8) hx hb d_1_2_50 (by decide) ?_
          refine lv_iload hx hb d_1_2_52 (lv_at hl 0 rfl) ?_
          refine lv_imul hx hb d_1_2_54 ?_
          refine q_ti (v := 8) (by decide) ?_
          refine lv_lushr hx hb d_1_2_55 rfl ?_
          refine lv_l2i hx hb d_1_2_56 rfl ?_
          refine lv_sipush (v := 255) hx hb d_1_2_57 (by decide) ?_
          refine lv_iand hx hb d_1_2_60 ?_
          refine q_gov V (q_runV (As := [.int ((((x2.toUInt64 >>> ((8 : Int32).toInt64.toUInt64 &&& Int64.toUInt64 63)).toInt64).toInt32) &&& 255)]) (rest := []) (d := 1) (mc := 0) (ms := 0) (ci := 1) C0 V rfl LV_NH_112 (c_She_add_2 l D g u24 1 2 qO1 qA15 ((((x2.toUInt64 >>> ((8 : Int32).toInt64.toUInt64 &&& Int64.toUInt64 63)).toInt64).toInt32) &&& 255) (((((((x2.toUInt64 >>> ((0 : Int32).toInt64.toUInt64 &&& Int64.toUInt64 63)).toInt64).toInt32) &&& 255) &&& 255).toInt64) <<< ((0 : Int32).toInt64 &&& 63)) hO1 hA15 _) rfl rfl hO1 rfl hl.1 rfl (Nat.le_of_ble_eq_true rfl) ⟨by decide, by decide⟩ ⟨Nat.le_of_ble_eq_true rfl, Nat.le_of_ble_eq_true rfl⟩ d_1_2_61) (fun u28 H locs hp27 V => ?_)
          obtain ⟨hg29, hO1, hA15⟩ := hp27
          replace hF := q_gc hF hg29 (q_al (Nat.le_of_ble_eq_true rfl) (q_al (Nat.le_of_ble_eq_true rfl) (fun _ h => absurd h List.not_mem_nil)))
          refine lv_iinc (v := 2) (lv' := [(4, .int 2), (0, .ref qO0), (1, .int x1), (2, .long x2)]) hx hb d_1_2_64 hl (k := 0) rfl (by decide) (by decide) rfl (fun ls hl => ?_)
          refine lv_goto (tgt := 39) hx hb d_1_2_67 (by decide) ?_
          refine lv_iload hx hb d_1_2_39 (lv_at hl 0 rfl) ?_
          refine lv_iload_n hx hb d_1_2_41 rfl (lv_at hl 2 rfl) ?_
          refine lv_icmp_ge (tgt := 70) hx hb d_1_2_42 (by decide) (fun c30 => ?_) (fun c30 => ?_)
          ·
            refine lv_aload_n hx hb d_1_2_70 rfl (lv_at hl 1 rfl) ?_
            replace hO0 := (hg29 _ (q_nc (q_pd 0 1 rfl) (q_nc (q_pd 0 2 rfl) List.not_mem_nil))).trans (hO0)
            refine q_get (ci := 0) (j := 0) (v := .ref qO1) C0 V i_NH rfl rfl hO0 (by decide) w_424 rfl d_1_2_71 ?_
            refine q_get (ci := 1) (j := 2) (v := .int 2) C0 V i_She rfl rfl hO1 (by decide) w_56 rfl d_1_2_74 ?_
            exact q_retX (q_reti C0 V (⟨(show ((1 ≤ x1.toInt ∧ x1.toInt ≤ 8)) ∧ (2 : Int32).toInt = x1.toInt from by have t1 : 1 ≤ x1.toInt := q_nltI c1; have t2 : x1.toInt ≤ 8 := q_nltI c8; have t3 : 1 < x1.toInt := q_nleI c26; have t4 : x1.toInt ≤ 2 := q_leI c30; have e0 : (2 : Int32).toInt = 2 := (by decide); omega), hF⟩) d_1_2_77)
          ·
            refine lv_aload_n hx hb d_1_2_45 rfl (lv_at hl 1 rfl) ?_
            replace hO0 := (hg29 _ (q_nc (q_pd 0 1 rfl) (q_nc (q_pd 0 2 rfl) List.not_mem_nil))).trans (hO0)
            refine q_get (ci := 0) (j := 0) (v := .ref qO1) C0 V i_NH rfl rfl hO0 (by decide) w_424 rfl d_1_2_46 ?_
            refine lv_lload_n hx hb d_1_2_49 rfl (lv_at hl 3 rfl) ?_
            refine lv_bipush (v := 8) hx hb d_1_2_50 (by decide) ?_
            refine lv_iload hx hb d_1_2_52 (lv_at hl 0 rfl) ?_
            refine lv_imul hx hb d_1_2_54 ?_
            refine q_ti (v := 16) (by decide) ?_
            refine lv_lushr hx hb d_1_2_55 rfl ?_
            refine lv_l2i hx hb d_1_2_56 rfl ?_
            refine lv_sipush (v := 255) hx hb d_1_2_57 (by decide) ?_
            refine lv_iand hx hb d_1_2_60 ?_
            refine q_gov V (q_runV (As := [.int ((((x2.toUInt64 >>> ((16 : Int32).toInt64.toUInt64 &&& Int64.toUInt64 63)).toInt64).toInt32) &&& 255)]) (rest := []) (d := 1) (mc := 0) (ms := 0) (ci := 1) C0 V rfl LV_NH_112 (c_She_add_3 l D g u28 1 2 qO1 qA15 ((((x2.toUInt64 >>> ((16 : Int32).toInt64.toUInt64 &&& Int64.toUInt64 63)).toInt64).toInt32) &&& 255) (((((((((x2.toUInt64 >>> ((0 : Int32).toInt64.toUInt64 &&& Int64.toUInt64 63)).toInt64).toInt32) &&& 255) &&& 255).toInt64) <<< ((0 : Int32).toInt64 &&& 63)) &&& (-65281)) ||| (((((((x2.toUInt64 >>> ((8 : Int32).toInt64.toUInt64 &&& Int64.toUInt64 63)).toInt64).toInt32) &&& 255) &&& 255).toInt64) <<< ((8 : Int32).toInt64 &&& 63))) hO1 hA15 _) rfl rfl hO1 rfl hl.1 rfl (Nat.le_of_ble_eq_true rfl) ⟨by decide, by decide⟩ ⟨Nat.le_of_ble_eq_true rfl, Nat.le_of_ble_eq_true rfl⟩ d_1_2_61) (fun u32 H locs hp31 V => ?_)
            obtain ⟨hg33, hO1, hA15⟩ := hp31
            replace hF := q_gc hF hg33 (q_al (Nat.le_of_ble_eq_true rfl) (q_al (Nat.le_of_ble_eq_true rfl) (fun _ h => absurd h List.not_mem_nil)))
            refine lv_iinc (v := 3) (lv' := [(4, .int 3), (0, .ref qO0), (1, .int x1), (2, .long x2)]) hx hb d_1_2_64 hl (k := 0) rfl (by decide) (by decide) rfl (fun ls hl => ?_)
            refine lv_goto (tgt := 39) hx hb d_1_2_67 (by decide) ?_
            refine lv_iload hx hb d_1_2_39 (lv_at hl 0 rfl) ?_
            refine lv_iload_n hx hb d_1_2_41 rfl (lv_at hl 2 rfl) ?_
            refine lv_icmp_ge (tgt := 70) hx hb d_1_2_42 (by decide) (fun c34 => ?_) (fun c34 => ?_)
            ·
              refine lv_aload_n hx hb d_1_2_70 rfl (lv_at hl 1 rfl) ?_
              replace hO0 := (hg33 _ (q_nc (q_pd 0 1 rfl) (q_nc (q_pd 0 2 rfl) List.not_mem_nil))).trans (hO0)
              refine q_get (ci := 0) (j := 0) (v := .ref qO1) C0 V i_NH rfl rfl hO0 (by decide) w_424 rfl d_1_2_71 ?_
              refine q_get (ci := 1) (j := 2) (v := .int 3) C0 V i_She rfl rfl hO1 (by decide) w_56 rfl d_1_2_74 ?_
              exact q_retX (q_reti C0 V (⟨(show ((1 ≤ x1.toInt ∧ x1.toInt ≤ 8)) ∧ (3 : Int32).toInt = x1.toInt from by have t1 : 1 ≤ x1.toInt := q_nltI c1; have t2 : x1.toInt ≤ 8 := q_nltI c8; have t3 : 1 < x1.toInt := q_nleI c26; have t4 : 2 < x1.toInt := q_nleI c30; have t5 : x1.toInt ≤ 3 := q_leI c34; have e0 : (3 : Int32).toInt = 3 := (by decide); omega), hF⟩) d_1_2_77)
            ·
              refine lv_aload_n hx hb d_1_2_45 rfl (lv_at hl 1 rfl) ?_
              replace hO0 := (hg33 _ (q_nc (q_pd 0 1 rfl) (q_nc (q_pd 0 2 rfl) List.not_mem_nil))).trans (hO0)
              refine q_get (ci := 0) (j := 0) (v := .ref qO1) C0 V i_NH rfl rfl hO0 (by decide) w_424 rfl d_1_2_46 ?_
              refine lv_lload_n hx hb d_1_2_49 rfl (lv_at hl 3 rfl) ?_
              refine lv_bipush (v := 8) hx hb d_1_2_50 (by decide) ?_
              refine lv_iload hx hb d_1_2_52 (lv_at hl 0 rfl) ?_
              refine lv_imul hx hb d_1_2_54 ?_
              refine q_ti (v := 24) (by decide) ?_
              refine lv_lushr hx hb d_1_2_55 rfl ?_
              refine lv_l2i hx hb d_1_2_56 rfl ?_
              refine lv_sipush (v := 255) hx hb d_1_2_57 (by decide) ?_
              refine lv_iand hx hb d_1_2_60 ?_
              refine q_gov V (q_runV (As := [.int ((((x2.toUInt64 >>> ((24 : Int32).toInt64.toUInt64 &&& Int64.toUInt64 63)).toInt64).toInt32) &&& 255)]) (rest := []) (d := 1) (mc := 0) (ms := 0) (ci := 1) C0 V rfl LV_NH_112 (c_She_add_4 l D g u32 1 2 qO1 qA15 ((((x2.toUInt64 >>> ((24 : Int32).toInt64.toUInt64 &&& Int64.toUInt64 63)).toInt64).toInt32) &&& 255) (((((((((((x2.toUInt64 >>> ((0 : Int32).toInt64.toUInt64 &&& Int64.toUInt64 63)).toInt64).toInt32) &&& 255) &&& 255).toInt64) <<< ((0 : Int32).toInt64 &&& 63)) &&& (-65281)) ||| (((((((x2.toUInt64 >>> ((8 : Int32).toInt64.toUInt64 &&& Int64.toUInt64 63)).toInt64).toInt32) &&& 255) &&& 255).toInt64) <<< ((8 : Int32).toInt64 &&& 63))) &&& (-16711681)) ||| (((((((x2.toUInt64 >>> ((16 : Int32).toInt64.toUInt64 &&& Int64.toUInt64 63)).toInt64).toInt32) &&& 255) &&& 255).toInt64) <<< ((16 : Int32).toInt64 &&& 63))) hO1 hA15 _) rfl rfl hO1 rfl hl.1 rfl (Nat.le_of_ble_eq_true rfl) ⟨by decide, by decide⟩ ⟨Nat.le_of_ble_eq_true rfl, Nat.le_of_ble_eq_true rfl⟩ d_1_2_61) (fun u36 H locs hp35 V => ?_)
              obtain ⟨hg37, hO1, hA15⟩ := hp35
              replace hF := q_gc hF hg37 (q_al (Nat.le_of_ble_eq_true rfl) (q_al (Nat.le_of_ble_eq_true rfl) (fun _ h => absurd h List.not_mem_nil)))
              refine lv_iinc (v := 4) (lv' := [(4, .int 4), (0, .ref qO0), (1, .int x1), (2, .long x2)]) hx hb d_1_2_64 hl (k := 0) rfl (by decide) (by decide) rfl (fun ls hl => ?_)
              refine lv_goto (tgt := 39) hx hb d_1_2_67 (by decide) ?_
              refine lv_iload hx hb d_1_2_39 (lv_at hl 0 rfl) ?_
              refine lv_iload_n hx hb d_1_2_41 rfl (lv_at hl 2 rfl) ?_
              refine lv_icmp_ge (tgt := 70) hx hb d_1_2_42 (by decide) (fun c38 => ?_) (fun c38 => ?_)
              ·
                refine lv_aload_n hx hb d_1_2_70 rfl (lv_at hl 1 rfl) ?_
                replace hO0 := (hg37 _ (q_nc (q_pd 0 1 rfl) (q_nc (q_pd 0 2 rfl) List.not_mem_nil))).trans (hO0)
                refine q_get (ci := 0) (j := 0) (v := .ref qO1) C0 V i_NH rfl rfl hO0 (by decide) w_424 rfl d_1_2_71 ?_
                refine q_get (ci := 1) (j := 2) (v := .int 4) C0 V i_She rfl rfl hO1 (by decide) w_56 rfl d_1_2_74 ?_
                exact q_retX (q_reti C0 V (⟨(show ((1 ≤ x1.toInt ∧ x1.toInt ≤ 8)) ∧ (4 : Int32).toInt = x1.toInt from by have t1 : 1 ≤ x1.toInt := q_nltI c1; have t2 : x1.toInt ≤ 8 := q_nltI c8; have t3 : 1 < x1.toInt := q_nleI c26; have t4 : 2 < x1.toInt := q_nleI c30; have t5 : 3 < x1.toInt := q_nleI c34; have t6 : x1.toInt ≤ 4 := q_leI c38; have e0 : (4 : Int32).toInt = 4 := (by decide); omega), hF⟩) d_1_2_77)
              ·
                refine lv_aload_n hx hb d_1_2_45 rfl (lv_at hl 1 rfl) ?_
                replace hO0 := (hg37 _ (q_nc (q_pd 0 1 rfl) (q_nc (q_pd 0 2 rfl) List.not_mem_nil))).trans (hO0)
                refine q_get (ci := 0) (j := 0) (v := .ref qO1) C0 V i_NH rfl rfl hO0 (by decide) w_424 rfl d_1_2_46 ?_
                refine lv_lload_n hx hb d_1_2_49 rfl (lv_at hl 3 rfl) ?_
                refine lv_bipush (v := 8) hx hb d_1_2_50 (by decide) ?_
                refine lv_iload hx hb d_1_2_52 (lv_at hl 0 rfl) ?_
                refine lv_imul hx hb d_1_2_54 ?_
                refine q_ti (v := 32) (by decide) ?_
                refine lv_lushr hx hb d_1_2_55 rfl ?_
                refine lv_l2i hx hb d_1_2_56 rfl ?_
                refine lv_sipush (v := 255) hx hb d_1_2_57 (by decide) ?_
                refine lv_iand hx hb d_1_2_60 ?_
                refine q_gov V (q_runV (As := [.int ((((x2.toUInt64 >>> ((32 : Int32).toInt64.toUInt64 &&& Int64.toUInt64 63)).toInt64).toInt32) &&& 255)]) (rest := []) (d := 1) (mc := 0) (ms := 0) (ci := 1) C0 V rfl LV_NH_112 (c_She_add_5 l D g u36 1 2 qO1 qA15 ((((x2.toUInt64 >>> ((32 : Int32).toInt64.toUInt64 &&& Int64.toUInt64 63)).toInt64).toInt32) &&& 255) (((((((((((((x2.toUInt64 >>> ((0 : Int32).toInt64.toUInt64 &&& Int64.toUInt64 63)).toInt64).toInt32) &&& 255) &&& 255).toInt64) <<< ((0 : Int32).toInt64 &&& 63)) &&& (-65281)) ||| (((((((x2.toUInt64 >>> ((8 : Int32).toInt64.toUInt64 &&& Int64.toUInt64 63)).toInt64).toInt32) &&& 255) &&& 255).toInt64) <<< ((8 : Int32).toInt64 &&& 63))) &&& (-16711681)) ||| (((((((x2.toUInt64 >>> ((16 : Int32).toInt64.toUInt64 &&& Int64.toUInt64 63)).toInt64).toInt32) &&& 255) &&& 255).toInt64) <<< ((16 : Int32).toInt64 &&& 63))) &&& (-4278190081)) ||| (((((((x2.toUInt64 >>> ((24 : Int32).toInt64.toUInt64 &&& Int64.toUInt64 63)).toInt64).toInt32) &&& 255) &&& 255).toInt64) <<< ((24 : Int32).toInt64 &&& 63))) hO1 hA15 _) rfl rfl hO1 rfl hl.1 rfl (Nat.le_of_ble_eq_true rfl) ⟨by decide, by decide⟩ ⟨Nat.le_of_ble_eq_true rfl, Nat.le_of_ble_eq_true rfl⟩ d_1_2_61) (fun u40 H locs hp39 V => ?_)
                obtain ⟨hg41, hO1, hA15⟩ := hp39
                replace hF := q_gc hF hg41 (q_al (Nat.le_of_ble_eq_true rfl) (q_al (Nat.le_of_ble_eq_true rfl) (fun _ h => absurd h List.not_mem_nil)))
                refine lv_iinc (v := 5) (lv' := [(4, .int 5), (0, .ref qO0), (1, .int x1), (2, .long x2)]) hx hb d_1_2_64 hl (k := 0) rfl (by decide) (by decide) rfl (fun ls hl => ?_)
                refine lv_goto (tgt := 39) hx hb d_1_2_67 (by decide) ?_
                refine lv_iload hx hb d_1_2_39 (lv_at hl 0 rfl) ?_
                refine lv_iload_n hx hb d_1_2_41 rfl (lv_at hl 2 rfl) ?_
                refine lv_icmp_ge (tgt := 70) hx hb d_1_2_42 (by decide) (fun c42 => ?_) (fun c42 => ?_)
                ·
                  refine lv_aload_n hx hb d_1_2_70 rfl (lv_at hl 1 rfl) ?_
                  replace hO0 := (hg41 _ (q_nc (q_pd 0 1 rfl) (q_nc (q_pd 0 2 rfl) List.not_mem_nil))).trans (hO0)
                  refine q_get (ci := 0) (j := 0) (v := .ref qO1) C0 V i_NH rfl rfl hO0 (by decide) w_424 rfl d_1_2_71 ?_
                  refine q_get (ci := 1) (j := 2) (v := .int 5) C0 V i_She rfl rfl hO1 (by decide) w_56 rfl d_1_2_74 ?_
                  exact q_retX (q_reti C0 V (⟨(show ((1 ≤ x1.toInt ∧ x1.toInt ≤ 8)) ∧ (5 : Int32).toInt = x1.toInt from by have t1 : 1 ≤ x1.toInt := q_nltI c1; have t2 : x1.toInt ≤ 8 := q_nltI c8; have t3 : 1 < x1.toInt := q_nleI c26; have t4 : 2 < x1.toInt := q_nleI c30; have t5 : 3 < x1.toInt := q_nleI c34; have t6 : 4 < x1.toInt := q_nleI c38; have t7 : x1.toInt ≤ 5 := q_leI c42; have e0 : (5 : Int32).toInt = 5 := (by decide); omega), hF⟩) d_1_2_77)
                ·
                  refine lv_aload_n hx hb d_1_2_45 rfl (lv_at hl 1 rfl) ?_
                  replace hO0 := (hg41 _ (q_nc (q_pd 0 1 rfl) (q_nc (q_pd 0 2 rfl) List.not_mem_nil))).trans (hO0)
                  refine q_get (ci := 0) (j := 0) (v := .ref qO1) C0 V i_NH rfl rfl hO0 (by decide) w_424 rfl d_1_2_46 ?_
                  refine lv_lload_n hx hb d_1_2_49 rfl (lv_at hl 3 rfl) ?_
                  refine lv_bipush (v := 8) hx hb d_1_2_50 (by decide) ?_
                  refine lv_iload hx hb d_1_2_52 (lv_at hl 0 rfl) ?_
                  refine lv_imul hx hb d_1_2_54 ?_
                  refine q_ti (v := 40) (by decide) ?_
                  refine lv_lushr hx hb d_1_2_55 rfl ?_
                  refine lv_l2i hx hb d_1_2_56 rfl ?_
                  refine lv_sipush (v := 255) hx hb d_1_2_57 (by decide) ?_
                  refine lv_iand hx hb d_1_2_60 ?_
                  refine q_gov V (q_runV (As := [.int ((((x2.toUInt64 >>> ((40 : Int32).toInt64.toUInt64 &&& Int64.toUInt64 63)).toInt64).toInt32) &&& 255)]) (rest := []) (d := 1) (mc := 0) (ms := 0) (ci := 1) C0 V rfl LV_NH_112 (c_She_add_6 l D g u40 1 2 qO1 qA15 ((((x2.toUInt64 >>> ((40 : Int32).toInt64.toUInt64 &&& Int64.toUInt64 63)).toInt64).toInt32) &&& 255) (((((((((((((((x2.toUInt64 >>> ((0 : Int32).toInt64.toUInt64 &&& Int64.toUInt64 63)).toInt64).toInt32) &&& 255) &&& 255).toInt64) <<< ((0 : Int32).toInt64 &&& 63)) &&& (-65281)) ||| (((((((x2.toUInt64 >>> ((8 : Int32).toInt64.toUInt64 &&& Int64.toUInt64 63)).toInt64).toInt32) &&& 255) &&& 255).toInt64) <<< ((8 : Int32).toInt64 &&& 63))) &&& (-16711681)) ||| (((((((x2.toUInt64 >>> ((16 : Int32).toInt64.toUInt64 &&& Int64.toUInt64 63)).toInt64).toInt32) &&& 255) &&& 255).toInt64) <<< ((16 : Int32).toInt64 &&& 63))) &&& (-4278190081)) ||| (((((((x2.toUInt64 >>> ((24 : Int32).toInt64.toUInt64 &&& Int64.toUInt64 63)).toInt64).toInt32) &&& 255) &&& 255).toInt64) <<< ((24 : Int32).toInt64 &&& 63))) &&& (-1095216660481)) ||| (((((((x2.toUInt64 >>> ((32 : Int32).toInt64.toUInt64 &&& Int64.toUInt64 63)).toInt64).toInt32) &&& 255) &&& 255).toInt64) <<< ((32 : Int32).toInt64 &&& 63))) hO1 hA15 _) rfl rfl hO1 rfl hl.1 rfl (Nat.le_of_ble_eq_true rfl) ⟨by decide, by decide⟩ ⟨Nat.le_of_ble_eq_true rfl, Nat.le_of_ble_eq_true rfl⟩ d_1_2_61) (fun u44 H locs hp43 V => ?_)
                  obtain ⟨hg45, hO1, hA15⟩ := hp43
                  replace hF := q_gc hF hg45 (q_al (Nat.le_of_ble_eq_true rfl) (q_al (Nat.le_of_ble_eq_true rfl) (fun _ h => absurd h List.not_mem_nil)))
                  refine lv_iinc (v := 6) (lv' := [(4, .int 6), (0, .ref qO0), (1, .int x1), (2, .long x2)]) hx hb d_1_2_64 hl (k := 0) rfl (by decide) (by decide) rfl (fun ls hl => ?_)
                  refine lv_goto (tgt := 39) hx hb d_1_2_67 (by decide) ?_
                  refine lv_iload hx hb d_1_2_39 (lv_at hl 0 rfl) ?_
                  refine lv_iload_n hx hb d_1_2_41 rfl (lv_at hl 2 rfl) ?_
                  refine lv_icmp_ge (tgt := 70) hx hb d_1_2_42 (by decide) (fun c46 => ?_) (fun c46 => ?_)
                  ·
                    refine lv_aload_n hx hb d_1_2_70 rfl (lv_at hl 1 rfl) ?_
                    replace hO0 := (hg45 _ (q_nc (q_pd 0 1 rfl) (q_nc (q_pd 0 2 rfl) List.not_mem_nil))).trans (hO0)
                    refine q_get (ci := 0) (j := 0) (v := .ref qO1) C0 V i_NH rfl rfl hO0 (by decide) w_424 rfl d_1_2_71 ?_
                    refine q_get (ci := 1) (j := 2) (v := .int 6) C0 V i_She rfl rfl hO1 (by decide) w_56 rfl d_1_2_74 ?_
                    exact q_retX (q_reti C0 V (⟨(show ((1 ≤ x1.toInt ∧ x1.toInt ≤ 8)) ∧ (6 : Int32).toInt = x1.toInt from by have t1 : 1 ≤ x1.toInt := q_nltI c1; have t2 : x1.toInt ≤ 8 := q_nltI c8; have t3 : 1 < x1.toInt := q_nleI c26; have t4 : 2 < x1.toInt := q_nleI c30; have t5 : 3 < x1.toInt := q_nleI c34; have t6 : 4 < x1.toInt := q_nleI c38; have t7 : 5 < x1.toInt := q_nleI c42; have t8 : x1.toInt ≤ 6 := q_leI c46; have e0 : (6 : Int32).toInt = 6 := (by decide); omega), hF⟩) d_1_2_77)
                  ·
                    refine lv_aload_n hx hb d_1_2_45 rfl (lv_at hl 1 rfl) ?_
                    replace hO0 := (hg45 _ (q_nc (q_pd 0 1 rfl) (q_nc (q_pd 0 2 rfl) List.not_mem_nil))).trans (hO0)
                    refine q_get (ci := 0) (j := 0) (v := .ref qO1) C0 V i_NH rfl rfl hO0 (by decide) w_424 rfl d_1_2_46 ?_
                    refine lv_lload_n hx hb d_1_2_49 rfl (lv_at hl 3 rfl) ?_
                    refine lv_bipush (v := 8) hx hb d_1_2_50 (by decide) ?_
                    refine lv_iload hx hb d_1_2_52 (lv_at hl 0 rfl) ?_
                    refine lv_imul hx hb d_1_2_54 ?_
                    refine q_ti (v := 48) (by decide) ?_
                    refine lv_lushr hx hb d_1_2_55 rfl ?_
                    refine lv_l2i hx hb d_1_2_56 rfl ?_
                    refine lv_sipush (v := 255) hx hb d_1_2_57 (by decide) ?_
                    refine lv_iand hx hb d_1_2_60 ?_
                    refine q_gov V (q_runV (As := [.int ((((x2.toUInt64 >>> ((48 : Int32).toInt64.toUInt64 &&& Int64.toUInt64 63)).toInt64).toInt32) &&& 255)]) (rest := []) (d := 1) (mc := 0) (ms := 0) (ci := 1) C0 V rfl LV_NH_112 (c_She_add_7 l D g u44 1 2 qO1 qA15 ((((x2.toUInt64 >>> ((48 : Int32).toInt64.toUInt64 &&& Int64.toUInt64 63)).toInt64).toInt32) &&& 255) (((((((((((((((((x2.toUInt64 >>> ((0 : Int32).toInt64.toUInt64 &&& Int64.toUInt64 63)).toInt64).toInt32) &&& 255) &&& 255).toInt64) <<< ((0 : Int32).toInt64 &&& 63)) &&& (-65281)) ||| (((((((x2.toUInt64 >>> ((8 : Int32).toInt64.toUInt64 &&& Int64.toUInt64 63)).toInt64).toInt32) &&& 255) &&& 255).toInt64) <<< ((8 : Int32).toInt64 &&& 63))) &&& (-16711681)) ||| (((((((x2.toUInt64 >>> ((16 : Int32).toInt64.toUInt64 &&& Int64.toUInt64 63)).toInt64).toInt32) &&& 255) &&& 255).toInt64) <<< ((16 : Int32).toInt64 &&& 63))) &&& (-4278190081)) ||| (((((((x2.toUInt64 >>> ((24 : Int32).toInt64.toUInt64 &&& Int64.toUInt64 63)).toInt64).toInt32) &&& 255) &&& 255).toInt64) <<< ((24 : Int32).toInt64 &&& 63))) &&& (-1095216660481)) ||| (((((((x2.toUInt64 >>> ((32 : Int32).toInt64.toUInt64 &&& Int64.toUInt64 63)).toInt64).toInt32) &&& 255) &&& 255).toInt64) <<< ((32 : Int32).toInt64 &&& 63))) &&& (-280375465082881)) ||| (((((((x2.toUInt64 >>> ((40 : Int32).toInt64.toUInt64 &&& Int64.toUInt64 63)).toInt64).toInt32) &&& 255) &&& 255).toInt64) <<< ((40 : Int32).toInt64 &&& 63))) hO1 hA15 _) rfl rfl hO1 rfl hl.1 rfl (Nat.le_of_ble_eq_true rfl) ⟨by decide, by decide⟩ ⟨Nat.le_of_ble_eq_true rfl, Nat.le_of_ble_eq_true rfl⟩ d_1_2_61) (fun u48 H locs hp47 V => ?_)
                    obtain ⟨hg49, hO1, hA15⟩ := hp47
                    replace hF := q_gc hF hg49 (q_al (Nat.le_of_ble_eq_true rfl) (q_al (Nat.le_of_ble_eq_true rfl) (fun _ h => absurd h List.not_mem_nil)))
                    refine lv_iinc (v := 7) (lv' := [(4, .int 7), (0, .ref qO0), (1, .int x1), (2, .long x2)]) hx hb d_1_2_64 hl (k := 0) rfl (by decide) (by decide) rfl (fun ls hl => ?_)
                    refine lv_goto (tgt := 39) hx hb d_1_2_67 (by decide) ?_
                    refine lv_iload hx hb d_1_2_39 (lv_at hl 0 rfl) ?_
                    refine lv_iload_n hx hb d_1_2_41 rfl (lv_at hl 2 rfl) ?_
                    refine lv_icmp_ge (tgt := 70) hx hb d_1_2_42 (by decide) (fun c50 => ?_) (fun c50 => ?_)
                    ·
                      refine lv_aload_n hx hb d_1_2_70 rfl (lv_at hl 1 rfl) ?_
                      replace hO0 := (hg49 _ (q_nc (q_pd 0 1 rfl) (q_nc (q_pd 0 2 rfl) List.not_mem_nil))).trans (hO0)
                      refine q_get (ci := 0) (j := 0) (v := .ref qO1) C0 V i_NH rfl rfl hO0 (by decide) w_424 rfl d_1_2_71 ?_
                      refine q_get (ci := 1) (j := 2) (v := .int 7) C0 V i_She rfl rfl hO1 (by decide) w_56 rfl d_1_2_74 ?_
                      exact q_retX (q_reti C0 V (⟨(show ((1 ≤ x1.toInt ∧ x1.toInt ≤ 8)) ∧ (7 : Int32).toInt = x1.toInt from by have t1 : 1 ≤ x1.toInt := q_nltI c1; have t2 : x1.toInt ≤ 8 := q_nltI c8; have t3 : 1 < x1.toInt := q_nleI c26; have t4 : 2 < x1.toInt := q_nleI c30; have t5 : 3 < x1.toInt := q_nleI c34; have t6 : 4 < x1.toInt := q_nleI c38; have t7 : 5 < x1.toInt := q_nleI c42; have t8 : 6 < x1.toInt := q_nleI c46; have t9 : x1.toInt ≤ 7 := q_leI c50; have e0 : (7 : Int32).toInt = 7 := (by decide); omega), hF⟩) d_1_2_77)
                    ·
                      refine lv_aload_n hx hb d_1_2_45 rfl (lv_at hl 1 rfl) ?_
                      replace hO0 := (hg49 _ (q_nc (q_pd 0 1 rfl) (q_nc (q_pd 0 2 rfl) List.not_mem_nil))).trans (hO0)
                      refine q_get (ci := 0) (j := 0) (v := .ref qO1) C0 V i_NH rfl rfl hO0 (by decide) w_424 rfl d_1_2_46 ?_
                      refine lv_lload_n hx hb d_1_2_49 rfl (lv_at hl 3 rfl) ?_
                      refine lv_bipush (v := 8) hx hb d_1_2_50 (by decide) ?_
                      refine lv_iload hx hb d_1_2_52 (lv_at hl 0 rfl) ?_
                      refine lv_imul hx hb d_1_2_54 ?_
                      refine q_ti (v := 56) (by decide) ?_
                      refine lv_lushr hx hb d_1_2_55 rfl ?_
                      refine lv_l2i hx hb d_1_2_56 rfl ?_
                      refine lv_sipush (v := 255) hx hb d_1_2_57 (by decide) ?_
                      refine lv_iand hx hb d_1_2_60 ?_
                      refine q_gov V (q_runV (As := [.int ((((x2.toUInt64 >>> ((56 : Int32).toInt64.toUInt64 &&& Int64.toUInt64 63)).toInt64).toInt32) &&& 255)]) (rest := []) (d := 1) (mc := 0) (ms := 0) (ci := 1) C0 V rfl LV_NH_112 (c_She_add_8 l D g u48 1 2 qO1 qA15 ((((x2.toUInt64 >>> ((56 : Int32).toInt64.toUInt64 &&& Int64.toUInt64 63)).toInt64).toInt32) &&& 255) (((((((((((((((((((x2.toUInt64 >>> ((0 : Int32).toInt64.toUInt64 &&& Int64.toUInt64 63)).toInt64).toInt32) &&& 255) &&& 255).toInt64) <<< ((0 : Int32).toInt64 &&& 63)) &&& (-65281)) ||| (((((((x2.toUInt64 >>> ((8 : Int32).toInt64.toUInt64 &&& Int64.toUInt64 63)).toInt64).toInt32) &&& 255) &&& 255).toInt64) <<< ((8 : Int32).toInt64 &&& 63))) &&& (-16711681)) ||| (((((((x2.toUInt64 >>> ((16 : Int32).toInt64.toUInt64 &&& Int64.toUInt64 63)).toInt64).toInt32) &&& 255) &&& 255).toInt64) <<< ((16 : Int32).toInt64 &&& 63))) &&& (-4278190081)) ||| (((((((x2.toUInt64 >>> ((24 : Int32).toInt64.toUInt64 &&& Int64.toUInt64 63)).toInt64).toInt32) &&& 255) &&& 255).toInt64) <<< ((24 : Int32).toInt64 &&& 63))) &&& (-1095216660481)) ||| (((((((x2.toUInt64 >>> ((32 : Int32).toInt64.toUInt64 &&& Int64.toUInt64 63)).toInt64).toInt32) &&& 255) &&& 255).toInt64) <<< ((32 : Int32).toInt64 &&& 63))) &&& (-280375465082881)) ||| (((((((x2.toUInt64 >>> ((40 : Int32).toInt64.toUInt64 &&& Int64.toUInt64 63)).toInt64).toInt32) &&& 255) &&& 255).toInt64) <<< ((40 : Int32).toInt64 &&& 63))) &&& (-71776119061217281)) ||| (((((((x2.toUInt64 >>> ((48 : Int32).toInt64.toUInt64 &&& Int64.toUInt64 63)).toInt64).toInt32) &&& 255) &&& 255).toInt64) <<< ((48 : Int32).toInt64 &&& 63))) hO1 hA15 _) rfl rfl hO1 rfl hl.1 rfl (Nat.le_of_ble_eq_true rfl) ⟨by decide, by decide⟩ ⟨Nat.le_of_ble_eq_true rfl, Nat.le_of_ble_eq_true rfl⟩ d_1_2_61) (fun u52 H locs hp51 V => ?_)
                      obtain ⟨hg53, hO1, hA15⟩ := hp51
                      replace hF := q_gc hF hg53 (q_al (Nat.le_of_ble_eq_true rfl) (q_al (Nat.le_of_ble_eq_true rfl) (fun _ h => absurd h List.not_mem_nil)))
                      refine lv_iinc (v := 8) (lv' := [(4, .int 8), (0, .ref qO0), (1, .int x1), (2, .long x2)]) hx hb d_1_2_64 hl (k := 0) rfl (by decide) (by decide) rfl (fun ls hl => ?_)
                      refine lv_goto (tgt := 39) hx hb d_1_2_67 (by decide) ?_
                      refine lv_iload hx hb d_1_2_39 (lv_at hl 0 rfl) ?_
                      refine lv_iload_n hx hb d_1_2_41 rfl (lv_at hl 2 rfl) ?_
                      refine q_ti (v := 8) (q_Ieq (x := x1.toInt) (y := 8) rfl (by decide) (by have t1 : 1 ≤ x1.toInt := q_nltI c1; have t2 : x1.toInt ≤ 8 := q_nltI c8; have t3 : 1 < x1.toInt := q_nleI c26; have t4 : 2 < x1.toInt := q_nleI c30; have t5 : 3 < x1.toInt := q_nleI c34; have t6 : 4 < x1.toInt := q_nleI c38; have t7 : 5 < x1.toInt := q_nleI c42; have t8 : 6 < x1.toInt := q_nleI c46; have t9 : 7 < x1.toInt := q_nleI c50; omega)) ?_
                      refine lv_icmp_ge (tgt := 70) hx hb d_1_2_42 (by decide) (fun c54 => ?_) (fun c54 => absurd (by decide) c54)
                      refine lv_aload_n hx hb d_1_2_70 rfl (lv_at hl 1 rfl) ?_
                      replace hO0 := (hg53 _ (q_nc (q_pd 0 1 rfl) (q_nc (q_pd 0 2 rfl) List.not_mem_nil))).trans (hO0)
                      refine q_get (ci := 0) (j := 0) (v := .ref qO1) C0 V i_NH rfl rfl hO0 (by decide) w_424 rfl d_1_2_71 ?_
                      refine q_get (ci := 1) (j := 2) (v := .int 8) C0 V i_She rfl rfl hO1 (by decide) w_56 rfl d_1_2_74 ?_
                      exact q_retX (q_reti C0 V (⟨(show ((1 ≤ x1.toInt ∧ x1.toInt ≤ 8)) ∧ (8 : Int32).toInt = x1.toInt from by have t1 : 1 ≤ x1.toInt := q_nltI c1; have t2 : x1.toInt ≤ 8 := q_nltI c8; have t3 : 1 < x1.toInt := q_nleI c26; have t4 : 2 < x1.toInt := q_nleI c30; have t5 : 3 < x1.toInt := q_nleI c34; have t6 : 4 < x1.toInt := q_nleI c38; have t7 : 5 < x1.toInt := q_nleI c42; have t8 : 6 < x1.toInt := q_nleI c46; have t9 : 7 < x1.toInt := q_nleI c50; have e0 : (8 : Int32).toInt = 8 := (by decide); omega), hF⟩) d_1_2_77)
