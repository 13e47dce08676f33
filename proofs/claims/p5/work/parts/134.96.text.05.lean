theorem d_18_24_0 : decode prog_18_method_24_code 0 = .ok (.lload_n 1, 1) := by decide +kernel
theorem d_18_24_1 : decode prog_18_method_24_code 1 = .ok (.aload_n 0, 1) := by decide +kernel
theorem d_18_24_2 : decode prog_18_method_24_code 2 = .ok (.getfield 49, 3) := by decide +kernel
theorem d_18_24_5 : decode prog_18_method_24_code 5 = .ok (.lsub, 1) := by decide +kernel
theorem d_18_24_6 : decode prog_18_method_24_code 6 = .ok (.lstore_n 3, 1) := by decide +kernel
theorem d_18_24_7 : decode prog_18_method_24_code 7 = .ok (.lload_n 3, 1) := by decide +kernel
theorem d_18_24_8 : decode prog_18_method_24_code 8 = .ok (.lconst 0, 1) := by decide +kernel
theorem d_18_24_9 : decode prog_18_method_24_code 9 = .ok (.lcmp, 1) := by decide +kernel
theorem d_18_24_31 : decode prog_18_method_24_code 31 = .ok (.lstore 5, 2) := by decide +kernel
theorem d_18_24_33 : decode prog_18_method_24_code 33 = .ok (.aload_n 0, 1) := by decide +kernel
theorem d_18_24_34 : decode prog_18_method_24_code 34 = .ok (.getfield 42, 3) := by decide +kernel
theorem d_18_24_37 : decode prog_18_method_24_code 37 = .ok (.i2l, 1) := by decide +kernel
theorem d_18_24_38 : decode prog_18_method_24_code 38 = .ok (.lconst 1, 1) := by decide +kernel
theorem d_18_24_39 : decode prog_18_method_24_code 39 = .ok (.lsub, 1) := by decide +kernel
theorem d_18_24_40 : decode prog_18_method_24_code 40 = .ok (.lload 5, 2) := by decide +kernel
theorem d_18_24_42 : decode prog_18_method_24_code 42 = .ok (.lsub, 1) := by decide +kernel
theorem d_18_24_43 : decode prog_18_method_24_code 43 = .ok (.lstore 7, 2) := by decide +kernel
theorem d_18_24_45 : decode prog_18_method_24_code 45 = .ok (.lload 7, 2) := by decide +kernel
theorem d_18_24_47 : decode prog_18_method_24_code 47 = .ok (.lconst 0, 1) := by decide +kernel
theorem d_18_24_48 : decode prog_18_method_24_code 48 = .ok (.lcmp, 1) := by decide +kernel
theorem d_18_24_49 : decode prog_18_method_24_code 49 = .ok (.ifCond .lt 14, 3) := by decide +kernel
theorem d_18_24_63 : decode prog_18_method_24_code 63 = .ok (.iconst 0, 1) := by decide +kernel
theorem d_18_24_64 : decode prog_18_method_24_code 64 = .ok (.goto 23, 3) := by decide +kernel
theorem d_18_24_87 : decode prog_18_method_24_code 87 = .ok (.ireturn, 1) := by decide +kernel
theorem d_18_24_52 : decode prog_18_method_24_code 52 = .ok (.lload 7, 2) := by decide +kernel
theorem d_18_24_54 : decode prog_18_method_24_code 54 = .ok (.aload_n 0, 1) := by decide +kernel
theorem d_18_24_55 : decode prog_18_method_24_code 55 = .ok (.getfield 39, 3) := by decide +kernel
theorem d_18_24_58 : decode prog_18_method_24_code 58 = .ok (.i2l, 1) := by decide +kernel
theorem d_18_24_59 : decode prog_18_method_24_code 59 = .ok (.lcmp, 1) := by decide +kernel
theorem d_18_24_60 : decode prog_18_method_24_code 60 = .ok (.ifCond .lt 7, 3) := by decide +kernel
theorem d_18_24_67 : decode prog_18_method_24_code 67 = .ok (.aload_n 0, 1) := by decide +kernel
theorem d_18_24_68 : decode prog_18_method_24_code 68 = .ok (.getfield 13, 3) := by decide +kernel
theorem d_18_24_71 : decode prog_18_method_24_code 71 = .ok (.lload 7, 2) := by decide +kernel
theorem d_18_24_73 : decode prog_18_method_24_code 73 = .ok (.l2i, 1) := by decide +kernel
theorem d_18_24_74 : decode prog_18_method_24_code 74 = .ok (.iaload, 1) := by decide +kernel
theorem d_18_24_75 : decode prog_18_method_24_code 75 = .ok (.lload_n 3, 1) := by decide +kernel
theorem d_18_24_76 : decode prog_18_method_24_code 76 = .ok (.ldc2_w 137, 3) := by decide +kernel
set_option maxRecDepth 100000 in
theorem w_2506 : (Cond.constantLong "NumberHouseModel$TextRows" (137 : Nat) (4 : Int64)) ∈ q_tbl := q_of11 106 rfl (by decide +kernel)
theorem d_18_24_79 : decode prog_18_method_24_code 79 = .ok (.lload 5, 2) := by decide +kernel
theorem d_18_24_81 : decode prog_18_method_24_code 81 = .ok (.lmul, 1) := by decide +kernel
theorem d_18_24_82 : decode prog_18_method_24_code 82 = .ok (.lsub, 1) := by decide +kernel
theorem d_18_24_83 : decode prog_18_method_24_code 83 = .ok (.l2i, 1) := by decide +kernel
theorem d_18_24_84 : decode prog_18_method_24_code 84 = .ok (.ishr, 1) := by decide +kernel
theorem d_18_24_85 : decode prog_18_method_24_code 85 = .ok (.iconst 1, 1) := by decide +kernel
theorem d_18_24_86 : decode prog_18_method_24_code 86 = .ok (.iand, 1) := by decide +kernel
theorem d_18_24_10 : decode prog_18_method_24_code 10 = .ok (.ifCond .lt 11, 3) := by decide +kernel
theorem d_18_24_21 : decode prog_18_method_24_code 21 = .ok (.ldc2_w 139, 3) := by decide +kernel
set_option maxRecDepth 100000 in
theorem w_2515 : (Cond.constantLong "NumberHouseModel$TextRows" (139 : Nat) (3 : Int64)) ∈ q_tbl := q_of11 115 rfl (by decide +kernel)
theorem d_18_24_24 : decode prog_18_method_24_code 24 = .ok (.lload_n 3, 1) := by decide +kernel
theorem d_18_24_25 : decode prog_18_method_24_code 25 = .ok (.lsub, 1) := by decide +kernel
theorem d_18_24_26 : decode prog_18_method_24_code 26 = .ok (.ldc2_w 137, 3) := by decide +kernel
theorem d_18_24_29 : decode prog_18_method_24_code 29 = .ok (.ldiv, 1) := by decide +kernel
theorem d_18_24_30 : decode prog_18_method_24_code 30 = .ok (.lneg, 1) := by decide +kernel
theorem d_18_24_13 : decode prog_18_method_24_code 13 = .ok (.lload_n 3, 1) := by decide +kernel
theorem d_18_24_14 : decode prog_18_method_24_code 14 = .ok (.ldc2_w 137, 3) := by decide +kernel
theorem d_18_24_17 : decode prog_18_method_24_code 17 = .ok (.ldiv, 1) := by decide +kernel
theorem d_18_24_18 : decode prog_18_method_24_code 18 = .ok (.goto 13, 3) := by decide +kernel
def y_TR_bitAt : MethodName := ⟨"NumberHouseModel$TextRows", "bitAt", "(J)I"⟩
def F_TR_bitAt_J31 (x2 : Int64) (t0_0 : Int32) (t0_1 : Int32) (t0_2 : Int32) (t0_3 : Int32) (t0_4 : Int32) (t0_5 : Int32) (t0_6 : Int32) (t0_7 : Int64) (t0_8 : Int32) (t0_9 : Int32) (t0_10 : Int64) (t0_11 : Int64) (t0_12 : Int32) (t0_13 : Int32) (t1_0 : (Nat → Int32)) (j22 : Int64) (lx27 : Int64) : Int32 := if (lg_cmp (((t0_6.toInt64 : Int64) - 1 : Int64) - lx27 : Int64) 0 : Int32) < (0 : Int32) then ((0 : Int32)) else (if (lg_cmp (((t0_6.toInt64 : Int64) - 1 : Int64) - lx27 : Int64) (t0_5.toInt64 : Int64) : Int32) < (0 : Int32) then ((((t1_0 ((((t0_6.toInt64 : Int64) - 1 : Int64) - lx27 : Int64).toInt32 : Int32).toNatClampNeg : Int32) >>> (((j22 - (4 * lx27 : Int64) : Int64).toInt32 : Int32) &&& 31) : Int32) &&& 1 : Int32)) else ((0 : Int32)))
def F_TR_bitAt (x2 : Int64) (t0_0 : Int32) (t0_1 : Int32) (t0_2 : Int32) (t0_3 : Int32) (t0_4 : Int32) (t0_5 : Int32) (t0_6 : Int32) (t0_7 : Int64) (t0_8 : Int32) (t0_9 : Int32) (t0_10 : Int64) (t0_11 : Int64) (t0_12 : Int32) (t0_13 : Int32) (t1_0 : (Nat → Int32)) : Int32 := if (lg_cmp (x2 - t0_7 : Int64) 0 : Int32) < (0 : Int32) then (F_TR_bitAt_J31 x2 t0_0 t0_1 t0_2 t0_3 t0_4 t0_5 t0_6 t0_7 t0_8 t0_9 t0_10 t0_11 t0_12 t0_13 t1_0 (x2 - t0_7 : Int64) (-((3 - (x2 - t0_7 : Int64) : Int64) / 4 : Int64) : Int64)) else (F_TR_bitAt_J31 x2 t0_0 t0_1 t0_2 t0_3 t0_4 t0_5 t0_6 t0_7 t0_8 t0_9 t0_10 t0_11 t0_12 t0_13 t1_0 (x2 - t0_7 : Int64) ((x2 - t0_7 : Int64) / 4 : Int64))
def S_TR_bitAt_J31 (x2 : Int64) (t0_0 : Int32) (t0_1 : Int32) (t0_2 : Int32) (t0_3 : Int32) (t0_4 : Int32) (t0_5 : Int32) (t0_6 : Int32) (t0_7 : Int64) (t0_8 : Int32) (t0_9 : Int32) (t0_10 : Int64) (t0_11 : Int64) (t0_12 : Int32) (t0_13 : Int32) (t1_0 : (Nat → Int32)) (j22 : Int64) (lx27 : Int64) : Prop := if (lg_cmp (((t0_6.toInt64 : Int64) - 1 : Int64) - lx27 : Int64) 0 : Int32) < (0 : Int32) then (True) else (if (lg_cmp (((t0_6.toInt64 : Int64) - 1 : Int64) - lx27 : Int64) (t0_5.toInt64 : Int64) : Int32) < (0 : Int32) then ((((((t0_6.toInt64 : Int64) - 1 : Int64) - lx27 : Int64).toInt32 : Int32).toInt ≤ 4099) ∧ (True)) else (True))
def S_TR_bitAt (x2 : Int64) (t0_0 : Int32) (t0_1 : Int32) (t0_2 : Int32) (t0_3 : Int32) (t0_4 : Int32) (t0_5 : Int32) (t0_6 : Int32) (t0_7 : Int64) (t0_8 : Int32) (t0_9 : Int32) (t0_10 : Int64) (t0_11 : Int64) (t0_12 : Int32) (t0_13 : Int32) (t1_0 : (Nat → Int32)) : Prop := if (lg_cmp (x2 - t0_7 : Int64) 0 : Int32) < (0 : Int32) then (S_TR_bitAt_J31 x2 t0_0 t0_1 t0_2 t0_3 t0_4 t0_5 t0_6 t0_7 t0_8 t0_9 t0_10 t0_11 t0_12 t0_13 t1_0 (x2 - t0_7 : Int64) (-((3 - (x2 - t0_7 : Int64) : Int64) / 4 : Int64) : Int64)) else (S_TR_bitAt_J31 x2 t0_0 t0_1 t0_2 t0_3 t0_4 t0_5 t0_6 t0_7 t0_8 t0_9 t0_10 t0_11 t0_12 t0_13 t1_0 (x2 - t0_7 : Int64) ((x2 - t0_7 : Int64) / 4 : Int64))
set_option maxRecDepth 100000 in
set_option maxHeartbeats 4000000 in
theorem X_TR_bitAt (l : Launch) (D : va_G) (g : Nat → ClassId) (q : Nat → Nat) (ws : va_W) (x2 : Int64) (hI : q_I (msh g q) q ws) (t0_0 : Int32) (t0_1 : Int32) (t0_2 : Int32) (t0_3 : Int32) (t0_4 : Int32) (t0_5 : Int32) (t0_6 : Int32) (t0_7 : Int64) (t0_8 : Int32) (t0_9 : Int32) (t0_10 : Int64) (t0_11 : Int64) (t0_12 : Int32) (t0_13 : Int32) (hT0 : ws[153]? = (some (q 153, .inr (16, [.int t0_0, .ref (q 154), .int t0_1, .int t0_2, .int t0_3, .int t0_4, .ref (q 155), .int t0_5, .int t0_6, .long t0_7, .ref (q 156), .int t0_8, .int t0_9, .long t0_10, .long t0_11, .int t0_12, .int t0_13])) : Option (Nat × va_E))) (t1_0 : (Nat → Int32)) (hT1 : ws[155]? = (some (q 155, .inl (g 0, (4100 : Int32).toNatClampNeg, .inl t1_0)) : Option (Nat × va_E))) (hS : True ∧ S_TR_bitAt x2 t0_0 t0_1 t0_2 t0_3 t0_4 t0_5 t0_6 t0_7 t0_8 t0_9 t0_10 t0_11 t0_12 t0_13 t1_0) : q_mI l y_TR_bitAt prog_18_method_24_code 9 (.int) 1 0 0 D g [.ref (q 153), .long x2] ws (fun r u => ws = u ∧ (0 ≤ r.toInt) ∧ (r.toInt ≤ 1) ∧ r = (F_TR_bitAt x2 t0_0 t0_1 t0_2 t0_3 t0_4 t0_5 t0_6 t0_7 t0_8 t0_9 t0_10 t0_11 t0_12 t0_13 t1_0)) := by
  intro sz
  refine q_into (by decide) (Nat.le_of_ble_eq_true rfl) ?_
  intro p e s m below meth c ls hsz C0 V hl
  have hx := C0.1
  have hb := C0.2.1
  have hZ9 := (n_w153 hI hT0).2
  obtain ⟨-, btt0_13⟩ := hZ9
  clear btt0_13
  have hl : lv_has ls 9 [(0, .ref (q 153)), (1, .long x2)] := hl
  refine lv_lload_n hx hb d_18_24_0 rfl (lv_at hl 1 rfl) ?_
  refine lv_aload_n hx hb d_18_24_1 rfl (lv_at hl 0 rfl) ?_
  refine q_get (ci := 16) (j := 9) (v := .long t0_7) C0 V i_TR rfl rfl hT0 (by decide) w_2149 rfl d_18_24_2 ?_
  refine lv_lsub hx hb d_18_24_5 ?_
  obtain ⟨j22, e23⟩ := q_nm (x2 - t0_7 : Int64)
  refine q_tl (v := j22) e23 ?_
  refine lv_lstore_n (lv' := [(3, .long j22), (0, .ref (q 153)), (1, .long x2)]) hx hb d_18_24_6 rfl hl (by decide) rfl (fun ls hl => ?_)
  refine lv_lload_n hx hb d_18_24_7 rfl (lv_at hl 0 rfl) ?_
  refine lv_lconst (v := 0) hx hb d_18_24_8 (by decide) ?_
  refine W.lcmp hx hb d_18_24_9 ?_
  obtain ⟨a24, e25⟩ := q_nm (lg_cmp j22 0 : Int32)
  refine q_ti (v := a24) e25 ?_
  refine q_join (X := Int64) (fun z H locs ls _ => q_Wd D g (va_A ws sz) s ws H locs ∧ lv_has ls 9 [(3, .long j22), (0, .ref (q 153))] ∧ F_TR_bitAt_J31 x2 t0_0 t0_1 t0_2 t0_3 t0_4 t0_5 t0_6 t0_7 t0_8 t0_9 t0_10 t0_11 t0_12 t0_13 t1_0 j22 z = (F_TR_bitAt x2 t0_0 t0_1 t0_2 t0_3 t0_4 t0_5 t0_6 t0_7 t0_8 t0_9 t0_10 t0_11 t0_12 t0_13 t1_0) ∧ True ∧ S_TR_bitAt_J31 x2 t0_0 t0_1 t0_2 t0_3 t0_4 t0_5 t0_6 t0_7 t0_8 t0_9 t0_10 t0_11 t0_12 t0_13 t1_0 j22 z) (fun z => [.long z]) 31 0 0 ?_ ?_
  ·
    rintro lx27 H locs ls _ ⟨V, hl, hR31, hS32⟩
    replace hl : lv_has ls 9 [(3, .long j22), (0, .ref (q 153))] := hl
    refine lv_lstore (lv' := [(5, .long lx27), (3, .long j22), (0, .ref (q 153))]) hx hb d_18_24_31 hl (by decide) rfl (fun ls hl => ?_)
    refine lv_aload_n hx hb d_18_24_33 rfl (lv_at hl 2 rfl) ?_
    refine q_get (ci := 16) (j := 8) (v := .int t0_6) C0 V i_TR rfl rfl hT0 (by decide) w_2148 rfl d_18_24_34 ?_
    refine lv_i2l hx hb d_18_24_37 rfl ?_
    obtain ⟨j36, e37⟩ := q_nm (t0_6.toInt64 : Int64)
    refine q_tl (v := j36) e37 ?_
    refine lv_lconst (v := 1) hx hb d_18_24_38 (by decide) ?_
    refine lv_lsub hx hb d_18_24_39 ?_
    obtain ⟨j39, e40⟩ := q_nm (j36 - 1 : Int64)
    refine q_tl (v := j39) e40 ?_
    refine lv_lload hx hb d_18_24_40 (lv_at hl 0 rfl) ?_
    refine lv_lsub hx hb d_18_24_42 ?_
    obtain ⟨j42, e43⟩ := q_nm (j39 - lx27 : Int64)
    refine q_tl (v := j42) e43 ?_
    refine lv_lstore (lv' := [(7, .long j42), (5, .long lx27), (3, .long j22), (0, .ref (q 153))]) hx hb d_18_24_43 hl (by decide) rfl (fun ls hl => ?_)
    refine lv_lload hx hb d_18_24_45 (lv_at hl 0 rfl) ?_
    refine lv_lconst (v := 0) hx hb d_18_24_47 (by decide) ?_
    refine W.lcmp hx hb d_18_24_48 ?_
    obtain ⟨a44, e45⟩ := q_nm (lg_cmp j42 0 : Int32)
    refine q_ti (v := a44) e45 ?_
    have b46 : q_F (-1 ≤ a44.toInt ∧ a44.toInt ≤ 1 ∧ ((a44.toInt = -1 ∧ j42.toInt < 0) ∨ (a44.toInt = 0 ∧ j42.toInt = 0) ∨ (a44.toInt = 1 ∧ 0 < j42.toInt))) := (by rw [← e45]; show -1 ≤ (lg_cmp j42 0 : Int32).toInt ∧ (lg_cmp j42 0 : Int32).toInt ≤ 1 ∧ (((lg_cmp j42 0 : Int32).toInt = -1 ∧ j42.toInt < 0) ∨ ((lg_cmp j42 0 : Int32).toInt = 0 ∧ j42.toInt = 0) ∨ ((lg_cmp j42 0 : Int32).toInt = 1 ∧ 0 < j42.toInt)); exact (by have y1 : (0 : Int64).toInt = 0 := rfl; have z := s_lcmp (a := j42) (b := 0); omega))
    refine lv_if_lt (tgt := 63) hx hb d_18_24_49 (by decide) (fun c47 => ?_) (fun c47 => ?_)
    ·
      refine lv_iconst (v := 0) hx hb d_18_24_63 (by decide) ?_
      refine lv_goto (tgt := 87) hx hb d_18_24_64 (by decide) ?_
      exact q_reti C0 V (⟨rfl, (show 0 ≤ (0 : Int32).toInt from (by have z16 : (0 : Int32).toInt = 0 := rfl; omega)), (show (0 : Int32).toInt ≤ 1 from (by have z16 : (0 : Int32).toInt = 0 := rfl; omega)), (show (0 : Int32) = (F_TR_bitAt x2 t0_0 t0_1 t0_2 t0_3 t0_4 t0_5 t0_6 t0_7 t0_8 t0_9 t0_10 t0_11 t0_12 t0_13 t1_0) from Eq.trans (by have c47x := c47; rw [← e45, ← e43, ← e40, ← e37] at c47x; rw [F_TR_bitAt_J31.eq_1, if_pos c47x]) hR31)⟩) d_18_24_87
    ·
      have b49 : q_F (0 ≤ a44.toInt) := (q_nltI c47)
      refine lv_lload hx hb d_18_24_52 (lv_at hl 0 rfl) ?_
      refine lv_aload_n hx hb d_18_24_54 rfl (lv_at hl 3 rfl) ?_
      refine q_get (ci := 16) (j := 7) (v := .int t0_5) C0 V i_TR rfl rfl hT0 (by decide) w_2147 rfl d_18_24_55 ?_
      refine lv_i2l hx hb d_18_24_58 rfl ?_
      obtain ⟨j50, e51⟩ := q_nm (t0_5.toInt64 : Int64)
      refine q_tl (v := j50) e51 ?_
      have b52 : q_F (j50.toInt = t0_5.toInt) := (by rw [← e51]; show (t0_5.toInt64 : Int64).toInt = t0_5.toInt; exact q_i2l rfl)
      refine W.lcmp hx hb d_18_24_59 ?_
      obtain ⟨a53, e54⟩ := q_nm (lg_cmp j42 j50 : Int32)
      refine q_ti (v := a53) e54 ?_
      have b55 : q_F (-1 ≤ a53.toInt ∧ a53.toInt ≤ 1 ∧ ((a53.toInt = -1 ∧ j42.toInt < j50.toInt) ∨ (a53.toInt = 0 ∧ j42.toInt = j50.toInt) ∨ (a53.toInt = 1 ∧ j50.toInt < j42.toInt))) := (by rw [← e54]; show -1 ≤ (lg_cmp j42 j50 : Int32).toInt ∧ (lg_cmp j42 j50 : Int32).toInt ≤ 1 ∧ (((lg_cmp j42 j50 : Int32).toInt = -1 ∧ j42.toInt < j50.toInt) ∨ ((lg_cmp j42 j50 : Int32).toInt = 0 ∧ j42.toInt = j50.toInt) ∨ ((lg_cmp j42 j50 : Int32).toInt = 1 ∧ j50.toInt < j42.toInt)); exact s_lcmp)
      refine lv_if_lt (tgt := 67) hx hb d_18_24_60 (by decide) (fun c56 => ?_) (fun c56 => ?_)
      ·
        have b57 : q_F (a53.toInt < 0) := (q_ltI c56)
        refine lv_aload_n hx hb d_18_24_67 rfl (lv_at hl 3 rfl) ?_
        refine q_get (ci := 16) (j := 6) (v := .ref (q 155)) C0 V i_TR rfl rfl hT0 (by decide) w_2146 rfl d_18_24_68 ?_
        refine lv_lload hx hb d_18_24_71 (lv_at hl 0 rfl) ?_
        refine lv_l2i hx hb d_18_24_73 rfl ?_
        obtain ⟨a58, e59⟩ := q_nm (j42.toInt32 : Int32)
        refine q_ti (v := a58) e59 ?_
        have b60 : q_F (a58.toInt = j42.toInt) := (by rw [← e59]; show (j42.toInt32 : Int32).toInt = j42.toInt; exact s_l2i (by have t1 : -1 ≤ a44.toInt ∧ a44.toInt ≤ 1 ∧ ((a44.toInt = -1 ∧ j42.toInt < 0) ∨ (a44.toInt = 0 ∧ j42.toInt = 0) ∨ (a44.toInt = 1 ∧ 0 < j42.toInt)) := b46; have t2 : 0 ≤ a44.toInt := b49; have t3 : j50.toInt = t0_5.toInt := b52; have t4 : -1 ≤ a53.toInt ∧ a53.toInt ≤ 1 ∧ ((a53.toInt = -1 ∧ j42.toInt < j50.toInt) ∨ (a53.toInt = 0 ∧ j42.toInt = j50.toInt) ∨ (a53.toInt = 1 ∧ j50.toInt < j42.toInt)) := b55; have t5 : a53.toInt < 0 := b57; have _ := q_lo32 (x := t0_5); have _ := q_hi32 (x := t0_5); omega) (by have t1 : -1 ≤ a44.toInt ∧ a44.toInt ≤ 1 ∧ ((a44.toInt = -1 ∧ j42.toInt < 0) ∨ (a44.toInt = 0 ∧ j42.toInt = 0) ∨ (a44.toInt = 1 ∧ 0 < j42.toInt)) := b46; have t2 : 0 ≤ a44.toInt := b49; have t3 : j50.toInt = t0_5.toInt := b52; have t4 : -1 ≤ a53.toInt ∧ a53.toInt ≤ 1 ∧ ((a53.toInt = -1 ∧ j42.toInt < j50.toInt) ∨ (a53.toInt = 0 ∧ j42.toInt = j50.toInt) ∨ (a53.toInt = 1 ∧ j50.toInt < j42.toInt)) := b55; have t5 : a53.toInt < 0 := b57; have _ := q_lo32 (x := t0_5); have _ := q_hi32 (x := t0_5); omega))
        have ob61 : q_F (a58.toInt ≤ 4099) := (by rw [← e59, ← e43, ← e40, ← e37]; have h := hS32; rw [S_TR_bitAt_J31.eq_1] at h; have c47x := c47; rw [← e45, ← e43, ← e40, ← e37] at c47x; rw [if_neg c47x] at h; have c56x := c56; rw [← e54, ← e51, ← e43, ← e40, ← e37] at c56x; rw [if_pos c56x] at h; exact h.2.1)
        refine q_iald C0 V hT1 (q_ix (x := a58.toInt) rfl (by have t1 : -1 ≤ a44.toInt ∧ a44.toInt ≤ 1 ∧ ((a44.toInt = -1 ∧ j42.toInt < 0) ∨ (a44.toInt = 0 ∧ j42.toInt = 0) ∨ (a44.toInt = 1 ∧ 0 < j42.toInt)) := b46; have t2 : 0 ≤ a44.toInt := b49; have t3 : a58.toInt = j42.toInt := b60; omega) (by have t1 : -1 ≤ a44.toInt ∧ a44.toInt ≤ 1 ∧ ((a44.toInt = -1 ∧ j42.toInt < 0) ∨ (a44.toInt = 0 ∧ j42.toInt = 0) ∨ (a44.toInt = 1 ∧ 0 < j42.toInt)) := b46; have t2 : 0 ≤ a44.toInt := b49; have t3 : a58.toInt = j42.toInt := b60; have t4 : a58.toInt ≤ 4099 := ob61; have e9 : (((4100 : Int32).toNatClampNeg : Nat) : Int) = 4100 := (by decide); omega)) d_18_24_74 ?_
        obtain ⟨a62, e63⟩ := q_nm (t1_0 a58.toNatClampNeg : Int32)
        refine q_ti (v := a62) e63 ?_
        refine lv_lload_n hx hb d_18_24_75 rfl (lv_at hl 2 rfl) ?_
        refine q_ldc2 C0 rfl w_2506 d_18_24_76 ?_
        refine lv_lload hx hb d_18_24_79 (lv_at hl 1 rfl) ?_
        refine lv_lmul hx hb d_18_24_81 ?_
        obtain ⟨j64, e65⟩ := q_nm (4 * lx27 : Int64)
        refine q_tl (v := j64) e65 ?_
        refine lv_lsub hx hb d_18_24_82 ?_
        obtain ⟨j66, e67⟩ := q_nm (j22 - j64 : Int64)
        refine q_tl (v := j66) e67 ?_
        refine lv_l2i hx hb d_18_24_83 rfl ?_
        obtain ⟨a68, e69⟩ := q_nm (j66.toInt32 : Int32)
        refine q_ti (v := a68) e69 ?_
        refine lv_ishr hx hb d_18_24_84 ?_
        obtain ⟨a70, e71⟩ := q_nm (a62 >>> (a68 &&& 31) : Int32)
        refine q_ti (v := a70) e71 ?_
        refine lv_iconst (v := 1) hx hb d_18_24_85 (by decide) ?_
        refine lv_iand hx hb d_18_24_86 ?_
        obtain ⟨a72, e73⟩ := q_nm (a70 &&& 1 : Int32)
        refine q_ti (v := a72) e73 ?_
        have b74 : q_F (0 ≤ a72.toInt ∧ a72.toInt ≤ 1) := (by rw [← e73]; show 0 ≤ (a70 &&& 1 : Int32).toInt ∧ (a70 &&& 1 : Int32).toInt ≤ 1; exact s_and (by decide))
        exact q_reti C0 V (⟨rfl, (show 0 ≤ a72.toInt from (by first | with_reducible exact (q_fe b74).2 | with_reducible exact (q_fe b74).1 | (have t1 : 0 ≤ a72.toInt ∧ a72.toInt ≤ 1 := b74; omega))), (show a72.toInt ≤ 1 from (by first | with_reducible exact (q_fe b74).2 | with_reducible exact (q_fe b74).1 | (have t1 : 0 ≤ a72.toInt ∧ a72.toInt ≤ 1 := b74; omega))), (show a72 = (F_TR_bitAt x2 t0_0 t0_1 t0_2 t0_3 t0_4 t0_5 t0_6 t0_7 t0_8 t0_9 t0_10 t0_11 t0_12 t0_13 t1_0) from Eq.trans (by have c47x := c47; rw [← e45, ← e43, ← e40, ← e37] at c47x; have c56x := c56; rw [← e54, ← e51, ← e43, ← e40, ← e37] at c56x; rw [← e73, ← e71, ← e69, ← e67, ← e65, ← e63, ← e59, ← e43, ← e40, ← e37, F_TR_bitAt_J31.eq_1, if_neg c47x, if_pos c56x]) hR31)⟩) d_18_24_87
      ·
        refine lv_iconst (v := 0) hx hb d_18_24_63 (by decide) ?_
        refine lv_goto (tgt := 87) hx hb d_18_24_64 (by decide) ?_
        exact q_reti C0 V (⟨rfl, (show 0 ≤ (0 : Int32).toInt from (by have z16 : (0 : Int32).toInt = 0 := rfl; omega)), (show (0 : Int32).toInt ≤ 1 from (by have z16 : (0 : Int32).toInt = 0 := rfl; omega)), (show (0 : Int32) = (F_TR_bitAt x2 t0_0 t0_1 t0_2 t0_3 t0_4 t0_5 t0_6 t0_7 t0_8 t0_9 t0_10 t0_11 t0_12 t0_13 t1_0) from Eq.trans (by have c47x := c47; rw [← e45, ← e43, ← e40, ← e37] at c47x; have c56x := c56; rw [← e54, ← e51, ← e43, ← e40, ← e37] at c56x; rw [F_TR_bitAt_J31.eq_1, if_neg c47x, if_neg c56x]) hR31)⟩) d_18_24_87
  ·
    intro J30
    refine lv_if_lt (tgt := 21) hx hb d_18_24_10 (by decide) (fun c76 => ?_) (fun c76 => ?_)
    ·
      refine q_ldc2 C0 rfl w_2515 d_18_24_21 ?_
      refine lv_lload_n hx hb d_18_24_24 rfl (lv_at hl 0 rfl) ?_
      refine lv_lsub hx hb d_18_24_25 ?_
      obtain ⟨j78, e79⟩ := q_nm (3 - j22 : Int64)
      refine q_tl (v := j78) e79 ?_
      refine q_ldc2 C0 rfl w_2506 d_18_24_26 ?_
      refine lv_ldiv hx hb d_18_24_29 (by decide) ?_
      obtain ⟨j80, e81⟩ := q_nm (j78 / 4 : Int64)
      refine q_tl (v := j80) e81 ?_
      refine lv_lneg hx hb d_18_24_30 ?_
      obtain ⟨j82, e83⟩ := q_nm (-j80 : Int64)
      refine q_tl (v := j82) e83 ?_
      exact J30 ((j82 : Int64)) _ _ _ ws ⟨V, q_lw hl (q_lw1 0 rfl (q_lw1 1 rfl q_lw0)), (show F_TR_bitAt_J31 x2 t0_0 t0_1 t0_2 t0_3 t0_4 t0_5 t0_6 t0_7 t0_8 t0_9 t0_10 t0_11 t0_12 t0_13 t1_0 j22 j82 = (F_TR_bitAt x2 t0_0 t0_1 t0_2 t0_3 t0_4 t0_5 t0_6 t0_7 t0_8 t0_9 t0_10 t0_11 t0_12 t0_13 t1_0) from (by have c76x := c76; rw [← e25, ← e23] at c76x; rw [← e83, ← e81, ← e79, ← e23, F_TR_bitAt.eq_1, if_pos c76x])), (show True ∧ S_TR_bitAt_J31 x2 t0_0 t0_1 t0_2 t0_3 t0_4 t0_5 t0_6 t0_7 t0_8 t0_9 t0_10 t0_11 t0_12 t0_13 t1_0 j22 j82 from (by rw [← e83, ← e81, ← e79, ← e23]; have h := hS; rw [S_TR_bitAt.eq_1] at h; have c76x := c76; rw [← e25, ← e23] at c76x; rw [if_pos c76x] at h; with_reducible exact h))⟩
    ·
      refine lv_lload_n hx hb d_18_24_13 rfl (lv_at hl 0 rfl) ?_
      refine q_ldc2 C0 rfl w_2506 d_18_24_14 ?_
      refine lv_ldiv hx hb d_18_24_17 (by decide) ?_
      obtain ⟨j85, e86⟩ := q_nm (j22 / 4 : Int64)
      refine q_tl (v := j85) e86 ?_
      refine lv_goto (tgt := 31) hx hb d_18_24_18 (by decide) ?_
      exact J30 ((j85 : Int64)) _ _ _ ws ⟨V, q_lw hl (q_lw1 0 rfl (q_lw1 1 rfl q_lw0)), (show F_TR_bitAt_J31 x2 t0_0 t0_1 t0_2 t0_3 t0_4 t0_5 t0_6 t0_7 t0_8 t0_9 t0_10 t0_11 t0_12 t0_13 t1_0 j22 j85 = (F_TR_bitAt x2 t0_0 t0_1 t0_2 t0_3 t0_4 t0_5 t0_6 t0_7 t0_8 t0_9 t0_10 t0_11 t0_12 t0_13 t1_0) from (by have c76x := c76; rw [← e25, ← e23] at c76x; rw [← e86, ← e23, F_TR_bitAt.eq_1, if_neg c76x])), (show True ∧ S_TR_bitAt_J31 x2 t0_0 t0_1 t0_2 t0_3 t0_4 t0_5 t0_6 t0_7 t0_8 t0_9 t0_10 t0_11 t0_12 t0_13 t1_0 j22 j85 from (by rw [← e86, ← e23]; have h := hS; rw [S_TR_bitAt.eq_1] at h; have c76x := c76; rw [← e25, ← e23] at c76x; rw [if_neg c76x] at h; with_reducible exact h))⟩
theorem d_18_25_0 : decode prog_18_method_25_code 0 = .ok (.aload_n 0, 1) := by decide +kernel
theorem d_18_25_1 : decode prog_18_method_25_code 1 = .ok (.getfield 13, 3) := by decide +kernel
theorem d_18_25_4 : decode prog_18_method_25_code 4 = .ok (.iload_n 1, 1) := by decide +kernel
theorem d_18_25_5 : decode prog_18_method_25_code 5 = .ok (.iaload, 1) := by decide +kernel
theorem d_18_25_6 : decode prog_18_method_25_code 6 = .ok (.bipush 8, 2) := by decide +kernel
theorem d_18_25_44 : decode prog_18_method_25_code 44 = .ok (.istore 4, 2) := by decide +kernel
theorem d_18_25_46 : decode prog_18_method_25_code 46 = .ok (.ldc2_w 137, 3) := by decide +kernel
theorem d_18_25_49 : decode prog_18_method_25_code 49 = .ok (.aload_n 0, 1) := by decide +kernel
theorem d_18_25_50 : decode prog_18_method_25_code 50 = .ok (.getfield 42, 3) := by decide +kernel
theorem d_18_25_53 : decode prog_18_method_25_code 53 = .ok (.iload_n 1, 1) := by decide +kernel
theorem d_18_25_54 : decode prog_18_method_25_code 54 = .ok (.isub, 1) := by decide +kernel
theorem d_18_25_55 : decode prog_18_method_25_code 55 = .ok (.i2l, 1) := by decide +kernel
theorem d_18_25_56 : decode prog_18_method_25_code 56 = .ok (.lmul, 1) := by decide +kernel
theorem d_18_25_57 : decode prog_18_method_25_code 57 = .ok (.ldc2_w 141, 3) := by decide +kernel
set_option maxRecDepth 100000 in
theorem w_2507 : (Cond.constantLong "NumberHouseModel$TextRows" (141 : Nat) (5 : Int64)) ∈ q_tbl := q_of11 107 rfl (by decide +kernel)
theorem d_18_25_60 : decode prog_18_method_25_code 60 = .ok (.lsub, 1) := by decide +kernel
theorem d_18_25_61 : decode prog_18_method_25_code 61 = .ok (.iload 4, 2) := by decide +kernel
theorem d_18_25_63 : decode prog_18_method_25_code 63 = .ok (.i2l, 1) := by decide +kernel
theorem d_18_25_64 : decode prog_18_method_25_code 64 = .ok (.ladd, 1) := by decide +kernel
theorem d_18_25_65 : decode prog_18_method_25_code 65 = .ok (.aload_n 0, 1) := by decide +kernel
theorem d_18_25_66 : decode prog_18_method_25_code 66 = .ok (.getfield 49, 3) := by decide +kernel
theorem d_18_25_69 : decode prog_18_method_25_code 69 = .ok (.ladd, 1) := by decide +kernel
theorem d_18_25_70 : decode prog_18_method_25_code 70 = .ok (.lstore 5, 2) := by decide +kernel
theorem d_18_25_72 : decode prog_18_method_25_code 72 = .ok (.aload_n 0, 1) := by decide +kernel
theorem d_18_25_73 : decode prog_18_method_25_code 73 = .ok (.lload 5, 2) := by decide +kernel
theorem d_18_25_75 : decode prog_18_method_25_code 75 = .ok (.ldc2_w 143, 3) := by decide +kernel
set_option maxRecDepth 100000 in
theorem w_2508 : (Cond.constantLong "NumberHouseModel$TextRows" (143 : Nat) (2000 : Int64)) ∈ q_tbl := q_of11 108 rfl (by decide +kernel)
theorem d_18_25_78 : decode prog_18_method_25_code 78 = .ok (.lcmp, 1) := by decide +kernel
theorem d_18_25_87 : decode prog_18_method_25_code 87 = .ok (.putfield 109, 3) := by decide +kernel
theorem d_18_25_90 : decode prog_18_method_25_code 90 = .ok (.aload_n 0, 1) := by decide +kernel
theorem d_18_25_91 : decode prog_18_method_25_code 91 = .ok (.lconst 0, 1) := by decide +kernel
theorem d_18_25_92 : decode prog_18_method_25_code 92 = .ok (.putfield 114, 3) := by decide +kernel
theorem d_18_25_95 : decode prog_18_method_25_code 95 = .ok (.aload_n 0, 1) := by decide +kernel
theorem d_18_25_96 : decode prog_18_method_25_code 96 = .ok (.iload_n 3, 1) := by decide +kernel
theorem d_18_25_97 : decode prog_18_method_25_code 97 = .ok (.i2l, 1) := by decide +kernel
theorem d_18_25_98 : decode prog_18_method_25_code 98 = .ok (.putfield 117, 3) := by decide +kernel
theorem d_18_25_101 : decode prog_18_method_25_code 101 = .ok (.aload_n 0, 1) := by decide +kernel
theorem d_18_25_102 : decode prog_18_method_25_code 102 = .ok (.iconst 1, 1) := by decide +kernel
theorem d_18_25_103 : decode prog_18_method_25_code 103 = .ok (.putfield 120, 3) := by decide +kernel
theorem d_18_25_106 : decode prog_18_method_25_code 106 = .ok (.aload_n 0, 1) := by decide +kernel
theorem d_18_25_107 : decode prog_18_method_25_code 107 = .ok (.getfield 109, 3) := by decide +kernel
theorem d_18_25_110 : decode prog_18_method_25_code 110 = .ok (.ifCond .ne 12, 3) := by decide +kernel
theorem d_18_25_122 : decode prog_18_method_25_code 122 = .ok (.return_, 1) := by decide +kernel
theorem d_18_25_113 : decode prog_18_method_25_code 113 = .ok (.lload 5, 2) := by decide +kernel
theorem d_18_25_115 : decode prog_18_method_25_code 115 = .ok (.ldc2_w 145, 3) := by decide +kernel
set_option maxRecDepth 100000 in
theorem w_2509 : (Cond.constantLong "NumberHouseModel$TextRows" (145 : Nat) (-2000 : Int64)) ∈ q_tbl := q_of11 109 rfl (by decide +kernel)
theorem d_18_25_118 : decode prog_18_method_25_code 118 = .ok (.lcmp, 1) := by decide +kernel
theorem d_18_25_119 : decode prog_18_method_25_code 119 = .ok (.ifCond .ge 4, 3) := by decide +kernel
theorem d_18_25_123 : decode prog_18_method_25_code 123 = .ok (.aload_n 0, 1) := by decide +kernel
theorem d_18_25_124 : decode prog_18_method_25_code 124 = .ok (.lload 5, 2) := by decide +kernel
theorem d_18_25_126 : decode prog_18_method_25_code 126 = .ok (.iload_n 2, 1) := by decide +kernel
theorem d_18_25_127 : decode prog_18_method_25_code 127 = .ok (.i2l, 1) := by decide +kernel
theorem d_18_25_128 : decode prog_18_method_25_code 128 = .ok (.lsub, 1) := by decide +kernel
theorem d_18_25_129 : decode prog_18_method_25_code 129 = .ok (.lconst 1, 1) := by decide +kernel
theorem d_18_25_130 : decode prog_18_method_25_code 130 = .ok (.ladd, 1) := by decide +kernel
theorem d_18_25_131 : decode prog_18_method_25_code 131 = .ok (.iload_n 3, 1) := by decide +kernel
theorem d_18_25_132 : decode prog_18_method_25_code 132 = .ok (.i2l, 1) := by decide +kernel
theorem d_18_25_133 : decode prog_18_method_25_code 133 = .ok (.lcmp, 1) := by decide +kernel
theorem d_18_25_149 : decode prog_18_method_25_code 149 = .ok (.putfield 117, 3) := by decide +kernel
theorem d_18_25_152 : decode prog_18_method_25_code 152 = .ok (.lload 5, 2) := by decide +kernel
theorem d_18_25_154 : decode prog_18_method_25_code 154 = .ok (.lstore 7, 2) := by decide +kernel
theorem d_18_25_156 : decode prog_18_method_25_code 156 = .ok (.lload 7, 2) := by decide +kernel
theorem d_18_25_158 : decode prog_18_method_25_code 158 = .ok (.aload_n 0, 1) := by decide +kernel
theorem d_18_25_159 : decode prog_18_method_25_code 159 = .ok (.getfield 117, 3) := by decide +kernel
theorem d_18_25_162 : decode prog_18_method_25_code 162 = .ok (.lcmp, 1) := by decide +kernel
theorem d_18_25_163 : decode prog_18_method_25_code 163 = .ok (.ifCond .lt 32, 3) := by decide +kernel
theorem d_18_25_195 : decode prog_18_method_25_code 195 = .ok (.iconst 0, 1) := by decide +kernel
theorem d_18_25_196 : decode prog_18_method_25_code 196 = .ok (.istore 7, 2) := by decide +kernel
theorem d_18_25_198 : decode prog_18_method_25_code 198 = .ok (.ldc2_w 137, 3) := by decide +kernel
theorem d_18_25_201 : decode prog_18_method_25_code 201 = .ok (.aload_n 0, 1) := by decide +kernel
theorem d_18_25_202 : decode prog_18_method_25_code 202 = .ok (.getfield 42, 3) := by decide +kernel
theorem d_18_25_205 : decode prog_18_method_25_code 205 = .ok (.aload_n 0, 1) := by decide +kernel
theorem d_18_25_206 : decode prog_18_method_25_code 206 = .ok (.getfield 39, 3) := by decide +kernel
theorem d_18_25_209 : decode prog_18_method_25_code 209 = .ok (.isub, 1) := by decide +kernel
theorem d_18_25_210 : decode prog_18_method_25_code 210 = .ok (.i2l, 1) := by decide +kernel
theorem d_18_25_211 : decode prog_18_method_25_code 211 = .ok (.lmul, 1) := by decide +kernel
theorem d_18_25_212 : decode prog_18_method_25_code 212 = .ok (.aload_n 0, 1) := by decide +kernel
theorem d_18_25_213 : decode prog_18_method_25_code 213 = .ok (.getfield 49, 3) := by decide +kernel
theorem d_18_25_216 : decode prog_18_method_25_code 216 = .ok (.ladd, 1) := by decide +kernel
theorem d_18_25_217 : decode prog_18_method_25_code 217 = .ok (.lstore 8, 2) := by decide +kernel
theorem d_18_25_219 : decode prog_18_method_25_code 219 = .ok (.aload_n 0, 1) := by decide +kernel
theorem d_18_25_220 : decode prog_18_method_25_code 220 = .ok (.getfield 117, 3) := by decide +kernel
theorem d_18_25_223 : decode prog_18_method_25_code 223 = .ok (.ldc2_w 147, 3) := by decide +kernel
set_option maxRecDepth 100000 in
theorem w_2510 : (Cond.constantLong "NumberHouseModel$TextRows" (147 : Nat) (2 : Int64)) ∈ q_tbl := q_of11 110 rfl (by decide +kernel)
theorem d_18_25_226 : decode prog_18_method_25_code 226 = .ok (.lsub, 1) := by decide +kernel
theorem d_18_25_227 : decode prog_18_method_25_code 227 = .ok (.lstore 10, 2) := by decide +kernel
theorem d_18_25_229 : decode prog_18_method_25_code 229 = .ok (.lload 10, 2) := by decide +kernel
theorem d_18_25_231 : decode prog_18_method_25_code 231 = .ok (.lload 8, 2) := by decide +kernel
theorem d_18_25_233 : decode prog_18_method_25_code 233 = .ok (.lcmp, 1) := by decide +kernel
theorem d_18_25_268 : decode prog_18_method_25_code 268 = .ok (.aload_n 0, 1) := by decide +kernel
theorem d_18_25_269 : decode prog_18_method_25_code 269 = .ok (.aload_n 0, 1) := by decide +kernel
theorem d_18_25_270 : decode prog_18_method_25_code 270 = .ok (.aload_n 0, 1) := by decide +kernel
theorem d_18_25_271 : decode prog_18_method_25_code 271 = .ok (.getfield 117, 3) := by decide +kernel
theorem d_18_25_274 : decode prog_18_method_25_code 274 = .ok (.lconst 1, 1) := by decide +kernel
theorem d_18_25_275 : decode prog_18_method_25_code 275 = .ok (.lsub, 1) := by decide +kernel
theorem d_18_25_276 : decode prog_18_method_25_code 276 = .ok (.invokevirtual 149, 3) := by decide +kernel
set_option maxRecDepth 100000 in
theorem w_2514 : (Cond.code ({ cls := "NumberHouseModel$TextRows", name := "bitAt", desc := "(J)I" } : MethodName) prog_18_method_24_code (9 : Nat) (some .int)) ∈ q_tbl := q_of11 114 rfl (by decide +kernel)
set_option maxRecDepth 100000 in
theorem w_2511 : (Cond.methodLink "NumberHouseModel$TextRows" (149 : Nat) ({ cls := "NumberHouseModel$TextRows", name := "bitAt", desc := "(J)I" } : MethodName)) ∈ q_tbl := q_of11 111 rfl (by decide +kernel)
set_option maxRecDepth 100000 in
theorem w_2513 : (Cond.instanceMethod ({ cls := "NumberHouseModel$TextRows", name := "bitAt", desc := "(J)I" } : MethodName)) ∈ q_tbl := q_of11 113 rfl (by decide +kernel)
theorem ws_81 : Cond.selects "NumberHouseModel$TextRows" (⟨"NumberHouseModel$TextRows", "bitAt", "(J)I"⟩ : MethodName) (⟨"NumberHouseModel$TextRows", "bitAt", "(J)I"⟩ : MethodName) ∈ q_tbl := q_ofs 81 (by decide +kernel) (by decide +kernel)
theorem LV_TR_149 : q_LV "NumberHouseModel$TextRows" 149 y_TR_bitAt prog_18_method_24_code 9 (some .int) 1 := ⟨w_2514, w_18, w_2511, w_2513, ws_81, ⟨by decide, by decide, by decide +kernel⟩⟩
theorem d_18_25_279 : decode prog_18_method_25_code 279 = .ok (.iconst 1, 1) := by decide +kernel
theorem d_18_25_280 : decode prog_18_method_25_code 280 = .ok (.if_icmp .ne 16, 3) := by decide +kernel
theorem d_18_25_296 : decode prog_18_method_25_code 296 = .ok (.iload 7, 2) := by decide +kernel
theorem d_18_25_298 : decode prog_18_method_25_code 298 = .ok (.ifCond .eq 7, 3) := by decide +kernel
theorem d_18_25_305 : decode prog_18_method_25_code 305 = .ok (.iconst 0, 1) := by decide +kernel
theorem d_18_25_306 : decode prog_18_method_25_code 306 = .ok (.putfield 120, 3) := by decide +kernel
theorem d_18_25_309 : decode prog_18_method_25_code 309 = .ok (.return_, 1) := by decide +kernel
theorem d_18_25_301 : decode prog_18_method_25_code 301 = .ok (.iconst 1, 1) := by decide +kernel
theorem d_18_25_302 : decode prog_18_method_25_code 302 = .ok (.goto 4, 3) := by decide +kernel
theorem d_18_25_283 : decode prog_18_method_25_code 283 = .ok (.iload 7, 2) := by decide +kernel
theorem d_18_25_285 : decode prog_18_method_25_code 285 = .ok (.ifCond .eq 7, 3) := by decide +kernel
theorem d_18_25_292 : decode prog_18_method_25_code 292 = .ok (.iconst 2, 1) := by decide +kernel
theorem d_18_25_293 : decode prog_18_method_25_code 293 = .ok (.goto 13, 3) := by decide +kernel
theorem d_18_25_288 : decode prog_18_method_25_code 288 = .ok (.iconst 3, 1) := by decide +kernel
theorem d_18_25_289 : decode prog_18_method_25_code 289 = .ok (.goto 17, 3) := by decide +kernel
theorem d_18_25_234 : decode prog_18_method_25_code 234 = .ok (.ifCond .lt 34, 3) := by decide +kernel
theorem d_18_25_237 : decode prog_18_method_25_code 237 = .ok (.iload 7, 2) := by decide +kernel
theorem d_18_25_239 : decode prog_18_method_25_code 239 = .ok (.ifCond .ne 29, 3) := by decide +kernel
theorem d_18_25_242 : decode prog_18_method_25_code 242 = .ok (.aload_n 0, 1) := by decide +kernel
theorem d_18_25_243 : decode prog_18_method_25_code 243 = .ok (.lload 10, 2) := by decide +kernel
theorem d_18_25_245 : decode prog_18_method_25_code 245 = .ok (.invokevirtual 149, 3) := by decide +kernel
theorem d_18_25_248 : decode prog_18_method_25_code 248 = .ok (.iconst 1, 1) := by decide +kernel
theorem d_18_25_249 : decode prog_18_method_25_code 249 = .ok (.if_icmp .ne 7, 3) := by decide +kernel
theorem d_18_25_256 : decode prog_18_method_25_code 256 = .ok (.iconst 0, 1) := by decide +kernel
theorem d_18_25_257 : decode prog_18_method_25_code 257 = .ok (.istore 7, 2) := by decide +kernel
theorem d_18_25_259 : decode prog_18_method_25_code 259 = .ok (.lload 10, 2) := by decide +kernel
theorem d_18_25_261 : decode prog_18_method_25_code 261 = .ok (.lconst 1, 1) := by decide +kernel
theorem d_18_25_262 : decode prog_18_method_25_code 262 = .ok (.lsub, 1) := by decide +kernel
theorem d_18_25_263 : decode prog_18_method_25_code 263 = .ok (.lstore 10, 2) := by decide +kernel
theorem d_18_25_265 : decode prog_18_method_25_code 265 = .ok (.goto (-36), 3) := by decide +kernel
theorem d_18_25_252 : decode prog_18_method_25_code 252 = .ok (.iconst 1, 1) := by decide +kernel
theorem d_18_25_253 : decode prog_18_method_25_code 253 = .ok (.goto 4, 3) := by decide +kernel
theorem d_18_25_166 : decode prog_18_method_25_code 166 = .ok (.aload_n 0, 1) := by decide +kernel
theorem d_18_25_167 : decode prog_18_method_25_code 167 = .ok (.ldc2_w 147, 3) := by decide +kernel
theorem d_18_25_170 : decode prog_18_method_25_code 170 = .ok (.aload_n 0, 1) := by decide +kernel
theorem d_18_25_171 : decode prog_18_method_25_code 171 = .ok (.getfield 114, 3) := by decide +kernel
theorem d_18_25_174 : decode prog_18_method_25_code 174 = .ok (.lmul, 1) := by decide +kernel
theorem d_18_25_175 : decode prog_18_method_25_code 175 = .ok (.aload_n 0, 1) := by decide +kernel
theorem d_18_25_176 : decode prog_18_method_25_code 176 = .ok (.lload 7, 2) := by decide +kernel
theorem d_18_25_178 : decode prog_18_method_25_code 178 = .ok (.invokevirtual 149, 3) := by decide +kernel
theorem d_18_25_181 : decode prog_18_method_25_code 181 = .ok (.i2l, 1) := by decide +kernel
theorem d_18_25_182 : decode prog_18_method_25_code 182 = .ok (.ladd, 1) := by decide +kernel
theorem d_18_25_183 : decode prog_18_method_25_code 183 = .ok (.putfield 114, 3) := by decide +kernel
theorem d_18_25_186 : decode prog_18_method_25_code 186 = .ok (.lload 7, 2) := by decide +kernel
theorem d_18_25_188 : decode prog_18_method_25_code 188 = .ok (.lconst 1, 1) := by decide +kernel
theorem d_18_25_189 : decode prog_18_method_25_code 189 = .ok (.lsub, 1) := by decide +kernel
theorem d_18_25_190 : decode prog_18_method_25_code 190 = .ok (.lstore 7, 2) := by decide +kernel
theorem d_18_25_192 : decode prog_18_method_25_code 192 = .ok (.goto (-36), 3) := by decide +kernel
theorem d_18_25_134 : decode prog_18_method_25_code 134 = .ok (.ifCond .le 13, 3) := by decide +kernel
theorem d_18_25_147 : decode prog_18_method_25_code 147 = .ok (.iload_n 3, 1) := by decide +kernel
theorem d_18_25_148 : decode prog_18_method_25_code 148 = .ok (.i2l, 1) := by decide +kernel
theorem d_18_25_137 : decode prog_18_method_25_code 137 = .ok (.lload 5, 2) := by decide +kernel
theorem d_18_25_139 : decode prog_18_method_25_code 139 = .ok (.iload_n 2, 1) := by decide +kernel
theorem d_18_25_140 : decode prog_18_method_25_code 140 = .ok (.i2l, 1) := by decide +kernel
theorem d_18_25_141 : decode prog_18_method_25_code 141 = .ok (.lsub, 1) := by decide +kernel
theorem d_18_25_142 : decode prog_18_method_25_code 142 = .ok (.lconst 1, 1) := by decide +kernel
theorem d_18_25_143 : decode prog_18_method_25_code 143 = .ok (.ladd, 1) := by decide +kernel
theorem d_18_25_144 : decode prog_18_method_25_code 144 = .ok (.goto 5, 3) := by decide +kernel
theorem d_18_25_79 : decode prog_18_method_25_code 79 = .ok (.ifCond .le 7, 3) := by decide +kernel
theorem d_18_25_86 : decode prog_18_method_25_code 86 = .ok (.iconst 0, 1) := by decide +kernel
theorem d_18_25_82 : decode prog_18_method_25_code 82 = .ok (.iconst 1, 1) := by decide +kernel
theorem d_18_25_83 : decode prog_18_method_25_code 83 = .ok (.goto 4, 3) := by decide +kernel
theorem d_18_25_8 : decode prog_18_method_25_code 8 = .ok (.if_icmp .lt 7, 3) := by decide +kernel
theorem d_18_25_15 : decode prog_18_method_25_code 15 = .ok (.aload_n 0, 1) := by decide +kernel
theorem d_18_25_16 : decode prog_18_method_25_code 16 = .ok (.getfield 13, 3) := by decide +kernel
theorem d_18_25_19 : decode prog_18_method_25_code 19 = .ok (.iload_n 1, 1) := by decide +kernel
theorem d_18_25_20 : decode prog_18_method_25_code 20 = .ok (.iaload, 1) := by decide +kernel
theorem d_18_25_21 : decode prog_18_method_25_code 21 = .ok (.iconst 4, 1) := by decide +kernel
theorem d_18_25_22 : decode prog_18_method_25_code 22 = .ok (.if_icmp .lt 7, 3) := by decide +kernel
theorem d_18_25_29 : decode prog_18_method_25_code 29 = .ok (.aload_n 0, 1) := by decide +kernel
theorem d_18_25_30 : decode prog_18_method_25_code 30 = .ok (.getfield 13, 3) := by decide +kernel
theorem d_18_25_33 : decode prog_18_method_25_code 33 = .ok (.iload_n 1, 1) := by decide +kernel
theorem d_18_25_34 : decode prog_18_method_25_code 34 = .ok (.iaload, 1) := by decide +kernel
theorem d_18_25_35 : decode prog_18_method_25_code 35 = .ok (.iconst 2, 1) := by decide +kernel
theorem d_18_25_36 : decode prog_18_method_25_code 36 = .ok (.if_icmp .lt 7, 3) := by decide +kernel
theorem d_18_25_43 : decode prog_18_method_25_code 43 = .ok (.iconst 1, 1) := by decide +kernel
theorem d_18_25_39 : decode prog_18_method_25_code 39 = .ok (.iconst 2, 1) := by decide +kernel
theorem d_18_25_40 : decode prog_18_method_25_code 40 = .ok (.goto 4, 3) := by decide +kernel
theorem d_18_25_25 : decode prog_18_method_25_code 25 = .ok (.iconst 3, 1) := by decide +kernel
theorem d_18_25_26 : decode prog_18_method_25_code 26 = .ok (.goto 18, 3) := by decide +kernel
theorem d_18_25_11 : decode prog_18_method_25_code 11 = .ok (.iconst 4, 1) := by decide +kernel
theorem d_18_25_12 : decode prog_18_method_25_code 12 = .ok (.goto 32, 3) := by decide +kernel
def y_TR_findHexadecimal : MethodName := ⟨"NumberHouseModel$TextRows", "findHexadecimal", "(III)V"⟩
def F_TR_findHexadecimal_J268 (K_F_TR_findHexadecimal_L156 : Int64 → Int64 → (Int32 × Int32 × Int32 × Int32 × Int32 × Int32 × Int32 × Int64 × Int32 × Int32 × Int64 × Int64 × Int32 × Int32)) (K_F_TR_findHexadecimal_L229 : Int64 → Int32 → (Int32 × Int32 × Int32 × Int32 × Int32 × Int32 × Int32 × Int64 × Int32 × Int32 × Int64 × Int64 × Int32 × Int32)) (x2 : Int32) (x3 : Int32) (x4 : Int32) (t0_0 : Int32) (t0_1 : Int32) (t0_2 : Int32) (t0_3 : Int32) (t0_4 : Int32) (t0_5 : Int32) (t0_6 : Int32) (t0_7 : Int64) (t0_8 : Int32) (t0_9 : Int32) (t0_10 : Int64) (t0_11 : Int64) (t0_12 : Int32) (t0_13 : Int32) (t1_0 : (Nat → Int32)) (lx26 : Int32) (j54 : Int64) (lx59 : Int32) (j74 : Int64) (lx102 : Int64) (lx114 : Int64) (lx115 : Int64) (j138 : Int64) (lx144 : Int64) (lx145 : Int32) : Int32 × Int32 × Int32 × Int32 × Int32 × Int32 × Int32 × Int64 × Int32 × Int32 × Int64 × Int64 × Int32 × Int32 := if ((F_TR_bitAt (lx102 - 1 : Int64) t0_0 t0_1 t0_2 t0_3 t0_4 t0_5 t0_6 t0_7 t0_8 t0_9 lx115 lx102 (1 : Int32) lx59 t1_0) : Int32) = (1 : Int32) then (if lx145 = (0 : Int32) then ((t0_0, t0_1, t0_2, t0_3, t0_4, t0_5, t0_6, t0_7, t0_8, t0_9, lx115, lx102, (2 : Int32), lx59)) else ((t0_0, t0_1, t0_2, t0_3, t0_4, t0_5, t0_6, t0_7, t0_8, t0_9, lx115, lx102, (3 : Int32), lx59))) else (if lx145 = (0 : Int32) then ((t0_0, t0_1, t0_2, t0_3, t0_4, t0_5, t0_6, t0_7, t0_8, t0_9, lx115, lx102, (0 : Int32), lx59)) else ((t0_0, t0_1, t0_2, t0_3, t0_4, t0_5, t0_6, t0_7, t0_8, t0_9, lx115, lx102, (1 : Int32), lx59)))
def F_TR_findHexadecimal_L229 (K_F_TR_findHexadecimal_L156 : Int64 → Int64 → (Int32 × Int32 × Int32 × Int32 × Int32 × Int32 × Int32 × Int64 × Int32 × Int32 × Int64 × Int64 × Int32 × Int32)) (x2 : Int32) (x3 : Int32) (x4 : Int32) (t0_0 : Int32) (t0_1 : Int32) (t0_2 : Int32) (t0_3 : Int32) (t0_4 : Int32) (t0_5 : Int32) (t0_6 : Int32) (t0_7 : Int64) (t0_8 : Int32) (t0_9 : Int32) (t0_10 : Int64) (t0_11 : Int64) (t0_12 : Int32) (t0_13 : Int32) (t1_0 : (Nat → Int32)) (lx26 : Int32) (j54 : Int64) (lx59 : Int32) (j74 : Int64) (lx102 : Int64) (lx114 : Int64) (lx115 : Int64) (j138 : Int64) : Nat → Int64 → Int32 → (Int32 × Int32 × Int32 × Int32 × Int32 × Int32 × Int32 × Int64 × Int32 × Int32 × Int64 × Int64 × Int32 × Int32)
  | 0, _, _ => default
  | fm + 1, lx144, lx145 => if (lg_cmp lx144 j138 : Int32) < (0 : Int32) then (F_TR_findHexadecimal_J268 K_F_TR_findHexadecimal_L156 (F_TR_findHexadecimal_L229 K_F_TR_findHexadecimal_L156 x2 x3 x4 t0_0 t0_1 t0_2 t0_3 t0_4 t0_5 t0_6 t0_7 t0_8 t0_9 t0_10 t0_11 t0_12 t0_13 t1_0 lx26 j54 lx59 j74 lx102 lx114 lx115 j138 fm) x2 x3 x4 t0_0 t0_1 t0_2 t0_3 t0_4 t0_5 t0_6 t0_7 t0_8 t0_9 t0_10 t0_11 t0_12 t0_13 t1_0 lx26 j54 lx59 j74 lx102 lx114 lx115 j138 lx144 lx145) else (if lx145 = (0 : Int32) then (if ((F_TR_bitAt lx144 t0_0 t0_1 t0_2 t0_3 t0_4 t0_5 t0_6 t0_7 t0_8 t0_9 lx115 lx102 (1 : Int32) lx59 t1_0) : Int32) = (1 : Int32) then (F_TR_findHexadecimal_L229 K_F_TR_findHexadecimal_L156 x2 x3 x4 t0_0 t0_1 t0_2 t0_3 t0_4 t0_5 t0_6 t0_7 t0_8 t0_9 t0_10 t0_11 t0_12 t0_13 t1_0 lx26 j54 lx59 j74 lx102 lx114 lx115 j138 fm (lx144 - 1 : Int64) 1) else (F_TR_findHexadecimal_L229 K_F_TR_findHexadecimal_L156 x2 x3 x4 t0_0 t0_1 t0_2 t0_3 t0_4 t0_5 t0_6 t0_7 t0_8 t0_9 t0_10 t0_11 t0_12 t0_13 t1_0 lx26 j54 lx59 j74 lx102 lx114 lx115 j138 fm (lx144 - 1 : Int64) 0)) else (F_TR_findHexadecimal_J268 K_F_TR_findHexadecimal_L156 (F_TR_findHexadecimal_L229 K_F_TR_findHexadecimal_L156 x2 x3 x4 t0_0 t0_1 t0_2 t0_3 t0_4 t0_5 t0_6 t0_7 t0_8 t0_9 t0_10 t0_11 t0_12 t0_13 t1_0 lx26 j54 lx59 j74 lx102 lx114 lx115 j138 fm) x2 x3 x4 t0_0 t0_1 t0_2 t0_3 t0_4 t0_5 t0_6 t0_7 t0_8 t0_9 t0_10 t0_11 t0_12 t0_13 t1_0 lx26 j54 lx59 j74 lx102 lx114 lx115 j138 lx144 lx145))
def F_TR_findHexadecimal_L156 (x2 : Int32) (x3 : Int32) (x4 : Int32) (t0_0 : Int32) (t0_1 : Int32) (t0_2 : Int32) (t0_3 : Int32) (t0_4 : Int32) (t0_5 : Int32) (t0_6 : Int32) (t0_7 : Int64) (t0_8 : Int32) (t0_9 : Int32) (t0_10 : Int64) (t0_11 : Int64) (t0_12 : Int32) (t0_13 : Int32) (t1_0 : (Nat → Int32)) (lx26 : Int32) (j54 : Int64) (lx59 : Int32) (j74 : Int64) (lx102 : Int64) : Nat → Int64 → Int64 → (Int32 × Int32 × Int32 × Int32 × Int32 × Int32 × Int32 × Int64 × Int32 × Int32 × Int64 × Int64 × Int32 × Int32)
  | 0, _, _ => default
  | fm + 1, lx114, lx115 => if (lg_cmp lx114 lx102 : Int32) < (0 : Int32) then (F_TR_findHexadecimal_L229 (F_TR_findHexadecimal_L156 x2 x3 x4 t0_0 t0_1 t0_2 t0_3 t0_4 t0_5 t0_6 t0_7 t0_8 t0_9 t0_10 t0_11 t0_12 t0_13 t1_0 lx26 j54 lx59 j74 lx102 fm) x2 x3 x4 t0_0 t0_1 t0_2 t0_3 t0_4 t0_5 t0_6 t0_7 t0_8 t0_9 t0_10 t0_11 t0_12 t0_13 t1_0 lx26 j54 lx59 j74 lx102 lx114 lx115 ((4 * ((t0_6 - t0_5 : Int32).toInt64 : Int64) : Int64) + t0_7 : Int64) 1000000 (lx102 - 2 : Int64) 0) else (F_TR_findHexadecimal_L156 x2 x3 x4 t0_0 t0_1 t0_2 t0_3 t0_4 t0_5 t0_6 t0_7 t0_8 t0_9 t0_10 t0_11 t0_12 t0_13 t1_0 lx26 j54 lx59 j74 lx102 fm (lx114 - 1 : Int64) ((2 * lx115 : Int64) + (((F_TR_bitAt lx114 t0_0 t0_1 t0_2 t0_3 t0_4 t0_5 t0_6 t0_7 t0_8 t0_9 lx115 lx102 (1 : Int32) lx59 t1_0) : Int32).toInt64 : Int64) : Int64))
def F_TR_findHexadecimal_J149 (x2 : Int32) (x3 : Int32) (x4 : Int32) (t0_0 : Int32) (t0_1 : Int32) (t0_2 : Int32) (t0_3 : Int32) (t0_4 : Int32) (t0_5 : Int32) (t0_6 : Int32) (t0_7 : Int64) (t0_8 : Int32) (t0_9 : Int32) (t0_10 : Int64) (t0_11 : Int64) (t0_12 : Int32) (t0_13 : Int32) (t1_0 : (Nat → Int32)) (lx26 : Int32) (j54 : Int64) (lx59 : Int32) (j74 : Int64) (lx102 : Int64) : Int32 × Int32 × Int32 × Int32 × Int32 × Int32 × Int32 × Int64 × Int32 × Int32 × Int64 × Int64 × Int32 × Int32 := F_TR_findHexadecimal_L156 x2 x3 x4 t0_0 t0_1 t0_2 t0_3 t0_4 t0_5 t0_6 t0_7 t0_8 t0_9 t0_10 t0_11 t0_12 t0_13 t1_0 lx26 j54 lx59 j74 lx102 1000000 j54 0
def F_TR_findHexadecimal_J87 (x2 : Int32) (x3 : Int32) (x4 : Int32) (t0_0 : Int32) (t0_1 : Int32) (t0_2 : Int32) (t0_3 : Int32) (t0_4 : Int32) (t0_5 : Int32) (t0_6 : Int32) (t0_7 : Int64) (t0_8 : Int32) (t0_9 : Int32) (t0_10 : Int64) (t0_11 : Int64) (t0_12 : Int32) (t0_13 : Int32) (t1_0 : (Nat → Int32)) (lx26 : Int32) (j54 : Int64) (lx59 : Int32) : Int32 × Int32 × Int32 × Int32 × Int32 × Int32 × Int32 × Int64 × Int32 × Int32 × Int64 × Int64 × Int32 × Int32 := if lx59 = (0 : Int32) then (if (0 : Int32) ≤ (lg_cmp j54 (-2000) : Int32) then (if (lg_cmp ((j54 - (x3.toInt64 : Int64) : Int64) + 1 : Int64) (x4.toInt64 : Int64) : Int32) ≤ (0 : Int32) then (F_TR_findHexadecimal_J149 x2 x3 x4 t0_0 t0_1 t0_2 t0_3 t0_4 t0_5 t0_6 t0_7 t0_8 t0_9 t0_10 t0_11 t0_12 t0_13 t1_0 lx26 j54 lx59 (x4.toInt64 : Int64) (x4.toInt64 : Int64)) else (F_TR_findHexadecimal_J149 x2 x3 x4 t0_0 t0_1 t0_2 t0_3 t0_4 t0_5 t0_6 t0_7 t0_8 t0_9 t0_10 t0_11 t0_12 t0_13 t1_0 lx26 j54 lx59 (x4.toInt64 : Int64) ((j54 - (x3.toInt64 : Int64) : Int64) + 1 : Int64))) else ((t0_0, t0_1, t0_2, t0_3, t0_4, t0_5, t0_6, t0_7, t0_8, t0_9, (0 : Int64), (x4.toInt64 : Int64), (1 : Int32), lx59))) else ((t0_0, t0_1, t0_2, t0_3, t0_4, t0_5, t0_6, t0_7, t0_8, t0_9, (0 : Int64), (x4.toInt64 : Int64), (1 : Int32), lx59))
def F_TR_findHexadecimal_J44 (x2 : Int32) (x3 : Int32) (x4 : Int32) (t0_0 : Int32) (t0_1 : Int32) (t0_2 : Int32) (t0_3 : Int32) (t0_4 : Int32) (t0_5 : Int32) (t0_6 : Int32) (t0_7 : Int64) (t0_8 : Int32) (t0_9 : Int32) (t0_10 : Int64) (t0_11 : Int64) (t0_12 : Int32) (t0_13 : Int32) (t1_0 : (Nat → Int32)) (lx26 : Int32) : Int32 × Int32 × Int32 × Int32 × Int32 × Int32 × Int32 × Int64 × Int32 × Int32 × Int64 × Int64 × Int32 × Int32 := if (lg_cmp ((((4 * ((t0_6 - x2 : Int32).toInt64 : Int64) : Int64) - 5 : Int64) + (lx26.toInt64 : Int64) : Int64) + t0_7 : Int64) 2000 : Int32) ≤ (0 : Int32) then (F_TR_findHexadecimal_J87 x2 x3 x4 t0_0 t0_1 t0_2 t0_3 t0_4 t0_5 t0_6 t0_7 t0_8 t0_9 t0_10 t0_11 t0_12 t0_13 t1_0 lx26 ((((4 * ((t0_6 - x2 : Int32).toInt64 : Int64) : Int64) - 5 : Int64) + (lx26.toInt64 : Int64) : Int64) + t0_7 : Int64) 0) else (F_TR_findHexadecimal_J87 x2 x3 x4 t0_0 t0_1 t0_2 t0_3 t0_4 t0_5 t0_6 t0_7 t0_8 t0_9 t0_10 t0_11 t0_12 t0_13 t1_0 lx26 ((((4 * ((t0_6 - x2 : Int32).toInt64 : Int64) : Int64) - 5 : Int64) + (lx26.toInt64 : Int64) : Int64) + t0_7 : Int64) 1)
def F_TR_findHexadecimal (x2 : Int32) (x3 : Int32) (x4 : Int32) (t0_0 : Int32) (t0_1 : Int32) (t0_2 : Int32) (t0_3 : Int32) (t0_4 : Int32) (t0_5 : Int32) (t0_6 : Int32) (t0_7 : Int64) (t0_8 : Int32) (t0_9 : Int32) (t0_10 : Int64) (t0_11 : Int64) (t0_12 : Int32) (t0_13 : Int32) (t1_0 : (Nat → Int32)) : Int32 × Int32 × Int32 × Int32 × Int32 × Int32 × Int32 × Int64 × Int32 × Int32 × Int64 × Int64 × Int32 × Int32 := if (t1_0 x2.toNatClampNeg : Int32) < (8 : Int32) then (if (t1_0 x2.toNatClampNeg : Int32) < (4 : Int32) then (if (t1_0 x2.toNatClampNeg : Int32) < (2 : Int32) then (F_TR_findHexadecimal_J44 x2 x3 x4 t0_0 t0_1 t0_2 t0_3 t0_4 t0_5 t0_6 t0_7 t0_8 t0_9 t0_10 t0_11 t0_12 t0_13 t1_0 1) else (F_TR_findHexadecimal_J44 x2 x3 x4 t0_0 t0_1 t0_2 t0_3 t0_4 t0_5 t0_6 t0_7 t0_8 t0_9 t0_10 t0_11 t0_12 t0_13 t1_0 2)) else (F_TR_findHexadecimal_J44 x2 x3 x4 t0_0 t0_1 t0_2 t0_3 t0_4 t0_5 t0_6 t0_7 t0_8 t0_9 t0_10 t0_11 t0_12 t0_13 t1_0 3)) else (F_TR_findHexadecimal_J44 x2 x3 x4 t0_0 t0_1 t0_2 t0_3 t0_4 t0_5 t0_6 t0_7 t0_8 t0_9 t0_10 t0_11 t0_12 t0_13 t1_0 4)
def S_TR_findHexadecimal_J268 (K_S_TR_findHexadecimal_L156 : Int64 → Int64 → Prop) (K_S_TR_findHexadecimal_L229 : Int64 → Int32 → Prop) (x2 : Int32) (x3 : Int32) (x4 : Int32) (t0_0 : Int32) (t0_1 : Int32) (t0_2 : Int32) (t0_3 : Int32) (t0_4 : Int32) (t0_5 : Int32) (t0_6 : Int32) (t0_7 : Int64) (t0_8 : Int32) (t0_9 : Int32) (t0_10 : Int64) (t0_11 : Int64) (t0_12 : Int32) (t0_13 : Int32) (t1_0 : (Nat → Int32)) (lx26 : Int32) (j54 : Int64) (lx59 : Int32) (j74 : Int64) (lx102 : Int64) (lx114 : Int64) (lx115 : Int64) (j138 : Int64) (lx144 : Int64) (lx145 : Int32) : Prop := (True ∧ S_TR_bitAt (lx102 - 1 : Int64) t0_0 t0_1 t0_2 t0_3 t0_4 t0_5 t0_6 t0_7 t0_8 t0_9 lx115 lx102 (1 : Int32) lx59 t1_0) ∧ (if ((F_TR_bitAt (lx102 - 1 : Int64) t0_0 t0_1 t0_2 t0_3 t0_4 t0_5 t0_6 t0_7 t0_8 t0_9 lx115 lx102 (1 : Int32) lx59 t1_0) : Int32) = (1 : Int32) then (if lx145 = (0 : Int32) then (True) else (True)) else (if lx145 = (0 : Int32) then (True) else (True)))
def S_TR_findHexadecimal_L229 (K_S_TR_findHexadecimal_L156 : Int64 → Int64 → Prop) (x2 : Int32) (x3 : Int32) (x4 : Int32) (t0_0 : Int32) (t0_1 : Int32) (t0_2 : Int32) (t0_3 : Int32) (t0_4 : Int32) (t0_5 : Int32) (t0_6 : Int32) (t0_7 : Int64) (t0_8 : Int32) (t0_9 : Int32) (t0_10 : Int64) (t0_11 : Int64) (t0_12 : Int32) (t0_13 : Int32) (t1_0 : (Nat → Int32)) (lx26 : Int32) (j54 : Int64) (lx59 : Int32) (j74 : Int64) (lx102 : Int64) (lx114 : Int64) (lx115 : Int64) (j138 : Int64) : Nat → Int64 → Int32 → Prop
  | 0, _, _ => False
  | fm + 1, lx144, lx145 => if (lg_cmp lx144 j138 : Int32) < (0 : Int32) then (S_TR_findHexadecimal_J268 K_S_TR_findHexadecimal_L156 (S_TR_findHexadecimal_L229 K_S_TR_findHexadecimal_L156 x2 x3 x4 t0_0 t0_1 t0_2 t0_3 t0_4 t0_5 t0_6 t0_7 t0_8 t0_9 t0_10 t0_11 t0_12 t0_13 t1_0 lx26 j54 lx59 j74 lx102 lx114 lx115 j138 fm) x2 x3 x4 t0_0 t0_1 t0_2 t0_3 t0_4 t0_5 t0_6 t0_7 t0_8 t0_9 t0_10 t0_11 t0_12 t0_13 t1_0 lx26 j54 lx59 j74 lx102 lx114 lx115 j138 lx144 lx145) else (if lx145 = (0 : Int32) then ((True ∧ S_TR_bitAt lx144 t0_0 t0_1 t0_2 t0_3 t0_4 t0_5 t0_6 t0_7 t0_8 t0_9 lx115 lx102 (1 : Int32) lx59 t1_0) ∧ (if ((F_TR_bitAt lx144 t0_0 t0_1 t0_2 t0_3 t0_4 t0_5 t0_6 t0_7 t0_8 t0_9 lx115 lx102 (1 : Int32) lx59 t1_0) : Int32) = (1 : Int32) then (S_TR_findHexadecimal_L229 K_S_TR_findHexadecimal_L156 x2 x3 x4 t0_0 t0_1 t0_2 t0_3 t0_4 t0_5 t0_6 t0_7 t0_8 t0_9 t0_10 t0_11 t0_12 t0_13 t1_0 lx26 j54 lx59 j74 lx102 lx114 lx115 j138 fm (lx144 - 1 : Int64) 1) else (S_TR_findHexadecimal_L229 K_S_TR_findHexadecimal_L156 x2 x3 x4 t0_0 t0_1 t0_2 t0_3 t0_4 t0_5 t0_6 t0_7 t0_8 t0_9 t0_10 t0_11 t0_12 t0_13 t1_0 lx26 j54 lx59 j74 lx102 lx114 lx115 j138 fm (lx144 - 1 : Int64) 0))) else (S_TR_findHexadecimal_J268 K_S_TR_findHexadecimal_L156 (S_TR_findHexadecimal_L229 K_S_TR_findHexadecimal_L156 x2 x3 x4 t0_0 t0_1 t0_2 t0_3 t0_4 t0_5 t0_6 t0_7 t0_8 t0_9 t0_10 t0_11 t0_12 t0_13 t1_0 lx26 j54 lx59 j74 lx102 lx114 lx115 j138 fm) x2 x3 x4 t0_0 t0_1 t0_2 t0_3 t0_4 t0_5 t0_6 t0_7 t0_8 t0_9 t0_10 t0_11 t0_12 t0_13 t1_0 lx26 j54 lx59 j74 lx102 lx114 lx115 j138 lx144 lx145))
def S_TR_findHexadecimal_L156 (x2 : Int32) (x3 : Int32) (x4 : Int32) (t0_0 : Int32) (t0_1 : Int32) (t0_2 : Int32) (t0_3 : Int32) (t0_4 : Int32) (t0_5 : Int32) (t0_6 : Int32) (t0_7 : Int64) (t0_8 : Int32) (t0_9 : Int32) (t0_10 : Int64) (t0_11 : Int64) (t0_12 : Int32) (t0_13 : Int32) (t1_0 : (Nat → Int32)) (lx26 : Int32) (j54 : Int64) (lx59 : Int32) (j74 : Int64) (lx102 : Int64) : Nat → Int64 → Int64 → Prop
  | 0, _, _ => False
  | fm + 1, lx114, lx115 => if (lg_cmp lx114 lx102 : Int32) < (0 : Int32) then (S_TR_findHexadecimal_L229 (S_TR_findHexadecimal_L156 x2 x3 x4 t0_0 t0_1 t0_2 t0_3 t0_4 t0_5 t0_6 t0_7 t0_8 t0_9 t0_10 t0_11 t0_12 t0_13 t1_0 lx26 j54 lx59 j74 lx102 fm) x2 x3 x4 t0_0 t0_1 t0_2 t0_3 t0_4 t0_5 t0_6 t0_7 t0_8 t0_9 t0_10 t0_11 t0_12 t0_13 t1_0 lx26 j54 lx59 j74 lx102 lx114 lx115 ((4 * ((t0_6 - t0_5 : Int32).toInt64 : Int64) : Int64) + t0_7 : Int64) 1000000 (lx102 - 2 : Int64) 0) else ((True ∧ S_TR_bitAt lx114 t0_0 t0_1 t0_2 t0_3 t0_4 t0_5 t0_6 t0_7 t0_8 t0_9 lx115 lx102 (1 : Int32) lx59 t1_0) ∧ (S_TR_findHexadecimal_L156 x2 x3 x4 t0_0 t0_1 t0_2 t0_3 t0_4 t0_5 t0_6 t0_7 t0_8 t0_9 t0_10 t0_11 t0_12 t0_13 t1_0 lx26 j54 lx59 j74 lx102 fm (lx114 - 1 : Int64) ((2 * lx115 : Int64) + (((F_TR_bitAt lx114 t0_0 t0_1 t0_2 t0_3 t0_4 t0_5 t0_6 t0_7 t0_8 t0_9 lx115 lx102 (1 : Int32) lx59 t1_0) : Int32).toInt64 : Int64) : Int64)))
def S_TR_findHexadecimal_J149 (x2 : Int32) (x3 : Int32) (x4 : Int32) (t0_0 : Int32) (t0_1 : Int32) (t0_2 : Int32) (t0_3 : Int32) (t0_4 : Int32) (t0_5 : Int32) (t0_6 : Int32) (t0_7 : Int64) (t0_8 : Int32) (t0_9 : Int32) (t0_10 : Int64) (t0_11 : Int64) (t0_12 : Int32) (t0_13 : Int32) (t1_0 : (Nat → Int32)) (lx26 : Int32) (j54 : Int64) (lx59 : Int32) (j74 : Int64) (lx102 : Int64) : Prop := S_TR_findHexadecimal_L156 x2 x3 x4 t0_0 t0_1 t0_2 t0_3 t0_4 t0_5 t0_6 t0_7 t0_8 t0_9 t0_10 t0_11 t0_12 t0_13 t1_0 lx26 j54 lx59 j74 lx102 1000000 j54 0
def S_TR_findHexadecimal_J87 (x2 : Int32) (x3 : Int32) (x4 : Int32) (t0_0 : Int32) (t0_1 : Int32) (t0_2 : Int32) (t0_3 : Int32) (t0_4 : Int32) (t0_5 : Int32) (t0_6 : Int32) (t0_7 : Int64) (t0_8 : Int32) (t0_9 : Int32) (t0_10 : Int64) (t0_11 : Int64) (t0_12 : Int32) (t0_13 : Int32) (t1_0 : (Nat → Int32)) (lx26 : Int32) (j54 : Int64) (lx59 : Int32) : Prop := if lx59 = (0 : Int32) then (if (0 : Int32) ≤ (lg_cmp j54 (-2000) : Int32) then (if (lg_cmp ((j54 - (x3.toInt64 : Int64) : Int64) + 1 : Int64) (x4.toInt64 : Int64) : Int32) ≤ (0 : Int32) then (S_TR_findHexadecimal_J149 x2 x3 x4 t0_0 t0_1 t0_2 t0_3 t0_4 t0_5 t0_6 t0_7 t0_8 t0_9 t0_10 t0_11 t0_12 t0_13 t1_0 lx26 j54 lx59 (x4.toInt64 : Int64) (x4.toInt64 : Int64)) else (S_TR_findHexadecimal_J149 x2 x3 x4 t0_0 t0_1 t0_2 t0_3 t0_4 t0_5 t0_6 t0_7 t0_8 t0_9 t0_10 t0_11 t0_12 t0_13 t1_0 lx26 j54 lx59 (x4.toInt64 : Int64) ((j54 - (x3.toInt64 : Int64) : Int64) + 1 : Int64))) else (True)) else (True)
def S_TR_findHexadecimal_J44 (x2 : Int32) (x3 : Int32) (x4 : Int32) (t0_0 : Int32) (t0_1 : Int32) (t0_2 : Int32) (t0_3 : Int32) (t0_4 : Int32) (t0_5 : Int32) (t0_6 : Int32) (t0_7 : Int64) (t0_8 : Int32) (t0_9 : Int32) (t0_10 : Int64) (t0_11 : Int64) (t0_12 : Int32) (t0_13 : Int32) (t1_0 : (Nat → Int32)) (lx26 : Int32) : Prop := if (lg_cmp ((((4 * ((t0_6 - x2 : Int32).toInt64 : Int64) : Int64) - 5 : Int64) + (lx26.toInt64 : Int64) : Int64) + t0_7 : Int64) 2000 : Int32) ≤ (0 : Int32) then (S_TR_findHexadecimal_J87 x2 x3 x4 t0_0 t0_1 t0_2 t0_3 t0_4 t0_5 t0_6 t0_7 t0_8 t0_9 t0_10 t0_11 t0_12 t0_13 t1_0 lx26 ((((4 * ((t0_6 - x2 : Int32).toInt64 : Int64) : Int64) - 5 : Int64) + (lx26.toInt64 : Int64) : Int64) + t0_7 : Int64) 0) else (S_TR_findHexadecimal_J87 x2 x3 x4 t0_0 t0_1 t0_2 t0_3 t0_4 t0_5 t0_6 t0_7 t0_8 t0_9 t0_10 t0_11 t0_12 t0_13 t1_0 lx26 ((((4 * ((t0_6 - x2 : Int32).toInt64 : Int64) : Int64) - 5 : Int64) + (lx26.toInt64 : Int64) : Int64) + t0_7 : Int64) 1)
def S_TR_findHexadecimal (x2 : Int32) (x3 : Int32) (x4 : Int32) (t0_0 : Int32) (t0_1 : Int32) (t0_2 : Int32) (t0_3 : Int32) (t0_4 : Int32) (t0_5 : Int32) (t0_6 : Int32) (t0_7 : Int64) (t0_8 : Int32) (t0_9 : Int32) (t0_10 : Int64) (t0_11 : Int64) (t0_12 : Int32) (t0_13 : Int32) (t1_0 : (Nat → Int32)) : Prop := (0 ≤ x2.toInt) ∧ ((x2.toInt ≤ 4099) ∧ (if (t1_0 x2.toNatClampNeg : Int32) < (8 : Int32) then (if (t1_0 x2.toNatClampNeg : Int32) < (4 : Int32) then (if (t1_0 x2.toNatClampNeg : Int32) < (2 : Int32) then (S_TR_findHexadecimal_J44 x2 x3 x4 t0_0 t0_1 t0_2 t0_3 t0_4 t0_5 t0_6 t0_7 t0_8 t0_9 t0_10 t0_11 t0_12 t0_13 t1_0 1) else (S_TR_findHexadecimal_J44 x2 x3 x4 t0_0 t0_1 t0_2 t0_3 t0_4 t0_5 t0_6 t0_7 t0_8 t0_9 t0_10 t0_11 t0_12 t0_13 t1_0 2)) else (S_TR_findHexadecimal_J44 x2 x3 x4 t0_0 t0_1 t0_2 t0_3 t0_4 t0_5 t0_6 t0_7 t0_8 t0_9 t0_10 t0_11 t0_12 t0_13 t1_0 3)) else (S_TR_findHexadecimal_J44 x2 x3 x4 t0_0 t0_1 t0_2 t0_3 t0_4 t0_5 t0_6 t0_7 t0_8 t0_9 t0_10 t0_11 t0_12 t0_13 t1_0 4)))
set_option maxRecDepth 100000 in
set_option maxHeartbeats 4000000 in
theorem X_TR_findHexadecimal (l : Launch) (D : va_G) (g : Nat → ClassId) (q : Nat → Nat) (ws : va_W) (x2 : Int32) (x3 : Int32) (x4 : Int32) (hI : q_I (msh g q) q ws) (t0_0 : Int32) (t0_1 : Int32) (t0_2 : Int32) (t0_3 : Int32) (t0_4 : Int32) (t0_5 : Int32) (t0_6 : Int32) (t0_7 : Int64) (t0_8 : Int32) (t0_9 : Int32) (t0_10 : Int64) (t0_11 : Int64) (t0_12 : Int32) (t0_13 : Int32) (hT0 : ws[153]? = (some (q 153, .inr (16, [.int t0_0, .ref (q 154), .int t0_1, .int t0_2, .int t0_3, .int t0_4, .ref (q 155), .int t0_5, .int t0_6, .long t0_7, .ref (q 156), .int t0_8, .int t0_9, .long t0_10, .long t0_11, .int t0_12, .int t0_13])) : Option (Nat × va_E))) (t1_0 : (Nat → Int32)) (hT1 : ws[155]? = (some (q 155, .inl (g 0, (4100 : Int32).toNatClampNeg, .inl t1_0)) : Option (Nat × va_E))) (hS : True ∧ S_TR_findHexadecimal x2 x3 x4 t0_0 t0_1 t0_2 t0_3 t0_4 t0_5 t0_6 t0_7 t0_8 t0_9 t0_10 t0_11 t0_12 t0_13 t1_0) : q_mV l y_TR_findHexadecimal prog_18_method_25_code 12 2 0 0 D g [.ref (q 153), .int x2, .int x3, .int x4] ws (fun u => q_I (msh g q) q u ∧ q_un ws u [153] ∧ ∃ (u0_0 : Int32) (u0_1 : Int32) (u0_2 : Int32) (u0_3 : Int32) (u0_4 : Int32) (u0_5 : Int32) (u0_6 : Int32) (u0_7 : Int64) (u0_8 : Int32) (u0_9 : Int32) (u0_10 : Int64) (u0_11 : Int64) (u0_12 : Int32) (u0_13 : Int32), u[153]? = (some (q 153, .inr (16, [.int u0_0, .ref (q 154), .int u0_1, .int u0_2, .int u0_3, .int u0_4, .ref (q 155), .int u0_5, .int u0_6, .long u0_7, .ref (q 156), .int u0_8, .int u0_9, .long u0_10, .long u0_11, .int u0_12, .int u0_13])) : Option (Nat × va_E)) ∧ (u0_12.toInt ≤ 3) ∧ (0 ≤ u0_13.toInt) ∧ (u0_13.toInt ≤ 1) ∧ (t0_0.toInt ≤ u0_0.toInt) ∧ (u0_0.toInt ≤ t0_0.toInt) ∧ (x2.toInt ≤ u0_1.toInt + 4099) ∧ (u0_1.toInt ≤ x2.toInt + 4100) ∧ (t0_1.toInt ≤ u0_1.toInt) ∧ (u0_1.toInt ≤ t0_1.toInt) ∧ (t0_2.toInt ≤ u0_2.toInt) ∧ (u0_2.toInt ≤ t0_2.toInt) ∧ (t0_3.toInt ≤ u0_3.toInt) ∧ (u0_3.toInt ≤ t0_3.toInt) ∧ (x2.toInt ≤ u0_4.toInt + 4099) ∧ (u0_4.toInt ≤ x2.toInt + 1) ∧ (t0_4.toInt ≤ u0_4.toInt) ∧ (u0_4.toInt ≤ t0_4.toInt) ∧ (t0_5.toInt ≤ u0_5.toInt) ∧ (u0_5.toInt ≤ t0_5.toInt) ∧ (t0_6.toInt ≤ u0_6.toInt) ∧ (u0_6.toInt ≤ t0_6.toInt) ∧ (t0_7.toInt ≤ u0_7.toInt) ∧ (u0_7.toInt ≤ t0_7.toInt) ∧ (t0_8.toInt ≤ u0_8.toInt) ∧ (u0_8.toInt ≤ t0_8.toInt) ∧ (t0_9.toInt ≤ u0_9.toInt) ∧ (u0_9.toInt ≤ t0_9.toInt) ∧ (u0_12.toInt ≤ x2.toInt + 3) ∧ (x2.toInt ≤ u0_13.toInt + 4099) ∧ (u0_13.toInt ≤ x2.toInt + 1) ∧ (u0_13.toInt ≤ u0_12.toInt) ∧ (u0_0, u0_1, u0_2, u0_3, u0_4, u0_5, u0_6, u0_7, u0_8, u0_9, u0_10, u0_11, u0_12, u0_13) = (F_TR_findHexadecimal x2 x3 x4 t0_0 t0_1 t0_2 t0_3 t0_4 t0_5 t0_6 t0_7 t0_8 t0_9 t0_10 t0_11 t0_12 t0_13 t1_0)) := by
  intro sz
  refine q_into (by decide) (Nat.le_of_ble_eq_true rfl) ?_
  intro p e s m below meth c ls hsz C0 V hl
  have hx := C0.1
  have hb := C0.2.1
  obtain ⟨btt0_1, hZ9⟩ := n_w153 hI hT0
  obtain ⟨btt0_4, -⟩ := hZ9
  replace btt0_1 : q_F (0 ≤ t0_1.toInt ∧ t0_1.toInt ≤ 4100) := btt0_1
  replace btt0_4 : q_F (0 ≤ t0_4.toInt ∧ t0_4.toInt ≤ 1) := btt0_4
  have hF : q_un ws ws [153] := q_u0
  have hl : lv_has ls 12 [(0, .ref (q 153)), (1, .int x2), (2, .int x3), (3, .int x4)] := hl
  refine lv_aload_n hx hb d_18_25_0 rfl (lv_at hl 0 rfl) ?_
  refine q_get (ci := 16) (j := 6) (v := .ref (q 155)) C0 V i_TR rfl rfl hT0 (by decide) w_2146 rfl d_18_25_1 ?_
  refine lv_iload_n hx hb d_18_25_4 rfl (lv_at hl 1 rfl) ?_
  have ob22 : q_F (0 ≤ x2.toInt) := (by have h := hS; rw [S_TR_findHexadecimal.eq_1] at h; exact h.2.1)
  have ob23 : q_F (x2.toInt ≤ 4099) := (by have h := hS; rw [S_TR_findHexadecimal.eq_1] at h; replace h := q_s2 h; exact h.2.1)
  refine q_iald C0 V hT1 (q_ix (x := x2.toInt) rfl (by first | with_reducible exact q_fe ob22 | (have t1 : 0 ≤ x2.toInt := ob22; omega)) (by have t1 : 0 ≤ x2.toInt := ob22; have t2 : x2.toInt ≤ 4099 := ob23; have e9 : (((4100 : Int32).toNatClampNeg : Nat) : Int) = 4100 := (by decide); omega)) d_18_25_5 ?_
  obtain ⟨a24, e25⟩ := q_nm (t1_0 x2.toNatClampNeg : Int32)
  refine q_ti (v := a24) e25 ?_
  refine lv_bipush (v := 8) hx hb d_18_25_6 (by decide) ?_
  refine q_join (X := Int32) (fun z H locs ls _ => q_F (1 ≤ z.toInt) ∧ q_F (z.toInt ≤ 4) ∧ q_Wd D g (va_A ws sz) s ws H locs ∧ lv_has ls 12 [(0, .ref (q 153)), (1, .int x2), (2, .int x3), (3, .int x4)] ∧ F_TR_findHexadecimal_J44 x2 x3 x4 t0_0 t0_1 t0_2 t0_3 t0_4 t0_5 t0_6 t0_7 t0_8 t0_9 t0_10 t0_11 t0_12 t0_13 t1_0 z = (F_TR_findHexadecimal x2 x3 x4 t0_0 t0_1 t0_2 t0_3 t0_4 t0_5 t0_6 t0_7 t0_8 t0_9 t0_10 t0_11 t0_12 t0_13 t1_0) ∧ True ∧ S_TR_findHexadecimal_J44 x2 x3 x4 t0_0 t0_1 t0_2 t0_3 t0_4 t0_5 t0_6 t0_7 t0_8 t0_9 t0_10 t0_11 t0_12 t0_13 t1_0 z) (fun z => [.int z]) 44 0 0 ?_ ?_
  ·
    rintro lx26 H locs ls _ hZ9
    replace hZ9 := hZ9.2.2
    obtain ⟨V, hZ9⟩ := hZ9
    obtain ⟨hl, hZ9⟩ := hZ9
    obtain ⟨hR32, hS33⟩ := hZ9
    replace hl : lv_has ls 12 [(0, .ref (q 153)), (1, .int x2), (2, .int x3), (3, .int x4)] := hl
    refine lv_istore (lv' := [(4, .int lx26), (0, .ref (q 153)), (1, .int x2), (2, .int x3), (3, .int x4)]) hx hb d_18_25_44 hl (by decide) rfl (fun ls hl => ?_)
    refine q_ldc2 C0 rfl w_2506 d_18_25_46 ?_
    refine lv_aload_n hx hb d_18_25_49 rfl (lv_at hl 1 rfl) ?_
    refine q_get (ci := 16) (j := 8) (v := .int t0_6) C0 V i_TR rfl rfl hT0 (by decide) w_2148 rfl d_18_25_50 ?_
    refine lv_iload_n hx hb d_18_25_53 rfl (lv_at hl 2 rfl) ?_
    refine lv_isub hx hb d_18_25_54 ?_
    obtain ⟨a37, e38⟩ := q_nm (t0_6 - x2 : Int32)
    refine q_ti (v := a37) e38 ?_
    refine lv_i2l hx hb d_18_25_55 rfl ?_
    obtain ⟨j39, e40⟩ := q_nm (a37.toInt64 : Int64)
    refine q_tl (v := j39) e40 ?_
    refine lv_lmul hx hb d_18_25_56 ?_
    obtain ⟨j42, e43⟩ := q_nm (4 * j39 : Int64)
    refine q_tl (v := j42) e43 ?_
    refine q_ldc2 C0 rfl w_2507 d_18_25_57 ?_
    refine lv_lsub hx hb d_18_25_60 ?_
    obtain ⟨j45, e46⟩ := q_nm (j42 - 5 : Int64)
    refine q_tl (v := j45) e46 ?_
    refine lv_iload hx hb d_18_25_61 (lv_at hl 0 rfl) ?_
    refine lv_i2l hx hb d_18_25_63 rfl ?_
    obtain ⟨j48, e49⟩ := q_nm (lx26.toInt64 : Int64)
    refine q_tl (v := j48) e49 ?_
    refine lv_ladd hx hb d_18_25_64 ?_
    obtain ⟨j51, e52⟩ := q_nm (j45 + j48 : Int64)
    refine q_tl (v := j51) e52 ?_
    refine lv_aload_n hx hb d_18_25_65 rfl (lv_at hl 1 rfl) ?_
    refine q_get (ci := 16) (j := 9) (v := .long t0_7) C0 V i_TR rfl rfl hT0 (by decide) w_2149 rfl d_18_25_66 ?_
    refine lv_ladd hx hb d_18_25_69 ?_
    obtain ⟨j54, e55⟩ := q_nm (j51 + t0_7 : Int64)
    refine q_tl (v := j54) e55 ?_
    refine lv_lstore (lv' := [(5, .long j54), (4, .int lx26), (0, .ref (q 153)), (1, .int x2), (2, .int x3), (3, .int x4)]) hx hb d_18_25_70 hl (by decide) rfl (fun ls hl => ?_)
    refine lv_aload_n hx hb d_18_25_72 rfl (lv_at hl 2 rfl) ?_
    refine lv_lload hx hb d_18_25_73 (lv_at hl 0 rfl) ?_
    refine q_ldc2 C0 rfl w_2508 d_18_25_75 ?_
    refine W.lcmp hx hb d_18_25_78 ?_
    obtain ⟨a56, e57⟩ := q_nm (lg_cmp j54 2000 : Int32)
    refine q_ti (v := a56) e57 ?_
    refine q_join (X := Int32) (fun z H locs ls _ => q_F (0 ≤ z.toInt) ∧ q_F (z.toInt ≤ 1) ∧ q_Wd D g (va_A ws sz) s ws H locs ∧ lv_has ls 12 [(5, .long j54), (0, .ref (q 153)), (2, .int x3), (3, .int x4)] ∧ F_TR_findHexadecimal_J87 x2 x3 x4 t0_0 t0_1 t0_2 t0_3 t0_4 t0_5 t0_6 t0_7 t0_8 t0_9 t0_10 t0_11 t0_12 t0_13 t1_0 lx26 j54 z = (F_TR_findHexadecimal x2 x3 x4 t0_0 t0_1 t0_2 t0_3 t0_4 t0_5 t0_6 t0_7 t0_8 t0_9 t0_10 t0_11 t0_12 t0_13 t1_0) ∧ True ∧ S_TR_findHexadecimal_J87 x2 x3 x4 t0_0 t0_1 t0_2 t0_3 t0_4 t0_5 t0_6 t0_7 t0_8 t0_9 t0_10 t0_11 t0_12 t0_13 t1_0 lx26 j54 z) (fun z => [.int z, .ref (q 153)]) 87 0 0 ?_ ?_
    ·
      rintro lx59 H locs ls _ hZ9
      obtain ⟨i63, hZ9⟩ := hZ9
      obtain ⟨i64, hZ9⟩ := hZ9
      obtain ⟨V, hZ9⟩ := hZ9
      obtain ⟨hl, hZ9⟩ := hZ9
      obtain ⟨hR65, hS66⟩ := hZ9
      replace i63 : q_F (0 ≤ lx59.toInt) := i63
      replace i64 : q_F (lx59.toInt ≤ 1) := i64
      replace hl : lv_has ls 12 [(5, .long j54), (0, .ref (q 153)), (2, .int x3), (3, .int x4)] := hl
      refine q_put (ci := 16) (j := 16) (v := .int lx59) (ty := .boolean) C0 V i_TR o_TR n_TR rfl rfl hT0 (by decide) w_2156 rfl rfl (q_nz01 (q_Ile (x := 0) (y := lx59.toInt) (by decide) rfl (by first | with_reducible exact q_fe i63 | (have t1 : 0 ≤ lx59.toInt := i63; omega))) (q_Ile (x := lx59.toInt) (y := 1) rfl (by decide) (by first | with_reducible exact q_fe i64 | (have t1 : lx59.toInt ≤ 1 := i64; omega)))) (q_fz01 (q_Ile (x := 0) (y := lx59.toInt) (by decide) rfl (by first | with_reducible exact q_fe i63 | (have t1 : 0 ≤ lx59.toInt := i63; omega))) (q_Ile (x := lx59.toInt) (y := 1) rfl (by decide) (by first | with_reducible exact q_fe i64 | (have t1 : lx59.toInt ≤ 1 := i64; omega)))) (Nat.le_of_ble_eq_true rfl) d_18_25_87 (fun H locs w70 hu71 hT0 V => ?_)
      replace hT0 : w70[153]? = (some (q 153, .inr (16, [.int t0_0, .ref (q 154), .int t0_1, .int t0_2, .int t0_3, .int t0_4, .ref (q 155), .int t0_5, .int t0_6, .long t0_7, .ref (q 156), .int t0_8, .int t0_9, .long t0_10, .long t0_11, .int t0_12, .int lx59])) : Option (Nat × va_E)) := hT0
      replace hI := n_p153 hI hu71 hT0 (by first | with_reducible exact q_fe btt0_1 | exact ⟨(by have t1 : 0 ≤ t0_1.toInt ∧ t0_1.toInt ≤ 4100 := btt0_1; omega), (by have t1 : 0 ≤ t0_1.toInt ∧ t0_1.toInt ≤ 4100 := btt0_1; omega)⟩) (by first | with_reducible exact q_fe btt0_4 | exact ⟨(by have t1 : 0 ≤ t0_4.toInt ∧ t0_4.toInt ≤ 1 := btt0_4; omega), (by have t1 : 0 ≤ t0_4.toInt ∧ t0_4.toInt ≤ 1 := btt0_4; omega)⟩) ⟨(by first | with_reducible exact q_fe i63 | (have t1 : 0 ≤ lx59.toInt := i63; omega)), (by first | with_reducible exact q_fe i64 | (have t1 : lx59.toInt ≤ 1 := i64; omega))⟩
      replace hT1 := (hu71 _ (by decide)).trans hT1
      replace hF := q_us hF hu71 (by simp)
      refine lv_aload_n hx hb d_18_25_90 rfl (lv_at hl 1 rfl) ?_
      refine lv_lconst (v := 0) hx hb d_18_25_91 (by decide) ?_
      refine q_put (ci := 16) (j := 13) (v := .long 0) (ty := .long) C0 V i_TR o_TR n_TR rfl rfl hT0 (by decide) w_2153 rfl rfl rfl rfl (Nat.le_of_ble_eq_true rfl) d_18_25_92 (fun H locs w72 hu73 hT0 V => ?_)
      replace hT0 : w72[153]? = (some (q 153, .inr (16, [.int t0_0, .ref (q 154), .int t0_1, .int t0_2, .int t0_3, .int t0_4, .ref (q 155), .int t0_5, .int t0_6, .long t0_7, .ref (q 156), .int t0_8, .int t0_9, .long 0, .long t0_11, .int t0_12, .int lx59])) : Option (Nat × va_E)) := hT0
      replace hI := n_p153 hI hu73 hT0 (by first | with_reducible exact q_fe btt0_1 | exact ⟨(by have t1 : 0 ≤ t0_1.toInt ∧ t0_1.toInt ≤ 4100 := btt0_1; omega), (by have t1 : 0 ≤ t0_1.toInt ∧ t0_1.toInt ≤ 4100 := btt0_1; omega)⟩) (by first | with_reducible exact q_fe btt0_4 | exact ⟨(by have t1 : 0 ≤ t0_4.toInt ∧ t0_4.toInt ≤ 1 := btt0_4; omega), (by have t1 : 0 ≤ t0_4.toInt ∧ t0_4.toInt ≤ 1 := btt0_4; omega)⟩) ⟨(by first | with_reducible exact q_fe i63 | (have t1 : 0 ≤ lx59.toInt := i63; omega)), (by first | with_reducible exact q_fe i64 | (have t1 : lx59.toInt ≤ 1 := i64; omega))⟩
      replace hT1 := (hu73 _ (by decide)).trans hT1
      replace hF := q_us hF hu73 (by simp)
      refine lv_aload_n hx hb d_18_25_95 rfl (lv_at hl 1 rfl) ?_
      refine lv_iload_n hx hb d_18_25_96 rfl (lv_at hl 3 rfl) ?_
      refine lv_i2l hx hb d_18_25_97 rfl ?_
      obtain ⟨j74, e75⟩ := q_nm (x4.toInt64 : Int64)
      refine q_tl (v := j74) e75 ?_
      refine q_put (ci := 16) (j := 14) (v := .long j74) (ty := .long) C0 V i_TR o_TR n_TR rfl rfl hT0 (by decide) w_2154 rfl rfl rfl rfl (Nat.le_of_ble_eq_true rfl) d_18_25_98 (fun H locs w77 hu78 hT0 V => ?_)
      replace hT0 : w77[153]? = (some (q 153, .inr (16, [.int t0_0, .ref (q 154), .int t0_1, .int t0_2, .int t0_3, .int t0_4, .ref (q 155), .int t0_5, .int t0_6, .long t0_7, .ref (q 156), .int t0_8, .int t0_9, .long 0, .long j74, .int t0_12, .int lx59])) : Option (Nat × va_E)) := hT0
      replace hI := n_p153 hI hu78 hT0 (by first | with_reducible exact q_fe btt0_1 | exact ⟨(by have t1 : 0 ≤ t0_1.toInt ∧ t0_1.toInt ≤ 4100 := btt0_1; omega), (by have t1 : 0 ≤ t0_1.toInt ∧ t0_1.toInt ≤ 4100 := btt0_1; omega)⟩) (by first | with_reducible exact q_fe btt0_4 | exact ⟨(by have t1 : 0 ≤ t0_4.toInt ∧ t0_4.toInt ≤ 1 := btt0_4; omega), (by have t1 : 0 ≤ t0_4.toInt ∧ t0_4.toInt ≤ 1 := btt0_4; omega)⟩) ⟨(by first | with_reducible exact q_fe i63 | (have t1 : 0 ≤ lx59.toInt := i63; omega)), (by first | with_reducible exact q_fe i64 | (have t1 : lx59.toInt ≤ 1 := i64; omega))⟩
      replace hT1 := (hu78 _ (by decide)).trans hT1
      replace hF := q_us hF hu78 (by simp)
      refine lv_aload_n hx hb d_18_25_101 rfl (lv_at hl 1 rfl) ?_
      refine lv_iconst (v := 1) hx hb d_18_25_102 (by decide) ?_
      refine q_put (ci := 16) (j := 15) (v := .int 1) (ty := .int) C0 V i_TR o_TR n_TR rfl rfl hT0 (by decide) w_2155 rfl rfl rfl rfl (Nat.le_of_ble_eq_true rfl) d_18_25_103 (fun H locs w79 hu80 hT0 V => ?_)
      replace hT0 : w79[153]? = (some (q 153, .inr (16, [.int t0_0, .ref (q 154), .int t0_1, .int t0_2, .int t0_3, .int t0_4, .ref (q 155), .int t0_5, .int t0_6, .long t0_7, .ref (q 156), .int t0_8, .int t0_9, .long 0, .long j74, .int 1, .int lx59])) : Option (Nat × va_E)) := hT0
      replace hI := n_p153 hI hu80 hT0 (by first | with_reducible exact q_fe btt0_1 | exact ⟨(by have t1 : 0 ≤ t0_1.toInt ∧ t0_1.toInt ≤ 4100 := btt0_1; omega), (by have t1 : 0 ≤ t0_1.toInt ∧ t0_1.toInt ≤ 4100 := btt0_1; omega)⟩) (by first | with_reducible exact q_fe btt0_4 | exact ⟨(by have t1 : 0 ≤ t0_4.toInt ∧ t0_4.toInt ≤ 1 := btt0_4; omega), (by have t1 : 0 ≤ t0_4.toInt ∧ t0_4.toInt ≤ 1 := btt0_4; omega)⟩) ⟨(by first | with_reducible exact q_fe i63 | (have t1 : 0 ≤ lx59.toInt := i63; omega)), (by first | with_reducible exact q_fe i64 | (have t1 : lx59.toInt ≤ 1 := i64; omega))⟩
      replace hT1 := (hu80 _ (by decide)).trans hT1
      replace hF := q_us hF hu80 (by simp)
      refine lv_aload_n hx hb d_18_25_106 rfl (lv_at hl 1 rfl) ?_
      refine q_get (ci := 16) (j := 16) (v := .int lx59) C0 V i_TR rfl rfl hT0 (by decide) w_2156 rfl d_18_25_107 ?_
      refine lv_if_ne (tgt := 122) hx hb d_18_25_110 (by decide) (fun c81 => ?_) (fun c81 => ?_)
      ·
        exact q_retv C0 V (⟨hI, hF, t0_0, t0_1, t0_2, t0_3, t0_4, t0_5, t0_6, t0_7, t0_8, t0_9, 0, j74, 1, lx59, hT0, (show (1 : Int32).toInt ≤ 3 from (by have z28 : (0 : Int64).toInt = 0 := rfl; have z30 : (1 : Int32).toInt = 1 := rfl; omega)), (show 0 ≤ lx59.toInt from (by have z28 : (0 : Int64).toInt = 0 := rfl; have z30 : (1 : Int32).toInt = 1 := rfl; have t1 : 0 ≤ lx59.toInt := i63; omega)), (show lx59.toInt ≤ 1 from (by have z28 : (0 : Int64).toInt = 0 := rfl; have z30 : (1 : Int32).toInt = 1 := rfl; have t1 : lx59.toInt ≤ 1 := i64; omega)), (show t0_0.toInt ≤ t0_0.toInt from (by have z28 : (0 : Int64).toInt = 0 := rfl; have z30 : (1 : Int32).toInt = 1 := rfl; omega)), (show t0_0.toInt ≤ t0_0.toInt from (by have z28 : (0 : Int64).toInt = 0 := rfl; have z30 : (1 : Int32).toInt = 1 := rfl; omega)), (show x2.toInt ≤ t0_1.toInt + 4099 from (by have z28 : (0 : Int64).toInt = 0 := rfl; have z30 : (1 : Int32).toInt = 1 := rfl; have t1 : 0 ≤ t0_1.toInt ∧ t0_1.toInt ≤ 4100 := btt0_1; have t2 : x2.toInt ≤ 4099 := ob23; omega)), (show t0_1.toInt ≤ x2.toInt + 4100 from (by have z28 : (0 : Int64).toInt = 0 := rfl; have z30 : (1 : Int32).toInt = 1 := rfl; have t1 : 0 ≤ t0_1.toInt ∧ t0_1.toInt ≤ 4100 := btt0_1; have t2 : 0 ≤ x2.toInt := ob22; omega)), (show t0_1.toInt ≤ t0_1.toInt from (by have z28 : (0 : Int64).toInt = 0 := rfl; have z30 : (1 : Int32).toInt = 1 := rfl; omega)), (show t0_1.toInt ≤ t0_1.toInt from (by have z28 : (0 : Int64).toInt = 0 := rfl; have z30 : (1 : Int32).toInt = 1 := rfl; omega)), (show t0_2.toInt ≤ t0_2.toInt from (by have z28 : (0 : Int64).toInt = 0 := rfl; have z30 : (1 : Int32).toInt = 1 := rfl; omega)), (show t0_2.toInt ≤ t0_2.toInt from (by have z28 : (0 : Int64).toInt = 0 := rfl; have z30 : (1 : Int32).toInt = 1 := rfl; omega)), (show t0_3.toInt ≤ t0_3.toInt from (by have z28 : (0 : Int64).toInt = 0 := rfl; have z30 : (1 : Int32).toInt = 1 := rfl; omega)), (show t0_3.toInt ≤ t0_3.toInt from (by have z28 : (0 : Int64).toInt = 0 := rfl; have z30 : (1 : Int32).toInt = 1 := rfl; omega)), (show x2.toInt ≤ t0_4.toInt + 4099 from (by have z28 : (0 : Int64).toInt = 0 := rfl; have z30 : (1 : Int32).toInt = 1 := rfl; have t1 : 0 ≤ t0_4.toInt ∧ t0_4.toInt ≤ 1 := btt0_4; have t2 : x2.toInt ≤ 4099 := ob23; omega)), (show t0_4.toInt ≤ x2.toInt + 1 from (by have z28 : (0 : Int64).toInt = 0 := rfl; have z30 : (1 : Int32).toInt = 1 := rfl; have t1 : 0 ≤ t0_4.toInt ∧ t0_4.toInt ≤ 1 := btt0_4; have t2 : 0 ≤ x2.toInt := ob22; omega)), (show t0_4.toInt ≤ t0_4.toInt from (by have z28 : (0 : Int64).toInt = 0 := rfl; have z30 : (1 : Int32).toInt = 1 := rfl; omega)), (show t0_4.toInt ≤ t0_4.toInt from (by have z28 : (0 : Int64).toInt = 0 := rfl; have z30 : (1 : Int32).toInt = 1 := rfl; omega)), (show t0_5.toInt ≤ t0_5.toInt from (by have z28 : (0 : Int64).toInt = 0 := rfl; have z30 : (1 : Int32).toInt = 1 := rfl; omega)), (show t0_5.toInt ≤ t0_5.toInt from (by have z28 : (0 : Int64).toInt = 0 := rfl; have z30 : (1 : Int32).toInt = 1 := rfl; omega)), (show t0_6.toInt ≤ t0_6.toInt from (by have z28 : (0 : Int64).toInt = 0 := rfl; have z30 : (1 : Int32).toInt = 1 := rfl; omega)), (show t0_6.toInt ≤ t0_6.toInt from (by have z28 : (0 : Int64).toInt = 0 := rfl; have z30 : (1 : Int32).toInt = 1 := rfl; omega)), (show t0_7.toInt ≤ t0_7.toInt from (by have z28 : (0 : Int64).toInt = 0 := rfl; have z30 : (1 : Int32).toInt = 1 := rfl; omega)), (show t0_7.toInt ≤ t0_7.toInt from (by have z28 : (0 : Int64).toInt = 0 := rfl; have z30 : (1 : Int32).toInt = 1 := rfl; omega)), (show t0_8.toInt ≤ t0_8.toInt from (by have z28 : (0 : Int64).toInt = 0 := rfl; have z30 : (1 : Int32).toInt = 1 := rfl; omega)), (show t0_8.toInt ≤ t0_8.toInt from (by have z28 : (0 : Int64).toInt = 0 := rfl; have z30 : (1 : Int32).toInt = 1 := rfl; omega)), (show t0_9.toInt ≤ t0_9.toInt from (by have z28 : (0 : Int64).toInt = 0 := rfl; have z30 : (1 : Int32).toInt = 1 := rfl; omega)), (show t0_9.toInt ≤ t0_9.toInt from (by have z28 : (0 : Int64).toInt = 0 := rfl; have z30 : (1 : Int32).toInt = 1 := rfl; omega)), (show (1 : Int32).toInt ≤ x2.toInt + 3 from (by have z28 : (0 : Int64).toInt = 0 := rfl; have z30 : (1 : Int32).toInt = 1 := rfl; have t1 : 0 ≤ x2.toInt := ob22; omega)), (show x2.toInt ≤ lx59.toInt + 4099 from (by have z28 : (0 : Int64).toInt = 0 := rfl; have z30 : (1 : Int32).toInt = 1 := rfl; have t1 : x2.toInt ≤ 4099 := ob23; have t2 : 0 ≤ lx59.toInt := i63; omega)), (show lx59.toInt ≤ x2.toInt + 1 from (by have z28 : (0 : Int64).toInt = 0 := rfl; have z30 : (1 : Int32).toInt = 1 := rfl; have t1 : 0 ≤ x2.toInt := ob22; have t2 : lx59.toInt ≤ 1 := i64; omega)), (show lx59.toInt ≤ (1 : Int32).toInt from (by have z28 : (0 : Int64).toInt = 0 := rfl; have z30 : (1 : Int32).toInt = 1 := rfl; have t1 : lx59.toInt ≤ 1 := i64; omega)), (show (t0_0, t0_1, t0_2, t0_3, t0_4, t0_5, t0_6, t0_7, t0_8, t0_9, (0 : Int64), j74, (1 : Int32), lx59) = (F_TR_findHexadecimal x2 x3 x4 t0_0 t0_1 t0_2 t0_3 t0_4 t0_5 t0_6 t0_7 t0_8 t0_9 t0_10 t0_11 t0_12 t0_13 t1_0) from Eq.trans (by rw [← e75, F_TR_findHexadecimal_J87.eq_1, if_neg c81]) hR65)⟩) d_18_25_122
      ·
        have b83 : q_F (lx59.toInt = 0) := (q_eqI c81)
        refine lv_lload hx hb d_18_25_113 (lv_at hl 0 rfl) ?_
        refine q_ldc2 C0 rfl w_2509 d_18_25_115 ?_
        refine W.lcmp hx hb d_18_25_118 ?_
        obtain ⟨a84, e85⟩ := q_nm (lg_cmp j54 (-2000) : Int32)
        refine q_ti (v := a84) e85 ?_
        refine lv_if_ge (tgt := 123) hx hb d_18_25_119 (by decide) (fun c87 => ?_) (fun c87 => ?_)
        ·
          refine lv_aload_n hx hb d_18_25_123 rfl (lv_at hl 1 rfl) ?_
          refine lv_lload hx hb d_18_25_124 (lv_at hl 0 rfl) ?_
          refine lv_iload_n hx hb d_18_25_126 rfl (lv_at hl 2 rfl) ?_
          refine lv_i2l hx hb d_18_25_127 rfl ?_
          obtain ⟨j89, e90⟩ := q_nm (x3.toInt64 : Int64)
          refine q_tl (v := j89) e90 ?_
          refine lv_lsub hx hb d_18_25_128 ?_
          obtain ⟨j92, e93⟩ := q_nm (j54 - j89 : Int64)
          refine q_tl (v := j92) e93 ?_
          refine lv_lconst (v := 1) hx hb d_18_25_129 (by decide) ?_
          refine lv_ladd hx hb d_18_25_130 ?_
          obtain ⟨j94, e95⟩ := q_nm (j92 + 1 : Int64)
          refine q_tl (v := j94) e95 ?_
          refine lv_iload_n hx hb d_18_25_131 rfl (lv_at hl 3 rfl) ?_
          refine lv_i2l hx hb d_18_25_132 rfl ?_
          obtain ⟨j96, e97⟩ := q_nm (x4.toInt64 : Int64)
          refine q_tl (v := j96) e97 ?_
          refine W.lcmp hx hb d_18_25_133 ?_
          obtain ⟨a99, e100⟩ := q_nm (lg_cmp j94 j96 : Int32)
          refine q_ti (v := a99) e100 ?_
          refine q_join (X := Int64) (fun z H locs ls _ => q_Wd D g (va_A ws sz) s w79 H locs ∧ lv_has ls 12 [(5, .long j54), (0, .ref (q 153))] ∧ F_TR_findHexadecimal_J149 x2 x3 x4 t0_0 t0_1 t0_2 t0_3 t0_4 t0_5 t0_6 t0_7 t0_8 t0_9 t0_10 t0_11 t0_12 t0_13 t1_0 lx26 j54 lx59 j74 z = (F_TR_findHexadecimal x2 x3 x4 t0_0 t0_1 t0_2 t0_3 t0_4 t0_5 t0_6 t0_7 t0_8 t0_9 t0_10 t0_11 t0_12 t0_13 t1_0) ∧ True ∧ S_TR_findHexadecimal_J149 x2 x3 x4 t0_0 t0_1 t0_2 t0_3 t0_4 t0_5 t0_6 t0_7 t0_8 t0_9 t0_10 t0_11 t0_12 t0_13 t1_0 lx26 j54 lx59 j74 z) (fun z => [.long z, .ref (q 153)]) 149 0 0 ?_ ?_
          ·
            rintro lx102 H locs ls _ ⟨V, hl, hR106, hS107⟩
            replace hl : lv_has ls 12 [(5, .long j54), (0, .ref (q 153))] := hl
            refine q_put (ci := 16) (j := 14) (v := .long lx102) (ty := .long) C0 V i_TR o_TR n_TR rfl rfl hT0 (by decide) w_2154 rfl rfl rfl rfl (Nat.le_of_ble_eq_true rfl) d_18_25_149 (fun H locs w111 hu112 hT0 V => ?_)
            replace hT0 : w111[153]? = (some (q 153, .inr (16, [.int t0_0, .ref (q 154), .int t0_1, .int t0_2, .int t0_3, .int t0_4, .ref (q 155), .int t0_5, .int t0_6, .long t0_7, .ref (q 156), .int t0_8, .int t0_9, .long 0, .long lx102, .int 1, .int lx59])) : Option (Nat × va_E)) := hT0
            replace hI := n_p153 hI hu112 hT0 (by first | with_reducible exact q_fe btt0_1 | exact ⟨(by have t1 : 0 ≤ t0_1.toInt ∧ t0_1.toInt ≤ 4100 := btt0_1; omega), (by have t1 : 0 ≤ t0_1.toInt ∧ t0_1.toInt ≤ 4100 := btt0_1; omega)⟩) (by first | with_reducible exact q_fe btt0_4 | exact ⟨(by have t1 : 0 ≤ t0_4.toInt ∧ t0_4.toInt ≤ 1 := btt0_4; omega), (by have t1 : 0 ≤ t0_4.toInt ∧ t0_4.toInt ≤ 1 := btt0_4; omega)⟩) ⟨(by first | with_reducible exact q_fe i63 | (have t1 : 0 ≤ lx59.toInt := i63; omega)), (by first | with_reducible exact q_fe i64 | (have t1 : lx59.toInt ≤ 1 := i64; omega))⟩
            replace hT1 := (hu112 _ (by decide)).trans hT1
            replace hF := q_us hF hu112 (by simp)
            refine lv_lload hx hb d_18_25_152 (lv_at hl 0 rfl) ?_
            refine lv_lstore (lv' := [(7, .long j54), (5, .long j54), (0, .ref (q 153))]) hx hb d_18_25_154 hl (by decide) rfl (fun ls hl => ?_)
            refine q_loop (X := Nat × Int64 × Int64) (fun z H locs ls w117 => q_Wd D g (va_A ws sz) s w117 H locs ∧ lv_has ls 12 [(7, .long z.2.1), (0, .ref (q 153))] ∧ q_I (msh g q) q w117 ∧ q_un ws w117 [153] ∧ w117[153]? = (some (q 153, .inr (16, [.int t0_0, .ref (q 154), .int t0_1, .int t0_2, .int t0_3, .int t0_4, .ref (q 155), .int t0_5, .int t0_6, .long t0_7, .ref (q 156), .int t0_8, .int t0_9, .long z.2.2, .long lx102, .int 1, .int lx59])) : Option (Nat × va_E)) ∧ w117[155]? = (some (q 155, .inl (g 0, (4100 : Int32).toNatClampNeg, .inl t1_0)) : Option (Nat × va_E)) ∧ F_TR_findHexadecimal_L156 x2 x3 x4 t0_0 t0_1 t0_2 t0_3 t0_4 t0_5 t0_6 t0_7 t0_8 t0_9 t0_10 t0_11 t0_12 t0_13 t1_0 lx26 j54 lx59 j74 lx102 z.1 z.2.1 z.2.2 = (F_TR_findHexadecimal x2 x3 x4 t0_0 t0_1 t0_2 t0_3 t0_4 t0_5 t0_6 t0_7 t0_8 t0_9 t0_10 t0_11 t0_12 t0_13 t1_0) ∧ True ∧ S_TR_findHexadecimal_L156 x2 x3 x4 t0_0 t0_1 t0_2 t0_3 t0_4 t0_5 t0_6 t0_7 t0_8 t0_9 t0_10 t0_11 t0_12 t0_13 t1_0 lx26 j54 lx59 j74 lx102 z.1 z.2.1 z.2.2) (fun z => z.1) ?_ ((1000000 : Nat), (j54 : Int64), (0 : Int64)) _ _ _ w111 ⟨V, q_lw hl (q_lw1 0 rfl (q_lw1 2 rfl q_lw0)), hI, hF, hT0, hT1, (show F_TR_findHexadecimal_L156 x2 x3 x4 t0_0 t0_1 t0_2 t0_3 t0_4 t0_5 t0_6 t0_7 t0_8 t0_9 t0_10 t0_11 t0_12 t0_13 t1_0 lx26 j54 lx59 j74 lx102 1000000 j54 0 = (F_TR_findHexadecimal x2 x3 x4 t0_0 t0_1 t0_2 t0_3 t0_4 t0_5 t0_6 t0_7 t0_8 t0_9 t0_10 t0_11 t0_12 t0_13 t1_0) from Eq.trans (by rw [F_TR_findHexadecimal_J149.eq_1]) hR106), (show True ∧ S_TR_findHexadecimal_L156 x2 x3 x4 t0_0 t0_1 t0_2 t0_3 t0_4 t0_5 t0_6 t0_7 t0_8 t0_9 t0_10 t0_11 t0_12 t0_13 t1_0 lx26 j54 lx59 j74 lx102 1000000 j54 0 from (by have h := hS107; rw [S_TR_findHexadecimal_J149.eq_1] at h; with_reducible exact h))⟩
            rintro ⟨fu122, lx114, lx115⟩ H locs ls w117 ⟨V, hl, hI, hF, hO118, hO119, hR120, hS121⟩ ih116
            obtain ⟨fm124, rfl⟩ : ∃ m, fu122 = m + 1 := Nat.exists_eq_succ_of_ne_zero (fun e => by subst e; rw [S_TR_findHexadecimal_L156.eq_1] at hS121; exact hS121.2)
            replace hl : lv_has ls 12 [(7, .long lx114), (0, .ref (q 153))] := hl
            replace hO118 : w117[153]? = (some (q 153, .inr (16, [.int t0_0, .ref (q 154), .int t0_1, .int t0_2, .int t0_3, .int t0_4, .ref (q 155), .int t0_5, .int t0_6, .long t0_7, .ref (q 156), .int t0_8, .int t0_9, .long lx115, .long lx102, .int 1, .int lx59])) : Option (Nat × va_E)) := hO118
            replace hO119 : w117[155]? = (some (q 155, .inl (g 0, (4100 : Int32).toNatClampNeg, .inl t1_0)) : Option (Nat × va_E)) := hO119
            refine lv_lload hx hb d_18_25_156 (lv_at hl 0 rfl) ?_
            refine lv_aload_n hx hb d_18_25_158 rfl (lv_at hl 1 rfl) ?_
            refine q_get (ci := 16) (j := 14) (v := .long lx102) C0 V i_TR rfl rfl hO118 (by decide) w_2154 rfl d_18_25_159 ?_
            refine W.lcmp hx hb d_18_25_162 ?_
            obtain ⟨a125, e126⟩ := q_nm (lg_cmp lx114 lx102 : Int32)
            refine q_ti (v := a125) e126 ?_
            refine lv_if_lt (tgt := 195) hx hb d_18_25_163 (by decide) (fun c128 => ?_) (fun c128 => ?_)
            ·
              refine lv_iconst (v := 0) hx hb d_18_25_195 (by decide) ?_
              refine lv_istore (lv' := [(7, .int 0), (0, .ref (q 153))]) hx hb d_18_25_196 hl (by decide) rfl (fun ls hl => ?_)
              refine q_ldc2 C0 rfl w_2506 d_18_25_198 ?_
              refine lv_aload_n hx hb d_18_25_201 rfl (lv_at hl 1 rfl) ?_
              refine q_get (ci := 16) (j := 8) (v := .int t0_6) C0 V i_TR rfl rfl hO118 (by decide) w_2148 rfl d_18_25_202 ?_
              refine lv_aload_n hx hb d_18_25_205 rfl (lv_at hl 1 rfl) ?_
              refine q_get (ci := 16) (j := 7) (v := .int t0_5) C0 V i_TR rfl rfl hO118 (by decide) w_2147 rfl d_18_25_206 ?_
              refine lv_isub hx hb d_18_25_209 ?_
              obtain ⟨a130, e131⟩ := q_nm (t0_6 - t0_5 : Int32)
              refine q_ti (v := a130) e131 ?_
              refine lv_i2l hx hb d_18_25_210 rfl ?_
              obtain ⟨j132, e133⟩ := q_nm (a130.toInt64 : Int64)
              refine q_tl (v := j132) e133 ?_
              refine lv_lmul hx hb d_18_25_211 ?_
              obtain ⟨j135, e136⟩ := q_nm (4 * j132 : Int64)
              refine q_tl (v := j135) e136 ?_
              refine lv_aload_n hx hb d_18_25_212 rfl (lv_at hl 1 rfl) ?_
              refine q_get (ci := 16) (j := 9) (v := .long t0_7) C0 V i_TR rfl rfl hO118 (by decide) w_2149 rfl d_18_25_213 ?_
              refine lv_ladd hx hb d_18_25_216 ?_
              obtain ⟨j138, e139⟩ := q_nm (j135 + t0_7 : Int64)
              refine q_tl (v := j138) e139 ?_
              refine lv_lstore (lv' := [(8, .long j138), (7, .int 0), (0, .ref (q 153))]) hx hb d_18_25_217 hl (by decide) rfl (fun ls hl => ?_)
              refine lv_aload_n hx hb d_18_25_219 rfl (lv_at hl 2 rfl) ?_
              refine q_get (ci := 16) (j := 14) (v := .long lx102) C0 V i_TR rfl rfl hO118 (by decide) w_2154 rfl d_18_25_220 ?_
              refine q_ldc2 C0 rfl w_2510 d_18_25_223 ?_
              refine lv_lsub hx hb d_18_25_226 ?_
              obtain ⟨j140, e141⟩ := q_nm (lx102 - 2 : Int64)
              refine q_tl (v := j140) e141 ?_
              refine lv_lstore (lv' := [(10, .long j140), (8, .long j138), (7, .int 0), (0, .ref (q 153))]) hx hb d_18_25_227 hl (by decide) rfl (fun ls hl => ?_)
              refine q_loop (X := Nat × Int64 × Int32) (fun z H locs ls _ => q_F (0 ≤ z.2.2.toInt) ∧ q_F (z.2.2.toInt ≤ 1) ∧ q_Wd D g (va_A ws sz) s w117 H locs ∧ lv_has ls 12 [(10, .long z.2.1), (8, .long j138), (7, .int z.2.2), (0, .ref (q 153))] ∧ F_TR_findHexadecimal_L229 (F_TR_findHexadecimal_L156 x2 x3 x4 t0_0 t0_1 t0_2 t0_3 t0_4 t0_5 t0_6 t0_7 t0_8 t0_9 t0_10 t0_11 t0_12 t0_13 t1_0 lx26 j54 lx59 j74 lx102 fm124) x2 x3 x4 t0_0 t0_1 t0_2 t0_3 t0_4 t0_5 t0_6 t0_7 t0_8 t0_9 t0_10 t0_11 t0_12 t0_13 t1_0 lx26 j54 lx59 j74 lx102 lx114 lx115 j138 z.1 z.2.1 z.2.2 = (F_TR_findHexadecimal x2 x3 x4 t0_0 t0_1 t0_2 t0_3 t0_4 t0_5 t0_6 t0_7 t0_8 t0_9 t0_10 t0_11 t0_12 t0_13 t1_0) ∧ True ∧ S_TR_findHexadecimal_L229 (S_TR_findHexadecimal_L156 x2 x3 x4 t0_0 t0_1 t0_2 t0_3 t0_4 t0_5 t0_6 t0_7 t0_8 t0_9 t0_10 t0_11 t0_12 t0_13 t1_0 lx26 j54 lx59 j74 lx102 fm124) x2 x3 x4 t0_0 t0_1 t0_2 t0_3 t0_4 t0_5 t0_6 t0_7 t0_8 t0_9 t0_10 t0_11 t0_12 t0_13 t1_0 lx26 j54 lx59 j74 lx102 lx114 lx115 j138 z.1 z.2.1 z.2.2) (fun z => z.1) ?_ ((1000000 : Nat), (j140 : Int64), (0 : Int32)) _ _ _ w117 ⟨(show q_F (0 ≤ 0) from (show 0 ≤ 0 from by omega)), (show q_F (0 ≤ 1) from (show 0 ≤ 1 from by omega)), V, q_lw hl (q_lw1 0 rfl (q_lw1 1 rfl (q_lw1 2 rfl (q_lw1 3 rfl q_lw0)))), (show F_TR_findHexadecimal_L229 (F_TR_findHexadecimal_L156 x2 x3 x4 t0_0 t0_1 t0_2 t0_3 t0_4 t0_5 t0_6 t0_7 t0_8 t0_9 t0_10 t0_11 t0_12 t0_13 t1_0 lx26 j54 lx59 j74 lx102 fm124) x2 x3 x4 t0_0 t0_1 t0_2 t0_3 t0_4 t0_5 t0_6 t0_7 t0_8 t0_9 t0_10 t0_11 t0_12 t0_13 t1_0 lx26 j54 lx59 j74 lx102 lx114 lx115 j138 1000000 j140 0 = (F_TR_findHexadecimal x2 x3 x4 t0_0 t0_1 t0_2 t0_3 t0_4 t0_5 t0_6 t0_7 t0_8 t0_9 t0_10 t0_11 t0_12 t0_13 t1_0) from Eq.trans (by have c128x := c128; rw [← e126] at c128x; rw [← e141, ← e139, ← e136, ← e133, ← e131, F_TR_findHexadecimal_L156.eq_2, if_pos c128x]) hR120), (show True ∧ S_TR_findHexadecimal_L229 (S_TR_findHexadecimal_L156 x2 x3 x4 t0_0 t0_1 t0_2 t0_3 t0_4 t0_5 t0_6 t0_7 t0_8 t0_9 t0_10 t0_11 t0_12 t0_13 t1_0 lx26 j54 lx59 j74 lx102 fm124) x2 x3 x4 t0_0 t0_1 t0_2 t0_3 t0_4 t0_5 t0_6 t0_7 t0_8 t0_9 t0_10 t0_11 t0_12 t0_13 t1_0 lx26 j54 lx59 j74 lx102 lx114 lx115 j138 1000000 j140 0 from (by rw [← e141, ← e139, ← e136, ← e133, ← e131]; have h := hS121; rw [S_TR_findHexadecimal_L156.eq_2] at h; have c128x := c128; rw [← e126] at c128x; rw [if_pos c128x] at h; with_reducible exact h))⟩
              rintro ⟨fu151, lx144, lx145⟩ H locs ls _ ⟨i146, i147, V, hl, hR149, hS150⟩ ih148
              obtain ⟨fm153, rfl⟩ : ∃ m, fu151 = m + 1 := Nat.exists_eq_succ_of_ne_zero (fun e => by subst e; rw [S_TR_findHexadecimal_L229.eq_1] at hS150; exact hS150.2)
              clear i146
              clear i147
              replace hl : lv_has ls 12 [(10, .long lx144), (8, .long j138), (7, .int lx145), (0, .ref (q 153))] := hl
              refine lv_lload hx hb d_18_25_229 (lv_at hl 0 rfl) ?_
              refine lv_lload hx hb d_18_25_231 (lv_at hl 1 rfl) ?_
              refine W.lcmp hx hb d_18_25_233 ?_
              obtain ⟨a154, e155⟩ := q_nm (lg_cmp lx144 j138 : Int32)
              refine q_ti (v := a154) e155 ?_
              refine q_join (X := Unit) (fun z H locs ls _ => q_Wd D g (va_A ws sz) s w117 H locs ∧ lv_has ls 12 [(7, .int lx145), (0, .ref (q 153))] ∧ F_TR_findHexadecimal_J268 (F_TR_findHexadecimal_L156 x2 x3 x4 t0_0 t0_1 t0_2 t0_3 t0_4 t0_5 t0_6 t0_7 t0_8 t0_9 t0_10 t0_11 t0_12 t0_13 t1_0 lx26 j54 lx59 j74 lx102 fm124) (F_TR_findHexadecimal_L229 (F_TR_findHexadecimal_L156 x2 x3 x4 t0_0 t0_1 t0_2 t0_3 t0_4 t0_5 t0_6 t0_7 t0_8 t0_9 t0_10 t0_11 t0_12 t0_13 t1_0 lx26 j54 lx59 j74 lx102 fm124) x2 x3 x4 t0_0 t0_1 t0_2 t0_3 t0_4 t0_5 t0_6 t0_7 t0_8 t0_9 t0_10 t0_11 t0_12 t0_13 t1_0 lx26 j54 lx59 j74 lx102 lx114 lx115 j138 fm153) x2 x3 x4 t0_0 t0_1 t0_2 t0_3 t0_4 t0_5 t0_6 t0_7 t0_8 t0_9 t0_10 t0_11 t0_12 t0_13 t1_0 lx26 j54 lx59 j74 lx102 lx114 lx115 j138 lx144 lx145 = (F_TR_findHexadecimal x2 x3 x4 t0_0 t0_1 t0_2 t0_3 t0_4 t0_5 t0_6 t0_7 t0_8 t0_9 t0_10 t0_11 t0_12 t0_13 t1_0) ∧ True ∧ S_TR_findHexadecimal_J268 (S_TR_findHexadecimal_L156 x2 x3 x4 t0_0 t0_1 t0_2 t0_3 t0_4 t0_5 t0_6 t0_7 t0_8 t0_9 t0_10 t0_11 t0_12 t0_13 t1_0 lx26 j54 lx59 j74 lx102 fm124) (S_TR_findHexadecimal_L229 (S_TR_findHexadecimal_L156 x2 x3 x4 t0_0 t0_1 t0_2 t0_3 t0_4 t0_5 t0_6 t0_7 t0_8 t0_9 t0_10 t0_11 t0_12 t0_13 t1_0 lx26 j54 lx59 j74 lx102 fm124) x2 x3 x4 t0_0 t0_1 t0_2 t0_3 t0_4 t0_5 t0_6 t0_7 t0_8 t0_9 t0_10 t0_11 t0_12 t0_13 t1_0 lx26 j54 lx59 j74 lx102 lx114 lx115 j138 fm153) x2 x3 x4 t0_0 t0_1 t0_2 t0_3 t0_4 t0_5 t0_6 t0_7 t0_8 t0_9 t0_10 t0_11 t0_12 t0_13 t1_0 lx26 j54 lx59 j74 lx102 lx114 lx115 j138 lx144 lx145) (fun z => []) 268 0 0 ?_ ?_
              ·
                rintro _ H locs ls _ ⟨V, hl, hR160, hS161⟩
                replace hl : lv_has ls 12 [(7, .int lx145), (0, .ref (q 153))] := hl
                refine lv_aload_n hx hb d_18_25_268 rfl (lv_at hl 1 rfl) ?_
                refine lv_aload_n hx hb d_18_25_269 rfl (lv_at hl 1 rfl) ?_
                refine lv_aload_n hx hb d_18_25_270 rfl (lv_at hl 1 rfl) ?_
                refine q_get (ci := 16) (j := 14) (v := .long lx102) C0 V i_TR rfl rfl hO118 (by decide) w_2154 rfl d_18_25_271 ?_
                refine lv_lconst (v := 1) hx hb d_18_25_274 (by decide) ?_
                refine lv_lsub hx hb d_18_25_275 ?_
                obtain ⟨j165, e166⟩ := q_nm (lx102 - 1 : Int64)
                refine q_tl (v := j165) e166 ?_
                have ob168 : True ∧ S_TR_bitAt j165 t0_0 t0_1 t0_2 t0_3 t0_4 t0_5 t0_6 t0_7 t0_8 t0_9 lx115 lx102 (1 : Int32) lx59 t1_0 := (by rw [← e166]; have h := hS161; rw [S_TR_findHexadecimal_J268.eq_1] at h; with_reducible exact h.2.1)
                refine q_goi V (q_runV (As := [.long j165]) (rest := [.ref (q 153)]) (d := 1) (mc := 0) (ms := 0) (ci := 16) C0 V rfl LV_TR_149 (X_TR_bitAt l D g q w117  j165 hI t0_0 t0_1 t0_2 t0_3 t0_4 t0_5 t0_6 t0_7 t0_8 t0_9 lx115 lx102 1 lx59 hO118 t1_0 hO119 ob168 _) rfl rfl hO118 rfl hl.1 rfl (Nat.le_of_ble_eq_true rfl) ⟨by decide, by decide⟩ ⟨Nat.le_of_ble_eq_true rfl, Nat.le_of_ble_eq_true rfl⟩ d_18_25_276) (fun a171 u169 H locs hp170 V => ?_)
                obtain ⟨rfl, b172, b173, hE174⟩ := hp170
                have e175 : a171 = (F_TR_bitAt j165 t0_0 t0_1 t0_2 t0_3 t0_4 t0_5 t0_6 t0_7 t0_8 t0_9 lx115 lx102 (1 : Int32) lx59 t1_0) := hE174
                clear b172
                clear b173
                refine lv_iconst (v := 1) hx hb d_18_25_279 (by decide) ?_
                refine lv_icmp_ne (tgt := 296) hx hb d_18_25_280 (by decide) (fun c176 => ?_) (fun c176 => ?_)
                ·
                  refine lv_iload hx hb d_18_25_296 (lv_at hl 0 rfl) ?_
                  refine lv_if_eq (tgt := 305) hx hb d_18_25_298 (by decide) (fun c178 => ?_) (fun c178 => ?_)
                  ·
                    refine lv_iconst (v := 0) hx hb d_18_25_305 (by decide) ?_
                    refine q_put (ci := 16) (j := 15) (v := .int 0) (ty := .int) C0 V i_TR o_TR n_TR rfl rfl hO118 (by decide) w_2155 rfl rfl rfl rfl (Nat.le_of_ble_eq_true rfl) d_18_25_306 (fun H locs w180 hu181 hO118 V => ?_)
                    replace hO118 : w180[153]? = (some (q 153, .inr (16, [.int t0_0, .ref (q 154), .int t0_1, .int t0_2, .int t0_3, .int t0_4, .ref (q 155), .int t0_5, .int t0_6, .long t0_7, .ref (q 156), .int t0_8, .int t0_9, .long lx115, .long lx102, .int 0, .int lx59])) : Option (Nat × va_E)) := hO118
                    replace hI := n_p153 hI hu181 hO118 (by first | with_reducible exact q_fe btt0_1 | exact ⟨(by have t1 : 0 ≤ t0_1.toInt ∧ t0_1.toInt ≤ 4100 := btt0_1; omega), (by have t1 : 0 ≤ t0_1.toInt ∧ t0_1.toInt ≤ 4100 := btt0_1; omega)⟩) (by first | with_reducible exact q_fe btt0_4 | exact ⟨(by have t1 : 0 ≤ t0_4.toInt ∧ t0_4.toInt ≤ 1 := btt0_4; omega), (by have t1 : 0 ≤ t0_4.toInt ∧ t0_4.toInt ≤ 1 := btt0_4; omega)⟩) ⟨(by first | with_reducible exact q_fe i63 | (have t1 : 0 ≤ lx59.toInt := i63; omega)), (by first | with_reducible exact q_fe i64 | (have t1 : lx59.toInt ≤ 1 := i64; omega))⟩
                    replace hF := q_us hF hu181 (by simp)
                    exact q_retv C0 V (⟨hI, hF, t0_0, t0_1, t0_2, t0_3, t0_4, t0_5, t0_6, t0_7, t0_8, t0_9, lx115, lx102, 0, lx59, hO118, (show (0 : Int32).toInt ≤ 3 from (by have z30 : (0 : Int32).toInt = 0 := rfl; omega)), (show 0 ≤ lx59.toInt from (by have z30 : (0 : Int32).toInt = 0 := rfl; have t1 : 0 ≤ lx59.toInt := i63; omega)), (show lx59.toInt ≤ 1 from (by have z30 : (0 : Int32).toInt = 0 := rfl; have t1 : lx59.toInt ≤ 1 := i64; omega)), (show t0_0.toInt ≤ t0_0.toInt from (by have z30 : (0 : Int32).toInt = 0 := rfl; omega)), (show t0_0.toInt ≤ t0_0.toInt from (by have z30 : (0 : Int32).toInt = 0 := rfl; omega)), (show x2.toInt ≤ t0_1.toInt + 4099 from (by have z30 : (0 : Int32).toInt = 0 := rfl; have t1 : 0 ≤ t0_1.toInt ∧ t0_1.toInt ≤ 4100 := btt0_1; have t2 : x2.toInt ≤ 4099 := ob23; omega)), (show t0_1.toInt ≤ x2.toInt + 4100 from (by have z30 : (0 : Int32).toInt = 0 := rfl; have t1 : 0 ≤ t0_1.toInt ∧ t0_1.toInt ≤ 4100 := btt0_1; have t2 : 0 ≤ x2.toInt := ob22; omega)), (show t0_1.toInt ≤ t0_1.toInt from (by have z30 : (0 : Int32).toInt = 0 := rfl; omega)), (show t0_1.toInt ≤ t0_1.toInt from (by have z30 : (0 : Int32).toInt = 0 := rfl; omega)), (show t0_2.toInt ≤ t0_2.toInt from (by have z30 : (0 : Int32).toInt = 0 := rfl; omega)), (show t0_2.toInt ≤ t0_2.toInt from (by have z30 : (0 : Int32).toInt = 0 := rfl; omega)), (show t0_3.toInt ≤ t0_3.toInt from (by have z30 : (0 : Int32).toInt = 0 := rfl; omega)), (show t0_3.toInt ≤ t0_3.toInt from (by have z30 : (0 : Int32).toInt = 0 := rfl; omega)), (show x2.toInt ≤ t0_4.toInt + 4099 from (by have z30 : (0 : Int32).toInt = 0 := rfl; have t1 : 0 ≤ t0_4.toInt ∧ t0_4.toInt ≤ 1 := btt0_4; have t2 : x2.toInt ≤ 4099 := ob23; omega)), (show t0_4.toInt ≤ x2.toInt + 1 from (by have z30 : (0 : Int32).toInt = 0 := rfl; have t1 : 0 ≤ t0_4.toInt ∧ t0_4.toInt ≤ 1 := btt0_4; have t2 : 0 ≤ x2.toInt := ob22; omega)), (show t0_4.toInt ≤ t0_4.toInt from (by have z30 : (0 : Int32).toInt = 0 := rfl; omega)), (show t0_4.toInt ≤ t0_4.toInt from (by have z30 : (0 : Int32).toInt = 0 := rfl; omega)), (show t0_5.toInt ≤ t0_5.toInt from (by have z30 : (0 : Int32).toInt = 0 := rfl; omega)), (show t0_5.toInt ≤ t0_5.toInt from (by have z30 : (0 : Int32).toInt = 0 := rfl; omega)), (show t0_6.toInt ≤ t0_6.toInt from (by have z30 : (0 : Int32).toInt = 0 := rfl; omega)), (show t0_6.toInt ≤ t0_6.toInt from (by have z30 : (0 : Int32).toInt = 0 := rfl; omega)), (show t0_7.toInt ≤ t0_7.toInt from (by have z30 : (0 : Int32).toInt = 0 := rfl; omega)), (show t0_7.toInt ≤ t0_7.toInt from (by have z30 : (0 : Int32).toInt = 0 := rfl; omega)), (show t0_8.toInt ≤ t0_8.toInt from (by have z30 : (0 : Int32).toInt = 0 := rfl; omega)), (show t0_8.toInt ≤ t0_8.toInt from (by have z30 : (0 : Int32).toInt = 0 := rfl; omega)), (show t0_9.toInt ≤ t0_9.toInt from (by have z30 : (0 : Int32).toInt = 0 := rfl; omega)), (show t0_9.toInt ≤ t0_9.toInt from (by have z30 : (0 : Int32).toInt = 0 := rfl; omega)), (show (0 : Int32).toInt ≤ x2.toInt + 3 from (by have z30 : (0 : Int32).toInt = 0 := rfl; have t1 : 0 ≤ x2.toInt := ob22; omega)), (show x2.toInt ≤ lx59.toInt + 4099 from (by have z30 : (0 : Int32).toInt = 0 := rfl; have t1 : x2.toInt ≤ 4099 := ob23; have t2 : 0 ≤ lx59.toInt := i63; omega)), (show lx59.toInt ≤ x2.toInt + 1 from (by have z30 : (0 : Int32).toInt = 0 := rfl; have t1 : 0 ≤ x2.toInt := ob22; have t2 : lx59.toInt ≤ 1 := i64; omega)), (show lx59.toInt ≤ (0 : Int32).toInt from (by have z30 : (0 : Int32).toInt = 0 := rfl; have t1 : lx59.toInt = 0 := b83; omega)), (show (t0_0, t0_1, t0_2, t0_3, t0_4, t0_5, t0_6, t0_7, t0_8, t0_9, lx115, lx102, (0 : Int32), lx59) = (F_TR_findHexadecimal x2 x3 x4 t0_0 t0_1 t0_2 t0_3 t0_4 t0_5 t0_6 t0_7 t0_8 t0_9 t0_10 t0_11 t0_12 t0_13 t1_0) from Eq.trans (by have c176x := c176; rw [e175, ← e166] at c176x; rw [F_TR_findHexadecimal_J268.eq_1, if_neg c176x, if_pos c178]) hR160)⟩) d_18_25_309
                  ·
                    refine lv_iconst (v := 1) hx hb d_18_25_301 (by decide) ?_
                    refine lv_goto (tgt := 306) hx hb d_18_25_302 (by decide) ?_
                    refine q_put (ci := 16) (j := 15) (v := .int 1) (ty := .int) C0 V i_TR o_TR n_TR rfl rfl hO118 (by decide) w_2155 rfl rfl rfl rfl (Nat.le_of_ble_eq_true rfl) d_18_25_306 (fun H locs w183 hu184 hO118 V => ?_)
                    replace hO118 : w183[153]? = (some (q 153, .inr (16, [.int t0_0, .ref (q 154), .int t0_1, .int t0_2, .int t0_3, .int t0_4, .ref (q 155), .int t0_5, .int t0_6, .long t0_7, .ref (q 156), .int t0_8, .int t0_9, .long lx115, .long lx102, .int 1, .int lx59])) : Option (Nat × va_E)) := hO118
                    replace hI := n_p153 hI hu184 hO118 (by first | with_reducible exact q_fe btt0_1 | exact ⟨(by have t1 : 0 ≤ t0_1.toInt ∧ t0_1.toInt ≤ 4100 := btt0_1; omega), (by have t1 : 0 ≤ t0_1.toInt ∧ t0_1.toInt ≤ 4100 := btt0_1; omega)⟩) (by first | with_reducible exact q_fe btt0_4 | exact ⟨(by have t1 : 0 ≤ t0_4.toInt ∧ t0_4.toInt ≤ 1 := btt0_4; omega), (by have t1 : 0 ≤ t0_4.toInt ∧ t0_4.toInt ≤ 1 := btt0_4; omega)⟩) ⟨(by first | with_reducible exact q_fe i63 | (have t1 : 0 ≤ lx59.toInt := i63; omega)), (by first | with_reducible exact q_fe i64 | (have t1 : lx59.toInt ≤ 1 := i64; omega))⟩
                    replace hF := q_us hF hu184 (by simp)
                    exact q_retv C0 V (⟨hI, hF, t0_0, t0_1, t0_2, t0_3, t0_4, t0_5, t0_6, t0_7, t0_8, t0_9, lx115, lx102, 1, lx59, hO118, (show (1 : Int32).toInt ≤ 3 from (by have z30 : (1 : Int32).toInt = 1 := rfl; omega)), (show 0 ≤ lx59.toInt from (by have z30 : (1 : Int32).toInt = 1 := rfl; have t1 : 0 ≤ lx59.toInt := i63; omega)), (show lx59.toInt ≤ 1 from (by have z30 : (1 : Int32).toInt = 1 := rfl; have t1 : lx59.toInt ≤ 1 := i64; omega)), (show t0_0.toInt ≤ t0_0.toInt from (by have z30 : (1 : Int32).toInt = 1 := rfl; omega)), (show t0_0.toInt ≤ t0_0.toInt from (by have z30 : (1 : Int32).toInt = 1 := rfl; omega)), (show x2.toInt ≤ t0_1.toInt + 4099 from (by have z30 : (1 : Int32).toInt = 1 := rfl; have t1 : 0 ≤ t0_1.toInt ∧ t0_1.toInt ≤ 4100 := btt0_1; have t2 : x2.toInt ≤ 4099 := ob23; omega)), (show t0_1.toInt ≤ x2.toInt + 4100 from (by have z30 : (1 : Int32).toInt = 1 := rfl; have t1 : 0 ≤ t0_1.toInt ∧ t0_1.toInt ≤ 4100 := btt0_1; have t2 : 0 ≤ x2.toInt := ob22; omega)), (show t0_1.toInt ≤ t0_1.toInt from (by have z30 : (1 : Int32).toInt = 1 := rfl; omega)), (show t0_1.toInt ≤ t0_1.toInt from (by have z30 : (1 : Int32).toInt = 1 := rfl; omega)), (show t0_2.toInt ≤ t0_2.toInt from (by have z30 : (1 : Int32).toInt = 1 := rfl; omega)), (show t0_2.toInt ≤ t0_2.toInt from (by have z30 : (1 : Int32).toInt = 1 := rfl; omega)), (show t0_3.toInt ≤ t0_3.toInt from (by have z30 : (1 : Int32).toInt = 1 := rfl; omega)), (show t0_3.toInt ≤ t0_3.toInt from (by have z30 : (1 : Int32).toInt = 1 := rfl; omega)), (show x2.toInt ≤ t0_4.toInt + 4099 from (by have z30 : (1 : Int32).toInt = 1 := rfl; have t1 : 0 ≤ t0_4.toInt ∧ t0_4.toInt ≤ 1 := btt0_4; have t2 : x2.toInt ≤ 4099 := ob23; omega)), (show t0_4.toInt ≤ x2.toInt + 1 from (by have z30 : (1 : Int32).toInt = 1 := rfl; have t1 : 0 ≤ t0_4.toInt ∧ t0_4.toInt ≤ 1 := btt0_4; have t2 : 0 ≤ x2.toInt := ob22; omega)), (show t0_4.toInt ≤ t0_4.toInt from (by have z30 : (1 : Int32).toInt = 1 := rfl; omega)), (show t0_4.toInt ≤ t0_4.toInt from (by have z30 : (1 : Int32).toInt = 1 := rfl; omega)), (show t0_5.toInt ≤ t0_5.toInt from (by have z30 : (1 : Int32).toInt = 1 := rfl; omega)), (show t0_5.toInt ≤ t0_5.toInt from (by have z30 : (1 : Int32).toInt = 1 := rfl; omega)), (show t0_6.toInt ≤ t0_6.toInt from (by have z30 : (1 : Int32).toInt = 1 := rfl; omega)), (show t0_6.toInt ≤ t0_6.toInt from (by have z30 : (1 : Int32).toInt = 1 := rfl; omega)), (show t0_7.toInt ≤ t0_7.toInt from (by have z30 : (1 : Int32).toInt = 1 := rfl; omega)), (show t0_7.toInt ≤ t0_7.toInt from (by have z30 : (1 : Int32).toInt = 1 := rfl; omega)), (show t0_8.toInt ≤ t0_8.toInt from (by have z30 : (1 : Int32).toInt = 1 := rfl; omega)), (show t0_8.toInt ≤ t0_8.toInt from (by have z30 : (1 : Int32).toInt = 1 := rfl; omega)), (show t0_9.toInt ≤ t0_9.toInt from (by have z30 : (1 : Int32).toInt = 1 := rfl; omega)), (show t0_9.toInt ≤ t0_9.toInt from (by have z30 : (1 : Int32).toInt = 1 := rfl; omega)), (show (1 : Int32).toInt ≤ x2.toInt + 3 from (by have z30 : (1 : Int32).toInt = 1 := rfl; have t1 : 0 ≤ x2.toInt := ob22; omega)), (show x2.toInt ≤ lx59.toInt + 4099 from (by have z30 : (1 : Int32).toInt = 1 := rfl; have t1 : x2.toInt ≤ 4099 := ob23; have t2 : 0 ≤ lx59.toInt := i63; omega)), (show lx59.toInt ≤ x2.toInt + 1 from (by have z30 : (1 : Int32).toInt = 1 := rfl; have t1 : 0 ≤ x2.toInt := ob22; have t2 : lx59.toInt ≤ 1 := i64; omega)), (show lx59.toInt ≤ (1 : Int32).toInt from (by have z30 : (1 : Int32).toInt = 1 := rfl; have t1 : lx59.toInt ≤ 1 := i64; omega)), (show (t0_0, t0_1, t0_2, t0_3, t0_4, t0_5, t0_6, t0_7, t0_8, t0_9, lx115, lx102, (1 : Int32), lx59) = (F_TR_findHexadecimal x2 x3 x4 t0_0 t0_1 t0_2 t0_3 t0_4 t0_5 t0_6 t0_7 t0_8 t0_9 t0_10 t0_11 t0_12 t0_13 t1_0) from Eq.trans (by have c176x := c176; rw [e175, ← e166] at c176x; rw [F_TR_findHexadecimal_J268.eq_1, if_neg c176x, if_neg c178]) hR160)⟩) d_18_25_309
                ·
                  refine lv_iload hx hb d_18_25_283 (lv_at hl 0 rfl) ?_
                  refine lv_if_eq (tgt := 292) hx hb d_18_25_285 (by decide) (fun c186 => ?_) (fun c186 => ?_)
                  ·
                    refine lv_iconst (v := 2) hx hb d_18_25_292 (by decide) ?_
                    refine lv_goto (tgt := 306) hx hb d_18_25_293 (by decide) ?_
                    refine q_put (ci := 16) (j := 15) (v := .int 2) (ty := .int) C0 V i_TR o_TR n_TR rfl rfl hO118 (by decide) w_2155 rfl rfl rfl rfl (Nat.le_of_ble_eq_true rfl) d_18_25_306 (fun H locs w188 hu189 hO118 V => ?_)
                    replace hO118 : w188[153]? = (some (q 153, .inr (16, [.int t0_0, .ref (q 154), .int t0_1, .int t0_2, .int t0_3, .int t0_4, .ref (q 155), .int t0_5, .int t0_6, .long t0_7, .ref (q 156), .int t0_8, .int t0_9, .long lx115, .long lx102, .int 2, .int lx59])) : Option (Nat × va_E)) := hO118
                    replace hI := n_p153 hI hu189 hO118 (by first | with_reducible exact q_fe btt0_1 | exact ⟨(by have t1 : 0 ≤ t0_1.toInt ∧ t0_1.toInt ≤ 4100 := btt0_1; omega), (by have t1 : 0 ≤ t0_1.toInt ∧ t0_1.toInt ≤ 4100 := btt0_1; omega)⟩) (by first | with_reducible exact q_fe btt0_4 | exact ⟨(by have t1 : 0 ≤ t0_4.toInt ∧ t0_4.toInt ≤ 1 := btt0_4; omega), (by have t1 : 0 ≤ t0_4.toInt ∧ t0_4.toInt ≤ 1 := btt0_4; omega)⟩) ⟨(by first | with_reducible exact q_fe i63 | (have t1 : 0 ≤ lx59.toInt := i63; omega)), (by first | with_reducible exact q_fe i64 | (have t1 : lx59.toInt ≤ 1 := i64; omega))⟩
                    replace hF := q_us hF hu189 (by simp)
                    exact q_retv C0 V (⟨hI, hF, t0_0, t0_1, t0_2, t0_3, t0_4, t0_5, t0_6, t0_7, t0_8, t0_9, lx115, lx102, 2, lx59, hO118, (show (2 : Int32).toInt ≤ 3 from (by have z30 : (2 : Int32).toInt = 2 := rfl; omega)), (show 0 ≤ lx59.toInt from (by have z30 : (2 : Int32).toInt = 2 := rfl; have t1 : 0 ≤ lx59.toInt := i63; omega)), (show lx59.toInt ≤ 1 from (by have z30 : (2 : Int32).toInt = 2 := rfl; have t1 : lx59.toInt ≤ 1 := i64; omega)), (show t0_0.toInt ≤ t0_0.toInt from (by have z30 : (2 : Int32).toInt = 2 := rfl; omega)), (show t0_0.toInt ≤ t0_0.toInt from (by have z30 : (2 : Int32).toInt = 2 := rfl; omega)), (show x2.toInt ≤ t0_1.toInt + 4099 from (by have z30 : (2 : Int32).toInt = 2 := rfl; have t1 : 0 ≤ t0_1.toInt ∧ t0_1.toInt ≤ 4100 := btt0_1; have t2 : x2.toInt ≤ 4099 := ob23; omega)), (show t0_1.toInt ≤ x2.toInt + 4100 from (by have z30 : (2 : Int32).toInt = 2 := rfl; have t1 : 0 ≤ t0_1.toInt ∧ t0_1.toInt ≤ 4100 := btt0_1; have t2 : 0 ≤ x2.toInt := ob22; omega)), (show t0_1.toInt ≤ t0_1.toInt from (by have z30 : (2 : Int32).toInt = 2 := rfl; omega)), (show t0_1.toInt ≤ t0_1.toInt from (by have z30 : (2 : Int32).toInt = 2 := rfl; omega)), (show t0_2.toInt ≤ t0_2.toInt from (by have z30 : (2 : Int32).toInt = 2 := rfl; omega)), (show t0_2.toInt ≤ t0_2.toInt from (by have z30 : (2 : Int32).toInt = 2 := rfl; omega)), (show t0_3.toInt ≤ t0_3.toInt from (by have z30 : (2 : Int32).toInt = 2 := rfl; omega)), (show t0_3.toInt ≤ t0_3.toInt from (by have z30 : (2 : Int32).toInt = 2 := rfl; omega)), (show x2.toInt ≤ t0_4.toInt + 4099 from (by have z30 : (2 : Int32).toInt = 2 := rfl; have t1 : 0 ≤ t0_4.toInt ∧ t0_4.toInt ≤ 1 := btt0_4; have t2 : x2.toInt ≤ 4099 := ob23; omega)), (show t0_4.toInt ≤ x2.toInt + 1 from (by have z30 : (2 : Int32).toInt = 2 := rfl; have t1 : 0 ≤ t0_4.toInt ∧ t0_4.toInt ≤ 1 := btt0_4; have t2 : 0 ≤ x2.toInt := ob22; omega)), (show t0_4.toInt ≤ t0_4.toInt from (by have z30 : (2 : Int32).toInt = 2 := rfl; omega)), (show t0_4.toInt ≤ t0_4.toInt from (by have z30 : (2 : Int32).toInt = 2 := rfl; omega)), (show t0_5.toInt ≤ t0_5.toInt from (by have z30 : (2 : Int32).toInt = 2 := rfl; omega)), (show t0_5.toInt ≤ t0_5.toInt from (by have z30 : (2 : Int32).toInt = 2 := rfl; omega)), (show t0_6.toInt ≤ t0_6.toInt from (by have z30 : (2 : Int32).toInt = 2 := rfl; omega)), (show t0_6.toInt ≤ t0_6.toInt from (by have z30 : (2 : Int32).toInt = 2 := rfl; omega)), (show t0_7.toInt ≤ t0_7.toInt from (by have z30 : (2 : Int32).toInt = 2 := rfl; omega)), (show t0_7.toInt ≤ t0_7.toInt from (by have z30 : (2 : Int32).toInt = 2 := rfl; omega)), (show t0_8.toInt ≤ t0_8.toInt from (by have z30 : (2 : Int32).toInt = 2 := rfl; omega)), (show t0_8.toInt ≤ t0_8.toInt from (by have z30 : (2 : Int32).toInt = 2 := rfl; omega)), (show t0_9.toInt ≤ t0_9.toInt from (by have z30 : (2 : Int32).toInt = 2 := rfl; omega)), (show t0_9.toInt ≤ t0_9.toInt from (by have z30 : (2 : Int32).toInt = 2 := rfl; omega)), (show (2 : Int32).toInt ≤ x2.toInt + 3 from (by have z30 : (2 : Int32).toInt = 2 := rfl; have t1 : 0 ≤ x2.toInt := ob22; omega)), (show x2.toInt ≤ lx59.toInt + 4099 from (by have z30 : (2 : Int32).toInt = 2 := rfl; have t1 : x2.toInt ≤ 4099 := ob23; have t2 : 0 ≤ lx59.toInt := i63; omega)), (show lx59.toInt ≤ x2.toInt + 1 from (by have z30 : (2 : Int32).toInt = 2 := rfl; have t1 : 0 ≤ x2.toInt := ob22; have t2 : lx59.toInt ≤ 1 := i64; omega)), (show lx59.toInt ≤ (2 : Int32).toInt from (by have z30 : (2 : Int32).toInt = 2 := rfl; have t1 : lx59.toInt ≤ 1 := i64; omega)), (show (t0_0, t0_1, t0_2, t0_3, t0_4, t0_5, t0_6, t0_7, t0_8, t0_9, lx115, lx102, (2 : Int32), lx59) = (F_TR_findHexadecimal x2 x3 x4 t0_0 t0_1 t0_2 t0_3 t0_4 t0_5 t0_6 t0_7 t0_8 t0_9 t0_10 t0_11 t0_12 t0_13 t1_0) from Eq.trans (by have c176x := c176; rw [e175, ← e166] at c176x; rw [F_TR_findHexadecimal_J268.eq_1, if_pos c176x, if_pos c186]) hR160)⟩) d_18_25_309
                  ·
                    refine lv_iconst (v := 3) hx hb d_18_25_288 (by decide) ?_
                    refine lv_goto (tgt := 306) hx hb d_18_25_289 (by decide) ?_
                    refine q_put (ci := 16) (j := 15) (v := .int 3) (ty := .int) C0 V i_TR o_TR n_TR rfl rfl hO118 (by decide) w_2155 rfl rfl rfl rfl (Nat.le_of_ble_eq_true rfl) d_18_25_306 (fun H locs w191 hu192 hO118 V => ?_)
                    replace hO118 : w191[153]? = (some (q 153, .inr (16, [.int t0_0, .ref (q 154), .int t0_1, .int t0_2, .int t0_3, .int t0_4, .ref (q 155), .int t0_5, .int t0_6, .long t0_7, .ref (q 156), .int t0_8, .int t0_9, .long lx115, .long lx102, .int 3, .int lx59])) : Option (Nat × va_E)) := hO118
                    replace hI := n_p153 hI hu192 hO118 (by first | with_reducible exact q_fe btt0_1 | exact ⟨(by have t1 : 0 ≤ t0_1.toInt ∧ t0_1.toInt ≤ 4100 := btt0_1; omega), (by have t1 : 0 ≤ t0_1.toInt ∧ t0_1.toInt ≤ 4100 := btt0_1; omega)⟩) (by first | with_reducible exact q_fe btt0_4 | exact ⟨(by have t1 : 0 ≤ t0_4.toInt ∧ t0_4.toInt ≤ 1 := btt0_4; omega), (by have t1 : 0 ≤ t0_4.toInt ∧ t0_4.toInt ≤ 1 := btt0_4; omega)⟩) ⟨(by first | with_reducible exact q_fe i63 | (have t1 : 0 ≤ lx59.toInt := i63; omega)), (by first | with_reducible exact q_fe i64 | (have t1 : lx59.toInt ≤ 1 := i64; omega))⟩
                    replace hF := q_us hF hu192 (by simp)
                    exact q_retv C0 V (⟨hI, hF, t0_0, t0_1, t0_2, t0_3, t0_4, t0_5, t0_6, t0_7, t0_8, t0_9, lx115, lx102, 3, lx59, hO118, (show (3 : Int32).toInt ≤ 3 from (by have z30 : (3 : Int32).toInt = 3 := rfl; omega)), (show 0 ≤ lx59.toInt from (by have z30 : (3 : Int32).toInt = 3 := rfl; have t1 : 0 ≤ lx59.toInt := i63; omega)), (show lx59.toInt ≤ 1 from (by have z30 : (3 : Int32).toInt = 3 := rfl; have t1 : lx59.toInt ≤ 1 := i64; omega)), (show t0_0.toInt ≤ t0_0.toInt from (by have z30 : (3 : Int32).toInt = 3 := rfl; omega)), (show t0_0.toInt ≤ t0_0.toInt from (by have z30 : (3 : Int32).toInt = 3 := rfl; omega)), (show x2.toInt ≤ t0_1.toInt + 4099 from (by have z30 : (3 : Int32).toInt = 3 := rfl; have t1 : 0 ≤ t0_1.toInt ∧ t0_1.toInt ≤ 4100 := btt0_1; have t2 : x2.toInt ≤ 4099 := ob23; omega)), (show t0_1.toInt ≤ x2.toInt + 4100 from (by have z30 : (3 : Int32).toInt = 3 := rfl; have t1 : 0 ≤ t0_1.toInt ∧ t0_1.toInt ≤ 4100 := btt0_1; have t2 : 0 ≤ x2.toInt := ob22; omega)), (show t0_1.toInt ≤ t0_1.toInt from (by have z30 : (3 : Int32).toInt = 3 := rfl; omega)), (show t0_1.toInt ≤ t0_1.toInt from (by have z30 : (3 : Int32).toInt = 3 := rfl; omega)), (show t0_2.toInt ≤ t0_2.toInt from (by have z30 : (3 : Int32).toInt = 3 := rfl; omega)), (show t0_2.toInt ≤ t0_2.toInt from (by have z30 : (3 : Int32).toInt = 3 := rfl; omega)), (show t0_3.toInt ≤ t0_3.toInt from (by have z30 : (3 : Int32).toInt = 3 := rfl; omega)), (show t0_3.toInt ≤ t0_3.toInt from (by have z30 : (3 : Int32).toInt = 3 := rfl; omega)), (show x2.toInt ≤ t0_4.toInt + 4099 from (by have z30 : (3 : Int32).toInt = 3 := rfl; have t1 : 0 ≤ t0_4.toInt ∧ t0_4.toInt ≤ 1 := btt0_4; have t2 : x2.toInt ≤ 4099 := ob23; omega)), (show t0_4.toInt ≤ x2.toInt + 1 from (by have z30 : (3 : Int32).toInt = 3 := rfl; have t1 : 0 ≤ t0_4.toInt ∧ t0_4.toInt ≤ 1 := btt0_4; have t2 : 0 ≤ x2.toInt := ob22; omega)), (show t0_4.toInt ≤ t0_4.toInt from (by have z30 : (3 : Int32).toInt = 3 := rfl; omega)), (show t0_4.toInt ≤ t0_4.toInt from (by have z30 : (3 : Int32).toInt = 3 := rfl; omega)), (show t0_5.toInt ≤ t0_5.toInt from (by have z30 : (3 : Int32).toInt = 3 := rfl; omega)), (show t0_5.toInt ≤ t0_5.toInt from (by have z30 : (3 : Int32).toInt = 3 := rfl; omega)), (show t0_6.toInt ≤ t0_6.toInt from (by have z30 : (3 : Int32).toInt = 3 := rfl; omega)), (show t0_6.toInt ≤ t0_6.toInt from (by have z30 : (3 : Int32).toInt = 3 := rfl; omega)), (show t0_7.toInt ≤ t0_7.toInt from (by have z30 : (3 : Int32).toInt = 3 := rfl; omega)), (show t0_7.toInt ≤ t0_7.toInt from (by have z30 : (3 : Int32).toInt = 3 := rfl; omega)), (show t0_8.toInt ≤ t0_8.toInt from (by have z30 : (3 : Int32).toInt = 3 := rfl; omega)), (show t0_8.toInt ≤ t0_8.toInt from (by have z30 : (3 : Int32).toInt = 3 := rfl; omega)), (show t0_9.toInt ≤ t0_9.toInt from (by have z30 : (3 : Int32).toInt = 3 := rfl; omega)), (show t0_9.toInt ≤ t0_9.toInt from (by have z30 : (3 : Int32).toInt = 3 := rfl; omega)), (show (3 : Int32).toInt ≤ x2.toInt + 3 from (by have z30 : (3 : Int32).toInt = 3 := rfl; have t1 : 0 ≤ x2.toInt := ob22; omega)), (show x2.toInt ≤ lx59.toInt + 4099 from (by have z30 : (3 : Int32).toInt = 3 := rfl; have t1 : x2.toInt ≤ 4099 := ob23; have t2 : 0 ≤ lx59.toInt := i63; omega)), (show lx59.toInt ≤ x2.toInt + 1 from (by have z30 : (3 : Int32).toInt = 3 := rfl; have t1 : 0 ≤ x2.toInt := ob22; have t2 : lx59.toInt ≤ 1 := i64; omega)), (show lx59.toInt ≤ (3 : Int32).toInt from (by have z30 : (3 : Int32).toInt = 3 := rfl; have t1 : lx59.toInt ≤ 1 := i64; omega)), (show (t0_0, t0_1, t0_2, t0_3, t0_4, t0_5, t0_6, t0_7, t0_8, t0_9, lx115, lx102, (3 : Int32), lx59) = (F_TR_findHexadecimal x2 x3 x4 t0_0 t0_1 t0_2 t0_3 t0_4 t0_5 t0_6 t0_7 t0_8 t0_9 t0_10 t0_11 t0_12 t0_13 t1_0) from Eq.trans (by have c176x := c176; rw [e175, ← e166] at c176x; rw [F_TR_findHexadecimal_J268.eq_1, if_pos c176x, if_neg c186]) hR160)⟩) d_18_25_309
              ·
                intro J159
                refine lv_if_lt (tgt := 268) hx hb d_18_25_234 (by decide) (fun c193 => ?_) (fun c193 => ?_)
                ·
                  exact J159 (()) _ _ _ w117 ⟨V, q_lw hl (q_lw1 2 rfl (q_lw1 3 rfl q_lw0)), (show F_TR_findHexadecimal_J268 (F_TR_findHexadecimal_L156 x2 x3 x4 t0_0 t0_1 t0_2 t0_3 t0_4 t0_5 t0_6 t0_7 t0_8 t0_9 t0_10 t0_11 t0_12 t0_13 t1_0 lx26 j54 lx59 j74 lx102 fm124) (F_TR_findHexadecimal_L229 (F_TR_findHexadecimal_L156 x2 x3 x4 t0_0 t0_1 t0_2 t0_3 t0_4 t0_5 t0_6 t0_7 t0_8 t0_9 t0_10 t0_11 t0_12 t0_13 t1_0 lx26 j54 lx59 j74 lx102 fm124) x2 x3 x4 t0_0 t0_1 t0_2 t0_3 t0_4 t0_5 t0_6 t0_7 t0_8 t0_9 t0_10 t0_11 t0_12 t0_13 t1_0 lx26 j54 lx59 j74 lx102 lx114 lx115 j138 fm153) x2 x3 x4 t0_0 t0_1 t0_2 t0_3 t0_4 t0_5 t0_6 t0_7 t0_8 t0_9 t0_10 t0_11 t0_12 t0_13 t1_0 lx26 j54 lx59 j74 lx102 lx114 lx115 j138 lx144 lx145 = (F_TR_findHexadecimal x2 x3 x4 t0_0 t0_1 t0_2 t0_3 t0_4 t0_5 t0_6 t0_7 t0_8 t0_9 t0_10 t0_11 t0_12 t0_13 t1_0) from Eq.trans (by have c193x := c193; rw [← e155] at c193x; rw [F_TR_findHexadecimal_L229.eq_2, if_pos c193x]) hR149), (show True ∧ S_TR_findHexadecimal_J268 (S_TR_findHexadecimal_L156 x2 x3 x4 t0_0 t0_1 t0_2 t0_3 t0_4 t0_5 t0_6 t0_7 t0_8 t0_9 t0_10 t0_11 t0_12 t0_13 t1_0 lx26 j54 lx59 j74 lx102 fm124) (S_TR_findHexadecimal_L229 (S_TR_findHexadecimal_L156 x2 x3 x4 t0_0 t0_1 t0_2 t0_3 t0_4 t0_5 t0_6 t0_7 t0_8 t0_9 t0_10 t0_11 t0_12 t0_13 t1_0 lx26 j54 lx59 j74 lx102 fm124) x2 x3 x4 t0_0 t0_1 t0_2 t0_3 t0_4 t0_5 t0_6 t0_7 t0_8 t0_9 t0_10 t0_11 t0_12 t0_13 t1_0 lx26 j54 lx59 j74 lx102 lx114 lx115 j138 fm153) x2 x3 x4 t0_0 t0_1 t0_2 t0_3 t0_4 t0_5 t0_6 t0_7 t0_8 t0_9 t0_10 t0_11 t0_12 t0_13 t1_0 lx26 j54 lx59 j74 lx102 lx114 lx115 j138 lx144 lx145 from (by have h := hS150; rw [S_TR_findHexadecimal_L229.eq_2] at h; have c193x := c193; rw [← e155] at c193x; rw [if_pos c193x] at h; with_reducible exact h))⟩
                ·
                  refine lv_iload hx hb d_18_25_237 (lv_at hl 2 rfl) ?_
                  refine lv_if_ne (tgt := 268) hx hb d_18_25_239 (by decide) (fun c196 => ?_) (fun c196 => ?_)
                  ·
                    exact J159 (()) _ _ _ w117 ⟨V, q_lw hl (q_lw1 2 rfl (q_lw1 3 rfl q_lw0)), (show F_TR_findHexadecimal_J268 (F_TR_findHexadecimal_L156 x2 x3 x4 t0_0 t0_1 t0_2 t0_3 t0_4 t0_5 t0_6 t0_7 t0_8 t0_9 t0_10 t0_11 t0_12 t0_13 t1_0 lx26 j54 lx59 j74 lx102 fm124) (F_TR_findHexadecimal_L229 (F_TR_findHexadecimal_L156 x2 x3 x4 t0_0 t0_1 t0_2 t0_3 t0_4 t0_5 t0_6 t0_7 t0_8 t0_9 t0_10 t0_11 t0_12 t0_13 t1_0 lx26 j54 lx59 j74 lx102 fm124) x2 x3 x4 t0_0 t0_1 t0_2 t0_3 t0_4 t0_5 t0_6 t0_7 t0_8 t0_9 t0_10 t0_11 t0_12 t0_13 t1_0 lx26 j54 lx59 j74 lx102 lx114 lx115 j138 fm153) x2 x3 x4 t0_0 t0_1 t0_2 t0_3 t0_4 t0_5 t0_6 t0_7 t0_8 t0_9 t0_10 t0_11 t0_12 t0_13 t1_0 lx26 j54 lx59 j74 lx102 lx114 lx115 j138 lx144 lx145 = (F_TR_findHexadecimal x2 x3 x4 t0_0 t0_1 t0_2 t0_3 t0_4 t0_5 t0_6 t0_7 t0_8 t0_9 t0_10 t0_11 t0_12 t0_13 t1_0) from Eq.trans (by have c193x := c193; rw [← e155] at c193x; rw [F_TR_findHexadecimal_L229.eq_2, if_neg c193x, if_neg c196]) hR149), (show True ∧ S_TR_findHexadecimal_J268 (S_TR_findHexadecimal_L156 x2 x3 x4 t0_0 t0_1 t0_2 t0_3 t0_4 t0_5 t0_6 t0_7 t0_8 t0_9 t0_10 t0_11 t0_12 t0_13 t1_0 lx26 j54 lx59 j74 lx102 fm124) (S_TR_findHexadecimal_L229 (S_TR_findHexadecimal_L156 x2 x3 x4 t0_0 t0_1 t0_2 t0_3 t0_4 t0_5 t0_6 t0_7 t0_8 t0_9 t0_10 t0_11 t0_12 t0_13 t1_0 lx26 j54 lx59 j74 lx102 fm124) x2 x3 x4 t0_0 t0_1 t0_2 t0_3 t0_4 t0_5 t0_6 t0_7 t0_8 t0_9 t0_10 t0_11 t0_12 t0_13 t1_0 lx26 j54 lx59 j74 lx102 lx114 lx115 j138 fm153) x2 x3 x4 t0_0 t0_1 t0_2 t0_3 t0_4 t0_5 t0_6 t0_7 t0_8 t0_9 t0_10 t0_11 t0_12 t0_13 t1_0 lx26 j54 lx59 j74 lx102 lx114 lx115 j138 lx144 lx145 from (by have h := hS150; rw [S_TR_findHexadecimal_L229.eq_2] at h; have c193x := c193; rw [← e155] at c193x; rw [if_neg c193x] at h; rw [if_neg c196] at h; with_reducible exact h))⟩
                  ·
                    refine lv_aload_n hx hb d_18_25_242 rfl (lv_at hl 3 rfl) ?_
                    refine lv_lload hx hb d_18_25_243 (lv_at hl 0 rfl) ?_
                    have ob199 : True ∧ S_TR_bitAt lx144 t0_0 t0_1 t0_2 t0_3 t0_4 t0_5 t0_6 t0_7 t0_8 t0_9 lx115 lx102 (1 : Int32) lx59 t1_0 := (by have h := hS150; rw [S_TR_findHexadecimal_L229.eq_2] at h; have c193x := c193; rw [← e155] at c193x; rw [if_neg c193x] at h; rw [if_pos c196] at h; with_reducible exact h.2.1)
                    refine q_goi V (q_runV (As := [.long lx144]) (rest := []) (d := 1) (mc := 0) (ms := 0) (ci := 16) C0 V rfl LV_TR_149 (X_TR_bitAt l D g q w117  lx144 hI t0_0 t0_1 t0_2 t0_3 t0_4 t0_5 t0_6 t0_7 t0_8 t0_9 lx115 lx102 1 lx59 hO118 t1_0 hO119 ob199 _) rfl rfl hO118 rfl hl.1 rfl (Nat.le_of_ble_eq_true rfl) ⟨by decide, by decide⟩ ⟨Nat.le_of_ble_eq_true rfl, Nat.le_of_ble_eq_true rfl⟩ d_18_25_245) (fun a202 u200 H locs hp201 V => ?_)
                    obtain ⟨rfl, b203, b204, hE205⟩ := hp201
                    have e206 : a202 = (F_TR_bitAt lx144 t0_0 t0_1 t0_2 t0_3 t0_4 t0_5 t0_6 t0_7 t0_8 t0_9 lx115 lx102 (1 : Int32) lx59 t1_0) := hE205
                    clear b203
                    clear b204
                    refine lv_iconst (v := 1) hx hb d_18_25_248 (by decide) ?_
                    refine lv_icmp_ne (tgt := 256) hx hb d_18_25_249 (by decide) (fun c207 => ?_) (fun c207 => ?_)
                    ·
                      refine lv_iconst (v := 0) hx hb d_18_25_256 (by decide) ?_
                      refine lv_istore (lv' := [(7, .int 0), (10, .long lx144), (8, .long j138), (0, .ref (q 153))]) hx hb d_18_25_257 hl (by decide) rfl (fun ls hl => ?_)
                      refine lv_lload hx hb d_18_25_259 (lv_at hl 1 rfl) ?_
                      refine lv_lconst (v := 1) hx hb d_18_25_261 (by decide) ?_
                      refine lv_lsub hx hb d_18_25_262 ?_
                      obtain ⟨j209, e210⟩ := q_nm (lx144 - 1 : Int64)
                      refine q_tl (v := j209) e210 ?_
                      refine lv_lstore (lv' := [(10, .long j209), (7, .int 0), (8, .long j138), (0, .ref (q 153))]) hx hb d_18_25_263 hl (by decide) rfl (fun ls hl => ?_)
                      refine lv_goto (tgt := 229) hx hb d_18_25_265 (by decide) ?_
                      exact ih148 ((fm153 : Nat), (j209 : Int64), (0 : Int32)) _ _ _ w117 (Nat.lt_succ_self _) ⟨(show q_F (0 ≤ 0) from (show 0 ≤ 0 from by omega)), (show q_F (0 ≤ 1) from (show 0 ≤ 1 from by omega)), V, q_lw hl (q_lw1 0 rfl (q_lw1 2 rfl (q_lw1 1 rfl (q_lw1 3 rfl q_lw0)))), (show F_TR_findHexadecimal_L229 (F_TR_findHexadecimal_L156 x2 x3 x4 t0_0 t0_1 t0_2 t0_3 t0_4 t0_5 t0_6 t0_7 t0_8 t0_9 t0_10 t0_11 t0_12 t0_13 t1_0 lx26 j54 lx59 j74 lx102 fm124) x2 x3 x4 t0_0 t0_1 t0_2 t0_3 t0_4 t0_5 t0_6 t0_7 t0_8 t0_9 t0_10 t0_11 t0_12 t0_13 t1_0 lx26 j54 lx59 j74 lx102 lx114 lx115 j138 fm153 j209 0 = (F_TR_findHexadecimal x2 x3 x4 t0_0 t0_1 t0_2 t0_3 t0_4 t0_5 t0_6 t0_7 t0_8 t0_9 t0_10 t0_11 t0_12 t0_13 t1_0) from Eq.trans (by have c193x := c193; rw [← e155] at c193x; have c207x := c207; rw [e206] at c207x; rw [← e210, F_TR_findHexadecimal_L229.eq_2, if_neg c193x, if_pos c196, if_neg c207x]) hR149), (show True ∧ S_TR_findHexadecimal_L229 (S_TR_findHexadecimal_L156 x2 x3 x4 t0_0 t0_1 t0_2 t0_3 t0_4 t0_5 t0_6 t0_7 t0_8 t0_9 t0_10 t0_11 t0_12 t0_13 t1_0 lx26 j54 lx59 j74 lx102 fm124) x2 x3 x4 t0_0 t0_1 t0_2 t0_3 t0_4 t0_5 t0_6 t0_7 t0_8 t0_9 t0_10 t0_11 t0_12 t0_13 t1_0 lx26 j54 lx59 j74 lx102 lx114 lx115 j138 fm153 j209 0 from (by rw [← e210]; have h := hS150; rw [S_TR_findHexadecimal_L229.eq_2] at h; have c193x := c193; rw [← e155] at c193x; rw [if_neg c193x] at h; rw [if_pos c196] at h; replace h := q_s2 h; have c207x := c207; rw [e206] at c207x; rw [if_neg c207x] at h; with_reducible exact h))⟩
                    ·
                      refine lv_iconst (v := 1) hx hb d_18_25_252 (by decide) ?_
                      refine lv_goto (tgt := 257) hx hb d_18_25_253 (by decide) ?_
                      refine lv_istore (lv' := [(7, .int 1), (10, .long lx144), (8, .long j138), (0, .ref (q 153))]) hx hb d_18_25_257 hl (by decide) rfl (fun ls hl => ?_)
                      refine lv_lload hx hb d_18_25_259 (lv_at hl 1 rfl) ?_
                      refine lv_lconst (v := 1) hx hb d_18_25_261 (by decide) ?_
                      refine lv_lsub hx hb d_18_25_262 ?_
                      obtain ⟨j212, e213⟩ := q_nm (lx144 - 1 : Int64)
                      refine q_tl (v := j212) e213 ?_
                      refine lv_lstore (lv' := [(10, .long j212), (7, .int 1), (8, .long j138), (0, .ref (q 153))]) hx hb d_18_25_263 hl (by decide) rfl (fun ls hl => ?_)
                      refine lv_goto (tgt := 229) hx hb d_18_25_265 (by decide) ?_
                      exact ih148 ((fm153 : Nat), (j212 : Int64), (1 : Int32)) _ _ _ w117 (Nat.lt_succ_self _) ⟨(show q_F (0 ≤ 1) from (show 0 ≤ 1 from by omega)), (show q_F (1 ≤ 1) from (show 1 ≤ 1 from by omega)), V, q_lw hl (q_lw1 0 rfl (q_lw1 2 rfl (q_lw1 1 rfl (q_lw1 3 rfl q_lw0)))), (show F_TR_findHexadecimal_L229 (F_TR_findHexadecimal_L156 x2 x3 x4 t0_0 t0_1 t0_2 t0_3 t0_4 t0_5 t0_6 t0_7 t0_8 t0_9 t0_10 t0_11 t0_12 t0_13 t1_0 lx26 j54 lx59 j74 lx102 fm124) x2 x3 x4 t0_0 t0_1 t0_2 t0_3 t0_4 t0_5 t0_6 t0_7 t0_8 t0_9 t0_10 t0_11 t0_12 t0_13 t1_0 lx26 j54 lx59 j74 lx102 lx114 lx115 j138 fm153 j212 1 = (F_TR_findHexadecimal x2 x3 x4 t0_0 t0_1 t0_2 t0_3 t0_4 t0_5 t0_6 t0_7 t0_8 t0_9 t0_10 t0_11 t0_12 t0_13 t1_0) from Eq.trans (by have c193x := c193; rw [← e155] at c193x; have c207x := c207; rw [e206] at c207x; rw [← e213, F_TR_findHexadecimal_L229.eq_2, if_neg c193x, if_pos c196, if_pos c207x]) hR149), (show True ∧ S_TR_findHexadecimal_L229 (S_TR_findHexadecimal_L156 x2 x3 x4 t0_0 t0_1 t0_2 t0_3 t0_4 t0_5 t0_6 t0_7 t0_8 t0_9 t0_10 t0_11 t0_12 t0_13 t1_0 lx26 j54 lx59 j74 lx102 fm124) x2 x3 x4 t0_0 t0_1 t0_2 t0_3 t0_4 t0_5 t0_6 t0_7 t0_8 t0_9 t0_10 t0_11 t0_12 t0_13 t1_0 lx26 j54 lx59 j74 lx102 lx114 lx115 j138 fm153 j212 1 from (by rw [← e213]; have h := hS150; rw [S_TR_findHexadecimal_L229.eq_2] at h; have c193x := c193; rw [← e155] at c193x; rw [if_neg c193x] at h; rw [if_pos c196] at h; replace h := q_s2 h; have c207x := c207; rw [e206] at c207x; rw [if_pos c207x] at h; with_reducible exact h))⟩
            ·
              refine lv_aload_n hx hb d_18_25_166 rfl (lv_at hl 1 rfl) ?_
              refine q_ldc2 C0 rfl w_2510 d_18_25_167 ?_
              refine lv_aload_n hx hb d_18_25_170 rfl (lv_at hl 1 rfl) ?_
              refine q_get (ci := 16) (j := 13) (v := .long lx115) C0 V i_TR rfl rfl hO118 (by decide) w_2153 rfl d_18_25_171 ?_
              refine lv_lmul hx hb d_18_25_174 ?_
              obtain ⟨j215, e216⟩ := q_nm (2 * lx115 : Int64)
              refine q_tl (v := j215) e216 ?_
              refine lv_aload_n hx hb d_18_25_175 rfl (lv_at hl 1 rfl) ?_
              refine lv_lload hx hb d_18_25_176 (lv_at hl 0 rfl) ?_
              have ob217 : True ∧ S_TR_bitAt lx114 t0_0 t0_1 t0_2 t0_3 t0_4 t0_5 t0_6 t0_7 t0_8 t0_9 lx115 lx102 (1 : Int32) lx59 t1_0 := (by have h := hS121; rw [S_TR_findHexadecimal_L156.eq_2] at h; have c128x := c128; rw [← e126] at c128x; rw [if_neg c128x] at h; with_reducible exact h.2.1)
              refine q_goi V (q_runV (As := [.long lx114]) (rest := [.long j215, .ref (q 153)]) (d := 1) (mc := 0) (ms := 0) (ci := 16) C0 V rfl LV_TR_149 (X_TR_bitAt l D g q w117  lx114 hI t0_0 t0_1 t0_2 t0_3 t0_4 t0_5 t0_6 t0_7 t0_8 t0_9 lx115 lx102 1 lx59 hO118 t1_0 hO119 ob217 _) rfl rfl hO118 rfl hl.1 rfl (Nat.le_of_ble_eq_true rfl) ⟨by decide, by decide⟩ ⟨Nat.le_of_ble_eq_true rfl, Nat.le_of_ble_eq_true rfl⟩ d_18_25_178) (fun a220 u218 H locs hp219 V => ?_)
              obtain ⟨rfl, b221, b222, hE223⟩ := hp219
              have e224 : a220 = (F_TR_bitAt lx114 t0_0 t0_1 t0_2 t0_3 t0_4 t0_5 t0_6 t0_7 t0_8 t0_9 lx115 lx102 (1 : Int32) lx59 t1_0) := hE223
              clear b221
              clear b222
              refine lv_i2l hx hb d_18_25_181 rfl ?_
              obtain ⟨j225, e226⟩ := q_nm (a220.toInt64 : Int64)
              refine q_tl (v := j225) e226 ?_
              refine lv_ladd hx hb d_18_25_182 ?_
              obtain ⟨j228, e229⟩ := q_nm (j215 + j225 : Int64)
              refine q_tl (v := j228) e229 ?_
              refine q_put (ci := 16) (j := 13) (v := .long j228) (ty := .long) C0 V i_TR o_TR n_TR rfl rfl hO118 (by decide) w_2153 rfl rfl rfl rfl (Nat.le_of_ble_eq_true rfl) d_18_25_183 (fun H locs w230 hu231 hO118 V => ?_)
              replace hO118 : w230[153]? = (some (q 153, .inr (16, [.int t0_0, .ref (q 154), .int t0_1, .int t0_2, .int t0_3, .int t0_4, .ref (q 155), .int t0_5, .int t0_6, .long t0_7, .ref (q 156), .int t0_8, .int t0_9, .long j228, .long lx102, .int 1, .int lx59])) : Option (Nat × va_E)) := hO118
              replace hI := n_p153 hI hu231 hO118 (by first | with_reducible exact q_fe btt0_1 | exact ⟨(by have t1 : 0 ≤ t0_1.toInt ∧ t0_1.toInt ≤ 4100 := btt0_1; omega), (by have t1 : 0 ≤ t0_1.toInt ∧ t0_1.toInt ≤ 4100 := btt0_1; omega)⟩) (by first | with_reducible exact q_fe btt0_4 | exact ⟨(by have t1 : 0 ≤ t0_4.toInt ∧ t0_4.toInt ≤ 1 := btt0_4; omega), (by have t1 : 0 ≤ t0_4.toInt ∧ t0_4.toInt ≤ 1 := btt0_4; omega)⟩) ⟨(by first | with_reducible exact q_fe i63 | (have t1 : 0 ≤ lx59.toInt := i63; omega)), (by first | with_reducible exact q_fe i64 | (have t1 : lx59.toInt ≤ 1 := i64; omega))⟩
              replace hO119 := (hu231 _ (by decide)).trans hO119
              replace hF := q_us hF hu231 (by simp)
              refine lv_lload hx hb d_18_25_186 (lv_at hl 0 rfl) ?_
              refine lv_lconst (v := 1) hx hb d_18_25_188 (by decide) ?_
              refine lv_lsub hx hb d_18_25_189 ?_
              obtain ⟨j232, e233⟩ := q_nm (lx114 - 1 : Int64)
              refine q_tl (v := j232) e233 ?_
              refine lv_lstore (lv' := [(7, .long j232), (0, .ref (q 153))]) hx hb d_18_25_190 hl (by decide) rfl (fun ls hl => ?_)
              refine lv_goto (tgt := 156) hx hb d_18_25_192 (by decide) ?_
              exact ih116 ((fm124 : Nat), (j232 : Int64), (j228 : Int64)) _ _ _ _ (Nat.lt_succ_self _) ⟨V, q_lw hl (q_lw1 0 rfl (q_lw1 1 rfl q_lw0)), hI, hF, hO118, hO119, (show F_TR_findHexadecimal_L156 x2 x3 x4 t0_0 t0_1 t0_2 t0_3 t0_4 t0_5 t0_6 t0_7 t0_8 t0_9 t0_10 t0_11 t0_12 t0_13 t1_0 lx26 j54 lx59 j74 lx102 fm124 j232 j228 = (F_TR_findHexadecimal x2 x3 x4 t0_0 t0_1 t0_2 t0_3 t0_4 t0_5 t0_6 t0_7 t0_8 t0_9 t0_10 t0_11 t0_12 t0_13 t1_0) from Eq.trans (by have c128x := c128; rw [← e126] at c128x; rw [← e233, ← e229, ← e226, e224, ← e216, F_TR_findHexadecimal_L156.eq_2, if_neg c128x]) hR120), (show True ∧ S_TR_findHexadecimal_L156 x2 x3 x4 t0_0 t0_1 t0_2 t0_3 t0_4 t0_5 t0_6 t0_7 t0_8 t0_9 t0_10 t0_11 t0_12 t0_13 t1_0 lx26 j54 lx59 j74 lx102 fm124 j232 j228 from (by rw [← e233, ← e229, ← e226, e224, ← e216]; have h := hS121; rw [S_TR_findHexadecimal_L156.eq_2] at h; have c128x := c128; rw [← e126] at c128x; rw [if_neg c128x] at h; replace h := q_s2 h; with_reducible exact h))⟩
          ·
            intro J105
            refine lv_if_le (tgt := 147) hx hb d_18_25_134 (by decide) (fun c234 => ?_) (fun c234 => ?_)
            ·
              refine lv_iload_n hx hb d_18_25_147 rfl (lv_at hl 3 rfl) ?_
              refine lv_i2l hx hb d_18_25_148 rfl ?_
              obtain ⟨j236, e237⟩ := q_nm (x4.toInt64 : Int64)
              refine q_tl (v := j236) e237 ?_
              exact J105 ((j236 : Int64)) _ _ _ w79 ⟨V, q_lw hl (q_lw1 0 rfl (q_lw1 1 rfl q_lw0)), (show F_TR_findHexadecimal_J149 x2 x3 x4 t0_0 t0_1 t0_2 t0_3 t0_4 t0_5 t0_6 t0_7 t0_8 t0_9 t0_10 t0_11 t0_12 t0_13 t1_0 lx26 j54 lx59 j74 j236 = (F_TR_findHexadecimal x2 x3 x4 t0_0 t0_1 t0_2 t0_3 t0_4 t0_5 t0_6 t0_7 t0_8 t0_9 t0_10 t0_11 t0_12 t0_13 t1_0) from Eq.trans (by have c87x := c87; rw [← e85] at c87x; have c234x := c234; rw [← e100, ← e97, ← e95, ← e93, ← e90] at c234x; rw [← e237, ← e75, F_TR_findHexadecimal_J87.eq_1, if_pos c81, if_pos c87x, if_pos c234x]) hR65), (show True ∧ S_TR_findHexadecimal_J149 x2 x3 x4 t0_0 t0_1 t0_2 t0_3 t0_4 t0_5 t0_6 t0_7 t0_8 t0_9 t0_10 t0_11 t0_12 t0_13 t1_0 lx26 j54 lx59 j74 j236 from (by rw [← e237, ← e75]; have h := hS66; rw [S_TR_findHexadecimal_J87.eq_1] at h; rw [if_pos c81] at h; have c87x := c87; rw [← e85] at c87x; rw [if_pos c87x] at h; have c234x := c234; rw [← e100, ← e97, ← e95, ← e93, ← e90] at c234x; rw [if_pos c234x] at h; with_reducible exact h))⟩
            ·
              refine lv_lload hx hb d_18_25_137 (lv_at hl 0 rfl) ?_
              refine lv_iload_n hx hb d_18_25_139 rfl (lv_at hl 2 rfl) ?_
              refine lv_i2l hx hb d_18_25_140 rfl ?_
              obtain ⟨j240, e241⟩ := q_nm (x3.toInt64 : Int64)
              refine q_tl (v := j240) e241 ?_
              refine lv_lsub hx hb d_18_25_141 ?_
              obtain ⟨j243, e244⟩ := q_nm (j54 - j240 : Int64)
              refine q_tl (v := j243) e244 ?_
              refine lv_lconst (v := 1) hx hb d_18_25_142 (by decide) ?_
              refine lv_ladd hx hb d_18_25_143 ?_
              obtain ⟨j245, e246⟩ := q_nm (j243 + 1 : Int64)
              refine q_tl (v := j245) e246 ?_
              refine lv_goto (tgt := 149) hx hb d_18_25_144 (by decide) ?_
              exact J105 ((j245 : Int64)) _ _ _ w79 ⟨V, q_lw hl (q_lw1 0 rfl (q_lw1 1 rfl q_lw0)), (show F_TR_findHexadecimal_J149 x2 x3 x4 t0_0 t0_1 t0_2 t0_3 t0_4 t0_5 t0_6 t0_7 t0_8 t0_9 t0_10 t0_11 t0_12 t0_13 t1_0 lx26 j54 lx59 j74 j245 = (F_TR_findHexadecimal x2 x3 x4 t0_0 t0_1 t0_2 t0_3 t0_4 t0_5 t0_6 t0_7 t0_8 t0_9 t0_10 t0_11 t0_12 t0_13 t1_0) from Eq.trans (by have c87x := c87; rw [← e85] at c87x; have c234x := c234; rw [← e100, ← e97, ← e95, ← e93, ← e90] at c234x; rw [← e246, ← e244, ← e241, ← e75, F_TR_findHexadecimal_J87.eq_1, if_pos c81, if_pos c87x, if_neg c234x]) hR65), (show True ∧ S_TR_findHexadecimal_J149 x2 x3 x4 t0_0 t0_1 t0_2 t0_3 t0_4 t0_5 t0_6 t0_7 t0_8 t0_9 t0_10 t0_11 t0_12 t0_13 t1_0 lx26 j54 lx59 j74 j245 from (by rw [← e246, ← e244, ← e241, ← e75]; have h := hS66; rw [S_TR_findHexadecimal_J87.eq_1] at h; rw [if_pos c81] at h; have c87x := c87; rw [← e85] at c87x; rw [if_pos c87x] at h; have c234x := c234; rw [← e100, ← e97, ← e95, ← e93, ← e90] at c234x; rw [if_neg c234x] at h; with_reducible exact h))⟩
        ·
          exact q_retv C0 V (⟨hI, hF, t0_0, t0_1, t0_2, t0_3, t0_4, t0_5, t0_6, t0_7, t0_8, t0_9, 0, j74, 1, lx59, hT0, (show (1 : Int32).toInt ≤ 3 from (by have z28 : (0 : Int64).toInt = 0 := rfl; have z30 : (1 : Int32).toInt = 1 := rfl; omega)), (show 0 ≤ lx59.toInt from (by have z28 : (0 : Int64).toInt = 0 := rfl; have z30 : (1 : Int32).toInt = 1 := rfl; have t1 : 0 ≤ lx59.toInt := i63; omega)), (show lx59.toInt ≤ 1 from (by have z28 : (0 : Int64).toInt = 0 := rfl; have z30 : (1 : Int32).toInt = 1 := rfl; have t1 : lx59.toInt ≤ 1 := i64; omega)), (show t0_0.toInt ≤ t0_0.toInt from (by have z28 : (0 : Int64).toInt = 0 := rfl; have z30 : (1 : Int32).toInt = 1 := rfl; omega)), (show t0_0.toInt ≤ t0_0.toInt from (by have z28 : (0 : Int64).toInt = 0 := rfl; have z30 : (1 : Int32).toInt = 1 := rfl; omega)), (show x2.toInt ≤ t0_1.toInt + 4099 from (by have z28 : (0 : Int64).toInt = 0 := rfl; have z30 : (1 : Int32).toInt = 1 := rfl; have t1 : 0 ≤ t0_1.toInt ∧ t0_1.toInt ≤ 4100 := btt0_1; have t2 : x2.toInt ≤ 4099 := ob23; omega)), (show t0_1.toInt ≤ x2.toInt + 4100 from (by have z28 : (0 : Int64).toInt = 0 := rfl; have z30 : (1 : Int32).toInt = 1 := rfl; have t1 : 0 ≤ t0_1.toInt ∧ t0_1.toInt ≤ 4100 := btt0_1; have t2 : 0 ≤ x2.toInt := ob22; omega)), (show t0_1.toInt ≤ t0_1.toInt from (by have z28 : (0 : Int64).toInt = 0 := rfl; have z30 : (1 : Int32).toInt = 1 := rfl; omega)), (show t0_1.toInt ≤ t0_1.toInt from (by have z28 : (0 : Int64).toInt = 0 := rfl; have z30 : (1 : Int32).toInt = 1 := rfl; omega)), (show t0_2.toInt ≤ t0_2.toInt from (by have z28 : (0 : Int64).toInt = 0 := rfl; have z30 : (1 : Int32).toInt = 1 := rfl; omega)), (show t0_2.toInt ≤ t0_2.toInt from (by have z28 : (0 : Int64).toInt = 0 := rfl; have z30 : (1 : Int32).toInt = 1 := rfl; omega)), (show t0_3.toInt ≤ t0_3.toInt from (by have z28 : (0 : Int64).toInt = 0 := rfl; have z30 : (1 : Int32).toInt = 1 := rfl; omega)), (show t0_3.toInt ≤ t0_3.toInt from (by have z28 : (0 : Int64).toInt = 0 := rfl; have z30 : (1 : Int32).toInt = 1 := rfl; omega)), (show x2.toInt ≤ t0_4.toInt + 4099 from (by have z28 : (0 : Int64).toInt = 0 := rfl; have z30 : (1 : Int32).toInt = 1 := rfl; have t1 : 0 ≤ t0_4.toInt ∧ t0_4.toInt ≤ 1 := btt0_4; have t2 : x2.toInt ≤ 4099 := ob23; omega)), (show t0_4.toInt ≤ x2.toInt + 1 from (by have z28 : (0 : Int64).toInt = 0 := rfl; have z30 : (1 : Int32).toInt = 1 := rfl; have t1 : 0 ≤ t0_4.toInt ∧ t0_4.toInt ≤ 1 := btt0_4; have t2 : 0 ≤ x2.toInt := ob22; omega)), (show t0_4.toInt ≤ t0_4.toInt from (by have z28 : (0 : Int64).toInt = 0 := rfl; have z30 : (1 : Int32).toInt = 1 := rfl; omega)), (show t0_4.toInt ≤ t0_4.toInt from (by have z28 : (0 : Int64).toInt = 0 := rfl; have z30 : (1 : Int32).toInt = 1 := rfl; omega)), (show t0_5.toInt ≤ t0_5.toInt from (by have z28 : (0 : Int64).toInt = 0 := rfl; have z30 : (1 : Int32).toInt = 1 := rfl; omega)), (show t0_5.toInt ≤ t0_5.toInt from (by have z28 : (0 : Int64).toInt = 0 := rfl; have z30 : (1 : Int32).toInt = 1 := rfl; omega)), (show t0_6.toInt ≤ t0_6.toInt from (by have z28 : (0 : Int64).toInt = 0 := rfl; have z30 : (1 : Int32).toInt = 1 := rfl; omega)), (show t0_6.toInt ≤ t0_6.toInt from (by have z28 : (0 : Int64).toInt = 0 := rfl; have z30 : (1 : Int32).toInt = 1 := rfl; omega)), (show t0_7.toInt ≤ t0_7.toInt from (by have z28 : (0 : Int64).toInt = 0 := rfl; have z30 : (1 : Int32).toInt = 1 := rfl; omega)), (show t0_7.toInt ≤ t0_7.toInt from (by have z28 : (0 : Int64).toInt = 0 := rfl; have z30 : (1 : Int32).toInt = 1 := rfl; omega)), (show t0_8.toInt ≤ t0_8.toInt from (by have z28 : (0 : Int64).toInt = 0 := rfl; have z30 : (1 : Int32).toInt = 1 := rfl; omega)), (show t0_8.toInt ≤ t0_8.toInt from (by have z28 : (0 : Int64).toInt = 0 := rfl; have z30 : (1 : Int32).toInt = 1 := rfl; omega)), (show t0_9.toInt ≤ t0_9.toInt from (by have z28 : (0 : Int64).toInt = 0 := rfl; have z30 : (1 : Int32).toInt = 1 := rfl; omega)), (show t0_9.toInt ≤ t0_9.toInt from (by have z28 : (0 : Int64).toInt = 0 := rfl; have z30 : (1 : Int32).toInt = 1 := rfl; omega)), (show (1 : Int32).toInt ≤ x2.toInt + 3 from (by have z28 : (0 : Int64).toInt = 0 := rfl; have z30 : (1 : Int32).toInt = 1 := rfl; have t1 : 0 ≤ x2.toInt := ob22; omega)), (show x2.toInt ≤ lx59.toInt + 4099 from (by have z28 : (0 : Int64).toInt = 0 := rfl; have z30 : (1 : Int32).toInt = 1 := rfl; have t1 : x2.toInt ≤ 4099 := ob23; have t2 : 0 ≤ lx59.toInt := i63; omega)), (show lx59.toInt ≤ x2.toInt + 1 from (by have z28 : (0 : Int64).toInt = 0 := rfl; have z30 : (1 : Int32).toInt = 1 := rfl; have t1 : 0 ≤ x2.toInt := ob22; have t2 : lx59.toInt ≤ 1 := i64; omega)), (show lx59.toInt ≤ (1 : Int32).toInt from (by have z28 : (0 : Int64).toInt = 0 := rfl; have z30 : (1 : Int32).toInt = 1 := rfl; have t1 : lx59.toInt ≤ 1 := i64; omega)), (show (t0_0, t0_1, t0_2, t0_3, t0_4, t0_5, t0_6, t0_7, t0_8, t0_9, (0 : Int64), j74, (1 : Int32), lx59) = (F_TR_findHexadecimal x2 x3 x4 t0_0 t0_1 t0_2 t0_3 t0_4 t0_5 t0_6 t0_7 t0_8 t0_9 t0_10 t0_11 t0_12 t0_13 t1_0) from Eq.trans (by have c87x := c87; rw [← e85] at c87x; rw [← e75, F_TR_findHexadecimal_J87.eq_1, if_pos c81, if_neg c87x]) hR65)⟩) d_18_25_122
    ·
      intro J62
      refine lv_if_le (tgt := 86) hx hb d_18_25_79 (by decide) (fun c248 => ?_) (fun c248 => ?_)
      ·
        refine lv_iconst (v := 0) hx hb d_18_25_86 (by decide) ?_
        exact J62 ((0 : Int32)) _ _ _ ws ⟨(show q_F (0 ≤ 0) from (show 0 ≤ 0 from by omega)), (show q_F (0 ≤ 1) from (show 0 ≤ 1 from by omega)), V, q_lw hl (q_lw1 0 rfl (q_lw1 2 rfl (q_lw1 4 rfl (q_lw1 5 rfl q_lw0)))), (show F_TR_findHexadecimal_J87 x2 x3 x4 t0_0 t0_1 t0_2 t0_3 t0_4 t0_5 t0_6 t0_7 t0_8 t0_9 t0_10 t0_11 t0_12 t0_13 t1_0 lx26 j54 0 = (F_TR_findHexadecimal x2 x3 x4 t0_0 t0_1 t0_2 t0_3 t0_4 t0_5 t0_6 t0_7 t0_8 t0_9 t0_10 t0_11 t0_12 t0_13 t1_0) from Eq.trans (by have c248x := c248; rw [← e57, ← e55, ← e52, ← e49, ← e46, ← e43, ← e40, ← e38] at c248x; rw [← e55, ← e52, ← e49, ← e46, ← e43, ← e40, ← e38, F_TR_findHexadecimal_J44.eq_1, if_pos c248x]) hR32), (show True ∧ S_TR_findHexadecimal_J87 x2 x3 x4 t0_0 t0_1 t0_2 t0_3 t0_4 t0_5 t0_6 t0_7 t0_8 t0_9 t0_10 t0_11 t0_12 t0_13 t1_0 lx26 j54 0 from (by rw [← e55, ← e52, ← e49, ← e46, ← e43, ← e40, ← e38]; have h := hS33; rw [S_TR_findHexadecimal_J44.eq_1] at h; have c248x := c248; rw [← e57, ← e55, ← e52, ← e49, ← e46, ← e43, ← e40, ← e38] at c248x; rw [if_pos c248x] at h; with_reducible exact h))⟩
      ·
        refine lv_iconst (v := 1) hx hb d_18_25_82 (by decide) ?_
        refine lv_goto (tgt := 87) hx hb d_18_25_83 (by decide) ?_
        exact J62 ((1 : Int32)) _ _ _ ws ⟨(show q_F (0 ≤ 1) from (show 0 ≤ 1 from by omega)), (show q_F (1 ≤ 1) from (show 1 ≤ 1 from by omega)), V, q_lw hl (q_lw1 0 rfl (q_lw1 2 rfl (q_lw1 4 rfl (q_lw1 5 rfl q_lw0)))), (show F_TR_findHexadecimal_J87 x2 x3 x4 t0_0 t0_1 t0_2 t0_3 t0_4 t0_5 t0_6 t0_7 t0_8 t0_9 t0_10 t0_11 t0_12 t0_13 t1_0 lx26 j54 1 = (F_TR_findHexadecimal x2 x3 x4 t0_0 t0_1 t0_2 t0_3 t0_4 t0_5 t0_6 t0_7 t0_8 t0_9 t0_10 t0_11 t0_12 t0_13 t1_0) from Eq.trans (by have c248x := c248; rw [← e57, ← e55, ← e52, ← e49, ← e46, ← e43, ← e40, ← e38] at c248x; rw [← e55, ← e52, ← e49, ← e46, ← e43, ← e40, ← e38, F_TR_findHexadecimal_J44.eq_1, if_neg c248x]) hR32), (show True ∧ S_TR_findHexadecimal_J87 x2 x3 x4 t0_0 t0_1 t0_2 t0_3 t0_4 t0_5 t0_6 t0_7 t0_8 t0_9 t0_10 t0_11 t0_12 t0_13 t1_0 lx26 j54 1 from (by rw [← e55, ← e52, ← e49, ← e46, ← e43, ← e40, ← e38]; have h := hS33; rw [S_TR_findHexadecimal_J44.eq_1] at h; have c248x := c248; rw [← e57, ← e55, ← e52, ← e49, ← e46, ← e43, ← e40, ← e38] at c248x; rw [if_neg c248x] at h; with_reducible exact h))⟩
  ·
    intro J29
    refine lv_icmp_lt (tgt := 15) hx hb d_18_25_8 (by decide) (fun c251 => ?_) (fun c251 => ?_)
    ·
      refine lv_aload_n hx hb d_18_25_15 rfl (lv_at hl 0 rfl) ?_
      refine q_get (ci := 16) (j := 6) (v := .ref (q 155)) C0 V i_TR rfl rfl hT0 (by decide) w_2146 rfl d_18_25_16 ?_
      refine lv_iload_n hx hb d_18_25_19 rfl (lv_at hl 1 rfl) ?_
      refine q_iald C0 V hT1 (q_ix (x := x2.toInt) rfl (by first | with_reducible exact q_fe ob22 | (have t1 : 0 ≤ x2.toInt := ob22; omega)) (by have t1 : 0 ≤ x2.toInt := ob22; have t2 : x2.toInt ≤ 4099 := ob23; have e9 : (((4100 : Int32).toNatClampNeg : Nat) : Int) = 4100 := (by decide); omega)) d_18_25_20 ?_
      obtain ⟨a253, e254⟩ := q_nm (t1_0 x2.toNatClampNeg : Int32)
      refine q_ti (v := a253) e254 ?_
      refine lv_iconst (v := 4) hx hb d_18_25_21 (by decide) ?_
      refine lv_icmp_lt (tgt := 29) hx hb d_18_25_22 (by decide) (fun c255 => ?_) (fun c255 => ?_)
      ·
        refine lv_aload_n hx hb d_18_25_29 rfl (lv_at hl 0 rfl) ?_
        refine q_get (ci := 16) (j := 6) (v := .ref (q 155)) C0 V i_TR rfl rfl hT0 (by decide) w_2146 rfl d_18_25_30 ?_
        refine lv_iload_n hx hb d_18_25_33 rfl (lv_at hl 1 rfl) ?_
        refine q_iald C0 V hT1 (q_ix (x := x2.toInt) rfl (by first | with_reducible exact q_fe ob22 | (have t1 : 0 ≤ x2.toInt := ob22; omega)) (by have t1 : 0 ≤ x2.toInt := ob22; have t2 : x2.toInt ≤ 4099 := ob23; have e9 : (((4100 : Int32).toNatClampNeg : Nat) : Int) = 4100 := (by decide); omega)) d_18_25_34 ?_
        obtain ⟨a257, e258⟩ := q_nm (t1_0 x2.toNatClampNeg : Int32)
        refine q_ti (v := a257) e258 ?_
        refine lv_iconst (v := 2) hx hb d_18_25_35 (by decide) ?_
        refine lv_icmp_lt (tgt := 43) hx hb d_18_25_36 (by decide) (fun c259 => ?_) (fun c259 => ?_)
        ·
          refine lv_iconst (v := 1) hx hb d_18_25_43 (by decide) ?_
          exact J29 ((1 : Int32)) _ _ _ ws ⟨(show q_F (1 ≤ 1) from (show 1 ≤ 1 from by omega)), (show q_F (1 ≤ 4) from (show 1 ≤ 4 from by omega)), V, q_lw hl (q_lw1 0 rfl (q_lw1 1 rfl (q_lw1 2 rfl (q_lw1 3 rfl q_lw0)))), (show F_TR_findHexadecimal_J44 x2 x3 x4 t0_0 t0_1 t0_2 t0_3 t0_4 t0_5 t0_6 t0_7 t0_8 t0_9 t0_10 t0_11 t0_12 t0_13 t1_0 1 = (F_TR_findHexadecimal x2 x3 x4 t0_0 t0_1 t0_2 t0_3 t0_4 t0_5 t0_6 t0_7 t0_8 t0_9 t0_10 t0_11 t0_12 t0_13 t1_0) from (by have c251x := c251; rw [← e25] at c251x; have c255x := c255; rw [← e254] at c255x; have c259x := c259; rw [← e258] at c259x; rw [F_TR_findHexadecimal.eq_1, if_pos c251x, if_pos c255x, if_pos c259x])), (show True ∧ S_TR_findHexadecimal_J44 x2 x3 x4 t0_0 t0_1 t0_2 t0_3 t0_4 t0_5 t0_6 t0_7 t0_8 t0_9 t0_10 t0_11 t0_12 t0_13 t1_0 1 from (by have h := hS; rw [S_TR_findHexadecimal.eq_1] at h; replace h := q_s2 h; replace h := q_s2 h; have c251x := c251; rw [← e25] at c251x; rw [if_pos c251x] at h; have c255x := c255; rw [← e254] at c255x; rw [if_pos c255x] at h; have c259x := c259; rw [← e258] at c259x; rw [if_pos c259x] at h; with_reducible exact h))⟩
        ·
          refine lv_iconst (v := 2) hx hb d_18_25_39 (by decide) ?_
          refine lv_goto (tgt := 44) hx hb d_18_25_40 (by decide) ?_
          exact J29 ((2 : Int32)) _ _ _ ws ⟨(show q_F (1 ≤ 2) from (show 1 ≤ 2 from by omega)), (show q_F (2 ≤ 4) from (show 2 ≤ 4 from by omega)), V, q_lw hl (q_lw1 0 rfl (q_lw1 1 rfl (q_lw1 2 rfl (q_lw1 3 rfl q_lw0)))), (show F_TR_findHexadecimal_J44 x2 x3 x4 t0_0 t0_1 t0_2 t0_3 t0_4 t0_5 t0_6 t0_7 t0_8 t0_9 t0_10 t0_11 t0_12 t0_13 t1_0 2 = (F_TR_findHexadecimal x2 x3 x4 t0_0 t0_1 t0_2 t0_3 t0_4 t0_5 t0_6 t0_7 t0_8 t0_9 t0_10 t0_11 t0_12 t0_13 t1_0) from (by have c251x := c251; rw [← e25] at c251x; have c255x := c255; rw [← e254] at c255x; have c259x := c259; rw [← e258] at c259x; rw [F_TR_findHexadecimal.eq_1, if_pos c251x, if_pos c255x, if_neg c259x])), (show True ∧ S_TR_findHexadecimal_J44 x2 x3 x4 t0_0 t0_1 t0_2 t0_3 t0_4 t0_5 t0_6 t0_7 t0_8 t0_9 t0_10 t0_11 t0_12 t0_13 t1_0 2 from (by have h := hS; rw [S_TR_findHexadecimal.eq_1] at h; replace h := q_s2 h; replace h := q_s2 h; have c251x := c251; rw [← e25] at c251x; rw [if_pos c251x] at h; have c255x := c255; rw [← e254] at c255x; rw [if_pos c255x] at h; have c259x := c259; rw [← e258] at c259x; rw [if_neg c259x] at h; with_reducible exact h))⟩
      ·
        refine lv_iconst (v := 3) hx hb d_18_25_25 (by decide) ?_
        refine lv_goto (tgt := 44) hx hb d_18_25_26 (by decide) ?_
        exact J29 ((3 : Int32)) _ _ _ ws ⟨(show q_F (1 ≤ 3) from (show 1 ≤ 3 from by omega)), (show q_F (3 ≤ 4) from (show 3 ≤ 4 from by omega)), V, q_lw hl (q_lw1 0 rfl (q_lw1 1 rfl (q_lw1 2 rfl (q_lw1 3 rfl q_lw0)))), (show F_TR_findHexadecimal_J44 x2 x3 x4 t0_0 t0_1 t0_2 t0_3 t0_4 t0_5 t0_6 t0_7 t0_8 t0_9 t0_10 t0_11 t0_12 t0_13 t1_0 3 = (F_TR_findHexadecimal x2 x3 x4 t0_0 t0_1 t0_2 t0_3 t0_4 t0_5 t0_6 t0_7 t0_8 t0_9 t0_10 t0_11 t0_12 t0_13 t1_0) from (by have c251x := c251; rw [← e25] at c251x; have c255x := c255; rw [← e254] at c255x; rw [F_TR_findHexadecimal.eq_1, if_pos c251x, if_neg c255x])), (show True ∧ S_TR_findHexadecimal_J44 x2 x3 x4 t0_0 t0_1 t0_2 t0_3 t0_4 t0_5 t0_6 t0_7 t0_8 t0_9 t0_10 t0_11 t0_12 t0_13 t1_0 3 from (by have h := hS; rw [S_TR_findHexadecimal.eq_1] at h; replace h := q_s2 h; replace h := q_s2 h; have c251x := c251; rw [← e25] at c251x; rw [if_pos c251x] at h; have c255x := c255; rw [← e254] at c255x; rw [if_neg c255x] at h; with_reducible exact h))⟩
    ·
      refine lv_iconst (v := 4) hx hb d_18_25_11 (by decide) ?_
      refine lv_goto (tgt := 44) hx hb d_18_25_12 (by decide) ?_
      exact J29 ((4 : Int32)) _ _ _ ws ⟨(show q_F (1 ≤ 4) from (show 1 ≤ 4 from by omega)), (show q_F (4 ≤ 4) from (show 4 ≤ 4 from by omega)), V, q_lw hl (q_lw1 0 rfl (q_lw1 1 rfl (q_lw1 2 rfl (q_lw1 3 rfl q_lw0)))), (show F_TR_findHexadecimal_J44 x2 x3 x4 t0_0 t0_1 t0_2 t0_3 t0_4 t0_5 t0_6 t0_7 t0_8 t0_9 t0_10 t0_11 t0_12 t0_13 t1_0 4 = (F_TR_findHexadecimal x2 x3 x4 t0_0 t0_1 t0_2 t0_3 t0_4 t0_5 t0_6 t0_7 t0_8 t0_9 t0_10 t0_11 t0_12 t0_13 t1_0) from (by have c251x := c251; rw [← e25] at c251x; rw [F_TR_findHexadecimal.eq_1, if_neg c251x])), (show True ∧ S_TR_findHexadecimal_J44 x2 x3 x4 t0_0 t0_1 t0_2 t0_3 t0_4 t0_5 t0_6 t0_7 t0_8 t0_9 t0_10 t0_11 t0_12 t0_13 t1_0 4 from (by have h := hS; rw [S_TR_findHexadecimal.eq_1] at h; replace h := q_s2 h; replace h := q_s2 h; have c251x := c251; rw [← e25] at c251x; rw [if_neg c251x] at h; with_reducible exact h))⟩

