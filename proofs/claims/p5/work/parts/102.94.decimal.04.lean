theorem d_15_25_0 : decode prog_15_method_25_code 0 = .ok (.aload_n 0, 1) := by decide +kernel
theorem d_15_25_1 : decode prog_15_method_25_code 1 = .ok (.getfield 16, 3) := by decide +kernel
theorem d_15_25_4 : decode prog_15_method_25_code 4 = .ok (.iload_n 1, 1) := by decide +kernel
theorem d_15_25_5 : decode prog_15_method_25_code 5 = .ok (.iaload, 1) := by decide +kernel
theorem d_15_25_6 : decode prog_15_method_25_code 6 = .ok (.i2l, 1) := by decide +kernel
theorem d_15_25_7 : decode prog_15_method_25_code 7 = .ok (.lconst 1, 1) := by decide +kernel
theorem d_15_25_8 : decode prog_15_method_25_code 8 = .ok (.lsub, 1) := by decide +kernel
theorem d_15_25_9 : decode prog_15_method_25_code 9 = .ok (.iload 4, 2) := by decide +kernel
theorem d_15_25_11 : decode prog_15_method_25_code 11 = .ok (.i2l, 1) := by decide +kernel
theorem d_15_25_12 : decode prog_15_method_25_code 12 = .ok (.lsub, 1) := by decide +kernel
theorem d_15_25_13 : decode prog_15_method_25_code 13 = .ok (.lload_n 2, 1) := by decide +kernel
theorem d_15_25_14 : decode prog_15_method_25_code 14 = .ok (.aload_n 0, 1) := by decide +kernel
theorem d_15_25_15 : decode prog_15_method_25_code 15 = .ok (.getfield 23, 3) := by decide +kernel
theorem d_15_25_18 : decode prog_15_method_25_code 18 = .ok (.iload_n 1, 1) := by decide +kernel
theorem d_15_25_19 : decode prog_15_method_25_code 19 = .ok (.iaload, 1) := by decide +kernel
theorem d_15_25_20 : decode prog_15_method_25_code 20 = .ok (.i2l, 1) := by decide +kernel
theorem d_15_25_21 : decode prog_15_method_25_code 21 = .ok (.lsub, 1) := by decide +kernel
theorem d_15_25_22 : decode prog_15_method_25_code 22 = .ok (.ladd, 1) := by decide +kernel
theorem d_15_25_23 : decode prog_15_method_25_code 23 = .ok (.lstore 5, 2) := by decide +kernel
theorem d_15_25_25 : decode prog_15_method_25_code 25 = .ok (.lload 5, 2) := by decide +kernel
theorem d_15_25_27 : decode prog_15_method_25_code 27 = .ok (.lconst 0, 1) := by decide +kernel
theorem d_15_25_28 : decode prog_15_method_25_code 28 = .ok (.lcmp, 1) := by decide +kernel
theorem d_15_25_29 : decode prog_15_method_25_code 29 = .ok (.ifCond .lt 16, 3) := by decide +kernel
theorem d_15_25_45 : decode prog_15_method_25_code 45 = .ok (.iconst 0, 1) := by decide +kernel
theorem d_15_25_46 : decode prog_15_method_25_code 46 = .ok (.goto 17, 3) := by decide +kernel
theorem d_15_25_63 : decode prog_15_method_25_code 63 = .ok (.ireturn, 1) := by decide +kernel
theorem d_15_25_32 : decode prog_15_method_25_code 32 = .ok (.lload 5, 2) := by decide +kernel
theorem d_15_25_34 : decode prog_15_method_25_code 34 = .ok (.aload_n 0, 1) := by decide +kernel
theorem d_15_25_35 : decode prog_15_method_25_code 35 = .ok (.getfield 16, 3) := by decide +kernel
theorem d_15_25_38 : decode prog_15_method_25_code 38 = .ok (.iload_n 1, 1) := by decide +kernel
theorem d_15_25_39 : decode prog_15_method_25_code 39 = .ok (.iaload, 1) := by decide +kernel
theorem d_15_25_40 : decode prog_15_method_25_code 40 = .ok (.i2l, 1) := by decide +kernel
theorem d_15_25_41 : decode prog_15_method_25_code 41 = .ok (.lcmp, 1) := by decide +kernel
theorem d_15_25_42 : decode prog_15_method_25_code 42 = .ok (.ifCond .lt 7, 3) := by decide +kernel
theorem d_15_25_49 : decode prog_15_method_25_code 49 = .ok (.aload_n 0, 1) := by decide +kernel
theorem d_15_25_50 : decode prog_15_method_25_code 50 = .ok (.getfield 13, 3) := by decide +kernel
theorem d_15_25_53 : decode prog_15_method_25_code 53 = .ok (.sipush 1000, 3) := by decide +kernel
theorem d_15_25_56 : decode prog_15_method_25_code 56 = .ok (.iload_n 1, 1) := by decide +kernel
theorem d_15_25_57 : decode prog_15_method_25_code 57 = .ok (.imul, 1) := by decide +kernel
theorem d_15_25_58 : decode prog_15_method_25_code 58 = .ok (.lload 5, 2) := by decide +kernel
theorem d_15_25_60 : decode prog_15_method_25_code 60 = .ok (.l2i, 1) := by decide +kernel
theorem d_15_25_61 : decode prog_15_method_25_code 61 = .ok (.iadd, 1) := by decide +kernel
theorem d_15_25_62 : decode prog_15_method_25_code 62 = .ok (.iaload, 1) := by decide +kernel
def y_DR_figure : MethodName := ⟨"NumberHouseModel$DecimalRows", "figure", "(IJI)I"⟩
def F_DR_figure (x2 : Int32) (x3 : Int64) (x4 : Int32) (t0_0 : Int32) (t0_1 : Int32) (t0_2 : Int32) (t0_3 : Int64) (t0_4 : Int32) (t0_5 : Int32) (t0_6 : Int32) (t0_7 : Int32) (t0_8 : Int32) (t0_9 : Int32) (t0_10 : Int32) (t1_0 : (Nat → Int32)) (t2_0 : (Nat → Int32)) (t3_0 : (Nat → Int32)) : Int32 := if (lg_cmp (((((t2_0 x2.toNatClampNeg : Int32).toInt64 : Int64) - 1 : Int64) - (x4.toInt64 : Int64) : Int64) + (x3 - ((t3_0 x2.toNatClampNeg : Int32).toInt64 : Int64) : Int64) : Int64) 0 : Int32) < (0 : Int32) then ((0 : Int32)) else (if (lg_cmp (((((t2_0 x2.toNatClampNeg : Int32).toInt64 : Int64) - 1 : Int64) - (x4.toInt64 : Int64) : Int64) + (x3 - ((t3_0 x2.toNatClampNeg : Int32).toInt64 : Int64) : Int64) : Int64) ((t2_0 x2.toNatClampNeg : Int32).toInt64 : Int64) : Int32) < (0 : Int32) then ((t1_0 ((1000 * x2 : Int32) + ((((((t2_0 x2.toNatClampNeg : Int32).toInt64 : Int64) - 1 : Int64) - (x4.toInt64 : Int64) : Int64) + (x3 - ((t3_0 x2.toNatClampNeg : Int32).toInt64 : Int64) : Int64) : Int64).toInt32 : Int32) : Int32).toNatClampNeg : Int32)) else ((0 : Int32)))
def S_DR_figure (x2 : Int32) (x3 : Int64) (x4 : Int32) (t0_0 : Int32) (t0_1 : Int32) (t0_2 : Int32) (t0_3 : Int64) (t0_4 : Int32) (t0_5 : Int32) (t0_6 : Int32) (t0_7 : Int32) (t0_8 : Int32) (t0_9 : Int32) (t0_10 : Int32) (t1_0 : (Nat → Int32)) (t2_0 : (Nat → Int32)) (t3_0 : (Nat → Int32)) : Prop := (0 ≤ x2.toInt) ∧ ((x2.toInt ≤ 9) ∧ (if (lg_cmp (((((t2_0 x2.toNatClampNeg : Int32).toInt64 : Int64) - 1 : Int64) - (x4.toInt64 : Int64) : Int64) + (x3 - ((t3_0 x2.toNatClampNeg : Int32).toInt64 : Int64) : Int64) : Int64) 0 : Int32) < (0 : Int32) then (True) else (if (lg_cmp (((((t2_0 x2.toNatClampNeg : Int32).toInt64 : Int64) - 1 : Int64) - (x4.toInt64 : Int64) : Int64) + (x3 - ((t3_0 x2.toNatClampNeg : Int32).toInt64 : Int64) : Int64) : Int64) ((t2_0 x2.toNatClampNeg : Int32).toInt64 : Int64) : Int32) < (0 : Int32) then ((0 ≤ ((1000 * x2 : Int32) + ((((((t2_0 x2.toNatClampNeg : Int32).toInt64 : Int64) - 1 : Int64) - (x4.toInt64 : Int64) : Int64) + (x3 - ((t3_0 x2.toNatClampNeg : Int32).toInt64 : Int64) : Int64) : Int64).toInt32 : Int32) : Int32).toInt) ∧ ((((1000 * x2 : Int32) + ((((((t2_0 x2.toNatClampNeg : Int32).toInt64 : Int64) - 1 : Int64) - (x4.toInt64 : Int64) : Int64) + (x3 - ((t3_0 x2.toNatClampNeg : Int32).toInt64 : Int64) : Int64) : Int64).toInt32 : Int32) : Int32).toInt ≤ 9999) ∧ (True))) else (True))))
set_option maxRecDepth 100000 in
set_option maxHeartbeats 4000000 in
theorem X_DR_figure (l : Launch) (D : va_G) (g : Nat → ClassId) (q : Nat → Nat) (ws : va_W) (x2 : Int32) (x3 : Int64) (x4 : Int32) (hI : q_I (msh g q) q ws) (t0_0 : Int32) (t0_1 : Int32) (t0_2 : Int32) (t0_3 : Int64) (t0_4 : Int32) (t0_5 : Int32) (t0_6 : Int32) (t0_7 : Int32) (t0_8 : Int32) (t0_9 : Int32) (t0_10 : Int32) (hT0 : ws[134]? = (some (q 134, .inr (14, [.int t0_0, .ref (q 135), .int t0_1, .ref (q 136), .ref (q 137), .ref (q 138), .ref (q 139), .ref (q 140), .int t0_2, .long t0_3, .int t0_4, .int t0_5, .ref (q 141), .int t0_6, .ref (q 142), .int t0_7, .ref (q 143), .int t0_8, .ref (q 144), .int t0_9, .int t0_10])) : Option (Nat × va_E))) (t1_0 : (Nat → Int32)) (hT1 : ws[136]? = (some (q 136, .inl (g 0, (10000 : Int32).toNatClampNeg, .inl t1_0)) : Option (Nat × va_E))) (t2_0 : (Nat → Int32)) (hT2 : ws[137]? = (some (q 137, .inl (g 0, (10 : Int32).toNatClampNeg, .inl t2_0)) : Option (Nat × va_E))) (t3_0 : (Nat → Int32)) (hT3 : ws[139]? = (some (q 139, .inl (g 0, (10 : Int32).toNatClampNeg, .inl t3_0)) : Option (Nat × va_E))) (hS : True ∧ S_DR_figure x2 x3 x4 t0_0 t0_1 t0_2 t0_3 t0_4 t0_5 t0_6 t0_7 t0_8 t0_9 t0_10 t1_0 t2_0 t3_0) : q_mI l y_DR_figure prog_15_method_25_code 7 (.int) 1 0 0 D g [.ref (q 134), .int x2, .long x3, .int x4] ws (fun r u => ws = u ∧ r = (F_DR_figure x2 x3 x4 t0_0 t0_1 t0_2 t0_3 t0_4 t0_5 t0_6 t0_7 t0_8 t0_9 t0_10 t1_0 t2_0 t3_0)) := by
  intro sz
  refine q_into (by decide) (Nat.le_of_ble_eq_true rfl) ?_
  intro p e s m below meth c ls hsz C0 V hl
  have hx := C0.1
  have hb := C0.2.1
  have hZ9 := (n_w134 hI hT0).2.2
  obtain ⟨-, btt0_9⟩ := hZ9
  clear btt0_9
  have hl : lv_has ls 7 [(0, .ref (q 134)), (1, .int x2), (2, .long x3), (4, .int x4)] := hl
  refine lv_aload_n hx hb d_15_25_0 rfl (lv_at hl 0 rfl) ?_
  refine q_get (ci := 14) (j := 4) (v := .ref (q 137)) C0 V i_DR rfl rfl hT0 (by decide) w_2004 rfl d_15_25_1 ?_
  refine lv_iload_n hx hb d_15_25_4 rfl (lv_at hl 1 rfl) ?_
  have ob26 : q_F (0 ≤ x2.toInt) := (by have h := hS; rw [S_DR_figure.eq_1] at h; exact h.2.1)
  have ob27 : q_F (x2.toInt ≤ 9) := (by have h := hS; rw [S_DR_figure.eq_1] at h; replace h := q_s2 h; exact h.2.1)
  refine q_iald C0 V hT2 (q_ix (x := x2.toInt) rfl (by first | with_reducible exact q_fe ob26 | (have t1 : 0 ≤ x2.toInt := ob26; omega)) (by have t1 : 0 ≤ x2.toInt := ob26; have t2 : x2.toInt ≤ 9 := ob27; have e9 : (((10 : Int32).toNatClampNeg : Nat) : Int) = 10 := (by decide); omega)) d_15_25_5 ?_
  obtain ⟨a28, e29⟩ := q_nm (t2_0 x2.toNatClampNeg : Int32)
  refine q_ti (v := a28) e29 ?_
  refine lv_i2l hx hb d_15_25_6 rfl ?_
  obtain ⟨j30, e31⟩ := q_nm (a28.toInt64 : Int64)
  refine q_tl (v := j30) e31 ?_
  refine lv_lconst (v := 1) hx hb d_15_25_7 (by decide) ?_
  refine lv_lsub hx hb d_15_25_8 ?_
  obtain ⟨j33, e34⟩ := q_nm (j30 - 1 : Int64)
  refine q_tl (v := j33) e34 ?_
  refine lv_iload hx hb d_15_25_9 (lv_at hl 3 rfl) ?_
  refine lv_i2l hx hb d_15_25_11 rfl ?_
  obtain ⟨j36, e37⟩ := q_nm (x4.toInt64 : Int64)
  refine q_tl (v := j36) e37 ?_
  refine lv_lsub hx hb d_15_25_12 ?_
  obtain ⟨j39, e40⟩ := q_nm (j33 - j36 : Int64)
  refine q_tl (v := j39) e40 ?_
  refine lv_lload_n hx hb d_15_25_13 rfl (lv_at hl 2 rfl) ?_
  refine lv_aload_n hx hb d_15_25_14 rfl (lv_at hl 0 rfl) ?_
  refine q_get (ci := 14) (j := 6) (v := .ref (q 139)) C0 V i_DR rfl rfl hT0 (by decide) w_2008 rfl d_15_25_15 ?_
  refine lv_iload_n hx hb d_15_25_18 rfl (lv_at hl 1 rfl) ?_
  refine q_iald C0 V hT3 (q_ix (x := x2.toInt) rfl (by first | with_reducible exact q_fe ob26 | (have t1 : 0 ≤ x2.toInt := ob26; omega)) (by have t1 : 0 ≤ x2.toInt := ob26; have t2 : x2.toInt ≤ 9 := ob27; have e9 : (((10 : Int32).toNatClampNeg : Nat) : Int) = 10 := (by decide); omega)) d_15_25_19 ?_
  obtain ⟨a42, e43⟩ := q_nm (t3_0 x2.toNatClampNeg : Int32)
  refine q_ti (v := a42) e43 ?_
  refine lv_i2l hx hb d_15_25_20 rfl ?_
  obtain ⟨j44, e45⟩ := q_nm (a42.toInt64 : Int64)
  refine q_tl (v := j44) e45 ?_
  refine lv_lsub hx hb d_15_25_21 ?_
  obtain ⟨j47, e48⟩ := q_nm (x3 - j44 : Int64)
  refine q_tl (v := j47) e48 ?_
  refine lv_ladd hx hb d_15_25_22 ?_
  obtain ⟨j49, e50⟩ := q_nm (j39 + j47 : Int64)
  refine q_tl (v := j49) e50 ?_
  refine lv_lstore (lv' := [(5, .long j49), (0, .ref (q 134)), (1, .int x2), (2, .long x3), (4, .int x4)]) hx hb d_15_25_23 hl (by decide) rfl (fun ls hl => ?_)
  refine lv_lload hx hb d_15_25_25 (lv_at hl 0 rfl) ?_
  refine lv_lconst (v := 0) hx hb d_15_25_27 (by decide) ?_
  refine W.lcmp hx hb d_15_25_28 ?_
  obtain ⟨a51, e52⟩ := q_nm (lg_cmp j49 0 : Int32)
  refine q_ti (v := a51) e52 ?_
  refine lv_if_lt (tgt := 45) hx hb d_15_25_29 (by decide) (fun c54 => ?_) (fun c54 => ?_)
  ·
    refine lv_iconst (v := 0) hx hb d_15_25_45 (by decide) ?_
    refine lv_goto (tgt := 63) hx hb d_15_25_46 (by decide) ?_
    exact q_reti C0 V (⟨rfl, (show (0 : Int32) = (F_DR_figure x2 x3 x4 t0_0 t0_1 t0_2 t0_3 t0_4 t0_5 t0_6 t0_7 t0_8 t0_9 t0_10 t1_0 t2_0 t3_0) from (by have c54x := c54; rw [← e52, ← e50, ← e48, ← e45, ← e43, ← e40, ← e37, ← e34, ← e31, ← e29] at c54x; rw [F_DR_figure.eq_1, if_pos c54x]))⟩) d_15_25_63
  ·
    refine lv_lload hx hb d_15_25_32 (lv_at hl 0 rfl) ?_
    refine lv_aload_n hx hb d_15_25_34 rfl (lv_at hl 1 rfl) ?_
    refine q_get (ci := 14) (j := 4) (v := .ref (q 137)) C0 V i_DR rfl rfl hT0 (by decide) w_2004 rfl d_15_25_35 ?_
    refine lv_iload_n hx hb d_15_25_38 rfl (lv_at hl 2 rfl) ?_
    refine q_iald C0 V hT2 (q_ix (x := x2.toInt) rfl (by first | with_reducible exact q_fe ob26 | (have t1 : 0 ≤ x2.toInt := ob26; omega)) (by have t1 : 0 ≤ x2.toInt := ob26; have t2 : x2.toInt ≤ 9 := ob27; have e9 : (((10 : Int32).toNatClampNeg : Nat) : Int) = 10 := (by decide); omega)) d_15_25_39 ?_
    obtain ⟨a57, e58⟩ := q_nm (t2_0 x2.toNatClampNeg : Int32)
    refine q_ti (v := a57) e58 ?_
    refine lv_i2l hx hb d_15_25_40 rfl ?_
    obtain ⟨j59, e60⟩ := q_nm (a57.toInt64 : Int64)
    refine q_tl (v := j59) e60 ?_
    refine W.lcmp hx hb d_15_25_41 ?_
    obtain ⟨a62, e63⟩ := q_nm (lg_cmp j49 j59 : Int32)
    refine q_ti (v := a62) e63 ?_
    refine lv_if_lt (tgt := 49) hx hb d_15_25_42 (by decide) (fun c65 => ?_) (fun c65 => ?_)
    ·
      refine lv_aload_n hx hb d_15_25_49 rfl (lv_at hl 1 rfl) ?_
      refine q_get (ci := 14) (j := 3) (v := .ref (q 136)) C0 V i_DR rfl rfl hT0 (by decide) w_2002 rfl d_15_25_50 ?_
      refine lv_sipush (v := 1000) hx hb d_15_25_53 (by decide) ?_
      refine lv_iload_n hx hb d_15_25_56 rfl (lv_at hl 2 rfl) ?_
      refine lv_imul hx hb d_15_25_57 ?_
      obtain ⟨a67, e68⟩ := q_nm (1000 * x2 : Int32)
      refine q_ti (v := a67) e68 ?_
      refine lv_lload hx hb d_15_25_58 (lv_at hl 0 rfl) ?_
      refine lv_l2i hx hb d_15_25_60 rfl ?_
      obtain ⟨a70, e71⟩ := q_nm (j49.toInt32 : Int32)
      refine q_ti (v := a70) e71 ?_
      refine lv_iadd hx hb d_15_25_61 ?_
      obtain ⟨a73, e74⟩ := q_nm (a67 + a70 : Int32)
      refine q_ti (v := a73) e74 ?_
      have ob75 : q_F (0 ≤ a73.toInt) := (by rw [← e74, ← e71, ← e68, ← e50, ← e48, ← e45, ← e43, ← e40, ← e37, ← e34, ← e31, ← e29]; have h := hS; rw [S_DR_figure.eq_1] at h; replace h := q_s2 h; replace h := q_s2 h; have c54x := c54; rw [← e52, ← e50, ← e48, ← e45, ← e43, ← e40, ← e37, ← e34, ← e31, ← e29] at c54x; rw [if_neg c54x] at h; have c65x := c65; rw [← e63, ← e60, ← e58, ← e50, ← e48, ← e45, ← e43, ← e40, ← e37, ← e34, ← e31, ← e29] at c65x; rw [if_pos c65x] at h; exact h.2.1)
      have ob76 : q_F (a73.toInt ≤ 9999) := (by rw [← e74, ← e71, ← e68, ← e50, ← e48, ← e45, ← e43, ← e40, ← e37, ← e34, ← e31, ← e29]; have h := hS; rw [S_DR_figure.eq_1] at h; replace h := q_s2 h; replace h := q_s2 h; have c54x := c54; rw [← e52, ← e50, ← e48, ← e45, ← e43, ← e40, ← e37, ← e34, ← e31, ← e29] at c54x; rw [if_neg c54x] at h; have c65x := c65; rw [← e63, ← e60, ← e58, ← e50, ← e48, ← e45, ← e43, ← e40, ← e37, ← e34, ← e31, ← e29] at c65x; rw [if_pos c65x] at h; replace h := q_s2 h; exact h.2.1)
      refine q_iald C0 V hT1 (q_ix (x := a73.toInt) rfl (by first | with_reducible exact q_fe ob75 | (have t1 : 0 ≤ a73.toInt := ob75; omega)) (by have t1 : 0 ≤ a73.toInt := ob75; have t2 : a73.toInt ≤ 9999 := ob76; have e9 : (((10000 : Int32).toNatClampNeg : Nat) : Int) = 10000 := (by decide); omega)) d_15_25_62 ?_
      obtain ⟨a77, e78⟩ := q_nm (t1_0 a73.toNatClampNeg : Int32)
      refine q_ti (v := a77) e78 ?_
      exact q_reti C0 V (⟨rfl, (show a77 = (F_DR_figure x2 x3 x4 t0_0 t0_1 t0_2 t0_3 t0_4 t0_5 t0_6 t0_7 t0_8 t0_9 t0_10 t1_0 t2_0 t3_0) from (by have c54x := c54; rw [← e52, ← e50, ← e48, ← e45, ← e43, ← e40, ← e37, ← e34, ← e31, ← e29] at c54x; have c65x := c65; rw [← e63, ← e60, ← e58, ← e50, ← e48, ← e45, ← e43, ← e40, ← e37, ← e34, ← e31, ← e29] at c65x; rw [← e78, ← e74, ← e71, ← e68, ← e50, ← e48, ← e45, ← e43, ← e40, ← e37, ← e34, ← e31, ← e29, F_DR_figure.eq_1, if_neg c54x, if_pos c65x]))⟩) d_15_25_63
    ·
      refine lv_iconst (v := 0) hx hb d_15_25_45 (by decide) ?_
      refine lv_goto (tgt := 63) hx hb d_15_25_46 (by decide) ?_
      exact q_reti C0 V (⟨rfl, (show (0 : Int32) = (F_DR_figure x2 x3 x4 t0_0 t0_1 t0_2 t0_3 t0_4 t0_5 t0_6 t0_7 t0_8 t0_9 t0_10 t1_0 t2_0 t3_0) from (by have c54x := c54; rw [← e52, ← e50, ← e48, ← e45, ← e43, ← e40, ← e37, ← e34, ← e31, ← e29] at c54x; have c65x := c65; rw [← e63, ← e60, ← e58, ← e50, ← e48, ← e45, ← e43, ← e40, ← e37, ← e34, ← e31, ← e29] at c65x; rw [F_DR_figure.eq_1, if_neg c54x, if_neg c65x]))⟩) d_15_25_63
theorem d_15_26_0 : decode prog_15_method_26_code 0 = .ok (.aload_n 0, 1) := by decide +kernel
theorem d_15_26_1 : decode prog_15_method_26_code 1 = .ok (.iload_n 1, 1) := by decide +kernel
theorem d_15_26_2 : decode prog_15_method_26_code 2 = .ok (.invokestatic 113, 3) := by decide +kernel
theorem d_15_26_27 : decode prog_15_method_26_code 27 = .ok (.putfield 41, 3) := by decide +kernel
theorem d_15_26_30 : decode prog_15_method_26_code 30 = .ok (.aload_n 0, 1) := by decide +kernel
theorem d_15_26_31 : decode prog_15_method_26_code 31 = .ok (.getfield 41, 3) := by decide +kernel
theorem d_15_26_34 : decode prog_15_method_26_code 34 = .ok (.ifCond .le 4, 3) := by decide +kernel
theorem d_15_26_38 : decode prog_15_method_26_code 38 = .ok (.aload_n 0, 1) := by decide +kernel
theorem d_15_26_39 : decode prog_15_method_26_code 39 = .ok (.iconst 2, 1) := by decide +kernel
theorem d_15_26_40 : decode prog_15_method_26_code 40 = .ok (.putfield 66, 3) := by decide +kernel
theorem d_15_26_43 : decode prog_15_method_26_code 43 = .ok (.aload_n 0, 1) := by decide +kernel
theorem d_15_26_44 : decode prog_15_method_26_code 44 = .ok (.getfield 23, 3) := by decide +kernel
theorem d_15_26_47 : decode prog_15_method_26_code 47 = .ok (.iload_n 1, 1) := by decide +kernel
theorem d_15_26_48 : decode prog_15_method_26_code 48 = .ok (.iaload, 1) := by decide +kernel
theorem d_15_26_49 : decode prog_15_method_26_code 49 = .ok (.aload_n 0, 1) := by decide +kernel
theorem d_15_26_50 : decode prog_15_method_26_code 50 = .ok (.getfield 23, 3) := by decide +kernel
theorem d_15_26_53 : decode prog_15_method_26_code 53 = .ok (.iload_n 2, 1) := by decide +kernel
theorem d_15_26_54 : decode prog_15_method_26_code 54 = .ok (.iaload, 1) := by decide +kernel
theorem d_15_26_75 : decode prog_15_method_26_code 75 = .ok (.lstore 5, 2) := by decide +kernel
theorem d_15_26_77 : decode prog_15_method_26_code 77 = .ok (.aload_n 0, 1) := by decide +kernel
theorem d_15_26_78 : decode prog_15_method_26_code 78 = .ok (.iload_n 1, 1) := by decide +kernel
theorem d_15_26_79 : decode prog_15_method_26_code 79 = .ok (.invokevirtual 120, 3) := by decide +kernel
theorem d_15_26_107 : decode prog_15_method_26_code 107 = .ok (.lstore 7, 2) := by decide +kernel
theorem d_15_26_109 : decode prog_15_method_26_code 109 = .ok (.aload_n 0, 1) := by decide +kernel
theorem d_15_26_110 : decode prog_15_method_26_code 110 = .ok (.iload_n 2, 1) := by decide +kernel
theorem d_15_26_111 : decode prog_15_method_26_code 111 = .ok (.invokevirtual 120, 3) := by decide +kernel
theorem d_15_26_139 : decode prog_15_method_26_code 139 = .ok (.lstore 9, 2) := by decide +kernel
theorem d_15_26_141 : decode prog_15_method_26_code 141 = .ok (.lload 7, 2) := by decide +kernel
theorem d_15_26_143 : decode prog_15_method_26_code 143 = .ok (.ldc2_w 126, 3) := by decide +kernel
set_option maxRecDepth 100000 in
theorem w_2781 : (Cond.constantLong "NumberHouseModel$DecimalRows" (126 : Nat) (1001 : Int64)) ∈ q_tbl := q_of12 141 rfl (by decide +kernel)
theorem d_15_26_146 : decode prog_15_method_26_code 146 = .ok (.lcmp, 1) := by decide +kernel
theorem d_15_26_147 : decode prog_15_method_26_code 147 = .ok (.ifCond .gt 12, 3) := by decide +kernel
theorem d_15_26_159 : decode prog_15_method_26_code 159 = .ok (.aload_n 0, 1) := by decide +kernel
theorem d_15_26_160 : decode prog_15_method_26_code 160 = .ok (.iconst 2, 1) := by decide +kernel
theorem d_15_26_161 : decode prog_15_method_26_code 161 = .ok (.putfield 41, 3) := by decide +kernel
theorem d_15_26_164 : decode prog_15_method_26_code 164 = .ok (.return_, 1) := by decide +kernel
theorem d_15_26_150 : decode prog_15_method_26_code 150 = .ok (.lload 9, 2) := by decide +kernel
theorem d_15_26_152 : decode prog_15_method_26_code 152 = .ok (.ldc2_w 126, 3) := by decide +kernel
theorem d_15_26_155 : decode prog_15_method_26_code 155 = .ok (.lcmp, 1) := by decide +kernel
theorem d_15_26_156 : decode prog_15_method_26_code 156 = .ok (.ifCond .le 9, 3) := by decide +kernel
theorem d_15_26_165 : decode prog_15_method_26_code 165 = .ok (.aload_n 0, 1) := by decide +kernel
theorem d_15_26_166 : decode prog_15_method_26_code 166 = .ok (.iload_n 2, 1) := by decide +kernel
theorem d_15_26_167 : decode prog_15_method_26_code 167 = .ok (.invokevirtual 120, 3) := by decide +kernel
theorem d_15_26_189 : decode prog_15_method_26_code 189 = .ok (.istore 11, 2) := by decide +kernel
theorem d_15_26_191 : decode prog_15_method_26_code 191 = .ok (.aload_n 0, 1) := by decide +kernel
theorem d_15_26_192 : decode prog_15_method_26_code 192 = .ok (.iload_n 1, 1) := by decide +kernel
theorem d_15_26_193 : decode prog_15_method_26_code 193 = .ok (.invokevirtual 120, 3) := by decide +kernel
theorem d_15_26_223 : decode prog_15_method_26_code 223 = .ok (.istore 12, 2) := by decide +kernel
theorem d_15_26_225 : decode prog_15_method_26_code 225 = .ok (.iload 12, 2) := by decide +kernel
theorem d_15_26_244 : decode prog_15_method_26_code 244 = .ok (.istore 13, 2) := by decide +kernel
theorem d_15_26_246 : decode prog_15_method_26_code 246 = .ok (.iload 13, 2) := by decide +kernel
theorem d_15_26_256 : decode prog_15_method_26_code 256 = .ok (.istore 14, 2) := by decide +kernel
theorem d_15_26_258 : decode prog_15_method_26_code 258 = .ok (.iload 13, 2) := by decide +kernel
theorem d_15_26_268 : decode prog_15_method_26_code 268 = .ok (.istore 15, 2) := by decide +kernel
theorem d_15_26_270 : decode prog_15_method_26_code 270 = .ok (.lload 7, 2) := by decide +kernel
theorem d_15_26_272 : decode prog_15_method_26_code 272 = .ok (.lload 9, 2) := by decide +kernel
theorem d_15_26_274 : decode prog_15_method_26_code 274 = .ok (.lcmp, 1) := by decide +kernel
theorem d_15_26_285 : decode prog_15_method_26_code 285 = .ok (.l2i, 1) := by decide +kernel
theorem d_15_26_286 : decode prog_15_method_26_code 286 = .ok (.iconst 1, 1) := by decide +kernel
theorem d_15_26_287 : decode prog_15_method_26_code 287 = .ok (.iadd, 1) := by decide +kernel
theorem d_15_26_288 : decode prog_15_method_26_code 288 = .ok (.istore 16, 2) := by decide +kernel
theorem d_15_26_290 : decode prog_15_method_26_code 290 = .ok (.iconst 0, 1) := by decide +kernel
theorem d_15_26_291 : decode prog_15_method_26_code 291 = .ok (.istore 17, 2) := by decide +kernel
theorem d_15_26_293 : decode prog_15_method_26_code 293 = .ok (.iconst 0, 1) := by decide +kernel
theorem d_15_26_294 : decode prog_15_method_26_code 294 = .ok (.istore 18, 2) := by decide +kernel
theorem d_15_26_296 : decode prog_15_method_26_code 296 = .ok (.iload 18, 2) := by decide +kernel
theorem d_15_26_298 : decode prog_15_method_26_code 298 = .ok (.iload 16, 2) := by decide +kernel
theorem d_15_26_300 : decode prog_15_method_26_code 300 = .ok (.if_icmp .ge 90, 3) := by decide +kernel
theorem d_15_26_390 : decode prog_15_method_26_code 390 = .ok (.aload_n 0, 1) := by decide +kernel
theorem d_15_26_391 : decode prog_15_method_26_code 391 = .ok (.iload 16, 2) := by decide +kernel
theorem d_15_26_393 : decode prog_15_method_26_code 393 = .ok (.putfield 45, 3) := by decide +kernel
theorem d_15_26_396 : decode prog_15_method_26_code 396 = .ok (.aload_n 0, 1) := by decide +kernel
theorem d_15_26_397 : decode prog_15_method_26_code 397 = .ok (.lload 5, 2) := by decide +kernel
theorem d_15_26_399 : decode prog_15_method_26_code 399 = .ok (.putfield 48, 3) := by decide +kernel
theorem d_15_26_402 : decode prog_15_method_26_code 402 = .ok (.aload_n 0, 1) := by decide +kernel
theorem d_15_26_403 : decode prog_15_method_26_code 403 = .ok (.iconst 0, 1) := by decide +kernel
theorem d_15_26_404 : decode prog_15_method_26_code 404 = .ok (.putfield 52, 3) := by decide +kernel
theorem d_15_26_407 : decode prog_15_method_26_code 407 = .ok (.aload_n 0, 1) := by decide +kernel
theorem d_15_26_408 : decode prog_15_method_26_code 408 = .ok (.aload_n 0, 1) := by decide +kernel
theorem d_15_26_409 : decode prog_15_method_26_code 409 = .ok (.iload_n 1, 1) := by decide +kernel
theorem d_15_26_410 : decode prog_15_method_26_code 410 = .ok (.invokevirtual 120, 3) := by decide +kernel
theorem d_15_26_413 : decode prog_15_method_26_code 413 = .ok (.ifCond .eq 8, 3) := by decide +kernel
theorem d_15_26_421 : decode prog_15_method_26_code 421 = .ok (.aload_n 0, 1) := by decide +kernel
theorem d_15_26_422 : decode prog_15_method_26_code 422 = .ok (.iload_n 2, 1) := by decide +kernel
theorem d_15_26_423 : decode prog_15_method_26_code 423 = .ok (.invokevirtual 120, 3) := by decide +kernel
theorem d_15_26_426 : decode prog_15_method_26_code 426 = .ok (.ifCond .eq 12, 3) := by decide +kernel
theorem d_15_26_438 : decode prog_15_method_26_code 438 = .ok (.iload 13, 2) := by decide +kernel
theorem d_15_26_440 : decode prog_15_method_26_code 440 = .ok (.ifCond .eq 8, 3) := by decide +kernel
theorem d_15_26_448 : decode prog_15_method_26_code 448 = .ok (.aload_n 0, 1) := by decide +kernel
theorem d_15_26_449 : decode prog_15_method_26_code 449 = .ok (.getfield 19, 3) := by decide +kernel
theorem d_15_26_452 : decode prog_15_method_26_code 452 = .ok (.iload_n 1, 1) := by decide +kernel
theorem d_15_26_453 : decode prog_15_method_26_code 453 = .ok (.baload, 1) := by decide +kernel
theorem d_15_26_454 : decode prog_15_method_26_code 454 = .ok (.putfield 56, 3) := by decide +kernel
theorem d_15_26_457 : decode prog_15_method_26_code 457 = .ok (.aload_n 0, 1) := by decide +kernel
theorem d_15_26_458 : decode prog_15_method_26_code 458 = .ok (.iload_n 3, 1) := by decide +kernel
theorem d_15_26_459 : decode prog_15_method_26_code 459 = .ok (.invokevirtual 89, 3) := by decide +kernel
theorem d_15_26_462 : decode prog_15_method_26_code 462 = .ok (.return_, 1) := by decide +kernel
theorem d_15_26_443 : decode prog_15_method_26_code 443 = .ok (.iload 11, 2) := by decide +kernel
theorem d_15_26_445 : decode prog_15_method_26_code 445 = .ok (.goto 9, 3) := by decide +kernel
theorem d_15_26_429 : decode prog_15_method_26_code 429 = .ok (.aload_n 0, 1) := by decide +kernel
theorem d_15_26_430 : decode prog_15_method_26_code 430 = .ok (.getfield 19, 3) := by decide +kernel
theorem d_15_26_433 : decode prog_15_method_26_code 433 = .ok (.iload_n 1, 1) := by decide +kernel
theorem d_15_26_434 : decode prog_15_method_26_code 434 = .ok (.baload, 1) := by decide +kernel
theorem d_15_26_435 : decode prog_15_method_26_code 435 = .ok (.goto 19, 3) := by decide +kernel
theorem d_15_26_416 : decode prog_15_method_26_code 416 = .ok (.iload 11, 2) := by decide +kernel
theorem d_15_26_418 : decode prog_15_method_26_code 418 = .ok (.goto 36, 3) := by decide +kernel
theorem d_15_26_303 : decode prog_15_method_26_code 303 = .ok (.aload_n 0, 1) := by decide +kernel
theorem d_15_26_304 : decode prog_15_method_26_code 304 = .ok (.iload 14, 2) := by decide +kernel
theorem d_15_26_306 : decode prog_15_method_26_code 306 = .ok (.lload 5, 2) := by decide +kernel
theorem d_15_26_308 : decode prog_15_method_26_code 308 = .ok (.iload 18, 2) := by decide +kernel
theorem d_15_26_310 : decode prog_15_method_26_code 310 = .ok (.invokevirtual 128, 3) := by decide +kernel
set_option maxRecDepth 100000 in
theorem w_2785 : (Cond.code ({ cls := "NumberHouseModel$DecimalRows", name := "figure", desc := "(IJI)I" } : MethodName) prog_15_method_25_code (7 : Nat) (some .int)) ∈ q_tbl := q_of12 145 rfl (by decide +kernel)
set_option maxRecDepth 100000 in
theorem w_2782 : (Cond.methodLink "NumberHouseModel$DecimalRows" (128 : Nat) ({ cls := "NumberHouseModel$DecimalRows", name := "figure", desc := "(IJI)I" } : MethodName)) ∈ q_tbl := q_of12 142 rfl (by decide +kernel)
set_option maxRecDepth 100000 in
theorem w_2784 : (Cond.instanceMethod ({ cls := "NumberHouseModel$DecimalRows", name := "figure", desc := "(IJI)I" } : MethodName)) ∈ q_tbl := q_of12 144 rfl (by decide +kernel)
theorem ws_110 : Cond.selects "NumberHouseModel$DecimalRows" (⟨"NumberHouseModel$DecimalRows", "figure", "(IJI)I"⟩ : MethodName) (⟨"NumberHouseModel$DecimalRows", "figure", "(IJI)I"⟩ : MethodName) ∈ q_tbl := q_ofs 110 (by decide +kernel) (by decide +kernel)
theorem LV_DR_128 : q_LV "NumberHouseModel$DecimalRows" 128 y_DR_figure prog_15_method_25_code 7 (some .int) 3 := ⟨w_2785, w_16, w_2782, w_2784, ws_110, ⟨by decide, by decide, by decide +kernel⟩⟩
theorem d_15_26_313 : decode prog_15_method_26_code 313 = .ok (.iload 12, 2) := by decide +kernel
theorem d_15_26_342 : decode prog_15_method_26_code 342 = .ok (.iadd, 1) := by decide +kernel
theorem d_15_26_343 : decode prog_15_method_26_code 343 = .ok (.iload 17, 2) := by decide +kernel
theorem d_15_26_345 : decode prog_15_method_26_code 345 = .ok (.iadd, 1) := by decide +kernel
theorem d_15_26_346 : decode prog_15_method_26_code 346 = .ok (.istore 19, 2) := by decide +kernel
theorem d_15_26_348 : decode prog_15_method_26_code 348 = .ok (.aload_n 0, 1) := by decide +kernel
theorem d_15_26_349 : decode prog_15_method_26_code 349 = .ok (.getfield 26, 3) := by decide +kernel
theorem d_15_26_352 : decode prog_15_method_26_code 352 = .ok (.iload 16, 2) := by decide +kernel
theorem d_15_26_354 : decode prog_15_method_26_code 354 = .ok (.iconst 1, 1) := by decide +kernel
theorem d_15_26_355 : decode prog_15_method_26_code 355 = .ok (.isub, 1) := by decide +kernel
theorem d_15_26_356 : decode prog_15_method_26_code 356 = .ok (.iload 18, 2) := by decide +kernel
theorem d_15_26_358 : decode prog_15_method_26_code 358 = .ok (.isub, 1) := by decide +kernel
theorem d_15_26_359 : decode prog_15_method_26_code 359 = .ok (.iload 19, 2) := by decide +kernel
theorem d_15_26_361 : decode prog_15_method_26_code 361 = .ok (.bipush 10, 2) := by decide +kernel
theorem d_15_26_363 : decode prog_15_method_26_code 363 = .ok (.iadd, 1) := by decide +kernel
theorem d_15_26_364 : decode prog_15_method_26_code 364 = .ok (.bipush 10, 2) := by decide +kernel
theorem d_15_26_366 : decode prog_15_method_26_code 366 = .ok (.irem, 1) := by decide +kernel
theorem d_15_26_367 : decode prog_15_method_26_code 367 = .ok (.iastore, 1) := by decide +kernel
theorem d_15_26_368 : decode prog_15_method_26_code 368 = .ok (.iload 19, 2) := by decide +kernel
theorem d_15_26_370 : decode prog_15_method_26_code 370 = .ok (.ifCond .ge 7, 3) := by decide +kernel
theorem d_15_26_377 : decode prog_15_method_26_code 377 = .ok (.iload 19, 2) := by decide +kernel
theorem d_15_26_379 : decode prog_15_method_26_code 379 = .ok (.bipush 10, 2) := by decide +kernel
theorem d_15_26_381 : decode prog_15_method_26_code 381 = .ok (.idiv, 1) := by decide +kernel
theorem d_15_26_382 : decode prog_15_method_26_code 382 = .ok (.istore 17, 2) := by decide +kernel
theorem d_15_26_384 : decode prog_15_method_26_code 384 = .ok (.iinc 18 1, 3) := by decide +kernel
theorem d_15_26_387 : decode prog_15_method_26_code 387 = .ok (.goto (-91), 3) := by decide +kernel
theorem d_15_26_373 : decode prog_15_method_26_code 373 = .ok (.iconst (-1), 1) := by decide +kernel
theorem d_15_26_374 : decode prog_15_method_26_code 374 = .ok (.goto 8, 3) := by decide +kernel
theorem d_15_26_315 : decode prog_15_method_26_code 315 = .ok (.ifCond .eq 16, 3) := by decide +kernel
theorem d_15_26_331 : decode prog_15_method_26_code 331 = .ok (.aload_n 0, 1) := by decide +kernel
theorem d_15_26_332 : decode prog_15_method_26_code 332 = .ok (.iload 15, 2) := by decide +kernel
theorem d_15_26_334 : decode prog_15_method_26_code 334 = .ok (.lload 5, 2) := by decide +kernel
theorem d_15_26_336 : decode prog_15_method_26_code 336 = .ok (.iload 18, 2) := by decide +kernel
theorem d_15_26_338 : decode prog_15_method_26_code 338 = .ok (.invokevirtual 128, 3) := by decide +kernel
theorem d_15_26_341 : decode prog_15_method_26_code 341 = .ok (.ineg, 1) := by decide +kernel
theorem d_15_26_318 : decode prog_15_method_26_code 318 = .ok (.aload_n 0, 1) := by decide +kernel
theorem d_15_26_319 : decode prog_15_method_26_code 319 = .ok (.iload 15, 2) := by decide +kernel
theorem d_15_26_321 : decode prog_15_method_26_code 321 = .ok (.lload 5, 2) := by decide +kernel
theorem d_15_26_323 : decode prog_15_method_26_code 323 = .ok (.iload 18, 2) := by decide +kernel
theorem d_15_26_325 : decode prog_15_method_26_code 325 = .ok (.invokevirtual 128, 3) := by decide +kernel
theorem d_15_26_328 : decode prog_15_method_26_code 328 = .ok (.goto 14, 3) := by decide +kernel
theorem d_15_26_275 : decode prog_15_method_26_code 275 = .ok (.ifCond .le 8, 3) := by decide +kernel
theorem d_15_26_283 : decode prog_15_method_26_code 283 = .ok (.lload 9, 2) := by decide +kernel
theorem d_15_26_278 : decode prog_15_method_26_code 278 = .ok (.lload 7, 2) := by decide +kernel
theorem d_15_26_280 : decode prog_15_method_26_code 280 = .ok (.goto 5, 3) := by decide +kernel
theorem d_15_26_260 : decode prog_15_method_26_code 260 = .ok (.ifCond .eq 7, 3) := by decide +kernel
theorem d_15_26_267 : decode prog_15_method_26_code 267 = .ok (.iload_n 2, 1) := by decide +kernel
theorem d_15_26_263 : decode prog_15_method_26_code 263 = .ok (.iload_n 1, 1) := by decide +kernel
theorem d_15_26_264 : decode prog_15_method_26_code 264 = .ok (.goto 4, 3) := by decide +kernel
theorem d_15_26_248 : decode prog_15_method_26_code 248 = .ok (.ifCond .eq 7, 3) := by decide +kernel
theorem d_15_26_255 : decode prog_15_method_26_code 255 = .ok (.iload_n 1, 1) := by decide +kernel
theorem d_15_26_251 : decode prog_15_method_26_code 251 = .ok (.iload_n 2, 1) := by decide +kernel
theorem d_15_26_252 : decode prog_15_method_26_code 252 = .ok (.goto 4, 3) := by decide +kernel
theorem d_15_26_243 : decode prog_15_method_26_code 243 = .ok (.iconst 0, 1) := by decide +kernel
theorem d_15_26_227 : decode prog_15_method_26_code 227 = .ok (.ifCond .ne 16, 3) := by decide +kernel
theorem d_15_26_230 : decode prog_15_method_26_code 230 = .ok (.aload_n 0, 1) := by decide +kernel
theorem d_15_26_231 : decode prog_15_method_26_code 231 = .ok (.iload_n 1, 1) := by decide +kernel
theorem d_15_26_232 : decode prog_15_method_26_code 232 = .ok (.iload_n 2, 1) := by decide +kernel
theorem d_15_26_233 : decode prog_15_method_26_code 233 = .ok (.invokevirtual 123, 3) := by decide +kernel
theorem d_15_26_236 : decode prog_15_method_26_code 236 = .ok (.ifCond .ge 7, 3) := by decide +kernel
theorem d_15_26_239 : decode prog_15_method_26_code 239 = .ok (.iconst 1, 1) := by decide +kernel
theorem d_15_26_240 : decode prog_15_method_26_code 240 = .ok (.goto 4, 3) := by decide +kernel
theorem d_15_26_218 : decode prog_15_method_26_code 218 = .ok (.iconst 1, 1) := by decide +kernel
theorem d_15_26_219 : decode prog_15_method_26_code 219 = .ok (.goto 4, 3) := by decide +kernel
theorem d_15_26_196 : decode prog_15_method_26_code 196 = .ok (.ifCond .ne 22, 3) := by decide +kernel
theorem d_15_26_199 : decode prog_15_method_26_code 199 = .ok (.aload_n 0, 1) := by decide +kernel
theorem d_15_26_200 : decode prog_15_method_26_code 200 = .ok (.iload_n 2, 1) := by decide +kernel
theorem d_15_26_201 : decode prog_15_method_26_code 201 = .ok (.invokevirtual 120, 3) := by decide +kernel
theorem d_15_26_204 : decode prog_15_method_26_code 204 = .ok (.ifCond .ne 14, 3) := by decide +kernel
theorem d_15_26_207 : decode prog_15_method_26_code 207 = .ok (.aload_n 0, 1) := by decide +kernel
theorem d_15_26_208 : decode prog_15_method_26_code 208 = .ok (.getfield 19, 3) := by decide +kernel
theorem d_15_26_211 : decode prog_15_method_26_code 211 = .ok (.iload_n 1, 1) := by decide +kernel
theorem d_15_26_212 : decode prog_15_method_26_code 212 = .ok (.baload, 1) := by decide +kernel
theorem d_15_26_213 : decode prog_15_method_26_code 213 = .ok (.iload 11, 2) := by decide +kernel
theorem d_15_26_215 : decode prog_15_method_26_code 215 = .ok (.if_icmp .ne 7, 3) := by decide +kernel
theorem d_15_26_222 : decode prog_15_method_26_code 222 = .ok (.iconst 0, 1) := by decide +kernel
theorem d_15_26_188 : decode prog_15_method_26_code 188 = .ok (.iconst 0, 1) := by decide +kernel
theorem d_15_26_170 : decode prog_15_method_26_code 170 = .ok (.ifCond .ne 18, 3) := by decide +kernel
theorem d_15_26_173 : decode prog_15_method_26_code 173 = .ok (.aload_n 0, 1) := by decide +kernel
theorem d_15_26_174 : decode prog_15_method_26_code 174 = .ok (.getfield 19, 3) := by decide +kernel
theorem d_15_26_177 : decode prog_15_method_26_code 177 = .ok (.iload_n 2, 1) := by decide +kernel
theorem d_15_26_178 : decode prog_15_method_26_code 178 = .ok (.baload, 1) := by decide +kernel
theorem d_15_26_179 : decode prog_15_method_26_code 179 = .ok (.iload 4, 2) := by decide +kernel
theorem d_15_26_181 : decode prog_15_method_26_code 181 = .ok (.if_icmp .eq 7, 3) := by decide +kernel
theorem d_15_26_184 : decode prog_15_method_26_code 184 = .ok (.iconst 1, 1) := by decide +kernel
theorem d_15_26_185 : decode prog_15_method_26_code 185 = .ok (.goto 4, 3) := by decide +kernel
theorem d_15_26_114 : decode prog_15_method_26_code 114 = .ok (.ifCond .eq 7, 3) := by decide +kernel
theorem d_15_26_121 : decode prog_15_method_26_code 121 = .ok (.aload_n 0, 1) := by decide +kernel
theorem d_15_26_122 : decode prog_15_method_26_code 122 = .ok (.getfield 16, 3) := by decide +kernel
theorem d_15_26_125 : decode prog_15_method_26_code 125 = .ok (.iload_n 2, 1) := by decide +kernel
theorem d_15_26_126 : decode prog_15_method_26_code 126 = .ok (.iaload, 1) := by decide +kernel
theorem d_15_26_127 : decode prog_15_method_26_code 127 = .ok (.i2l, 1) := by decide +kernel
theorem d_15_26_128 : decode prog_15_method_26_code 128 = .ok (.lload 5, 2) := by decide +kernel
theorem d_15_26_130 : decode prog_15_method_26_code 130 = .ok (.ladd, 1) := by decide +kernel
theorem d_15_26_131 : decode prog_15_method_26_code 131 = .ok (.aload_n 0, 1) := by decide +kernel
theorem d_15_26_132 : decode prog_15_method_26_code 132 = .ok (.getfield 23, 3) := by decide +kernel
theorem d_15_26_135 : decode prog_15_method_26_code 135 = .ok (.iload_n 2, 1) := by decide +kernel
theorem d_15_26_136 : decode prog_15_method_26_code 136 = .ok (.iaload, 1) := by decide +kernel
theorem d_15_26_137 : decode prog_15_method_26_code 137 = .ok (.i2l, 1) := by decide +kernel
theorem d_15_26_138 : decode prog_15_method_26_code 138 = .ok (.lsub, 1) := by decide +kernel
theorem d_15_26_117 : decode prog_15_method_26_code 117 = .ok (.lconst 1, 1) := by decide +kernel
theorem d_15_26_118 : decode prog_15_method_26_code 118 = .ok (.goto 21, 3) := by decide +kernel
theorem d_15_26_82 : decode prog_15_method_26_code 82 = .ok (.ifCond .eq 7, 3) := by decide +kernel
theorem d_15_26_89 : decode prog_15_method_26_code 89 = .ok (.aload_n 0, 1) := by decide +kernel
theorem d_15_26_90 : decode prog_15_method_26_code 90 = .ok (.getfield 16, 3) := by decide +kernel
theorem d_15_26_93 : decode prog_15_method_26_code 93 = .ok (.iload_n 1, 1) := by decide +kernel
theorem d_15_26_94 : decode prog_15_method_26_code 94 = .ok (.iaload, 1) := by decide +kernel
theorem d_15_26_95 : decode prog_15_method_26_code 95 = .ok (.i2l, 1) := by decide +kernel
theorem d_15_26_96 : decode prog_15_method_26_code 96 = .ok (.lload 5, 2) := by decide +kernel
theorem d_15_26_98 : decode prog_15_method_26_code 98 = .ok (.ladd, 1) := by decide +kernel
theorem d_15_26_99 : decode prog_15_method_26_code 99 = .ok (.aload_n 0, 1) := by decide +kernel
theorem d_15_26_100 : decode prog_15_method_26_code 100 = .ok (.getfield 23, 3) := by decide +kernel
theorem d_15_26_103 : decode prog_15_method_26_code 103 = .ok (.iload_n 1, 1) := by decide +kernel
theorem d_15_26_104 : decode prog_15_method_26_code 104 = .ok (.iaload, 1) := by decide +kernel
theorem d_15_26_105 : decode prog_15_method_26_code 105 = .ok (.i2l, 1) := by decide +kernel
theorem d_15_26_106 : decode prog_15_method_26_code 106 = .ok (.lsub, 1) := by decide +kernel
theorem d_15_26_85 : decode prog_15_method_26_code 85 = .ok (.lconst 1, 1) := by decide +kernel
theorem d_15_26_86 : decode prog_15_method_26_code 86 = .ok (.goto 21, 3) := by decide +kernel
theorem d_15_26_55 : decode prog_15_method_26_code 55 = .ok (.if_icmp .le 13, 3) := by decide +kernel
theorem d_15_26_68 : decode prog_15_method_26_code 68 = .ok (.aload_n 0, 1) := by decide +kernel
theorem d_15_26_69 : decode prog_15_method_26_code 69 = .ok (.getfield 23, 3) := by decide +kernel
theorem d_15_26_72 : decode prog_15_method_26_code 72 = .ok (.iload_n 2, 1) := by decide +kernel
theorem d_15_26_73 : decode prog_15_method_26_code 73 = .ok (.iaload, 1) := by decide +kernel
theorem d_15_26_74 : decode prog_15_method_26_code 74 = .ok (.i2l, 1) := by decide +kernel
theorem d_15_26_58 : decode prog_15_method_26_code 58 = .ok (.aload_n 0, 1) := by decide +kernel
theorem d_15_26_59 : decode prog_15_method_26_code 59 = .ok (.getfield 23, 3) := by decide +kernel
theorem d_15_26_62 : decode prog_15_method_26_code 62 = .ok (.iload_n 1, 1) := by decide +kernel
theorem d_15_26_63 : decode prog_15_method_26_code 63 = .ok (.iaload, 1) := by decide +kernel
theorem d_15_26_64 : decode prog_15_method_26_code 64 = .ok (.i2l, 1) := by decide +kernel
theorem d_15_26_65 : decode prog_15_method_26_code 65 = .ok (.goto 10, 3) := by decide +kernel
theorem d_15_26_37 : decode prog_15_method_26_code 37 = .ok (.return_, 1) := by decide +kernel
theorem d_15_26_22 : decode prog_15_method_26_code 22 = .ok (.iconst 1, 1) := by decide +kernel
theorem d_15_26_23 : decode prog_15_method_26_code 23 = .ok (.goto 4, 3) := by decide +kernel
theorem d_15_26_5 : decode prog_15_method_26_code 5 = .ok (.ifCond .ne 17, 3) := by decide +kernel
theorem d_15_26_8 : decode prog_15_method_26_code 8 = .ok (.iload_n 2, 1) := by decide +kernel
theorem d_15_26_9 : decode prog_15_method_26_code 9 = .ok (.invokestatic 113, 3) := by decide +kernel
theorem d_15_26_12 : decode prog_15_method_26_code 12 = .ok (.ifCond .ne 10, 3) := by decide +kernel
theorem d_15_26_15 : decode prog_15_method_26_code 15 = .ok (.iload_n 3, 1) := by decide +kernel
theorem d_15_26_16 : decode prog_15_method_26_code 16 = .ok (.invokestatic 113, 3) := by decide +kernel
theorem d_15_26_19 : decode prog_15_method_26_code 19 = .ok (.ifCond .eq 7, 3) := by decide +kernel
theorem d_15_26_26 : decode prog_15_method_26_code 26 = .ok (.iconst 0, 1) := by decide +kernel
def y_DR_add : MethodName := ⟨"NumberHouseModel$DecimalRows", "add", "(IIIZ)V"⟩
def F_DR_add_c459 (K_F_DR_add_L296 : Int32 → Int32 → (Nat → Int32) → (Int32 × Int32 × Int32 × Int64 × Int32 × Int32 × Int32 × Int32 × Int32 × Int32 × Int32 × (Nat → Int32) × (Nat → Int32) × (Nat → Int32) × (Nat → Int32) × (Nat → Int32))) (x2 : Int32) (x3 : Int32) (x4 : Int32) (x5 : Int32) (t0_0 : Int32) (t0_1 : Int32) (t0_2 : Int32) (t0_3 : Int64) (t0_4 : Int32) (t0_5 : Int32) (t0_6 : Int32) (t0_7 : Int32) (t0_8 : Int32) (t0_9 : Int32) (t0_10 : Int32) (t1_0 : (Nat → Int32)) (t2_0 : (Nat → Int32)) (t3_0 : (Nat → Int32)) (t4_0 : (Nat → Int32)) (t5_0 : (Nat → Int32)) (lx39 : Int32) (lx68 : Int64) (lx91 : Int64) (lx114 : Int64) (lx150 : Int32) (lx173 : Int32) (lx188 : Int32) (lx203 : Int32) (lx218 : Int32) (lx236 : Int64) (a254 : Int32) (lx258 : Int32) (lx259 : Int32) (lx260 : (Nat → Int32)) (p362 : (Int32 × Int32 × Int32 × Int64 × Int32 × Int32 × Int32 × Int32 × Int32 × Int32 × Int32 × (Nat → Int32) × (Nat → Int32) × (Nat → Int32) × (Nat → Int32) × (Nat → Int32))) : Int32 × Int32 × Int32 × Int64 × Int32 × Int32 × Int32 × Int32 × Int32 × Int32 × Int32 × (Nat → Int32) × (Nat → Int32) × (Nat → Int32) × (Nat → Int32) × (Nat → Int32) := ((p362.1 : Int32), (p362.2.1 : Int32), (p362.2.2.1 : Int32), (p362.2.2.2.1 : Int64), (p362.2.2.2.2.1 : Int32), (p362.2.2.2.2.2.1 : Int32), (p362.2.2.2.2.2.2.1 : Int32), (p362.2.2.2.2.2.2.2.1 : Int32), (p362.2.2.2.2.2.2.2.2.1 : Int32), (p362.2.2.2.2.2.2.2.2.2.1 : Int32), (p362.2.2.2.2.2.2.2.2.2.2.1 : Int32), (p362.2.2.2.2.2.2.2.2.2.2.2.1 : (Nat → Int32)), (p362.2.2.2.2.2.2.2.2.2.2.2.2.1 : (Nat → Int32)), (p362.2.2.2.2.2.2.2.2.2.2.2.2.2.1 : (Nat → Int32)), (p362.2.2.2.2.2.2.2.2.2.2.2.2.2.2.1 : (Nat → Int32)), (p362.2.2.2.2.2.2.2.2.2.2.2.2.2.2.2 : (Nat → Int32)))
def F_DR_add_c459_13 (K_F_DR_add_L296 : Int32 → Int32 → (Nat → Int32) → (Int32 × Int32 × Int32 × Int64 × Int32 × Int32 × Int32 × Int32 × Int32 × Int32 × Int32 × (Nat → Int32) × (Nat → Int32) × (Nat → Int32) × (Nat → Int32) × (Nat → Int32))) (x2 : Int32) (x3 : Int32) (x4 : Int32) (x5 : Int32) (t0_0 : Int32) (t0_1 : Int32) (t0_2 : Int32) (t0_3 : Int64) (t0_4 : Int32) (t0_5 : Int32) (t0_6 : Int32) (t0_7 : Int32) (t0_8 : Int32) (t0_9 : Int32) (t0_10 : Int32) (t1_0 : (Nat → Int32)) (t2_0 : (Nat → Int32)) (t3_0 : (Nat → Int32)) (t4_0 : (Nat → Int32)) (t5_0 : (Nat → Int32)) (lx39 : Int32) (lx68 : Int64) (lx91 : Int64) (lx114 : Int64) (lx150 : Int32) (lx173 : Int32) (lx188 : Int32) (lx203 : Int32) (lx218 : Int32) (lx236 : Int64) (a254 : Int32) (lx258 : Int32) (lx259 : Int32) (lx260 : (Nat → Int32)) (p437 : (Int32 × Int32 × Int32 × Int64 × Int32 × Int32 × Int32 × Int32 × Int32 × Int32 × Int32 × (Nat → Int32) × (Nat → Int32) × (Nat → Int32) × (Nat → Int32) × (Nat → Int32))) : Int32 × Int32 × Int32 × Int64 × Int32 × Int32 × Int32 × Int32 × Int32 × Int32 × Int32 × (Nat → Int32) × (Nat → Int32) × (Nat → Int32) × (Nat → Int32) × (Nat → Int32) := ((p437.1 : Int32), (p437.2.1 : Int32), (p437.2.2.1 : Int32), (p437.2.2.2.1 : Int64), (p437.2.2.2.2.1 : Int32), (p437.2.2.2.2.2.1 : Int32), (p437.2.2.2.2.2.2.1 : Int32), (p437.2.2.2.2.2.2.2.1 : Int32), (p437.2.2.2.2.2.2.2.2.1 : Int32), (p437.2.2.2.2.2.2.2.2.2.1 : Int32), (p437.2.2.2.2.2.2.2.2.2.2.1 : Int32), (p437.2.2.2.2.2.2.2.2.2.2.2.1 : (Nat → Int32)), (p437.2.2.2.2.2.2.2.2.2.2.2.2.1 : (Nat → Int32)), (p437.2.2.2.2.2.2.2.2.2.2.2.2.2.1 : (Nat → Int32)), (p437.2.2.2.2.2.2.2.2.2.2.2.2.2.2.1 : (Nat → Int32)), (p437.2.2.2.2.2.2.2.2.2.2.2.2.2.2.2 : (Nat → Int32)))
def F_DR_add_c459_14 (K_F_DR_add_L296 : Int32 → Int32 → (Nat → Int32) → (Int32 × Int32 × Int32 × Int64 × Int32 × Int32 × Int32 × Int32 × Int32 × Int32 × Int32 × (Nat → Int32) × (Nat → Int32) × (Nat → Int32) × (Nat → Int32) × (Nat → Int32))) (x2 : Int32) (x3 : Int32) (x4 : Int32) (x5 : Int32) (t0_0 : Int32) (t0_1 : Int32) (t0_2 : Int32) (t0_3 : Int64) (t0_4 : Int32) (t0_5 : Int32) (t0_6 : Int32) (t0_7 : Int32) (t0_8 : Int32) (t0_9 : Int32) (t0_10 : Int32) (t1_0 : (Nat → Int32)) (t2_0 : (Nat → Int32)) (t3_0 : (Nat → Int32)) (t4_0 : (Nat → Int32)) (t5_0 : (Nat → Int32)) (lx39 : Int32) (lx68 : Int64) (lx91 : Int64) (lx114 : Int64) (lx150 : Int32) (lx173 : Int32) (lx188 : Int32) (lx203 : Int32) (lx218 : Int32) (lx236 : Int64) (a254 : Int32) (lx258 : Int32) (lx259 : Int32) (lx260 : (Nat → Int32)) (p516 : (Int32 × Int32 × Int32 × Int64 × Int32 × Int32 × Int32 × Int32 × Int32 × Int32 × Int32 × (Nat → Int32) × (Nat → Int32) × (Nat → Int32) × (Nat → Int32) × (Nat → Int32))) : Int32 × Int32 × Int32 × Int64 × Int32 × Int32 × Int32 × Int32 × Int32 × Int32 × Int32 × (Nat → Int32) × (Nat → Int32) × (Nat → Int32) × (Nat → Int32) × (Nat → Int32) := ((p516.1 : Int32), (p516.2.1 : Int32), (p516.2.2.1 : Int32), (p516.2.2.2.1 : Int64), (p516.2.2.2.2.1 : Int32), (p516.2.2.2.2.2.1 : Int32), (p516.2.2.2.2.2.2.1 : Int32), (p516.2.2.2.2.2.2.2.1 : Int32), (p516.2.2.2.2.2.2.2.2.1 : Int32), (p516.2.2.2.2.2.2.2.2.2.1 : Int32), (p516.2.2.2.2.2.2.2.2.2.2.1 : Int32), (p516.2.2.2.2.2.2.2.2.2.2.2.1 : (Nat → Int32)), (p516.2.2.2.2.2.2.2.2.2.2.2.2.1 : (Nat → Int32)), (p516.2.2.2.2.2.2.2.2.2.2.2.2.2.1 : (Nat → Int32)), (p516.2.2.2.2.2.2.2.2.2.2.2.2.2.2.1 : (Nat → Int32)), (p516.2.2.2.2.2.2.2.2.2.2.2.2.2.2.2 : (Nat → Int32)))
def F_DR_add_c459_15 (K_F_DR_add_L296 : Int32 → Int32 → (Nat → Int32) → (Int32 × Int32 × Int32 × Int64 × Int32 × Int32 × Int32 × Int32 × Int32 × Int32 × Int32 × (Nat → Int32) × (Nat → Int32) × (Nat → Int32) × (Nat → Int32) × (Nat → Int32))) (x2 : Int32) (x3 : Int32) (x4 : Int32) (x5 : Int32) (t0_0 : Int32) (t0_1 : Int32) (t0_2 : Int32) (t0_3 : Int64) (t0_4 : Int32) (t0_5 : Int32) (t0_6 : Int32) (t0_7 : Int32) (t0_8 : Int32) (t0_9 : Int32) (t0_10 : Int32) (t1_0 : (Nat → Int32)) (t2_0 : (Nat → Int32)) (t3_0 : (Nat → Int32)) (t4_0 : (Nat → Int32)) (t5_0 : (Nat → Int32)) (lx39 : Int32) (lx68 : Int64) (lx91 : Int64) (lx114 : Int64) (lx150 : Int32) (lx173 : Int32) (lx188 : Int32) (lx203 : Int32) (lx218 : Int32) (lx236 : Int64) (a254 : Int32) (lx258 : Int32) (lx259 : Int32) (lx260 : (Nat → Int32)) (p591 : (Int32 × Int32 × Int32 × Int64 × Int32 × Int32 × Int32 × Int32 × Int32 × Int32 × Int32 × (Nat → Int32) × (Nat → Int32) × (Nat → Int32) × (Nat → Int32) × (Nat → Int32))) : Int32 × Int32 × Int32 × Int64 × Int32 × Int32 × Int32 × Int32 × Int32 × Int32 × Int32 × (Nat → Int32) × (Nat → Int32) × (Nat → Int32) × (Nat → Int32) × (Nat → Int32) := ((p591.1 : Int32), (p591.2.1 : Int32), (p591.2.2.1 : Int32), (p591.2.2.2.1 : Int64), (p591.2.2.2.2.1 : Int32), (p591.2.2.2.2.2.1 : Int32), (p591.2.2.2.2.2.2.1 : Int32), (p591.2.2.2.2.2.2.2.1 : Int32), (p591.2.2.2.2.2.2.2.2.1 : Int32), (p591.2.2.2.2.2.2.2.2.2.1 : Int32), (p591.2.2.2.2.2.2.2.2.2.2.1 : Int32), (p591.2.2.2.2.2.2.2.2.2.2.2.1 : (Nat → Int32)), (p591.2.2.2.2.2.2.2.2.2.2.2.2.1 : (Nat → Int32)), (p591.2.2.2.2.2.2.2.2.2.2.2.2.2.1 : (Nat → Int32)), (p591.2.2.2.2.2.2.2.2.2.2.2.2.2.2.1 : (Nat → Int32)), (p591.2.2.2.2.2.2.2.2.2.2.2.2.2.2.2 : (Nat → Int32)))
def F_DR_add_J342 (K_F_DR_add_L296 : Int32 → Int32 → (Nat → Int32) → (Int32 × Int32 × Int32 × Int64 × Int32 × Int32 × Int32 × Int32 × Int32 × Int32 × Int32 × (Nat → Int32) × (Nat → Int32) × (Nat → Int32) × (Nat → Int32) × (Nat → Int32))) (x2 : Int32) (x3 : Int32) (x4 : Int32) (x5 : Int32) (t0_0 : Int32) (t0_1 : Int32) (t0_2 : Int32) (t0_3 : Int64) (t0_4 : Int32) (t0_5 : Int32) (t0_6 : Int32) (t0_7 : Int32) (t0_8 : Int32) (t0_9 : Int32) (t0_10 : Int32) (t1_0 : (Nat → Int32)) (t2_0 : (Nat → Int32)) (t3_0 : (Nat → Int32)) (t4_0 : (Nat → Int32)) (t5_0 : (Nat → Int32)) (lx39 : Int32) (lx68 : Int64) (lx91 : Int64) (lx114 : Int64) (lx150 : Int32) (lx173 : Int32) (lx188 : Int32) (lx203 : Int32) (lx218 : Int32) (lx236 : Int64) (a254 : Int32) (lx258 : Int32) (lx259 : Int32) (lx260 : (Nat → Int32)) (a618 : Int32) (lx621 : Int32) : Int32 × Int32 × Int32 × Int64 × Int32 × Int32 × Int32 × Int32 × Int32 × Int32 × Int32 × (Nat → Int32) × (Nat → Int32) × (Nat → Int32) × (Nat → Int32) × (Nat → Int32) := if (0 : Int32) ≤ ((a618 + lx621 : Int32) + lx259 : Int32) then (K_F_DR_add_L296 (lx258 + 1 : Int32) (((a618 + lx621 : Int32) + lx259 : Int32) / 10 : Int32) (upd lx260 ((a254 - 1 : Int32) - lx258 : Int32).toNatClampNeg ((((a618 + lx621 : Int32) + lx259 : Int32) + 10 : Int32) - (((a618 + lx621 : Int32) + lx259 : Int32) + 10 : Int32) / 10 * 10 : Int32) : (Nat → Int32))) else (K_F_DR_add_L296 (lx258 + 1 : Int32) (-1) (upd lx260 ((a254 - 1 : Int32) - lx258 : Int32).toNatClampNeg ((((a618 + lx621 : Int32) + lx259 : Int32) + 10 : Int32) - (((a618 + lx621 : Int32) + lx259 : Int32) + 10 : Int32) / 10 * 10 : Int32) : (Nat → Int32)))
def F_DR_add_L296 (x2 : Int32) (x3 : Int32) (x4 : Int32) (x5 : Int32) (t0_0 : Int32) (t0_1 : Int32) (t0_2 : Int32) (t0_3 : Int64) (t0_4 : Int32) (t0_5 : Int32) (t0_6 : Int32) (t0_7 : Int32) (t0_8 : Int32) (t0_9 : Int32) (t0_10 : Int32) (t1_0 : (Nat → Int32)) (t2_0 : (Nat → Int32)) (t3_0 : (Nat → Int32)) (t4_0 : (Nat → Int32)) (t5_0 : (Nat → Int32)) (lx39 : Int32) (lx68 : Int64) (lx91 : Int64) (lx114 : Int64) (lx150 : Int32) (lx173 : Int32) (lx188 : Int32) (lx203 : Int32) (lx218 : Int32) (lx236 : Int64) (a254 : Int32) : Nat → Int32 → Int32 → (Nat → Int32) → (Int32 × Int32 × Int32 × Int64 × Int32 × Int32 × Int32 × Int32 × Int32 × Int32 × Int32 × (Nat → Int32) × (Nat → Int32) × (Nat → Int32) × (Nat → Int32) × (Nat → Int32))
  | 0, _, _, _ => default
  | fm + 1, lx258, lx259, lx260 => if a254 ≤ lx258 then (if ((F_DR_isZero x2 lx39 t0_1 a254 lx68 (0 : Int32) t0_5 t0_6 t0_7 t0_8 t0_9 (2 : Int32) t1_0) : Int32) = (0 : Int32) then (if ((F_DR_isZero x3 lx39 t0_1 a254 lx68 (0 : Int32) t0_5 t0_6 t0_7 t0_8 t0_9 (2 : Int32) t1_0) : Int32) = (0 : Int32) then (if lx188 = (0 : Int32) then (F_DR_add_c459 (F_DR_add_L296 x2 x3 x4 x5 t0_0 t0_1 t0_2 t0_3 t0_4 t0_5 t0_6 t0_7 t0_8 t0_9 t0_10 t1_0 t2_0 t3_0 t4_0 t5_0 lx39 lx68 lx91 lx114 lx150 lx173 lx188 lx203 lx218 lx236 a254 fm) x2 x3 x4 x5 t0_0 t0_1 t0_2 t0_3 t0_4 t0_5 t0_6 t0_7 t0_8 t0_9 t0_10 t1_0 t2_0 t3_0 t4_0 t5_0 lx39 lx68 lx91 lx114 lx150 lx173 lx188 lx203 lx218 lx236 a254 lx258 lx259 lx260 ((F_DR_store x4 lx39 t0_1 a254 lx68 (0 : Int32) (t3_0 x2.toNatClampNeg : Int32) t0_6 t0_7 t0_8 t0_9 (2 : Int32) t1_0 t2_0 t3_0 t4_0 lx260) : (Int32 × Int32 × Int32 × Int64 × Int32 × Int32 × Int32 × Int32 × Int32 × Int32 × Int32 × (Nat → Int32) × (Nat → Int32) × (Nat → Int32) × (Nat → Int32) × (Nat → Int32)))) else (F_DR_add_c459_13 (F_DR_add_L296 x2 x3 x4 x5 t0_0 t0_1 t0_2 t0_3 t0_4 t0_5 t0_6 t0_7 t0_8 t0_9 t0_10 t1_0 t2_0 t3_0 t4_0 t5_0 lx39 lx68 lx91 lx114 lx150 lx173 lx188 lx203 lx218 lx236 a254 fm) x2 x3 x4 x5 t0_0 t0_1 t0_2 t0_3 t0_4 t0_5 t0_6 t0_7 t0_8 t0_9 t0_10 t1_0 t2_0 t3_0 t4_0 t5_0 lx39 lx68 lx91 lx114 lx150 lx173 lx188 lx203 lx218 lx236 a254 lx258 lx259 lx260 ((F_DR_store x4 lx39 t0_1 a254 lx68 (0 : Int32) lx150 t0_6 t0_7 t0_8 t0_9 (2 : Int32) t1_0 t2_0 t3_0 t4_0 lx260) : (Int32 × Int32 × Int32 × Int64 × Int32 × Int32 × Int32 × Int32 × Int32 × Int32 × Int32 × (Nat → Int32) × (Nat → Int32) × (Nat → Int32) × (Nat → Int32) × (Nat → Int32))))) else (F_DR_add_c459_14 (F_DR_add_L296 x2 x3 x4 x5 t0_0 t0_1 t0_2 t0_3 t0_4 t0_5 t0_6 t0_7 t0_8 t0_9 t0_10 t1_0 t2_0 t3_0 t4_0 t5_0 lx39 lx68 lx91 lx114 lx150 lx173 lx188 lx203 lx218 lx236 a254 fm) x2 x3 x4 x5 t0_0 t0_1 t0_2 t0_3 t0_4 t0_5 t0_6 t0_7 t0_8 t0_9 t0_10 t1_0 t2_0 t3_0 t4_0 t5_0 lx39 lx68 lx91 lx114 lx150 lx173 lx188 lx203 lx218 lx236 a254 lx258 lx259 lx260 ((F_DR_store x4 lx39 t0_1 a254 lx68 (0 : Int32) (t3_0 x2.toNatClampNeg : Int32) t0_6 t0_7 t0_8 t0_9 (2 : Int32) t1_0 t2_0 t3_0 t4_0 lx260) : (Int32 × Int32 × Int32 × Int64 × Int32 × Int32 × Int32 × Int32 × Int32 × Int32 × Int32 × (Nat → Int32) × (Nat → Int32) × (Nat → Int32) × (Nat → Int32) × (Nat → Int32))))) else (F_DR_add_c459_15 (F_DR_add_L296 x2 x3 x4 x5 t0_0 t0_1 t0_2 t0_3 t0_4 t0_5 t0_6 t0_7 t0_8 t0_9 t0_10 t1_0 t2_0 t3_0 t4_0 t5_0 lx39 lx68 lx91 lx114 lx150 lx173 lx188 lx203 lx218 lx236 a254 fm) x2 x3 x4 x5 t0_0 t0_1 t0_2 t0_3 t0_4 t0_5 t0_6 t0_7 t0_8 t0_9 t0_10 t1_0 t2_0 t3_0 t4_0 t5_0 lx39 lx68 lx91 lx114 lx150 lx173 lx188 lx203 lx218 lx236 a254 lx258 lx259 lx260 ((F_DR_store x4 lx39 t0_1 a254 lx68 (0 : Int32) lx150 t0_6 t0_7 t0_8 t0_9 (2 : Int32) t1_0 t2_0 t3_0 t4_0 lx260) : (Int32 × Int32 × Int32 × Int64 × Int32 × Int32 × Int32 × Int32 × Int32 × Int32 × Int32 × (Nat → Int32) × (Nat → Int32) × (Nat → Int32) × (Nat → Int32) × (Nat → Int32))))) else (if lx173 = (0 : Int32) then (F_DR_add_J342 (F_DR_add_L296 x2 x3 x4 x5 t0_0 t0_1 t0_2 t0_3 t0_4 t0_5 t0_6 t0_7 t0_8 t0_9 t0_10 t1_0 t2_0 t3_0 t4_0 t5_0 lx39 lx68 lx91 lx114 lx150 lx173 lx188 lx203 lx218 lx236 a254 fm) x2 x3 x4 x5 t0_0 t0_1 t0_2 t0_3 t0_4 t0_5 t0_6 t0_7 t0_8 t0_9 t0_10 t1_0 t2_0 t3_0 t4_0 t5_0 lx39 lx68 lx91 lx114 lx150 lx173 lx188 lx203 lx218 lx236 a254 lx258 lx259 lx260 ((F_DR_figure lx203 lx68 lx258 lx39 t0_1 t0_2 t0_3 t0_4 t0_5 t0_6 t0_7 t0_8 t0_9 (2 : Int32) t1_0 t2_0 t4_0) : Int32) (-((F_DR_figure lx218 lx68 lx258 lx39 t0_1 t0_2 t0_3 t0_4 t0_5 t0_6 t0_7 t0_8 t0_9 (2 : Int32) t1_0 t2_0 t4_0) : Int32) : Int32)) else (F_DR_add_J342 (F_DR_add_L296 x2 x3 x4 x5 t0_0 t0_1 t0_2 t0_3 t0_4 t0_5 t0_6 t0_7 t0_8 t0_9 t0_10 t1_0 t2_0 t3_0 t4_0 t5_0 lx39 lx68 lx91 lx114 lx150 lx173 lx188 lx203 lx218 lx236 a254 fm) x2 x3 x4 x5 t0_0 t0_1 t0_2 t0_3 t0_4 t0_5 t0_6 t0_7 t0_8 t0_9 t0_10 t1_0 t2_0 t3_0 t4_0 t5_0 lx39 lx68 lx91 lx114 lx150 lx173 lx188 lx203 lx218 lx236 a254 lx258 lx259 lx260 ((F_DR_figure lx203 lx68 lx258 lx39 t0_1 t0_2 t0_3 t0_4 t0_5 t0_6 t0_7 t0_8 t0_9 (2 : Int32) t1_0 t2_0 t4_0) : Int32) ((F_DR_figure lx218 lx68 lx258 lx39 t0_1 t0_2 t0_3 t0_4 t0_5 t0_6 t0_7 t0_8 t0_9 (2 : Int32) t1_0 t2_0 t4_0) : Int32)))
def F_DR_add_J285 (x2 : Int32) (x3 : Int32) (x4 : Int32) (x5 : Int32) (t0_0 : Int32) (t0_1 : Int32) (t0_2 : Int32) (t0_3 : Int64) (t0_4 : Int32) (t0_5 : Int32) (t0_6 : Int32) (t0_7 : Int32) (t0_8 : Int32) (t0_9 : Int32) (t0_10 : Int32) (t1_0 : (Nat → Int32)) (t2_0 : (Nat → Int32)) (t3_0 : (Nat → Int32)) (t4_0 : (Nat → Int32)) (t5_0 : (Nat → Int32)) (lx39 : Int32) (lx68 : Int64) (lx91 : Int64) (lx114 : Int64) (lx150 : Int32) (lx173 : Int32) (lx188 : Int32) (lx203 : Int32) (lx218 : Int32) (lx236 : Int64) : Int32 × Int32 × Int32 × Int64 × Int32 × Int32 × Int32 × Int32 × Int32 × Int32 × Int32 × (Nat → Int32) × (Nat → Int32) × (Nat → Int32) × (Nat → Int32) × (Nat → Int32) := F_DR_add_L296 x2 x3 x4 x5 t0_0 t0_1 t0_2 t0_3 t0_4 t0_5 t0_6 t0_7 t0_8 t0_9 t0_10 t1_0 t2_0 t3_0 t4_0 t5_0 lx39 lx68 lx91 lx114 lx150 lx173 lx188 lx203 lx218 lx236 ((lx236.toInt32 : Int32) + 1 : Int32) ((((lx236.toInt32 : Int32) + 1 : Int32).toInt - (0 : Int32).toInt).toNat + 1) 0 0 t5_0
def F_DR_add_J268 (x2 : Int32) (x3 : Int32) (x4 : Int32) (x5 : Int32) (t0_0 : Int32) (t0_1 : Int32) (t0_2 : Int32) (t0_3 : Int64) (t0_4 : Int32) (t0_5 : Int32) (t0_6 : Int32) (t0_7 : Int32) (t0_8 : Int32) (t0_9 : Int32) (t0_10 : Int32) (t1_0 : (Nat → Int32)) (t2_0 : (Nat → Int32)) (t3_0 : (Nat → Int32)) (t4_0 : (Nat → Int32)) (t5_0 : (Nat → Int32)) (lx39 : Int32) (lx68 : Int64) (lx91 : Int64) (lx114 : Int64) (lx150 : Int32) (lx173 : Int32) (lx188 : Int32) (lx203 : Int32) (lx218 : Int32) : Int32 × Int32 × Int32 × Int64 × Int32 × Int32 × Int32 × Int32 × Int32 × Int32 × Int32 × (Nat → Int32) × (Nat → Int32) × (Nat → Int32) × (Nat → Int32) × (Nat → Int32) := if (lg_cmp lx91 lx114 : Int32) ≤ (0 : Int32) then (F_DR_add_J285 x2 x3 x4 x5 t0_0 t0_1 t0_2 t0_3 t0_4 t0_5 t0_6 t0_7 t0_8 t0_9 t0_10 t1_0 t2_0 t3_0 t4_0 t5_0 lx39 lx68 lx91 lx114 lx150 lx173 lx188 lx203 lx218 lx114) else (F_DR_add_J285 x2 x3 x4 x5 t0_0 t0_1 t0_2 t0_3 t0_4 t0_5 t0_6 t0_7 t0_8 t0_9 t0_10 t1_0 t2_0 t3_0 t4_0 t5_0 lx39 lx68 lx91 lx114 lx150 lx173 lx188 lx203 lx218 lx91)
def F_DR_add_J256 (x2 : Int32) (x3 : Int32) (x4 : Int32) (x5 : Int32) (t0_0 : Int32) (t0_1 : Int32) (t0_2 : Int32) (t0_3 : Int64) (t0_4 : Int32) (t0_5 : Int32) (t0_6 : Int32) (t0_7 : Int32) (t0_8 : Int32) (t0_9 : Int32) (t0_10 : Int32) (t1_0 : (Nat → Int32)) (t2_0 : (Nat → Int32)) (t3_0 : (Nat → Int32)) (t4_0 : (Nat → Int32)) (t5_0 : (Nat → Int32)) (lx39 : Int32) (lx68 : Int64) (lx91 : Int64) (lx114 : Int64) (lx150 : Int32) (lx173 : Int32) (lx188 : Int32) (lx203 : Int32) : Int32 × Int32 × Int32 × Int64 × Int32 × Int32 × Int32 × Int32 × Int32 × Int32 × Int32 × (Nat → Int32) × (Nat → Int32) × (Nat → Int32) × (Nat → Int32) × (Nat → Int32) := if lx188 = (0 : Int32) then (F_DR_add_J268 x2 x3 x4 x5 t0_0 t0_1 t0_2 t0_3 t0_4 t0_5 t0_6 t0_7 t0_8 t0_9 t0_10 t1_0 t2_0 t3_0 t4_0 t5_0 lx39 lx68 lx91 lx114 lx150 lx173 lx188 lx203 x3) else (F_DR_add_J268 x2 x3 x4 x5 t0_0 t0_1 t0_2 t0_3 t0_4 t0_5 t0_6 t0_7 t0_8 t0_9 t0_10 t1_0 t2_0 t3_0 t4_0 t5_0 lx39 lx68 lx91 lx114 lx150 lx173 lx188 lx203 x2)
def F_DR_add_J244 (x2 : Int32) (x3 : Int32) (x4 : Int32) (x5 : Int32) (t0_0 : Int32) (t0_1 : Int32) (t0_2 : Int32) (t0_3 : Int64) (t0_4 : Int32) (t0_5 : Int32) (t0_6 : Int32) (t0_7 : Int32) (t0_8 : Int32) (t0_9 : Int32) (t0_10 : Int32) (t1_0 : (Nat → Int32)) (t2_0 : (Nat → Int32)) (t3_0 : (Nat → Int32)) (t4_0 : (Nat → Int32)) (t5_0 : (Nat → Int32)) (lx39 : Int32) (lx68 : Int64) (lx91 : Int64) (lx114 : Int64) (lx150 : Int32) (lx173 : Int32) (lx188 : Int32) : Int32 × Int32 × Int32 × Int64 × Int32 × Int32 × Int32 × Int32 × Int32 × Int32 × Int32 × (Nat → Int32) × (Nat → Int32) × (Nat → Int32) × (Nat → Int32) × (Nat → Int32) := if lx188 = (0 : Int32) then (F_DR_add_J256 x2 x3 x4 x5 t0_0 t0_1 t0_2 t0_3 t0_4 t0_5 t0_6 t0_7 t0_8 t0_9 t0_10 t1_0 t2_0 t3_0 t4_0 t5_0 lx39 lx68 lx91 lx114 lx150 lx173 lx188 x2) else (F_DR_add_J256 x2 x3 x4 x5 t0_0 t0_1 t0_2 t0_3 t0_4 t0_5 t0_6 t0_7 t0_8 t0_9 t0_10 t1_0 t2_0 t3_0 t4_0 t5_0 lx39 lx68 lx91 lx114 lx150 lx173 lx188 x3)
def F_DR_add_J243 (x2 : Int32) (x3 : Int32) (x4 : Int32) (x5 : Int32) (t0_0 : Int32) (t0_1 : Int32) (t0_2 : Int32) (t0_3 : Int64) (t0_4 : Int32) (t0_5 : Int32) (t0_6 : Int32) (t0_7 : Int32) (t0_8 : Int32) (t0_9 : Int32) (t0_10 : Int32) (t1_0 : (Nat → Int32)) (t2_0 : (Nat → Int32)) (t3_0 : (Nat → Int32)) (t4_0 : (Nat → Int32)) (t5_0 : (Nat → Int32)) (lx39 : Int32) (lx68 : Int64) (lx91 : Int64) (lx114 : Int64) (lx150 : Int32) (lx173 : Int32) : Int32 × Int32 × Int32 × Int64 × Int32 × Int32 × Int32 × Int32 × Int32 × Int32 × Int32 × (Nat → Int32) × (Nat → Int32) × (Nat → Int32) × (Nat → Int32) × (Nat → Int32) := F_DR_add_J244 x2 x3 x4 x5 t0_0 t0_1 t0_2 t0_3 t0_4 t0_5 t0_6 t0_7 t0_8 t0_9 t0_10 t1_0 t2_0 t3_0 t4_0 t5_0 lx39 lx68 lx91 lx114 lx150 lx173 0
def F_DR_add_J223 (x2 : Int32) (x3 : Int32) (x4 : Int32) (x5 : Int32) (t0_0 : Int32) (t0_1 : Int32) (t0_2 : Int32) (t0_3 : Int64) (t0_4 : Int32) (t0_5 : Int32) (t0_6 : Int32) (t0_7 : Int32) (t0_8 : Int32) (t0_9 : Int32) (t0_10 : Int32) (t1_0 : (Nat → Int32)) (t2_0 : (Nat → Int32)) (t3_0 : (Nat → Int32)) (t4_0 : (Nat → Int32)) (t5_0 : (Nat → Int32)) (lx39 : Int32) (lx68 : Int64) (lx91 : Int64) (lx114 : Int64) (lx150 : Int32) (lx173 : Int32) : Int32 × Int32 × Int32 × Int64 × Int32 × Int32 × Int32 × Int32 × Int32 × Int32 × Int32 × (Nat → Int32) × (Nat → Int32) × (Nat → Int32) × (Nat → Int32) × (Nat → Int32) := if lx173 = (0 : Int32) then (if (0 : Int32) ≤ ((F_DR_compareSizes x2 x3 lx39 t0_1 t0_2 t0_3 t0_4 t0_5 t0_6 t0_7 t0_8 t0_9 (2 : Int32) t1_0 t2_0 t4_0) : Int32) then (F_DR_add_J243 x2 x3 x4 x5 t0_0 t0_1 t0_2 t0_3 t0_4 t0_5 t0_6 t0_7 t0_8 t0_9 t0_10 t1_0 t2_0 t3_0 t4_0 t5_0 lx39 lx68 lx91 lx114 lx150 lx173) else (F_DR_add_J244 x2 x3 x4 x5 t0_0 t0_1 t0_2 t0_3 t0_4 t0_5 t0_6 t0_7 t0_8 t0_9 t0_10 t1_0 t2_0 t3_0 t4_0 t5_0 lx39 lx68 lx91 lx114 lx150 lx173 1)) else (F_DR_add_J243 x2 x3 x4 x5 t0_0 t0_1 t0_2 t0_3 t0_4 t0_5 t0_6 t0_7 t0_8 t0_9 t0_10 t1_0 t2_0 t3_0 t4_0 t5_0 lx39 lx68 lx91 lx114 lx150 lx173)
def F_DR_add_J218 (x2 : Int32) (x3 : Int32) (x4 : Int32) (x5 : Int32) (t0_0 : Int32) (t0_1 : Int32) (t0_2 : Int32) (t0_3 : Int64) (t0_4 : Int32) (t0_5 : Int32) (t0_6 : Int32) (t0_7 : Int32) (t0_8 : Int32) (t0_9 : Int32) (t0_10 : Int32) (t1_0 : (Nat → Int32)) (t2_0 : (Nat → Int32)) (t3_0 : (Nat → Int32)) (t4_0 : (Nat → Int32)) (t5_0 : (Nat → Int32)) (lx39 : Int32) (lx68 : Int64) (lx91 : Int64) (lx114 : Int64) (lx150 : Int32) : Int32 × Int32 × Int32 × Int64 × Int32 × Int32 × Int32 × Int32 × Int32 × Int32 × Int32 × (Nat → Int32) × (Nat → Int32) × (Nat → Int32) × (Nat → Int32) × (Nat → Int32) := F_DR_add_J223 x2 x3 x4 x5 t0_0 t0_1 t0_2 t0_3 t0_4 t0_5 t0_6 t0_7 t0_8 t0_9 t0_10 t1_0 t2_0 t3_0 t4_0 t5_0 lx39 lx68 lx91 lx114 lx150 1
def F_DR_add_J189 (x2 : Int32) (x3 : Int32) (x4 : Int32) (x5 : Int32) (t0_0 : Int32) (t0_1 : Int32) (t0_2 : Int32) (t0_3 : Int64) (t0_4 : Int32) (t0_5 : Int32) (t0_6 : Int32) (t0_7 : Int32) (t0_8 : Int32) (t0_9 : Int32) (t0_10 : Int32) (t1_0 : (Nat → Int32)) (t2_0 : (Nat → Int32)) (t3_0 : (Nat → Int32)) (t4_0 : (Nat → Int32)) (t5_0 : (Nat → Int32)) (lx39 : Int32) (lx68 : Int64) (lx91 : Int64) (lx114 : Int64) (lx150 : Int32) : Int32 × Int32 × Int32 × Int64 × Int32 × Int32 × Int32 × Int32 × Int32 × Int32 × Int32 × (Nat → Int32) × (Nat → Int32) × (Nat → Int32) × (Nat → Int32) × (Nat → Int32) := if ((F_DR_isZero x2 lx39 t0_1 t0_2 t0_3 t0_4 t0_5 t0_6 t0_7 t0_8 t0_9 (2 : Int32) t1_0) : Int32) = (0 : Int32) then (if ((F_DR_isZero x3 lx39 t0_1 t0_2 t0_3 t0_4 t0_5 t0_6 t0_7 t0_8 t0_9 (2 : Int32) t1_0) : Int32) = (0 : Int32) then (if (t3_0 x2.toNatClampNeg : Int32) = lx150 then (F_DR_add_J218 x2 x3 x4 x5 t0_0 t0_1 t0_2 t0_3 t0_4 t0_5 t0_6 t0_7 t0_8 t0_9 t0_10 t1_0 t2_0 t3_0 t4_0 t5_0 lx39 lx68 lx91 lx114 lx150) else (F_DR_add_J223 x2 x3 x4 x5 t0_0 t0_1 t0_2 t0_3 t0_4 t0_5 t0_6 t0_7 t0_8 t0_9 t0_10 t1_0 t2_0 t3_0 t4_0 t5_0 lx39 lx68 lx91 lx114 lx150 0)) else (F_DR_add_J218 x2 x3 x4 x5 t0_0 t0_1 t0_2 t0_3 t0_4 t0_5 t0_6 t0_7 t0_8 t0_9 t0_10 t1_0 t2_0 t3_0 t4_0 t5_0 lx39 lx68 lx91 lx114 lx150)) else (F_DR_add_J218 x2 x3 x4 x5 t0_0 t0_1 t0_2 t0_3 t0_4 t0_5 t0_6 t0_7 t0_8 t0_9 t0_10 t1_0 t2_0 t3_0 t4_0 t5_0 lx39 lx68 lx91 lx114 lx150)
def F_DR_add_J188 (x2 : Int32) (x3 : Int32) (x4 : Int32) (x5 : Int32) (t0_0 : Int32) (t0_1 : Int32) (t0_2 : Int32) (t0_3 : Int64) (t0_4 : Int32) (t0_5 : Int32) (t0_6 : Int32) (t0_7 : Int32) (t0_8 : Int32) (t0_9 : Int32) (t0_10 : Int32) (t1_0 : (Nat → Int32)) (t2_0 : (Nat → Int32)) (t3_0 : (Nat → Int32)) (t4_0 : (Nat → Int32)) (t5_0 : (Nat → Int32)) (lx39 : Int32) (lx68 : Int64) (lx91 : Int64) (lx114 : Int64) : Int32 × Int32 × Int32 × Int64 × Int32 × Int32 × Int32 × Int32 × Int32 × Int32 × Int32 × (Nat → Int32) × (Nat → Int32) × (Nat → Int32) × (Nat → Int32) × (Nat → Int32) := F_DR_add_J189 x2 x3 x4 x5 t0_0 t0_1 t0_2 t0_3 t0_4 t0_5 t0_6 t0_7 t0_8 t0_9 t0_10 t1_0 t2_0 t3_0 t4_0 t5_0 lx39 lx68 lx91 lx114 0
def F_DR_add_J139 (x2 : Int32) (x3 : Int32) (x4 : Int32) (x5 : Int32) (t0_0 : Int32) (t0_1 : Int32) (t0_2 : Int32) (t0_3 : Int64) (t0_4 : Int32) (t0_5 : Int32) (t0_6 : Int32) (t0_7 : Int32) (t0_8 : Int32) (t0_9 : Int32) (t0_10 : Int32) (t1_0 : (Nat → Int32)) (t2_0 : (Nat → Int32)) (t3_0 : (Nat → Int32)) (t4_0 : (Nat → Int32)) (t5_0 : (Nat → Int32)) (lx39 : Int32) (lx68 : Int64) (lx91 : Int64) (lx114 : Int64) : Int32 × Int32 × Int32 × Int64 × Int32 × Int32 × Int32 × Int32 × Int32 × Int32 × Int32 × (Nat → Int32) × (Nat → Int32) × (Nat → Int32) × (Nat → Int32) × (Nat → Int32) := if (0 : Int32) < (lg_cmp lx91 1001 : Int32) then (((2 : Int32), t0_1, t0_2, t0_3, t0_4, t0_5, t0_6, t0_7, t0_8, t0_9, (2 : Int32), t1_0, t2_0, t3_0, t4_0, t5_0)) else (if (lg_cmp lx114 1001 : Int32) ≤ (0 : Int32) then (if ((F_DR_isZero x3 lx39 t0_1 t0_2 t0_3 t0_4 t0_5 t0_6 t0_7 t0_8 t0_9 (2 : Int32) t1_0) : Int32) = (0 : Int32) then (if (t3_0 x3.toNatClampNeg : Int32) = x5 then (F_DR_add_J188 x2 x3 x4 x5 t0_0 t0_1 t0_2 t0_3 t0_4 t0_5 t0_6 t0_7 t0_8 t0_9 t0_10 t1_0 t2_0 t3_0 t4_0 t5_0 lx39 lx68 lx91 lx114) else (F_DR_add_J189 x2 x3 x4 x5 t0_0 t0_1 t0_2 t0_3 t0_4 t0_5 t0_6 t0_7 t0_8 t0_9 t0_10 t1_0 t2_0 t3_0 t4_0 t5_0 lx39 lx68 lx91 lx114 1)) else (F_DR_add_J188 x2 x3 x4 x5 t0_0 t0_1 t0_2 t0_3 t0_4 t0_5 t0_6 t0_7 t0_8 t0_9 t0_10 t1_0 t2_0 t3_0 t4_0 t5_0 lx39 lx68 lx91 lx114)) else (((2 : Int32), t0_1, t0_2, t0_3, t0_4, t0_5, t0_6, t0_7, t0_8, t0_9, (2 : Int32), t1_0, t2_0, t3_0, t4_0, t5_0)))
def F_DR_add_J107 (x2 : Int32) (x3 : Int32) (x4 : Int32) (x5 : Int32) (t0_0 : Int32) (t0_1 : Int32) (t0_2 : Int32) (t0_3 : Int64) (t0_4 : Int32) (t0_5 : Int32) (t0_6 : Int32) (t0_7 : Int32) (t0_8 : Int32) (t0_9 : Int32) (t0_10 : Int32) (t1_0 : (Nat → Int32)) (t2_0 : (Nat → Int32)) (t3_0 : (Nat → Int32)) (t4_0 : (Nat → Int32)) (t5_0 : (Nat → Int32)) (lx39 : Int32) (lx68 : Int64) (lx91 : Int64) : Int32 × Int32 × Int32 × Int64 × Int32 × Int32 × Int32 × Int32 × Int32 × Int32 × Int32 × (Nat → Int32) × (Nat → Int32) × (Nat → Int32) × (Nat → Int32) × (Nat → Int32) := if ((F_DR_isZero x3 lx39 t0_1 t0_2 t0_3 t0_4 t0_5 t0_6 t0_7 t0_8 t0_9 (2 : Int32) t1_0) : Int32) = (0 : Int32) then (F_DR_add_J139 x2 x3 x4 x5 t0_0 t0_1 t0_2 t0_3 t0_4 t0_5 t0_6 t0_7 t0_8 t0_9 t0_10 t1_0 t2_0 t3_0 t4_0 t5_0 lx39 lx68 lx91 ((((t2_0 x3.toNatClampNeg : Int32).toInt64 : Int64) + lx68 : Int64) - ((t4_0 x3.toNatClampNeg : Int32).toInt64 : Int64) : Int64)) else (F_DR_add_J139 x2 x3 x4 x5 t0_0 t0_1 t0_2 t0_3 t0_4 t0_5 t0_6 t0_7 t0_8 t0_9 t0_10 t1_0 t2_0 t3_0 t4_0 t5_0 lx39 lx68 lx91 1)
def F_DR_add_J75 (x2 : Int32) (x3 : Int32) (x4 : Int32) (x5 : Int32) (t0_0 : Int32) (t0_1 : Int32) (t0_2 : Int32) (t0_3 : Int64) (t0_4 : Int32) (t0_5 : Int32) (t0_6 : Int32) (t0_7 : Int32) (t0_8 : Int32) (t0_9 : Int32) (t0_10 : Int32) (t1_0 : (Nat → Int32)) (t2_0 : (Nat → Int32)) (t3_0 : (Nat → Int32)) (t4_0 : (Nat → Int32)) (t5_0 : (Nat → Int32)) (lx39 : Int32) (lx68 : Int64) : Int32 × Int32 × Int32 × Int64 × Int32 × Int32 × Int32 × Int32 × Int32 × Int32 × Int32 × (Nat → Int32) × (Nat → Int32) × (Nat → Int32) × (Nat → Int32) × (Nat → Int32) := if ((F_DR_isZero x2 lx39 t0_1 t0_2 t0_3 t0_4 t0_5 t0_6 t0_7 t0_8 t0_9 (2 : Int32) t1_0) : Int32) = (0 : Int32) then (F_DR_add_J107 x2 x3 x4 x5 t0_0 t0_1 t0_2 t0_3 t0_4 t0_5 t0_6 t0_7 t0_8 t0_9 t0_10 t1_0 t2_0 t3_0 t4_0 t5_0 lx39 lx68 ((((t2_0 x2.toNatClampNeg : Int32).toInt64 : Int64) + lx68 : Int64) - ((t4_0 x2.toNatClampNeg : Int32).toInt64 : Int64) : Int64)) else (F_DR_add_J107 x2 x3 x4 x5 t0_0 t0_1 t0_2 t0_3 t0_4 t0_5 t0_6 t0_7 t0_8 t0_9 t0_10 t1_0 t2_0 t3_0 t4_0 t5_0 lx39 lx68 1)
def F_DR_add_J27 (x2 : Int32) (x3 : Int32) (x4 : Int32) (x5 : Int32) (t0_0 : Int32) (t0_1 : Int32) (t0_2 : Int32) (t0_3 : Int64) (t0_4 : Int32) (t0_5 : Int32) (t0_6 : Int32) (t0_7 : Int32) (t0_8 : Int32) (t0_9 : Int32) (t0_10 : Int32) (t1_0 : (Nat → Int32)) (t2_0 : (Nat → Int32)) (t3_0 : (Nat → Int32)) (t4_0 : (Nat → Int32)) (t5_0 : (Nat → Int32)) (lx39 : Int32) : Int32 × Int32 × Int32 × Int64 × Int32 × Int32 × Int32 × Int32 × Int32 × Int32 × Int32 × (Nat → Int32) × (Nat → Int32) × (Nat → Int32) × (Nat → Int32) × (Nat → Int32) := if lx39 ≤ (0 : Int32) then (if (t4_0 x2.toNatClampNeg : Int32) ≤ (t4_0 x3.toNatClampNeg : Int32) then (F_DR_add_J75 x2 x3 x4 x5 t0_0 t0_1 t0_2 t0_3 t0_4 t0_5 t0_6 t0_7 t0_8 t0_9 t0_10 t1_0 t2_0 t3_0 t4_0 t5_0 lx39 ((t4_0 x3.toNatClampNeg : Int32).toInt64 : Int64)) else (F_DR_add_J75 x2 x3 x4 x5 t0_0 t0_1 t0_2 t0_3 t0_4 t0_5 t0_6 t0_7 t0_8 t0_9 t0_10 t1_0 t2_0 t3_0 t4_0 t5_0 lx39 ((t4_0 x2.toNatClampNeg : Int32).toInt64 : Int64))) else ((lx39, t0_1, t0_2, t0_3, t0_4, t0_5, t0_6, t0_7, t0_8, t0_9, t0_10, t1_0, t2_0, t3_0, t4_0, t5_0))
def F_DR_add_J22 (x2 : Int32) (x3 : Int32) (x4 : Int32) (x5 : Int32) (t0_0 : Int32) (t0_1 : Int32) (t0_2 : Int32) (t0_3 : Int64) (t0_4 : Int32) (t0_5 : Int32) (t0_6 : Int32) (t0_7 : Int32) (t0_8 : Int32) (t0_9 : Int32) (t0_10 : Int32) (t1_0 : (Nat → Int32)) (t2_0 : (Nat → Int32)) (t3_0 : (Nat → Int32)) (t4_0 : (Nat → Int32)) (t5_0 : (Nat → Int32)) : Int32 × Int32 × Int32 × Int64 × Int32 × Int32 × Int32 × Int32 × Int32 × Int32 × Int32 × (Nat → Int32) × (Nat → Int32) × (Nat → Int32) × (Nat → Int32) × (Nat → Int32) := F_DR_add_J27 x2 x3 x4 x5 t0_0 t0_1 t0_2 t0_3 t0_4 t0_5 t0_6 t0_7 t0_8 t0_9 t0_10 t1_0 t2_0 t3_0 t4_0 t5_0 1
def F_DR_add (x2 : Int32) (x3 : Int32) (x4 : Int32) (x5 : Int32) (t0_0 : Int32) (t0_1 : Int32) (t0_2 : Int32) (t0_3 : Int64) (t0_4 : Int32) (t0_5 : Int32) (t0_6 : Int32) (t0_7 : Int32) (t0_8 : Int32) (t0_9 : Int32) (t0_10 : Int32) (t1_0 : (Nat → Int32)) (t2_0 : (Nat → Int32)) (t3_0 : (Nat → Int32)) (t4_0 : (Nat → Int32)) (t5_0 : (Nat → Int32)) : Int32 × Int32 × Int32 × Int64 × Int32 × Int32 × Int32 × Int32 × Int32 × Int32 × Int32 × (Nat → Int32) × (Nat → Int32) × (Nat → Int32) × (Nat → Int32) × (Nat → Int32) := if ((F_DR_no x2) : Int32) = (0 : Int32) then (if ((F_DR_no x3) : Int32) = (0 : Int32) then (if ((F_DR_no x4) : Int32) = (0 : Int32) then (F_DR_add_J27 x2 x3 x4 x5 t0_0 t0_1 t0_2 t0_3 t0_4 t0_5 t0_6 t0_7 t0_8 t0_9 t0_10 t1_0 t2_0 t3_0 t4_0 t5_0 0) else (F_DR_add_J22 x2 x3 x4 x5 t0_0 t0_1 t0_2 t0_3 t0_4 t0_5 t0_6 t0_7 t0_8 t0_9 t0_10 t1_0 t2_0 t3_0 t4_0 t5_0)) else (F_DR_add_J22 x2 x3 x4 x5 t0_0 t0_1 t0_2 t0_3 t0_4 t0_5 t0_6 t0_7 t0_8 t0_9 t0_10 t1_0 t2_0 t3_0 t4_0 t5_0)) else (F_DR_add_J22 x2 x3 x4 x5 t0_0 t0_1 t0_2 t0_3 t0_4 t0_5 t0_6 t0_7 t0_8 t0_9 t0_10 t1_0 t2_0 t3_0 t4_0 t5_0)
def S_DR_add_c459 (K_S_DR_add_L296 : Int32 → Int32 → (Nat → Int32) → Prop) (x2 : Int32) (x3 : Int32) (x4 : Int32) (x5 : Int32) (t0_0 : Int32) (t0_1 : Int32) (t0_2 : Int32) (t0_3 : Int64) (t0_4 : Int32) (t0_5 : Int32) (t0_6 : Int32) (t0_7 : Int32) (t0_8 : Int32) (t0_9 : Int32) (t0_10 : Int32) (t1_0 : (Nat → Int32)) (t2_0 : (Nat → Int32)) (t3_0 : (Nat → Int32)) (t4_0 : (Nat → Int32)) (t5_0 : (Nat → Int32)) (lx39 : Int32) (lx68 : Int64) (lx91 : Int64) (lx114 : Int64) (lx150 : Int32) (lx173 : Int32) (lx188 : Int32) (lx203 : Int32) (lx218 : Int32) (lx236 : Int64) (a254 : Int32) (lx258 : Int32) (lx259 : Int32) (lx260 : (Nat → Int32)) (p362 : (Int32 × Int32 × Int32 × Int64 × Int32 × Int32 × Int32 × Int32 × Int32 × Int32 × Int32 × (Nat → Int32) × (Nat → Int32) × (Nat → Int32) × (Nat → Int32) × (Nat → Int32))) : Prop := True
def S_DR_add_c459_13 (K_S_DR_add_L296 : Int32 → Int32 → (Nat → Int32) → Prop) (x2 : Int32) (x3 : Int32) (x4 : Int32) (x5 : Int32) (t0_0 : Int32) (t0_1 : Int32) (t0_2 : Int32) (t0_3 : Int64) (t0_4 : Int32) (t0_5 : Int32) (t0_6 : Int32) (t0_7 : Int32) (t0_8 : Int32) (t0_9 : Int32) (t0_10 : Int32) (t1_0 : (Nat → Int32)) (t2_0 : (Nat → Int32)) (t3_0 : (Nat → Int32)) (t4_0 : (Nat → Int32)) (t5_0 : (Nat → Int32)) (lx39 : Int32) (lx68 : Int64) (lx91 : Int64) (lx114 : Int64) (lx150 : Int32) (lx173 : Int32) (lx188 : Int32) (lx203 : Int32) (lx218 : Int32) (lx236 : Int64) (a254 : Int32) (lx258 : Int32) (lx259 : Int32) (lx260 : (Nat → Int32)) (p437 : (Int32 × Int32 × Int32 × Int64 × Int32 × Int32 × Int32 × Int32 × Int32 × Int32 × Int32 × (Nat → Int32) × (Nat → Int32) × (Nat → Int32) × (Nat → Int32) × (Nat → Int32))) : Prop := True
def S_DR_add_c459_14 (K_S_DR_add_L296 : Int32 → Int32 → (Nat → Int32) → Prop) (x2 : Int32) (x3 : Int32) (x4 : Int32) (x5 : Int32) (t0_0 : Int32) (t0_1 : Int32) (t0_2 : Int32) (t0_3 : Int64) (t0_4 : Int32) (t0_5 : Int32) (t0_6 : Int32) (t0_7 : Int32) (t0_8 : Int32) (t0_9 : Int32) (t0_10 : Int32) (t1_0 : (Nat → Int32)) (t2_0 : (Nat → Int32)) (t3_0 : (Nat → Int32)) (t4_0 : (Nat → Int32)) (t5_0 : (Nat → Int32)) (lx39 : Int32) (lx68 : Int64) (lx91 : Int64) (lx114 : Int64) (lx150 : Int32) (lx173 : Int32) (lx188 : Int32) (lx203 : Int32) (lx218 : Int32) (lx236 : Int64) (a254 : Int32) (lx258 : Int32) (lx259 : Int32) (lx260 : (Nat → Int32)) (p516 : (Int32 × Int32 × Int32 × Int64 × Int32 × Int32 × Int32 × Int32 × Int32 × Int32 × Int32 × (Nat → Int32) × (Nat → Int32) × (Nat → Int32) × (Nat → Int32) × (Nat → Int32))) : Prop := True
def S_DR_add_c459_15 (K_S_DR_add_L296 : Int32 → Int32 → (Nat → Int32) → Prop) (x2 : Int32) (x3 : Int32) (x4 : Int32) (x5 : Int32) (t0_0 : Int32) (t0_1 : Int32) (t0_2 : Int32) (t0_3 : Int64) (t0_4 : Int32) (t0_5 : Int32) (t0_6 : Int32) (t0_7 : Int32) (t0_8 : Int32) (t0_9 : Int32) (t0_10 : Int32) (t1_0 : (Nat → Int32)) (t2_0 : (Nat → Int32)) (t3_0 : (Nat → Int32)) (t4_0 : (Nat → Int32)) (t5_0 : (Nat → Int32)) (lx39 : Int32) (lx68 : Int64) (lx91 : Int64) (lx114 : Int64) (lx150 : Int32) (lx173 : Int32) (lx188 : Int32) (lx203 : Int32) (lx218 : Int32) (lx236 : Int64) (a254 : Int32) (lx258 : Int32) (lx259 : Int32) (lx260 : (Nat → Int32)) (p591 : (Int32 × Int32 × Int32 × Int64 × Int32 × Int32 × Int32 × Int32 × Int32 × Int32 × Int32 × (Nat → Int32) × (Nat → Int32) × (Nat → Int32) × (Nat → Int32) × (Nat → Int32))) : Prop := True
def S_DR_add_J342 (K_S_DR_add_L296 : Int32 → Int32 → (Nat → Int32) → Prop) (x2 : Int32) (x3 : Int32) (x4 : Int32) (x5 : Int32) (t0_0 : Int32) (t0_1 : Int32) (t0_2 : Int32) (t0_3 : Int64) (t0_4 : Int32) (t0_5 : Int32) (t0_6 : Int32) (t0_7 : Int32) (t0_8 : Int32) (t0_9 : Int32) (t0_10 : Int32) (t1_0 : (Nat → Int32)) (t2_0 : (Nat → Int32)) (t3_0 : (Nat → Int32)) (t4_0 : (Nat → Int32)) (t5_0 : (Nat → Int32)) (lx39 : Int32) (lx68 : Int64) (lx91 : Int64) (lx114 : Int64) (lx150 : Int32) (lx173 : Int32) (lx188 : Int32) (lx203 : Int32) (lx218 : Int32) (lx236 : Int64) (a254 : Int32) (lx258 : Int32) (lx259 : Int32) (lx260 : (Nat → Int32)) (a618 : Int32) (lx621 : Int32) : Prop := (((a254 - 1 : Int32) - lx258 : Int32).toInt ≤ 4399) ∧ (if (0 : Int32) ≤ ((a618 + lx621 : Int32) + lx259 : Int32) then (K_S_DR_add_L296 (lx258 + 1 : Int32) (((a618 + lx621 : Int32) + lx259 : Int32) / 10 : Int32) (upd lx260 ((a254 - 1 : Int32) - lx258 : Int32).toNatClampNeg ((((a618 + lx621 : Int32) + lx259 : Int32) + 10 : Int32) - (((a618 + lx621 : Int32) + lx259 : Int32) + 10 : Int32) / 10 * 10 : Int32) : (Nat → Int32))) else (K_S_DR_add_L296 (lx258 + 1 : Int32) (-1) (upd lx260 ((a254 - 1 : Int32) - lx258 : Int32).toNatClampNeg ((((a618 + lx621 : Int32) + lx259 : Int32) + 10 : Int32) - (((a618 + lx621 : Int32) + lx259 : Int32) + 10 : Int32) / 10 * 10 : Int32) : (Nat → Int32))))
def S_DR_add_L296 (x2 : Int32) (x3 : Int32) (x4 : Int32) (x5 : Int32) (t0_0 : Int32) (t0_1 : Int32) (t0_2 : Int32) (t0_3 : Int64) (t0_4 : Int32) (t0_5 : Int32) (t0_6 : Int32) (t0_7 : Int32) (t0_8 : Int32) (t0_9 : Int32) (t0_10 : Int32) (t1_0 : (Nat → Int32)) (t2_0 : (Nat → Int32)) (t3_0 : (Nat → Int32)) (t4_0 : (Nat → Int32)) (t5_0 : (Nat → Int32)) (lx39 : Int32) (lx68 : Int64) (lx91 : Int64) (lx114 : Int64) (lx150 : Int32) (lx173 : Int32) (lx188 : Int32) (lx203 : Int32) (lx218 : Int32) (lx236 : Int64) (a254 : Int32) : Nat → Int32 → Int32 → (Nat → Int32) → Prop
  | 0, _, _, _ => False
  | fm + 1, lx258, lx259, lx260 => if a254 ≤ lx258 then ((True ∧ S_DR_isZero x2 lx39 t0_1 a254 lx68 (0 : Int32) t0_5 t0_6 t0_7 t0_8 t0_9 (2 : Int32) t1_0) ∧ (if ((F_DR_isZero x2 lx39 t0_1 a254 lx68 (0 : Int32) t0_5 t0_6 t0_7 t0_8 t0_9 (2 : Int32) t1_0) : Int32) = (0 : Int32) then ((True ∧ S_DR_isZero x3 lx39 t0_1 a254 lx68 (0 : Int32) t0_5 t0_6 t0_7 t0_8 t0_9 (2 : Int32) t1_0) ∧ (if ((F_DR_isZero x3 lx39 t0_1 a254 lx68 (0 : Int32) t0_5 t0_6 t0_7 t0_8 t0_9 (2 : Int32) t1_0) : Int32) = (0 : Int32) then (if lx188 = (0 : Int32) then ((0 ≤ (t3_0 x2.toNatClampNeg : Int32).toInt) ∧ (((t3_0 x2.toNatClampNeg : Int32).toInt ≤ 1) ∧ ((True ∧ S_DR_store x4 lx39 t0_1 a254 lx68 (0 : Int32) (t3_0 x2.toNatClampNeg : Int32) t0_6 t0_7 t0_8 t0_9 (2 : Int32) t1_0 t2_0 t3_0 t4_0 lx260) ∧ (S_DR_add_c459 (S_DR_add_L296 x2 x3 x4 x5 t0_0 t0_1 t0_2 t0_3 t0_4 t0_5 t0_6 t0_7 t0_8 t0_9 t0_10 t1_0 t2_0 t3_0 t4_0 t5_0 lx39 lx68 lx91 lx114 lx150 lx173 lx188 lx203 lx218 lx236 a254 fm) x2 x3 x4 x5 t0_0 t0_1 t0_2 t0_3 t0_4 t0_5 t0_6 t0_7 t0_8 t0_9 t0_10 t1_0 t2_0 t3_0 t4_0 t5_0 lx39 lx68 lx91 lx114 lx150 lx173 lx188 lx203 lx218 lx236 a254 lx258 lx259 lx260 ((F_DR_store x4 lx39 t0_1 a254 lx68 (0 : Int32) (t3_0 x2.toNatClampNeg : Int32) t0_6 t0_7 t0_8 t0_9 (2 : Int32) t1_0 t2_0 t3_0 t4_0 lx260) : (Int32 × Int32 × Int32 × Int64 × Int32 × Int32 × Int32 × Int32 × Int32 × Int32 × Int32 × (Nat → Int32) × (Nat → Int32) × (Nat → Int32) × (Nat → Int32) × (Nat → Int32))))))) else ((True ∧ S_DR_store x4 lx39 t0_1 a254 lx68 (0 : Int32) lx150 t0_6 t0_7 t0_8 t0_9 (2 : Int32) t1_0 t2_0 t3_0 t4_0 lx260) ∧ (S_DR_add_c459_13 (S_DR_add_L296 x2 x3 x4 x5 t0_0 t0_1 t0_2 t0_3 t0_4 t0_5 t0_6 t0_7 t0_8 t0_9 t0_10 t1_0 t2_0 t3_0 t4_0 t5_0 lx39 lx68 lx91 lx114 lx150 lx173 lx188 lx203 lx218 lx236 a254 fm) x2 x3 x4 x5 t0_0 t0_1 t0_2 t0_3 t0_4 t0_5 t0_6 t0_7 t0_8 t0_9 t0_10 t1_0 t2_0 t3_0 t4_0 t5_0 lx39 lx68 lx91 lx114 lx150 lx173 lx188 lx203 lx218 lx236 a254 lx258 lx259 lx260 ((F_DR_store x4 lx39 t0_1 a254 lx68 (0 : Int32) lx150 t0_6 t0_7 t0_8 t0_9 (2 : Int32) t1_0 t2_0 t3_0 t4_0 lx260) : (Int32 × Int32 × Int32 × Int64 × Int32 × Int32 × Int32 × Int32 × Int32 × Int32 × Int32 × (Nat → Int32) × (Nat → Int32) × (Nat → Int32) × (Nat → Int32) × (Nat → Int32)))))) else ((0 ≤ (t3_0 x2.toNatClampNeg : Int32).toInt) ∧ (((t3_0 x2.toNatClampNeg : Int32).toInt ≤ 1) ∧ ((True ∧ S_DR_store x4 lx39 t0_1 a254 lx68 (0 : Int32) (t3_0 x2.toNatClampNeg : Int32) t0_6 t0_7 t0_8 t0_9 (2 : Int32) t1_0 t2_0 t3_0 t4_0 lx260) ∧ (S_DR_add_c459_14 (S_DR_add_L296 x2 x3 x4 x5 t0_0 t0_1 t0_2 t0_3 t0_4 t0_5 t0_6 t0_7 t0_8 t0_9 t0_10 t1_0 t2_0 t3_0 t4_0 t5_0 lx39 lx68 lx91 lx114 lx150 lx173 lx188 lx203 lx218 lx236 a254 fm) x2 x3 x4 x5 t0_0 t0_1 t0_2 t0_3 t0_4 t0_5 t0_6 t0_7 t0_8 t0_9 t0_10 t1_0 t2_0 t3_0 t4_0 t5_0 lx39 lx68 lx91 lx114 lx150 lx173 lx188 lx203 lx218 lx236 a254 lx258 lx259 lx260 ((F_DR_store x4 lx39 t0_1 a254 lx68 (0 : Int32) (t3_0 x2.toNatClampNeg : Int32) t0_6 t0_7 t0_8 t0_9 (2 : Int32) t1_0 t2_0 t3_0 t4_0 lx260) : (Int32 × Int32 × Int32 × Int64 × Int32 × Int32 × Int32 × Int32 × Int32 × Int32 × Int32 × (Nat → Int32) × (Nat → Int32) × (Nat → Int32) × (Nat → Int32) × (Nat → Int32))))))))) else ((True ∧ S_DR_store x4 lx39 t0_1 a254 lx68 (0 : Int32) lx150 t0_6 t0_7 t0_8 t0_9 (2 : Int32) t1_0 t2_0 t3_0 t4_0 lx260) ∧ (S_DR_add_c459_15 (S_DR_add_L296 x2 x3 x4 x5 t0_0 t0_1 t0_2 t0_3 t0_4 t0_5 t0_6 t0_7 t0_8 t0_9 t0_10 t1_0 t2_0 t3_0 t4_0 t5_0 lx39 lx68 lx91 lx114 lx150 lx173 lx188 lx203 lx218 lx236 a254 fm) x2 x3 x4 x5 t0_0 t0_1 t0_2 t0_3 t0_4 t0_5 t0_6 t0_7 t0_8 t0_9 t0_10 t1_0 t2_0 t3_0 t4_0 t5_0 lx39 lx68 lx91 lx114 lx150 lx173 lx188 lx203 lx218 lx236 a254 lx258 lx259 lx260 ((F_DR_store x4 lx39 t0_1 a254 lx68 (0 : Int32) lx150 t0_6 t0_7 t0_8 t0_9 (2 : Int32) t1_0 t2_0 t3_0 t4_0 lx260) : (Int32 × Int32 × Int32 × Int64 × Int32 × Int32 × Int32 × Int32 × Int32 × Int32 × Int32 × (Nat → Int32) × (Nat → Int32) × (Nat → Int32) × (Nat → Int32) × (Nat → Int32))))))) else ((True ∧ S_DR_figure lx203 lx68 lx258 lx39 t0_1 t0_2 t0_3 t0_4 t0_5 t0_6 t0_7 t0_8 t0_9 (2 : Int32) t1_0 t2_0 t4_0) ∧ (if lx173 = (0 : Int32) then ((True ∧ S_DR_figure lx218 lx68 lx258 lx39 t0_1 t0_2 t0_3 t0_4 t0_5 t0_6 t0_7 t0_8 t0_9 (2 : Int32) t1_0 t2_0 t4_0) ∧ (S_DR_add_J342 (S_DR_add_L296 x2 x3 x4 x5 t0_0 t0_1 t0_2 t0_3 t0_4 t0_5 t0_6 t0_7 t0_8 t0_9 t0_10 t1_0 t2_0 t3_0 t4_0 t5_0 lx39 lx68 lx91 lx114 lx150 lx173 lx188 lx203 lx218 lx236 a254 fm) x2 x3 x4 x5 t0_0 t0_1 t0_2 t0_3 t0_4 t0_5 t0_6 t0_7 t0_8 t0_9 t0_10 t1_0 t2_0 t3_0 t4_0 t5_0 lx39 lx68 lx91 lx114 lx150 lx173 lx188 lx203 lx218 lx236 a254 lx258 lx259 lx260 ((F_DR_figure lx203 lx68 lx258 lx39 t0_1 t0_2 t0_3 t0_4 t0_5 t0_6 t0_7 t0_8 t0_9 (2 : Int32) t1_0 t2_0 t4_0) : Int32) (-((F_DR_figure lx218 lx68 lx258 lx39 t0_1 t0_2 t0_3 t0_4 t0_5 t0_6 t0_7 t0_8 t0_9 (2 : Int32) t1_0 t2_0 t4_0) : Int32) : Int32))) else ((True ∧ S_DR_figure lx218 lx68 lx258 lx39 t0_1 t0_2 t0_3 t0_4 t0_5 t0_6 t0_7 t0_8 t0_9 (2 : Int32) t1_0 t2_0 t4_0) ∧ (S_DR_add_J342 (S_DR_add_L296 x2 x3 x4 x5 t0_0 t0_1 t0_2 t0_3 t0_4 t0_5 t0_6 t0_7 t0_8 t0_9 t0_10 t1_0 t2_0 t3_0 t4_0 t5_0 lx39 lx68 lx91 lx114 lx150 lx173 lx188 lx203 lx218 lx236 a254 fm) x2 x3 x4 x5 t0_0 t0_1 t0_2 t0_3 t0_4 t0_5 t0_6 t0_7 t0_8 t0_9 t0_10 t1_0 t2_0 t3_0 t4_0 t5_0 lx39 lx68 lx91 lx114 lx150 lx173 lx188 lx203 lx218 lx236 a254 lx258 lx259 lx260 ((F_DR_figure lx203 lx68 lx258 lx39 t0_1 t0_2 t0_3 t0_4 t0_5 t0_6 t0_7 t0_8 t0_9 (2 : Int32) t1_0 t2_0 t4_0) : Int32) ((F_DR_figure lx218 lx68 lx258 lx39 t0_1 t0_2 t0_3 t0_4 t0_5 t0_6 t0_7 t0_8 t0_9 (2 : Int32) t1_0 t2_0 t4_0) : Int32)))))
def S_DR_add_J285 (x2 : Int32) (x3 : Int32) (x4 : Int32) (x5 : Int32) (t0_0 : Int32) (t0_1 : Int32) (t0_2 : Int32) (t0_3 : Int64) (t0_4 : Int32) (t0_5 : Int32) (t0_6 : Int32) (t0_7 : Int32) (t0_8 : Int32) (t0_9 : Int32) (t0_10 : Int32) (t1_0 : (Nat → Int32)) (t2_0 : (Nat → Int32)) (t3_0 : (Nat → Int32)) (t4_0 : (Nat → Int32)) (t5_0 : (Nat → Int32)) (lx39 : Int32) (lx68 : Int64) (lx91 : Int64) (lx114 : Int64) (lx150 : Int32) (lx173 : Int32) (lx188 : Int32) (lx203 : Int32) (lx218 : Int32) (lx236 : Int64) : Prop := S_DR_add_L296 x2 x3 x4 x5 t0_0 t0_1 t0_2 t0_3 t0_4 t0_5 t0_6 t0_7 t0_8 t0_9 t0_10 t1_0 t2_0 t3_0 t4_0 t5_0 lx39 lx68 lx91 lx114 lx150 lx173 lx188 lx203 lx218 lx236 ((lx236.toInt32 : Int32) + 1 : Int32) ((((lx236.toInt32 : Int32) + 1 : Int32).toInt - (0 : Int32).toInt).toNat + 1) 0 0 t5_0
def S_DR_add_J268 (x2 : Int32) (x3 : Int32) (x4 : Int32) (x5 : Int32) (t0_0 : Int32) (t0_1 : Int32) (t0_2 : Int32) (t0_3 : Int64) (t0_4 : Int32) (t0_5 : Int32) (t0_6 : Int32) (t0_7 : Int32) (t0_8 : Int32) (t0_9 : Int32) (t0_10 : Int32) (t1_0 : (Nat → Int32)) (t2_0 : (Nat → Int32)) (t3_0 : (Nat → Int32)) (t4_0 : (Nat → Int32)) (t5_0 : (Nat → Int32)) (lx39 : Int32) (lx68 : Int64) (lx91 : Int64) (lx114 : Int64) (lx150 : Int32) (lx173 : Int32) (lx188 : Int32) (lx203 : Int32) (lx218 : Int32) : Prop := if (lg_cmp lx91 lx114 : Int32) ≤ (0 : Int32) then (S_DR_add_J285 x2 x3 x4 x5 t0_0 t0_1 t0_2 t0_3 t0_4 t0_5 t0_6 t0_7 t0_8 t0_9 t0_10 t1_0 t2_0 t3_0 t4_0 t5_0 lx39 lx68 lx91 lx114 lx150 lx173 lx188 lx203 lx218 lx114) else (S_DR_add_J285 x2 x3 x4 x5 t0_0 t0_1 t0_2 t0_3 t0_4 t0_5 t0_6 t0_7 t0_8 t0_9 t0_10 t1_0 t2_0 t3_0 t4_0 t5_0 lx39 lx68 lx91 lx114 lx150 lx173 lx188 lx203 lx218 lx91)
def S_DR_add_J256 (x2 : Int32) (x3 : Int32) (x4 : Int32) (x5 : Int32) (t0_0 : Int32) (t0_1 : Int32) (t0_2 : Int32) (t0_3 : Int64) (t0_4 : Int32) (t0_5 : Int32) (t0_6 : Int32) (t0_7 : Int32) (t0_8 : Int32) (t0_9 : Int32) (t0_10 : Int32) (t1_0 : (Nat → Int32)) (t2_0 : (Nat → Int32)) (t3_0 : (Nat → Int32)) (t4_0 : (Nat → Int32)) (t5_0 : (Nat → Int32)) (lx39 : Int32) (lx68 : Int64) (lx91 : Int64) (lx114 : Int64) (lx150 : Int32) (lx173 : Int32) (lx188 : Int32) (lx203 : Int32) : Prop := if lx188 = (0 : Int32) then (S_DR_add_J268 x2 x3 x4 x5 t0_0 t0_1 t0_2 t0_3 t0_4 t0_5 t0_6 t0_7 t0_8 t0_9 t0_10 t1_0 t2_0 t3_0 t4_0 t5_0 lx39 lx68 lx91 lx114 lx150 lx173 lx188 lx203 x3) else (S_DR_add_J268 x2 x3 x4 x5 t0_0 t0_1 t0_2 t0_3 t0_4 t0_5 t0_6 t0_7 t0_8 t0_9 t0_10 t1_0 t2_0 t3_0 t4_0 t5_0 lx39 lx68 lx91 lx114 lx150 lx173 lx188 lx203 x2)
def S_DR_add_J244 (x2 : Int32) (x3 : Int32) (x4 : Int32) (x5 : Int32) (t0_0 : Int32) (t0_1 : Int32) (t0_2 : Int32) (t0_3 : Int64) (t0_4 : Int32) (t0_5 : Int32) (t0_6 : Int32) (t0_7 : Int32) (t0_8 : Int32) (t0_9 : Int32) (t0_10 : Int32) (t1_0 : (Nat → Int32)) (t2_0 : (Nat → Int32)) (t3_0 : (Nat → Int32)) (t4_0 : (Nat → Int32)) (t5_0 : (Nat → Int32)) (lx39 : Int32) (lx68 : Int64) (lx91 : Int64) (lx114 : Int64) (lx150 : Int32) (lx173 : Int32) (lx188 : Int32) : Prop := if lx188 = (0 : Int32) then (S_DR_add_J256 x2 x3 x4 x5 t0_0 t0_1 t0_2 t0_3 t0_4 t0_5 t0_6 t0_7 t0_8 t0_9 t0_10 t1_0 t2_0 t3_0 t4_0 t5_0 lx39 lx68 lx91 lx114 lx150 lx173 lx188 x2) else (S_DR_add_J256 x2 x3 x4 x5 t0_0 t0_1 t0_2 t0_3 t0_4 t0_5 t0_6 t0_7 t0_8 t0_9 t0_10 t1_0 t2_0 t3_0 t4_0 t5_0 lx39 lx68 lx91 lx114 lx150 lx173 lx188 x3)
def S_DR_add_J243 (x2 : Int32) (x3 : Int32) (x4 : Int32) (x5 : Int32) (t0_0 : Int32) (t0_1 : Int32) (t0_2 : Int32) (t0_3 : Int64) (t0_4 : Int32) (t0_5 : Int32) (t0_6 : Int32) (t0_7 : Int32) (t0_8 : Int32) (t0_9 : Int32) (t0_10 : Int32) (t1_0 : (Nat → Int32)) (t2_0 : (Nat → Int32)) (t3_0 : (Nat → Int32)) (t4_0 : (Nat → Int32)) (t5_0 : (Nat → Int32)) (lx39 : Int32) (lx68 : Int64) (lx91 : Int64) (lx114 : Int64) (lx150 : Int32) (lx173 : Int32) : Prop := S_DR_add_J244 x2 x3 x4 x5 t0_0 t0_1 t0_2 t0_3 t0_4 t0_5 t0_6 t0_7 t0_8 t0_9 t0_10 t1_0 t2_0 t3_0 t4_0 t5_0 lx39 lx68 lx91 lx114 lx150 lx173 0
def S_DR_add_J223 (x2 : Int32) (x3 : Int32) (x4 : Int32) (x5 : Int32) (t0_0 : Int32) (t0_1 : Int32) (t0_2 : Int32) (t0_3 : Int64) (t0_4 : Int32) (t0_5 : Int32) (t0_6 : Int32) (t0_7 : Int32) (t0_8 : Int32) (t0_9 : Int32) (t0_10 : Int32) (t1_0 : (Nat → Int32)) (t2_0 : (Nat → Int32)) (t3_0 : (Nat → Int32)) (t4_0 : (Nat → Int32)) (t5_0 : (Nat → Int32)) (lx39 : Int32) (lx68 : Int64) (lx91 : Int64) (lx114 : Int64) (lx150 : Int32) (lx173 : Int32) : Prop := if lx173 = (0 : Int32) then ((True ∧ S_DR_compareSizes x2 x3 lx39 t0_1 t0_2 t0_3 t0_4 t0_5 t0_6 t0_7 t0_8 t0_9 (2 : Int32) t1_0 t2_0 t4_0) ∧ (if (0 : Int32) ≤ ((F_DR_compareSizes x2 x3 lx39 t0_1 t0_2 t0_3 t0_4 t0_5 t0_6 t0_7 t0_8 t0_9 (2 : Int32) t1_0 t2_0 t4_0) : Int32) then (S_DR_add_J243 x2 x3 x4 x5 t0_0 t0_1 t0_2 t0_3 t0_4 t0_5 t0_6 t0_7 t0_8 t0_9 t0_10 t1_0 t2_0 t3_0 t4_0 t5_0 lx39 lx68 lx91 lx114 lx150 lx173) else (S_DR_add_J244 x2 x3 x4 x5 t0_0 t0_1 t0_2 t0_3 t0_4 t0_5 t0_6 t0_7 t0_8 t0_9 t0_10 t1_0 t2_0 t3_0 t4_0 t5_0 lx39 lx68 lx91 lx114 lx150 lx173 1))) else (S_DR_add_J243 x2 x3 x4 x5 t0_0 t0_1 t0_2 t0_3 t0_4 t0_5 t0_6 t0_7 t0_8 t0_9 t0_10 t1_0 t2_0 t3_0 t4_0 t5_0 lx39 lx68 lx91 lx114 lx150 lx173)
def S_DR_add_J218 (x2 : Int32) (x3 : Int32) (x4 : Int32) (x5 : Int32) (t0_0 : Int32) (t0_1 : Int32) (t0_2 : Int32) (t0_3 : Int64) (t0_4 : Int32) (t0_5 : Int32) (t0_6 : Int32) (t0_7 : Int32) (t0_8 : Int32) (t0_9 : Int32) (t0_10 : Int32) (t1_0 : (Nat → Int32)) (t2_0 : (Nat → Int32)) (t3_0 : (Nat → Int32)) (t4_0 : (Nat → Int32)) (t5_0 : (Nat → Int32)) (lx39 : Int32) (lx68 : Int64) (lx91 : Int64) (lx114 : Int64) (lx150 : Int32) : Prop := S_DR_add_J223 x2 x3 x4 x5 t0_0 t0_1 t0_2 t0_3 t0_4 t0_5 t0_6 t0_7 t0_8 t0_9 t0_10 t1_0 t2_0 t3_0 t4_0 t5_0 lx39 lx68 lx91 lx114 lx150 1
def S_DR_add_J189 (x2 : Int32) (x3 : Int32) (x4 : Int32) (x5 : Int32) (t0_0 : Int32) (t0_1 : Int32) (t0_2 : Int32) (t0_3 : Int64) (t0_4 : Int32) (t0_5 : Int32) (t0_6 : Int32) (t0_7 : Int32) (t0_8 : Int32) (t0_9 : Int32) (t0_10 : Int32) (t1_0 : (Nat → Int32)) (t2_0 : (Nat → Int32)) (t3_0 : (Nat → Int32)) (t4_0 : (Nat → Int32)) (t5_0 : (Nat → Int32)) (lx39 : Int32) (lx68 : Int64) (lx91 : Int64) (lx114 : Int64) (lx150 : Int32) : Prop := (True ∧ S_DR_isZero x2 lx39 t0_1 t0_2 t0_3 t0_4 t0_5 t0_6 t0_7 t0_8 t0_9 (2 : Int32) t1_0) ∧ (if ((F_DR_isZero x2 lx39 t0_1 t0_2 t0_3 t0_4 t0_5 t0_6 t0_7 t0_8 t0_9 (2 : Int32) t1_0) : Int32) = (0 : Int32) then ((True ∧ S_DR_isZero x3 lx39 t0_1 t0_2 t0_3 t0_4 t0_5 t0_6 t0_7 t0_8 t0_9 (2 : Int32) t1_0) ∧ (if ((F_DR_isZero x3 lx39 t0_1 t0_2 t0_3 t0_4 t0_5 t0_6 t0_7 t0_8 t0_9 (2 : Int32) t1_0) : Int32) = (0 : Int32) then (if (t3_0 x2.toNatClampNeg : Int32) = lx150 then (S_DR_add_J218 x2 x3 x4 x5 t0_0 t0_1 t0_2 t0_3 t0_4 t0_5 t0_6 t0_7 t0_8 t0_9 t0_10 t1_0 t2_0 t3_0 t4_0 t5_0 lx39 lx68 lx91 lx114 lx150) else (S_DR_add_J223 x2 x3 x4 x5 t0_0 t0_1 t0_2 t0_3 t0_4 t0_5 t0_6 t0_7 t0_8 t0_9 t0_10 t1_0 t2_0 t3_0 t4_0 t5_0 lx39 lx68 lx91 lx114 lx150 0)) else (S_DR_add_J218 x2 x3 x4 x5 t0_0 t0_1 t0_2 t0_3 t0_4 t0_5 t0_6 t0_7 t0_8 t0_9 t0_10 t1_0 t2_0 t3_0 t4_0 t5_0 lx39 lx68 lx91 lx114 lx150))) else (S_DR_add_J218 x2 x3 x4 x5 t0_0 t0_1 t0_2 t0_3 t0_4 t0_5 t0_6 t0_7 t0_8 t0_9 t0_10 t1_0 t2_0 t3_0 t4_0 t5_0 lx39 lx68 lx91 lx114 lx150))
def S_DR_add_J188 (x2 : Int32) (x3 : Int32) (x4 : Int32) (x5 : Int32) (t0_0 : Int32) (t0_1 : Int32) (t0_2 : Int32) (t0_3 : Int64) (t0_4 : Int32) (t0_5 : Int32) (t0_6 : Int32) (t0_7 : Int32) (t0_8 : Int32) (t0_9 : Int32) (t0_10 : Int32) (t1_0 : (Nat → Int32)) (t2_0 : (Nat → Int32)) (t3_0 : (Nat → Int32)) (t4_0 : (Nat → Int32)) (t5_0 : (Nat → Int32)) (lx39 : Int32) (lx68 : Int64) (lx91 : Int64) (lx114 : Int64) : Prop := S_DR_add_J189 x2 x3 x4 x5 t0_0 t0_1 t0_2 t0_3 t0_4 t0_5 t0_6 t0_7 t0_8 t0_9 t0_10 t1_0 t2_0 t3_0 t4_0 t5_0 lx39 lx68 lx91 lx114 0
def S_DR_add_J139 (x2 : Int32) (x3 : Int32) (x4 : Int32) (x5 : Int32) (t0_0 : Int32) (t0_1 : Int32) (t0_2 : Int32) (t0_3 : Int64) (t0_4 : Int32) (t0_5 : Int32) (t0_6 : Int32) (t0_7 : Int32) (t0_8 : Int32) (t0_9 : Int32) (t0_10 : Int32) (t1_0 : (Nat → Int32)) (t2_0 : (Nat → Int32)) (t3_0 : (Nat → Int32)) (t4_0 : (Nat → Int32)) (t5_0 : (Nat → Int32)) (lx39 : Int32) (lx68 : Int64) (lx91 : Int64) (lx114 : Int64) : Prop := if (0 : Int32) < (lg_cmp lx91 1001 : Int32) then (True) else (if (lg_cmp lx114 1001 : Int32) ≤ (0 : Int32) then ((True ∧ S_DR_isZero x3 lx39 t0_1 t0_2 t0_3 t0_4 t0_5 t0_6 t0_7 t0_8 t0_9 (2 : Int32) t1_0) ∧ (if ((F_DR_isZero x3 lx39 t0_1 t0_2 t0_3 t0_4 t0_5 t0_6 t0_7 t0_8 t0_9 (2 : Int32) t1_0) : Int32) = (0 : Int32) then (if (t3_0 x3.toNatClampNeg : Int32) = x5 then (S_DR_add_J188 x2 x3 x4 x5 t0_0 t0_1 t0_2 t0_3 t0_4 t0_5 t0_6 t0_7 t0_8 t0_9 t0_10 t1_0 t2_0 t3_0 t4_0 t5_0 lx39 lx68 lx91 lx114) else (S_DR_add_J189 x2 x3 x4 x5 t0_0 t0_1 t0_2 t0_3 t0_4 t0_5 t0_6 t0_7 t0_8 t0_9 t0_10 t1_0 t2_0 t3_0 t4_0 t5_0 lx39 lx68 lx91 lx114 1)) else (S_DR_add_J188 x2 x3 x4 x5 t0_0 t0_1 t0_2 t0_3 t0_4 t0_5 t0_6 t0_7 t0_8 t0_9 t0_10 t1_0 t2_0 t3_0 t4_0 t5_0 lx39 lx68 lx91 lx114))) else (True))
def S_DR_add_J107 (x2 : Int32) (x3 : Int32) (x4 : Int32) (x5 : Int32) (t0_0 : Int32) (t0_1 : Int32) (t0_2 : Int32) (t0_3 : Int64) (t0_4 : Int32) (t0_5 : Int32) (t0_6 : Int32) (t0_7 : Int32) (t0_8 : Int32) (t0_9 : Int32) (t0_10 : Int32) (t1_0 : (Nat → Int32)) (t2_0 : (Nat → Int32)) (t3_0 : (Nat → Int32)) (t4_0 : (Nat → Int32)) (t5_0 : (Nat → Int32)) (lx39 : Int32) (lx68 : Int64) (lx91 : Int64) : Prop := (True ∧ S_DR_isZero x3 lx39 t0_1 t0_2 t0_3 t0_4 t0_5 t0_6 t0_7 t0_8 t0_9 (2 : Int32) t1_0) ∧ (if ((F_DR_isZero x3 lx39 t0_1 t0_2 t0_3 t0_4 t0_5 t0_6 t0_7 t0_8 t0_9 (2 : Int32) t1_0) : Int32) = (0 : Int32) then (S_DR_add_J139 x2 x3 x4 x5 t0_0 t0_1 t0_2 t0_3 t0_4 t0_5 t0_6 t0_7 t0_8 t0_9 t0_10 t1_0 t2_0 t3_0 t4_0 t5_0 lx39 lx68 lx91 ((((t2_0 x3.toNatClampNeg : Int32).toInt64 : Int64) + lx68 : Int64) - ((t4_0 x3.toNatClampNeg : Int32).toInt64 : Int64) : Int64)) else (S_DR_add_J139 x2 x3 x4 x5 t0_0 t0_1 t0_2 t0_3 t0_4 t0_5 t0_6 t0_7 t0_8 t0_9 t0_10 t1_0 t2_0 t3_0 t4_0 t5_0 lx39 lx68 lx91 1))
def S_DR_add_J75 (x2 : Int32) (x3 : Int32) (x4 : Int32) (x5 : Int32) (t0_0 : Int32) (t0_1 : Int32) (t0_2 : Int32) (t0_3 : Int64) (t0_4 : Int32) (t0_5 : Int32) (t0_6 : Int32) (t0_7 : Int32) (t0_8 : Int32) (t0_9 : Int32) (t0_10 : Int32) (t1_0 : (Nat → Int32)) (t2_0 : (Nat → Int32)) (t3_0 : (Nat → Int32)) (t4_0 : (Nat → Int32)) (t5_0 : (Nat → Int32)) (lx39 : Int32) (lx68 : Int64) : Prop := (True ∧ S_DR_isZero x2 lx39 t0_1 t0_2 t0_3 t0_4 t0_5 t0_6 t0_7 t0_8 t0_9 (2 : Int32) t1_0) ∧ (if ((F_DR_isZero x2 lx39 t0_1 t0_2 t0_3 t0_4 t0_5 t0_6 t0_7 t0_8 t0_9 (2 : Int32) t1_0) : Int32) = (0 : Int32) then (S_DR_add_J107 x2 x3 x4 x5 t0_0 t0_1 t0_2 t0_3 t0_4 t0_5 t0_6 t0_7 t0_8 t0_9 t0_10 t1_0 t2_0 t3_0 t4_0 t5_0 lx39 lx68 ((((t2_0 x2.toNatClampNeg : Int32).toInt64 : Int64) + lx68 : Int64) - ((t4_0 x2.toNatClampNeg : Int32).toInt64 : Int64) : Int64)) else (S_DR_add_J107 x2 x3 x4 x5 t0_0 t0_1 t0_2 t0_3 t0_4 t0_5 t0_6 t0_7 t0_8 t0_9 t0_10 t1_0 t2_0 t3_0 t4_0 t5_0 lx39 lx68 1))
def S_DR_add_J27 (x2 : Int32) (x3 : Int32) (x4 : Int32) (x5 : Int32) (t0_0 : Int32) (t0_1 : Int32) (t0_2 : Int32) (t0_3 : Int64) (t0_4 : Int32) (t0_5 : Int32) (t0_6 : Int32) (t0_7 : Int32) (t0_8 : Int32) (t0_9 : Int32) (t0_10 : Int32) (t1_0 : (Nat → Int32)) (t2_0 : (Nat → Int32)) (t3_0 : (Nat → Int32)) (t4_0 : (Nat → Int32)) (t5_0 : (Nat → Int32)) (lx39 : Int32) : Prop := if lx39 ≤ (0 : Int32) then ((0 ≤ x2.toInt) ∧ ((x2.toInt ≤ 9) ∧ ((0 ≤ x3.toInt) ∧ ((x3.toInt ≤ 9) ∧ (if (t4_0 x2.toNatClampNeg : Int32) ≤ (t4_0 x3.toNatClampNeg : Int32) then (S_DR_add_J75 x2 x3 x4 x5 t0_0 t0_1 t0_2 t0_3 t0_4 t0_5 t0_6 t0_7 t0_8 t0_9 t0_10 t1_0 t2_0 t3_0 t4_0 t5_0 lx39 ((t4_0 x3.toNatClampNeg : Int32).toInt64 : Int64)) else (S_DR_add_J75 x2 x3 x4 x5 t0_0 t0_1 t0_2 t0_3 t0_4 t0_5 t0_6 t0_7 t0_8 t0_9 t0_10 t1_0 t2_0 t3_0 t4_0 t5_0 lx39 ((t4_0 x2.toNatClampNeg : Int32).toInt64 : Int64))))))) else (True)
def S_DR_add_J22 (x2 : Int32) (x3 : Int32) (x4 : Int32) (x5 : Int32) (t0_0 : Int32) (t0_1 : Int32) (t0_2 : Int32) (t0_3 : Int64) (t0_4 : Int32) (t0_5 : Int32) (t0_6 : Int32) (t0_7 : Int32) (t0_8 : Int32) (t0_9 : Int32) (t0_10 : Int32) (t1_0 : (Nat → Int32)) (t2_0 : (Nat → Int32)) (t3_0 : (Nat → Int32)) (t4_0 : (Nat → Int32)) (t5_0 : (Nat → Int32)) : Prop := S_DR_add_J27 x2 x3 x4 x5 t0_0 t0_1 t0_2 t0_3 t0_4 t0_5 t0_6 t0_7 t0_8 t0_9 t0_10 t1_0 t2_0 t3_0 t4_0 t5_0 1
def S_DR_add (x2 : Int32) (x3 : Int32) (x4 : Int32) (x5 : Int32) (t0_0 : Int32) (t0_1 : Int32) (t0_2 : Int32) (t0_3 : Int64) (t0_4 : Int32) (t0_5 : Int32) (t0_6 : Int32) (t0_7 : Int32) (t0_8 : Int32) (t0_9 : Int32) (t0_10 : Int32) (t1_0 : (Nat → Int32)) (t2_0 : (Nat → Int32)) (t3_0 : (Nat → Int32)) (t4_0 : (Nat → Int32)) (t5_0 : (Nat → Int32)) : Prop := if ((F_DR_no x2) : Int32) = (0 : Int32) then (if ((F_DR_no x3) : Int32) = (0 : Int32) then (if ((F_DR_no x4) : Int32) = (0 : Int32) then (S_DR_add_J27 x2 x3 x4 x5 t0_0 t0_1 t0_2 t0_3 t0_4 t0_5 t0_6 t0_7 t0_8 t0_9 t0_10 t1_0 t2_0 t3_0 t4_0 t5_0 0) else (S_DR_add_J22 x2 x3 x4 x5 t0_0 t0_1 t0_2 t0_3 t0_4 t0_5 t0_6 t0_7 t0_8 t0_9 t0_10 t1_0 t2_0 t3_0 t4_0 t5_0)) else (S_DR_add_J22 x2 x3 x4 x5 t0_0 t0_1 t0_2 t0_3 t0_4 t0_5 t0_6 t0_7 t0_8 t0_9 t0_10 t1_0 t2_0 t3_0 t4_0 t5_0)) else (S_DR_add_J22 x2 x3 x4 x5 t0_0 t0_1 t0_2 t0_3 t0_4 t0_5 t0_6 t0_7 t0_8 t0_9 t0_10 t1_0 t2_0 t3_0 t4_0 t5_0)
set_option maxRecDepth 100000 in
set_option maxHeartbeats 4000000 in
theorem X_DR_add (l : Launch) (D : va_G) (g : Nat → ClassId) (q : Nat → Nat) (ws : va_W) (x2 : Int32) (x3 : Int32) (x4 : Int32) (x5 : Int32) (hI : q_I (msh g q) q ws) (t0_0 : Int32) (t0_1 : Int32) (t0_2 : Int32) (t0_3 : Int64) (t0_4 : Int32) (t0_5 : Int32) (t0_6 : Int32) (t0_7 : Int32) (t0_8 : Int32) (t0_9 : Int32) (t0_10 : Int32) (hT0 : ws[134]? = (some (q 134, .inr (14, [.int t0_0, .ref (q 135), .int t0_1, .ref (q 136), .ref (q 137), .ref (q 138), .ref (q 139), .ref (q 140), .int t0_2, .long t0_3, .int t0_4, .int t0_5, .ref (q 141), .int t0_6, .ref (q 142), .int t0_7, .ref (q 143), .int t0_8, .ref (q 144), .int t0_9, .int t0_10])) : Option (Nat × va_E))) (t1_0 : (Nat → Int32)) (hT1 : ws[136]? = (some (q 136, .inl (g 0, (10000 : Int32).toNatClampNeg, .inl t1_0)) : Option (Nat × va_E))) (t2_0 : (Nat → Int32)) (hT2 : ws[137]? = (some (q 137, .inl (g 0, (10 : Int32).toNatClampNeg, .inl t2_0)) : Option (Nat × va_E))) (t3_0 : (Nat → Int32)) (hT3 : ws[138]? = (some (q 138, .inl (g 3, 10, .inl t3_0)) : Option (Nat × va_E))) (t4_0 : (Nat → Int32)) (hT4 : ws[139]? = (some (q 139, .inl (g 0, (10 : Int32).toNatClampNeg, .inl t4_0)) : Option (Nat × va_E))) (t5_0 : (Nat → Int32)) (hT5 : ws[140]? = (some (q 140, .inl (g 0, (4400 : Int32).toNatClampNeg, .inl t5_0)) : Option (Nat × va_E))) (hzx5 : 0 ≤ x5.toInt ∧ x5.toInt ≤ 1) (hS : True ∧ S_DR_add x2 x3 x4 x5 t0_0 t0_1 t0_2 t0_3 t0_4 t0_5 t0_6 t0_7 t0_8 t0_9 t0_10 t1_0 t2_0 t3_0 t4_0 t5_0) : q_mV l y_DR_add prog_15_method_26_code 20 3 0 0 D g [.ref (q 134), .int x2, .int x3, .int x4, .int x5] ws (fun u => q_I (msh g q) q u ∧ q_un ws u [134, 136, 137, 138, 139, 140] ∧ ∃ (u0_0 : Int32) (u0_1 : Int32) (u0_2 : Int32) (u0_3 : Int64) (u0_4 : Int32) (u0_5 : Int32) (u0_6 : Int32) (u0_7 : Int32) (u0_8 : Int32) (u0_9 : Int32) (u0_10 : Int32) (u1_0 : (Nat → Int32)) (u2_0 : (Nat → Int32)) (u3_0 : (Nat → Int32)) (u4_0 : (Nat → Int32)) (u5_0 : (Nat → Int32)), u[134]? = (some (q 134, .inr (14, [.int u0_0, .ref (q 135), .int u0_1, .ref (q 136), .ref (q 137), .ref (q 138), .ref (q 139), .ref (q 140), .int u0_2, .long u0_3, .int u0_4, .int u0_5, .ref (q 141), .int u0_6, .ref (q 142), .int u0_7, .ref (q 143), .int u0_8, .ref (q 144), .int u0_9, .int u0_10])) : Option (Nat × va_E)) ∧ u[136]? = (some (q 136, .inl (g 0, (10000 : Int32).toNatClampNeg, .inl u1_0)) : Option (Nat × va_E)) ∧ u[137]? = (some (q 137, .inl (g 0, (10 : Int32).toNatClampNeg, .inl u2_0)) : Option (Nat × va_E)) ∧ u[138]? = (some (q 138, .inl (g 3, 10, .inl u3_0)) : Option (Nat × va_E)) ∧ u[139]? = (some (q 139, .inl (g 0, (10 : Int32).toNatClampNeg, .inl u4_0)) : Option (Nat × va_E)) ∧ u[140]? = (some (q 140, .inl (g 0, (4400 : Int32).toNatClampNeg, .inl u5_0)) : Option (Nat × va_E)) ∧ (0 ≤ u0_4.toInt) ∧ (0 ≤ u0_5.toInt) ∧ (u0_5.toInt ≤ 1) ∧ (t0_1.toInt ≤ u0_1.toInt) ∧ (u0_1.toInt ≤ t0_1.toInt) ∧ (u0_4.toInt ≤ t0_4.toInt) ∧ (t0_6.toInt ≤ u0_6.toInt) ∧ (u0_6.toInt ≤ t0_6.toInt) ∧ (t0_7.toInt ≤ u0_7.toInt) ∧ (u0_7.toInt ≤ t0_7.toInt) ∧ (t0_8.toInt ≤ u0_8.toInt) ∧ (u0_8.toInt ≤ t0_8.toInt) ∧ (t0_9.toInt ≤ u0_9.toInt) ∧ (u0_9.toInt ≤ t0_9.toInt) ∧ (u0_0, u0_1, u0_2, u0_3, u0_4, u0_5, u0_6, u0_7, u0_8, u0_9, u0_10, u1_0, u2_0, u3_0, u4_0, u5_0) = (F_DR_add x2 x3 x4 x5 t0_0 t0_1 t0_2 t0_3 t0_4 t0_5 t0_6 t0_7 t0_8 t0_9 t0_10 t1_0 t2_0 t3_0 t4_0 t5_0)) := by
  intro sz
  refine q_into (by decide) (Nat.le_of_ble_eq_true rfl) ?_
  intro p e s m below meth c ls hsz C0 V hl
  have hx := C0.1
  have hb := C0.2.1
  clear hzx5
  obtain ⟨btt0_1, hZ9⟩ := n_w134 hI hT0
  obtain ⟨btt0_4, hZ9⟩ := hZ9
  obtain ⟨btt0_5, btt0_9⟩ := hZ9
  replace btt0_1 : q_F (0 ≤ t0_1.toInt ∧ t0_1.toInt ≤ 4100) := btt0_1
  replace btt0_4 : q_F (0 ≤ t0_4.toInt ∧ t0_4.toInt ≤ 1) := btt0_4
  replace btt0_5 : q_F (0 ≤ t0_5.toInt ∧ t0_5.toInt ≤ 1) := btt0_5
  replace btt0_9 : q_F (0 ≤ t0_9.toInt ∧ t0_9.toInt ≤ 12200) := btt0_9
  have hF : q_un ws ws [134, 136, 137, 138, 139, 140] := q_u0
  have hl : lv_has ls 20 [(0, .ref (q 134)), (1, .int x2), (2, .int x3), (3, .int x4), (4, .int x5)] := hl
  refine lv_aload_n hx hb d_15_26_0 rfl (lv_at hl 0 rfl) ?_
  refine lv_iload_n hx hb d_15_26_1 rfl (lv_at hl 1 rfl) ?_
  refine q_goi V (q_runS (As := [.int x2]) (rest := [.ref (q 134)]) (d := 1) (mc := 0) (ms := 0) C0 V rfl LS_DR_113 (X_DR_no l D g q ws  x2 hI   _) rfl hl.1 rfl (Nat.le_of_ble_eq_true rfl) ⟨by decide, by decide⟩ ⟨Nat.le_of_ble_eq_true rfl, Nat.le_of_ble_eq_true rfl⟩ d_15_26_2) (fun a34 u32 H locs hp33 V => ?_)
  obtain ⟨rfl, b35, b36, hE37⟩ := hp33
  have e38 : a34 = (F_DR_no x2) := hE37
  clear b35
  clear b36
  refine q_join (X := Int32) (fun z H locs ls _ => q_F (0 ≤ z.toInt) ∧ q_F (z.toInt ≤ 1) ∧ q_Wd D g (va_A ws sz) s ws H locs ∧ lv_has ls 20 [(0, .ref (q 134)), (1, .int x2), (2, .int x3), (3, .int x4), (4, .int x5)] ∧ F_DR_add_J27 x2 x3 x4 x5 t0_0 t0_1 t0_2 t0_3 t0_4 t0_5 t0_6 t0_7 t0_8 t0_9 t0_10 t1_0 t2_0 t3_0 t4_0 t5_0 z = (F_DR_add x2 x3 x4 x5 t0_0 t0_1 t0_2 t0_3 t0_4 t0_5 t0_6 t0_7 t0_8 t0_9 t0_10 t1_0 t2_0 t3_0 t4_0 t5_0) ∧ True ∧ S_DR_add_J27 x2 x3 x4 x5 t0_0 t0_1 t0_2 t0_3 t0_4 t0_5 t0_6 t0_7 t0_8 t0_9 t0_10 t1_0 t2_0 t3_0 t4_0 t5_0 z) (fun z => [.int z, .ref (q 134)]) 27 0 0 ?_ ?_
  ·
    rintro lx39 H locs ls _ hZ9
    obtain ⟨i47, hZ9⟩ := hZ9
    obtain ⟨i48, hZ9⟩ := hZ9
    obtain ⟨V, hZ9⟩ := hZ9
    obtain ⟨hl, hZ9⟩ := hZ9
    obtain ⟨hR49, hS50⟩ := hZ9
    replace i47 : q_F (0 ≤ lx39.toInt) := i47
    replace i48 : q_F (lx39.toInt ≤ 1) := i48
    replace hl : lv_has ls 20 [(0, .ref (q 134)), (1, .int x2), (2, .int x3), (3, .int x4), (4, .int x5)] := hl
    refine q_put (ci := 14) (j := 0) (v := .int lx39) (ty := .int) C0 V i_DR o_DR n_DR rfl rfl hT0 (by decide) w_1996 rfl rfl rfl rfl (Nat.le_of_ble_eq_true rfl) d_15_26_27 (fun H locs w54 hu55 hT0 V => ?_)
    replace hT0 : w54[134]? = (some (q 134, .inr (14, [.int lx39, .ref (q 135), .int t0_1, .ref (q 136), .ref (q 137), .ref (q 138), .ref (q 139), .ref (q 140), .int t0_2, .long t0_3, .int t0_4, .int t0_5, .ref (q 141), .int t0_6, .ref (q 142), .int t0_7, .ref (q 143), .int t0_8, .ref (q 144), .int t0_9, .int t0_10])) : Option (Nat × va_E)) := hT0
    replace hI := n_p134 hI hu55 hT0 (by first | with_reducible exact q_fe btt0_1 | exact ⟨(by have t1 : 0 ≤ t0_1.toInt ∧ t0_1.toInt ≤ 4100 := btt0_1; omega), (by have t1 : 0 ≤ t0_1.toInt ∧ t0_1.toInt ≤ 4100 := btt0_1; omega)⟩) (by first | with_reducible exact q_fe btt0_4 | exact ⟨(by have t1 : 0 ≤ t0_4.toInt ∧ t0_4.toInt ≤ 1 := btt0_4; omega), (by have t1 : 0 ≤ t0_4.toInt ∧ t0_4.toInt ≤ 1 := btt0_4; omega)⟩) (by first | with_reducible exact q_fe btt0_5 | exact ⟨(by have t1 : 0 ≤ t0_5.toInt ∧ t0_5.toInt ≤ 1 := btt0_5; omega), (by have t1 : 0 ≤ t0_5.toInt ∧ t0_5.toInt ≤ 1 := btt0_5; omega)⟩) (by first | with_reducible exact q_fe btt0_9 | exact ⟨(by have t1 : 0 ≤ t0_9.toInt ∧ t0_9.toInt ≤ 12200 := btt0_9; omega), (by have t1 : 0 ≤ t0_9.toInt ∧ t0_9.toInt ≤ 12200 := btt0_9; omega)⟩)
    replace hT1 := (hu55 _ (by decide)).trans hT1
    replace hT2 := (hu55 _ (by decide)).trans hT2
    replace hT3 := (hu55 _ (by decide)).trans hT3
    replace hT4 := (hu55 _ (by decide)).trans hT4
    replace hT5 := (hu55 _ (by decide)).trans hT5
    replace hF := q_us hF hu55 (by simp)
    refine lv_aload_n hx hb d_15_26_30 rfl (lv_at hl 0 rfl) ?_
    refine q_get (ci := 14) (j := 0) (v := .int lx39) C0 V i_DR rfl rfl hT0 (by decide) w_1996 rfl d_15_26_31 ?_
    refine lv_if_le (tgt := 38) hx hb d_15_26_34 (by decide) (fun c56 => ?_) (fun c56 => ?_)
    ·
      have b57 : q_F (lx39.toInt ≤ 0) := (q_leI c56)
      refine lv_aload_n hx hb d_15_26_38 rfl (lv_at hl 0 rfl) ?_
      refine lv_iconst (v := 2) hx hb d_15_26_39 (by decide) ?_
      refine q_put (ci := 14) (j := 20) (v := .int 2) (ty := .int) C0 V i_DR o_DR n_DR rfl rfl hT0 (by decide) w_2024 rfl rfl rfl rfl (Nat.le_of_ble_eq_true rfl) d_15_26_40 (fun H locs w58 hu59 hT0 V => ?_)
      replace hT0 : w58[134]? = (some (q 134, .inr (14, [.int lx39, .ref (q 135), .int t0_1, .ref (q 136), .ref (q 137), .ref (q 138), .ref (q 139), .ref (q 140), .int t0_2, .long t0_3, .int t0_4, .int t0_5, .ref (q 141), .int t0_6, .ref (q 142), .int t0_7, .ref (q 143), .int t0_8, .ref (q 144), .int t0_9, .int 2])) : Option (Nat × va_E)) := hT0
      replace hI := n_p134 hI hu59 hT0 (by first | with_reducible exact q_fe btt0_1 | exact ⟨(by have t1 : 0 ≤ t0_1.toInt ∧ t0_1.toInt ≤ 4100 := btt0_1; omega), (by have t1 : 0 ≤ t0_1.toInt ∧ t0_1.toInt ≤ 4100 := btt0_1; omega)⟩) (by first | with_reducible exact q_fe btt0_4 | exact ⟨(by have t1 : 0 ≤ t0_4.toInt ∧ t0_4.toInt ≤ 1 := btt0_4; omega), (by have t1 : 0 ≤ t0_4.toInt ∧ t0_4.toInt ≤ 1 := btt0_4; omega)⟩) (by first | with_reducible exact q_fe btt0_5 | exact ⟨(by have t1 : 0 ≤ t0_5.toInt ∧ t0_5.toInt ≤ 1 := btt0_5; omega), (by have t1 : 0 ≤ t0_5.toInt ∧ t0_5.toInt ≤ 1 := btt0_5; omega)⟩) (by first | with_reducible exact q_fe btt0_9 | exact ⟨(by have t1 : 0 ≤ t0_9.toInt ∧ t0_9.toInt ≤ 12200 := btt0_9; omega), (by have t1 : 0 ≤ t0_9.toInt ∧ t0_9.toInt ≤ 12200 := btt0_9; omega)⟩)
      replace hT1 := (hu59 _ (by decide)).trans hT1
      replace hT2 := (hu59 _ (by decide)).trans hT2
      replace hT3 := (hu59 _ (by decide)).trans hT3
      replace hT4 := (hu59 _ (by decide)).trans hT4
      replace hT5 := (hu59 _ (by decide)).trans hT5
      replace hF := q_us hF hu59 (by simp)
      refine lv_aload_n hx hb d_15_26_43 rfl (lv_at hl 0 rfl) ?_
      refine q_get (ci := 14) (j := 6) (v := .ref (q 139)) C0 V i_DR rfl rfl hT0 (by decide) w_2008 rfl d_15_26_44 ?_
      refine lv_iload_n hx hb d_15_26_47 rfl (lv_at hl 1 rfl) ?_
      have ob60 : q_F (0 ≤ x2.toInt) := (by have h := hS50; rw [S_DR_add_J27.eq_1] at h; rw [if_pos c56] at h; exact h.2.1)
      have ob61 : q_F (x2.toInt ≤ 9) := (by have h := hS50; rw [S_DR_add_J27.eq_1] at h; rw [if_pos c56] at h; replace h := q_s2 h; exact h.2.1)
      refine q_iald C0 V hT4 (q_ix (x := x2.toInt) rfl (by first | with_reducible exact q_fe ob60 | (have t1 : 0 ≤ x2.toInt := ob60; omega)) (by have t1 : 0 ≤ x2.toInt := ob60; have t2 : x2.toInt ≤ 9 := ob61; have e9 : (((10 : Int32).toNatClampNeg : Nat) : Int) = 10 := (by decide); omega)) d_15_26_48 ?_
      obtain ⟨a62, e63⟩ := q_nm (t4_0 x2.toNatClampNeg : Int32)
      refine q_ti (v := a62) e63 ?_
      refine lv_aload_n hx hb d_15_26_49 rfl (lv_at hl 0 rfl) ?_
      refine q_get (ci := 14) (j := 6) (v := .ref (q 139)) C0 V i_DR rfl rfl hT0 (by decide) w_2008 rfl d_15_26_50 ?_
      refine lv_iload_n hx hb d_15_26_53 rfl (lv_at hl 2 rfl) ?_
      have ob64 : q_F (0 ≤ x3.toInt) := (by have h := hS50; rw [S_DR_add_J27.eq_1] at h; rw [if_pos c56] at h; replace h := q_s2 h; replace h := q_s2 h; exact h.2.1)
      have ob65 : q_F (x3.toInt ≤ 9) := (by have h := hS50; rw [S_DR_add_J27.eq_1] at h; rw [if_pos c56] at h; replace h := q_s2 h; replace h := q_s2 h; replace h := q_s2 h; exact h.2.1)
      refine q_iald C0 V hT4 (q_ix (x := x3.toInt) rfl (by first | with_reducible exact q_fe ob64 | (have t1 : 0 ≤ x3.toInt := ob64; omega)) (by have t1 : 0 ≤ x3.toInt := ob64; have t2 : x3.toInt ≤ 9 := ob65; have e9 : (((10 : Int32).toNatClampNeg : Nat) : Int) = 10 := (by decide); omega)) d_15_26_54 ?_
      obtain ⟨a66, e67⟩ := q_nm (t4_0 x3.toNatClampNeg : Int32)
      refine q_ti (v := a66) e67 ?_
      refine q_join (X := Int64) (fun z H locs ls _ => q_F (0 ≤ z.toInt + 2147483648) ∧ q_F (z.toInt ≤ 2147483647) ∧ q_Wd D g (va_A ws sz) s w58 H locs ∧ lv_has ls 20 [(0, .ref (q 134)), (1, .int x2), (2, .int x3), (3, .int x4), (4, .int x5)] ∧ F_DR_add_J75 x2 x3 x4 x5 t0_0 t0_1 t0_2 t0_3 t0_4 t0_5 t0_6 t0_7 t0_8 t0_9 t0_10 t1_0 t2_0 t3_0 t4_0 t5_0 lx39 z = (F_DR_add x2 x3 x4 x5 t0_0 t0_1 t0_2 t0_3 t0_4 t0_5 t0_6 t0_7 t0_8 t0_9 t0_10 t1_0 t2_0 t3_0 t4_0 t5_0) ∧ True ∧ S_DR_add_J75 x2 x3 x4 x5 t0_0 t0_1 t0_2 t0_3 t0_4 t0_5 t0_6 t0_7 t0_8 t0_9 t0_10 t1_0 t2_0 t3_0 t4_0 t5_0 lx39 z) (fun z => [.long z]) 75 0 0 ?_ ?_
      ·
        rintro lx68 H locs ls _ hZ9
        obtain ⟨i76, hZ9⟩ := hZ9
        obtain ⟨i77, hZ9⟩ := hZ9
        obtain ⟨V, hZ9⟩ := hZ9
        obtain ⟨hl, hZ9⟩ := hZ9
        obtain ⟨hR78, hS79⟩ := hZ9
        replace i76 : q_F (0 ≤ lx68.toInt + 2147483648) := i76
        replace i77 : q_F (lx68.toInt ≤ 2147483647) := i77
        replace hl : lv_has ls 20 [(0, .ref (q 134)), (1, .int x2), (2, .int x3), (3, .int x4), (4, .int x5)] := hl
        refine lv_lstore (lv' := [(5, .long lx68), (0, .ref (q 134)), (1, .int x2), (2, .int x3), (3, .int x4), (4, .int x5)]) hx hb d_15_26_75 hl (by decide) rfl (fun ls hl => ?_)
        refine lv_aload_n hx hb d_15_26_77 rfl (lv_at hl 1 rfl) ?_
        refine lv_iload_n hx hb d_15_26_78 rfl (lv_at hl 2 rfl) ?_
        have ob83 : True ∧ S_DR_isZero x2 lx39 t0_1 t0_2 t0_3 t0_4 t0_5 t0_6 t0_7 t0_8 t0_9 (2 : Int32) t1_0 := (by have h := hS79; rw [S_DR_add_J75.eq_1] at h; with_reducible exact h.2.1)
        refine q_goi V (q_runV (As := [.int x2]) (rest := []) (d := 1) (mc := 0) (ms := 0) (ci := 14) C0 V rfl LV_DR_120 (X_DR_isZero l D g q w58  x2 hI lx39 t0_1 t0_2 t0_3 t0_4 t0_5 t0_6 t0_7 t0_8 t0_9 2 hT0 t1_0 hT1 ob83 _) rfl rfl hT0 rfl hl.1 rfl (Nat.le_of_ble_eq_true rfl) ⟨by decide, by decide⟩ ⟨Nat.le_of_ble_eq_true rfl, Nat.le_of_ble_eq_true rfl⟩ d_15_26_79) (fun a86 u84 H locs hp85 V => ?_)
        obtain ⟨rfl, b87, b88, hE89⟩ := hp85
        have e90 : a86 = (F_DR_isZero x2 lx39 t0_1 t0_2 t0_3 t0_4 t0_5 t0_6 t0_7 t0_8 t0_9 (2 : Int32) t1_0) := hE89
        clear b87
        clear b88
        refine q_join (X := Int64) (fun z H locs ls _ => q_F (0 ≤ z.toInt + 6442450943) ∧ q_F (z.toInt ≤ 6442450942) ∧ q_Wd D g (va_A ws sz) s w58 H locs ∧ lv_has ls 20 [(5, .long lx68), (0, .ref (q 134)), (1, .int x2), (2, .int x3), (3, .int x4), (4, .int x5)] ∧ F_DR_add_J107 x2 x3 x4 x5 t0_0 t0_1 t0_2 t0_3 t0_4 t0_5 t0_6 t0_7 t0_8 t0_9 t0_10 t1_0 t2_0 t3_0 t4_0 t5_0 lx39 lx68 z = (F_DR_add x2 x3 x4 x5 t0_0 t0_1 t0_2 t0_3 t0_4 t0_5 t0_6 t0_7 t0_8 t0_9 t0_10 t1_0 t2_0 t3_0 t4_0 t5_0) ∧ True ∧ S_DR_add_J107 x2 x3 x4 x5 t0_0 t0_1 t0_2 t0_3 t0_4 t0_5 t0_6 t0_7 t0_8 t0_9 t0_10 t1_0 t2_0 t3_0 t4_0 t5_0 lx39 lx68 z) (fun z => [.long z]) 107 0 0 ?_ ?_
        ·
          rintro lx91 H locs ls _ hZ9
          replace hZ9 := hZ9.2.2
          obtain ⟨V, hZ9⟩ := hZ9
          obtain ⟨hl, hZ9⟩ := hZ9
          obtain ⟨hR101, hS102⟩ := hZ9
          replace hl : lv_has ls 20 [(5, .long lx68), (0, .ref (q 134)), (1, .int x2), (2, .int x3), (3, .int x4), (4, .int x5)] := hl
          refine lv_lstore (lv' := [(7, .long lx91), (5, .long lx68), (0, .ref (q 134)), (1, .int x2), (2, .int x3), (3, .int x4), (4, .int x5)]) hx hb d_15_26_107 hl (by decide) rfl (fun ls hl => ?_)
          refine lv_aload_n hx hb d_15_26_109 rfl (lv_at hl 2 rfl) ?_
          refine lv_iload_n hx hb d_15_26_110 rfl (lv_at hl 4 rfl) ?_
          have ob106 : True ∧ S_DR_isZero x3 lx39 t0_1 t0_2 t0_3 t0_4 t0_5 t0_6 t0_7 t0_8 t0_9 (2 : Int32) t1_0 := (by have h := hS102; rw [S_DR_add_J107.eq_1] at h; with_reducible exact h.2.1)
          refine q_goi V (q_runV (As := [.int x3]) (rest := []) (d := 1) (mc := 0) (ms := 0) (ci := 14) C0 V rfl LV_DR_120 (X_DR_isZero l D g q w58  x3 hI lx39 t0_1 t0_2 t0_3 t0_4 t0_5 t0_6 t0_7 t0_8 t0_9 2 hT0 t1_0 hT1 ob106 _) rfl rfl hT0 rfl hl.1 rfl (Nat.le_of_ble_eq_true rfl) ⟨by decide, by decide⟩ ⟨Nat.le_of_ble_eq_true rfl, Nat.le_of_ble_eq_true rfl⟩ d_15_26_111) (fun a109 u107 H locs hp108 V => ?_)
          obtain ⟨rfl, b110, b111, hE112⟩ := hp108
          have e113 : a109 = (F_DR_isZero x3 lx39 t0_1 t0_2 t0_3 t0_4 t0_5 t0_6 t0_7 t0_8 t0_9 (2 : Int32) t1_0) := hE112
          clear b110
          clear b111
          refine q_join (X := Int64) (fun z H locs ls _ => q_F (0 ≤ z.toInt + 6442450943) ∧ q_F (z.toInt ≤ 6442450942) ∧ q_Wd D g (va_A ws sz) s w58 H locs ∧ lv_has ls 20 [(7, .long lx91), (5, .long lx68), (0, .ref (q 134)), (1, .int x2), (2, .int x3), (3, .int x4), (4, .int x5)] ∧ F_DR_add_J139 x2 x3 x4 x5 t0_0 t0_1 t0_2 t0_3 t0_4 t0_5 t0_6 t0_7 t0_8 t0_9 t0_10 t1_0 t2_0 t3_0 t4_0 t5_0 lx39 lx68 lx91 z = (F_DR_add x2 x3 x4 x5 t0_0 t0_1 t0_2 t0_3 t0_4 t0_5 t0_6 t0_7 t0_8 t0_9 t0_10 t1_0 t2_0 t3_0 t4_0 t5_0) ∧ True ∧ S_DR_add_J139 x2 x3 x4 x5 t0_0 t0_1 t0_2 t0_3 t0_4 t0_5 t0_6 t0_7 t0_8 t0_9 t0_10 t1_0 t2_0 t3_0 t4_0 t5_0 lx39 lx68 lx91 z) (fun z => [.long z]) 139 0 0 ?_ ?_
          ·
            rintro lx114 H locs ls _ hZ9
            replace hZ9 := hZ9.2.2
            obtain ⟨V, hZ9⟩ := hZ9
            obtain ⟨hl, hZ9⟩ := hZ9
            obtain ⟨hR124, hS125⟩ := hZ9
            replace hl : lv_has ls 20 [(7, .long lx91), (5, .long lx68), (0, .ref (q 134)), (1, .int x2), (2, .int x3), (3, .int x4), (4, .int x5)] := hl
            refine lv_lstore (lv' := [(9, .long lx114), (7, .long lx91), (5, .long lx68), (0, .ref (q 134)), (1, .int x2), (2, .int x3), (3, .int x4), (4, .int x5)]) hx hb d_15_26_139 hl (by decide) rfl (fun ls hl => ?_)
            refine lv_lload hx hb d_15_26_141 (lv_at hl 1 rfl) ?_
            refine q_ldc2 C0 rfl w_2781 d_15_26_143 ?_
            refine W.lcmp hx hb d_15_26_146 ?_
            obtain ⟨a129, e130⟩ := q_nm (lg_cmp lx91 1001 : Int32)
            refine q_ti (v := a129) e130 ?_
            have b131 : q_F (-1 ≤ a129.toInt ∧ a129.toInt ≤ 1 ∧ ((a129.toInt = -1 ∧ lx91.toInt < 1001) ∨ (a129.toInt = 0 ∧ lx91.toInt = 1001) ∨ (a129.toInt = 1 ∧ 1001 < lx91.toInt))) := (by rw [← e130]; show -1 ≤ (lg_cmp lx91 1001 : Int32).toInt ∧ (lg_cmp lx91 1001 : Int32).toInt ≤ 1 ∧ (((lg_cmp lx91 1001 : Int32).toInt = -1 ∧ lx91.toInt < 1001) ∨ ((lg_cmp lx91 1001 : Int32).toInt = 0 ∧ lx91.toInt = 1001) ∨ ((lg_cmp lx91 1001 : Int32).toInt = 1 ∧ 1001 < lx91.toInt)); exact (by have y1 : (1001 : Int64).toInt = 1001 := rfl; have z := s_lcmp (a := lx91) (b := 1001); omega))
            refine lv_if_gt (tgt := 159) hx hb d_15_26_147 (by decide) (fun c132 => ?_) (fun c132 => ?_)
            ·
              refine lv_aload_n hx hb d_15_26_159 rfl (lv_at hl 3 rfl) ?_
              refine lv_iconst (v := 2) hx hb d_15_26_160 (by decide) ?_
              refine q_put (ci := 14) (j := 0) (v := .int 2) (ty := .int) C0 V i_DR o_DR n_DR rfl rfl hT0 (by decide) w_1996 rfl rfl rfl rfl (Nat.le_of_ble_eq_true rfl) d_15_26_161 (fun H locs w134 hu135 hT0 V => ?_)
              replace hT0 : w134[134]? = (some (q 134, .inr (14, [.int 2, .ref (q 135), .int t0_1, .ref (q 136), .ref (q 137), .ref (q 138), .ref (q 139), .ref (q 140), .int t0_2, .long t0_3, .int t0_4, .int t0_5, .ref (q 141), .int t0_6, .ref (q 142), .int t0_7, .ref (q 143), .int t0_8, .ref (q 144), .int t0_9, .int 2])) : Option (Nat × va_E)) := hT0
              replace hI := n_p134 hI hu135 hT0 (by first | with_reducible exact q_fe btt0_1 | exact ⟨(by have t1 : 0 ≤ t0_1.toInt ∧ t0_1.toInt ≤ 4100 := btt0_1; omega), (by have t1 : 0 ≤ t0_1.toInt ∧ t0_1.toInt ≤ 4100 := btt0_1; omega)⟩) (by first | with_reducible exact q_fe btt0_4 | exact ⟨(by have t1 : 0 ≤ t0_4.toInt ∧ t0_4.toInt ≤ 1 := btt0_4; omega), (by have t1 : 0 ≤ t0_4.toInt ∧ t0_4.toInt ≤ 1 := btt0_4; omega)⟩) (by first | with_reducible exact q_fe btt0_5 | exact ⟨(by have t1 : 0 ≤ t0_5.toInt ∧ t0_5.toInt ≤ 1 := btt0_5; omega), (by have t1 : 0 ≤ t0_5.toInt ∧ t0_5.toInt ≤ 1 := btt0_5; omega)⟩) (by first | with_reducible exact q_fe btt0_9 | exact ⟨(by have t1 : 0 ≤ t0_9.toInt ∧ t0_9.toInt ≤ 12200 := btt0_9; omega), (by have t1 : 0 ≤ t0_9.toInt ∧ t0_9.toInt ≤ 12200 := btt0_9; omega)⟩)
              replace hT1 := (hu135 _ (by decide)).trans hT1
              replace hT2 := (hu135 _ (by decide)).trans hT2
              replace hT3 := (hu135 _ (by decide)).trans hT3
              replace hT4 := (hu135 _ (by decide)).trans hT4
              replace hT5 := (hu135 _ (by decide)).trans hT5
              replace hF := q_us hF hu135 (by simp)
              exact q_retv C0 V (⟨hI, hF, 2, t0_1, t0_2, t0_3, t0_4, t0_5, t0_6, t0_7, t0_8, t0_9, 2, t1_0, t2_0, t3_0, t4_0, t5_0, hT0, hT1, hT2, hT3, hT4, hT5, (show 0 ≤ t0_4.toInt from (by have z20 : (2 : Int32).toInt = 2 := rfl; have z30 : (2 : Int32).toInt = 2 := rfl; have t1 : 0 ≤ t0_4.toInt ∧ t0_4.toInt ≤ 1 := btt0_4; omega)), (show 0 ≤ t0_5.toInt from (by have z20 : (2 : Int32).toInt = 2 := rfl; have z30 : (2 : Int32).toInt = 2 := rfl; have t1 : 0 ≤ t0_5.toInt ∧ t0_5.toInt ≤ 1 := btt0_5; omega)), (show t0_5.toInt ≤ 1 from (by have z20 : (2 : Int32).toInt = 2 := rfl; have z30 : (2 : Int32).toInt = 2 := rfl; have t1 : 0 ≤ t0_5.toInt ∧ t0_5.toInt ≤ 1 := btt0_5; omega)), (show t0_1.toInt ≤ t0_1.toInt from (by have z20 : (2 : Int32).toInt = 2 := rfl; have z30 : (2 : Int32).toInt = 2 := rfl; omega)), (show t0_1.toInt ≤ t0_1.toInt from (by have z20 : (2 : Int32).toInt = 2 := rfl; have z30 : (2 : Int32).toInt = 2 := rfl; omega)), (show t0_4.toInt ≤ t0_4.toInt from (by have z20 : (2 : Int32).toInt = 2 := rfl; have z30 : (2 : Int32).toInt = 2 := rfl; omega)), (show t0_6.toInt ≤ t0_6.toInt from (by have z20 : (2 : Int32).toInt = 2 := rfl; have z30 : (2 : Int32).toInt = 2 := rfl; omega)), (show t0_6.toInt ≤ t0_6.toInt from (by have z20 : (2 : Int32).toInt = 2 := rfl; have z30 : (2 : Int32).toInt = 2 := rfl; omega)), (show t0_7.toInt ≤ t0_7.toInt from (by have z20 : (2 : Int32).toInt = 2 := rfl; have z30 : (2 : Int32).toInt = 2 := rfl; omega)), (show t0_7.toInt ≤ t0_7.toInt from (by have z20 : (2 : Int32).toInt = 2 := rfl; have z30 : (2 : Int32).toInt = 2 := rfl; omega)), (show t0_8.toInt ≤ t0_8.toInt from (by have z20 : (2 : Int32).toInt = 2 := rfl; have z30 : (2 : Int32).toInt = 2 := rfl; omega)), (show t0_8.toInt ≤ t0_8.toInt from (by have z20 : (2 : Int32).toInt = 2 := rfl; have z30 : (2 : Int32).toInt = 2 := rfl; omega)), (show t0_9.toInt ≤ t0_9.toInt from (by have z20 : (2 : Int32).toInt = 2 := rfl; have z30 : (2 : Int32).toInt = 2 := rfl; omega)), (show t0_9.toInt ≤ t0_9.toInt from (by have z20 : (2 : Int32).toInt = 2 := rfl; have z30 : (2 : Int32).toInt = 2 := rfl; omega)), (show ((2 : Int32), t0_1, t0_2, t0_3, t0_4, t0_5, t0_6, t0_7, t0_8, t0_9, (2 : Int32), t1_0, t2_0, t3_0, t4_0, t5_0) = (F_DR_add x2 x3 x4 x5 t0_0 t0_1 t0_2 t0_3 t0_4 t0_5 t0_6 t0_7 t0_8 t0_9 t0_10 t1_0 t2_0 t3_0 t4_0 t5_0) from Eq.trans (by have c132x := c132; rw [← e130] at c132x; rw [F_DR_add_J139.eq_1, if_pos c132x]) hR124)⟩) d_15_26_164
            ·
              have b136 : q_F (a129.toInt ≤ 0) := (q_nltI c132)
              refine lv_lload hx hb d_15_26_150 (lv_at hl 0 rfl) ?_
              refine q_ldc2 C0 rfl w_2781 d_15_26_152 ?_
              refine W.lcmp hx hb d_15_26_155 ?_
              obtain ⟨a137, e138⟩ := q_nm (lg_cmp lx114 1001 : Int32)
              refine q_ti (v := a137) e138 ?_
              have b139 : q_F (-1 ≤ a137.toInt ∧ a137.toInt ≤ 1 ∧ ((a137.toInt = -1 ∧ lx114.toInt < 1001) ∨ (a137.toInt = 0 ∧ lx114.toInt = 1001) ∨ (a137.toInt = 1 ∧ 1001 < lx114.toInt))) := (by rw [← e138]; show -1 ≤ (lg_cmp lx114 1001 : Int32).toInt ∧ (lg_cmp lx114 1001 : Int32).toInt ≤ 1 ∧ (((lg_cmp lx114 1001 : Int32).toInt = -1 ∧ lx114.toInt < 1001) ∨ ((lg_cmp lx114 1001 : Int32).toInt = 0 ∧ lx114.toInt = 1001) ∨ ((lg_cmp lx114 1001 : Int32).toInt = 1 ∧ 1001 < lx114.toInt)); exact (by have y1 : (1001 : Int64).toInt = 1001 := rfl; have z := s_lcmp (a := lx114) (b := 1001); omega))
              refine lv_if_le (tgt := 165) hx hb d_15_26_156 (by decide) (fun c140 => ?_) (fun c140 => ?_)
              ·
                have b141 : q_F (a137.toInt ≤ 0) := (q_leI c140)
                refine lv_aload_n hx hb d_15_26_165 rfl (lv_at hl 3 rfl) ?_
                refine lv_iload_n hx hb d_15_26_166 rfl (lv_at hl 5 rfl) ?_
                have ob142 : True ∧ S_DR_isZero x3 lx39 t0_1 t0_2 t0_3 t0_4 t0_5 t0_6 t0_7 t0_8 t0_9 (2 : Int32) t1_0 := (by have h := hS125; rw [S_DR_add_J139.eq_1] at h; have c132x := c132; rw [← e130] at c132x; rw [if_neg c132x] at h; have c140x := c140; rw [← e138] at c140x; rw [if_pos c140x] at h; with_reducible exact h.2.1)
                refine q_goi V (q_runV (As := [.int x3]) (rest := []) (d := 1) (mc := 0) (ms := 0) (ci := 14) C0 V rfl LV_DR_120 (X_DR_isZero l D g q w58  x3 hI lx39 t0_1 t0_2 t0_3 t0_4 t0_5 t0_6 t0_7 t0_8 t0_9 2 hT0 t1_0 hT1 ob142 _) rfl rfl hT0 rfl hl.1 rfl (Nat.le_of_ble_eq_true rfl) ⟨by decide, by decide⟩ ⟨Nat.le_of_ble_eq_true rfl, Nat.le_of_ble_eq_true rfl⟩ d_15_26_167) (fun a145 u143 H locs hp144 V => ?_)
                obtain ⟨rfl, b146, b147, hE148⟩ := hp144
                have e149 : a145 = (F_DR_isZero x3 lx39 t0_1 t0_2 t0_3 t0_4 t0_5 t0_6 t0_7 t0_8 t0_9 (2 : Int32) t1_0) := hE148
                clear b146
                clear b147
                refine q_join (X := Int32) (fun z H locs ls _ => q_F (lx39.toInt ≤ z.toInt) ∧ q_F (z.toInt ≤ lx39.toInt + 1) ∧ q_Wd D g (va_A ws sz) s w58 H locs ∧ lv_has ls 20 [(9, .long lx114), (7, .long lx91), (5, .long lx68), (0, .ref (q 134)), (1, .int x2), (2, .int x3), (3, .int x4)] ∧ F_DR_add_J189 x2 x3 x4 x5 t0_0 t0_1 t0_2 t0_3 t0_4 t0_5 t0_6 t0_7 t0_8 t0_9 t0_10 t1_0 t2_0 t3_0 t4_0 t5_0 lx39 lx68 lx91 lx114 z = (F_DR_add x2 x3 x4 x5 t0_0 t0_1 t0_2 t0_3 t0_4 t0_5 t0_6 t0_7 t0_8 t0_9 t0_10 t1_0 t2_0 t3_0 t4_0 t5_0) ∧ True ∧ S_DR_add_J189 x2 x3 x4 x5 t0_0 t0_1 t0_2 t0_3 t0_4 t0_5 t0_6 t0_7 t0_8 t0_9 t0_10 t1_0 t2_0 t3_0 t4_0 t5_0 lx39 lx68 lx91 lx114 z) (fun z => [.int z]) 189 0 0 ?_ ?_
                ·
                  rintro lx150 H locs ls _ hZ9
                  obtain ⟨i158, hZ9⟩ := hZ9
                  obtain ⟨i159, hZ9⟩ := hZ9
                  obtain ⟨V, hZ9⟩ := hZ9
                  obtain ⟨hl, hZ9⟩ := hZ9
                  obtain ⟨hR160, hS161⟩ := hZ9
                  replace i158 : q_F (lx39.toInt ≤ lx150.toInt) := i158
                  replace i159 : q_F (lx150.toInt ≤ lx39.toInt + 1) := i159
                  replace hl : lv_has ls 20 [(9, .long lx114), (7, .long lx91), (5, .long lx68), (0, .ref (q 134)), (1, .int x2), (2, .int x3), (3, .int x4)] := hl
                  refine lv_istore (lv' := [(11, .int lx150), (9, .long lx114), (7, .long lx91), (5, .long lx68), (0, .ref (q 134)), (1, .int x2), (2, .int x3), (3, .int x4)]) hx hb d_15_26_189 hl (by decide) rfl (fun ls hl => ?_)
                  refine lv_aload_n hx hb d_15_26_191 rfl (lv_at hl 4 rfl) ?_
                  refine lv_iload_n hx hb d_15_26_192 rfl (lv_at hl 5 rfl) ?_
                  have ob165 : True ∧ S_DR_isZero x2 lx39 t0_1 t0_2 t0_3 t0_4 t0_5 t0_6 t0_7 t0_8 t0_9 (2 : Int32) t1_0 := (by have h := hS161; rw [S_DR_add_J189.eq_1] at h; with_reducible exact h.2.1)
                  refine q_goi V (q_runV (As := [.int x2]) (rest := []) (d := 1) (mc := 0) (ms := 0) (ci := 14) C0 V rfl LV_DR_120 (X_DR_isZero l D g q w58  x2 hI lx39 t0_1 t0_2 t0_3 t0_4 t0_5 t0_6 t0_7 t0_8 t0_9 2 hT0 t1_0 hT1 ob165 _) rfl rfl hT0 rfl hl.1 rfl (Nat.le_of_ble_eq_true rfl) ⟨by decide, by decide⟩ ⟨Nat.le_of_ble_eq_true rfl, Nat.le_of_ble_eq_true rfl⟩ d_15_26_193) (fun a168 u166 H locs hp167 V => ?_)
                  obtain ⟨rfl, b169, b170, hE171⟩ := hp167
                  have e172 : a168 = (F_DR_isZero x2 lx39 t0_1 t0_2 t0_3 t0_4 t0_5 t0_6 t0_7 t0_8 t0_9 (2 : Int32) t1_0) := hE171
                  clear b169
                  clear b170
                  refine q_join (X := Int32) (fun z H locs ls _ => q_F (lx39.toInt ≤ z.toInt) ∧ q_F (z.toInt ≤ lx39.toInt + 1) ∧ q_Wd D g (va_A ws sz) s w58 H locs ∧ lv_has ls 20 [(11, .int lx150), (9, .long lx114), (7, .long lx91), (5, .long lx68), (0, .ref (q 134)), (1, .int x2), (2, .int x3), (3, .int x4)] ∧ F_DR_add_J223 x2 x3 x4 x5 t0_0 t0_1 t0_2 t0_3 t0_4 t0_5 t0_6 t0_7 t0_8 t0_9 t0_10 t1_0 t2_0 t3_0 t4_0 t5_0 lx39 lx68 lx91 lx114 lx150 z = (F_DR_add x2 x3 x4 x5 t0_0 t0_1 t0_2 t0_3 t0_4 t0_5 t0_6 t0_7 t0_8 t0_9 t0_10 t1_0 t2_0 t3_0 t4_0 t5_0) ∧ True ∧ S_DR_add_J223 x2 x3 x4 x5 t0_0 t0_1 t0_2 t0_3 t0_4 t0_5 t0_6 t0_7 t0_8 t0_9 t0_10 t1_0 t2_0 t3_0 t4_0 t5_0 lx39 lx68 lx91 lx114 lx150 z) (fun z => [.int z]) 223 0 0 ?_ ?_
                  ·
                    rintro lx173 H locs ls _ hZ9
                    replace hZ9 := hZ9.2.2
                    obtain ⟨V, hZ9⟩ := hZ9
                    obtain ⟨hl, hZ9⟩ := hZ9
                    obtain ⟨hR183, hS184⟩ := hZ9
                    replace hl : lv_has ls 20 [(11, .int lx150), (9, .long lx114), (7, .long lx91), (5, .long lx68), (0, .ref (q 134)), (1, .int x2), (2, .int x3), (3, .int x4)] := hl
                    refine lv_istore (lv' := [(12, .int lx173), (11, .int lx150), (9, .long lx114), (7, .long lx91), (5, .long lx68), (0, .ref (q 134)), (1, .int x2), (2, .int x3), (3, .int x4)]) hx hb d_15_26_223 hl (by decide) rfl (fun ls hl => ?_)
                    refine lv_iload hx hb d_15_26_225 (lv_at hl 0 rfl) ?_
                    refine q_join (X := Int32) (fun z H locs ls _ => q_F (lx39.toInt ≤ z.toInt) ∧ q_F (z.toInt ≤ lx39.toInt + 1) ∧ q_Wd D g (va_A ws sz) s w58 H locs ∧ lv_has ls 20 [(12, .int lx173), (11, .int lx150), (9, .long lx114), (7, .long lx91), (5, .long lx68), (0, .ref (q 134)), (1, .int x2), (2, .int x3), (3, .int x4)] ∧ F_DR_add_J244 x2 x3 x4 x5 t0_0 t0_1 t0_2 t0_3 t0_4 t0_5 t0_6 t0_7 t0_8 t0_9 t0_10 t1_0 t2_0 t3_0 t4_0 t5_0 lx39 lx68 lx91 lx114 lx150 lx173 z = (F_DR_add x2 x3 x4 x5 t0_0 t0_1 t0_2 t0_3 t0_4 t0_5 t0_6 t0_7 t0_8 t0_9 t0_10 t1_0 t2_0 t3_0 t4_0 t5_0) ∧ True ∧ S_DR_add_J244 x2 x3 x4 x5 t0_0 t0_1 t0_2 t0_3 t0_4 t0_5 t0_6 t0_7 t0_8 t0_9 t0_10 t1_0 t2_0 t3_0 t4_0 t5_0 lx39 lx68 lx91 lx114 lx150 lx173 z) (fun z => [.int z]) 244 0 0 ?_ ?_
                    ·
                      rintro lx188 H locs ls _ hZ9
                      replace hZ9 := hZ9.2.2
                      obtain ⟨V, hZ9⟩ := hZ9
                      obtain ⟨hl, hZ9⟩ := hZ9
                      obtain ⟨hR198, hS199⟩ := hZ9
                      replace hl : lv_has ls 20 [(12, .int lx173), (11, .int lx150), (9, .long lx114), (7, .long lx91), (5, .long lx68), (0, .ref (q 134)), (1, .int x2), (2, .int x3), (3, .int x4)] := hl
                      refine lv_istore (lv' := [(13, .int lx188), (12, .int lx173), (11, .int lx150), (9, .long lx114), (7, .long lx91), (5, .long lx68), (0, .ref (q 134)), (1, .int x2), (2, .int x3), (3, .int x4)]) hx hb d_15_26_244 hl (by decide) rfl (fun ls hl => ?_)
                      refine lv_iload hx hb d_15_26_246 (lv_at hl 0 rfl) ?_
                      refine q_join (X := Int32) (fun z H locs ls _ => q_F (lx39.toInt ≤ z.toInt) ∧ q_F (z.toInt ≤ lx39.toInt + 9) ∧ q_Wd D g (va_A ws sz) s w58 H locs ∧ lv_has ls 20 [(13, .int lx188), (12, .int lx173), (11, .int lx150), (9, .long lx114), (7, .long lx91), (5, .long lx68), (0, .ref (q 134)), (1, .int x2), (2, .int x3), (3, .int x4)] ∧ F_DR_add_J256 x2 x3 x4 x5 t0_0 t0_1 t0_2 t0_3 t0_4 t0_5 t0_6 t0_7 t0_8 t0_9 t0_10 t1_0 t2_0 t3_0 t4_0 t5_0 lx39 lx68 lx91 lx114 lx150 lx173 lx188 z = (F_DR_add x2 x3 x4 x5 t0_0 t0_1 t0_2 t0_3 t0_4 t0_5 t0_6 t0_7 t0_8 t0_9 t0_10 t1_0 t2_0 t3_0 t4_0 t5_0) ∧ True ∧ S_DR_add_J256 x2 x3 x4 x5 t0_0 t0_1 t0_2 t0_3 t0_4 t0_5 t0_6 t0_7 t0_8 t0_9 t0_10 t1_0 t2_0 t3_0 t4_0 t5_0 lx39 lx68 lx91 lx114 lx150 lx173 lx188 z) (fun z => [.int z]) 256 0 0 ?_ ?_
                      ·
                        rintro lx203 H locs ls _ hZ9
                        replace hZ9 := hZ9.2.2
                        obtain ⟨V, hZ9⟩ := hZ9
                        obtain ⟨hl, hZ9⟩ := hZ9
                        obtain ⟨hR213, hS214⟩ := hZ9
                        replace hl : lv_has ls 20 [(13, .int lx188), (12, .int lx173), (11, .int lx150), (9, .long lx114), (7, .long lx91), (5, .long lx68), (0, .ref (q 134)), (1, .int x2), (2, .int x3), (3, .int x4)] := hl
                        refine lv_istore (lv' := [(14, .int lx203), (13, .int lx188), (12, .int lx173), (11, .int lx150), (9, .long lx114), (7, .long lx91), (5, .long lx68), (0, .ref (q 134)), (1, .int x2), (2, .int x3), (3, .int x4)]) hx hb d_15_26_256 hl (by decide) rfl (fun ls hl => ?_)
                        refine lv_iload hx hb d_15_26_258 (lv_at hl 1 rfl) ?_
                        refine q_join (X := Int32) (fun z H locs ls _ => q_F (lx39.toInt ≤ z.toInt) ∧ q_F (z.toInt ≤ lx39.toInt + 9) ∧ q_Wd D g (va_A ws sz) s w58 H locs ∧ lv_has ls 20 [(14, .int lx203), (13, .int lx188), (12, .int lx173), (11, .int lx150), (9, .long lx114), (7, .long lx91), (5, .long lx68), (0, .ref (q 134)), (1, .int x2), (2, .int x3), (3, .int x4)] ∧ F_DR_add_J268 x2 x3 x4 x5 t0_0 t0_1 t0_2 t0_3 t0_4 t0_5 t0_6 t0_7 t0_8 t0_9 t0_10 t1_0 t2_0 t3_0 t4_0 t5_0 lx39 lx68 lx91 lx114 lx150 lx173 lx188 lx203 z = (F_DR_add x2 x3 x4 x5 t0_0 t0_1 t0_2 t0_3 t0_4 t0_5 t0_6 t0_7 t0_8 t0_9 t0_10 t1_0 t2_0 t3_0 t4_0 t5_0) ∧ True ∧ S_DR_add_J268 x2 x3 x4 x5 t0_0 t0_1 t0_2 t0_3 t0_4 t0_5 t0_6 t0_7 t0_8 t0_9 t0_10 t1_0 t2_0 t3_0 t4_0 t5_0 lx39 lx68 lx91 lx114 lx150 lx173 lx188 lx203 z) (fun z => [.int z]) 268 0 0 ?_ ?_
                        ·
                          rintro lx218 H locs ls _ hZ9
                          replace hZ9 := hZ9.2.2
                          obtain ⟨V, hZ9⟩ := hZ9
                          obtain ⟨hl, hZ9⟩ := hZ9
                          obtain ⟨hR228, hS229⟩ := hZ9
                          replace hl : lv_has ls 20 [(14, .int lx203), (13, .int lx188), (12, .int lx173), (11, .int lx150), (9, .long lx114), (7, .long lx91), (5, .long lx68), (0, .ref (q 134)), (1, .int x2), (2, .int x3), (3, .int x4)] := hl
                          refine lv_istore (lv' := [(15, .int lx218), (14, .int lx203), (13, .int lx188), (12, .int lx173), (11, .int lx150), (9, .long lx114), (7, .long lx91), (5, .long lx68), (0, .ref (q 134)), (1, .int x2), (2, .int x3), (3, .int x4)]) hx hb d_15_26_268 hl (by decide) rfl (fun ls hl => ?_)
                          refine lv_lload hx hb d_15_26_270 (lv_at hl 6 rfl) ?_
                          refine lv_lload hx hb d_15_26_272 (lv_at hl 5 rfl) ?_
                          refine W.lcmp hx hb d_15_26_274 ?_
                          obtain ⟨a233, e234⟩ := q_nm (lg_cmp lx91 lx114 : Int32)
                          refine q_ti (v := a233) e234 ?_
                          have b235 : q_F (-1 ≤ a233.toInt ∧ a233.toInt ≤ 1 ∧ ((a233.toInt = -1 ∧ lx91.toInt < lx114.toInt) ∨ (a233.toInt = 0 ∧ lx91.toInt = lx114.toInt) ∨ (a233.toInt = 1 ∧ lx114.toInt < lx91.toInt))) := (by rw [← e234]; show -1 ≤ (lg_cmp lx91 lx114 : Int32).toInt ∧ (lg_cmp lx91 lx114 : Int32).toInt ≤ 1 ∧ (((lg_cmp lx91 lx114 : Int32).toInt = -1 ∧ lx91.toInt < lx114.toInt) ∨ ((lg_cmp lx91 lx114 : Int32).toInt = 0 ∧ lx91.toInt = lx114.toInt) ∨ ((lg_cmp lx91 lx114 : Int32).toInt = 1 ∧ lx114.toInt < lx91.toInt)); exact s_lcmp)
                          refine q_join (X := Int64) (fun z H locs ls _ => q_F (lx114.toInt ≤ z.toInt) ∧ q_F (lx91.toInt ≤ z.toInt) ∧ q_F (z.toInt ≤ lx39.toInt + 1001) ∧ q_Wd D g (va_A ws sz) s w58 H locs ∧ lv_has ls 20 [(15, .int lx218), (14, .int lx203), (13, .int lx188), (12, .int lx173), (11, .int lx150), (5, .long lx68), (0, .ref (q 134)), (1, .int x2), (2, .int x3), (3, .int x4)] ∧ F_DR_add_J285 x2 x3 x4 x5 t0_0 t0_1 t0_2 t0_3 t0_4 t0_5 t0_6 t0_7 t0_8 t0_9 t0_10 t1_0 t2_0 t3_0 t4_0 t5_0 lx39 lx68 lx91 lx114 lx150 lx173 lx188 lx203 lx218 z = (F_DR_add x2 x3 x4 x5 t0_0 t0_1 t0_2 t0_3 t0_4 t0_5 t0_6 t0_7 t0_8 t0_9 t0_10 t1_0 t2_0 t3_0 t4_0 t5_0) ∧ True ∧ S_DR_add_J285 x2 x3 x4 x5 t0_0 t0_1 t0_2 t0_3 t0_4 t0_5 t0_6 t0_7 t0_8 t0_9 t0_10 t1_0 t2_0 t3_0 t4_0 t5_0 lx39 lx68 lx91 lx114 lx150 lx173 lx188 lx203 lx218 z) (fun z => [.long z]) 285 0 0 ?_ ?_
                          ·
                            rintro lx236 H locs ls _ hZ9
                            replace hZ9 := hZ9.2.2.2
                            obtain ⟨V, hZ9⟩ := hZ9
                            obtain ⟨hl, hZ9⟩ := hZ9
                            obtain ⟨hR247, hS248⟩ := hZ9
                            replace hl : lv_has ls 20 [(15, .int lx218), (14, .int lx203), (13, .int lx188), (12, .int lx173), (11, .int lx150), (5, .long lx68), (0, .ref (q 134)), (1, .int x2), (2, .int x3), (3, .int x4)] := hl
                            refine lv_l2i hx hb d_15_26_285 rfl ?_
                            obtain ⟨a252, e253⟩ := q_nm (lx236.toInt32 : Int32)
                            refine q_ti (v := a252) e253 ?_
                            refine lv_iconst (v := 1) hx hb d_15_26_286 (by decide) ?_
                            refine lv_iadd hx hb d_15_26_287 ?_
                            obtain ⟨a254, e255⟩ := q_nm (a252 + 1 : Int32)
                            refine q_ti (v := a254) e255 ?_
                            refine lv_istore (lv' := [(16, .int a254), (15, .int lx218), (14, .int lx203), (13, .int lx188), (12, .int lx173), (11, .int lx150), (5, .long lx68), (0, .ref (q 134)), (1, .int x2), (2, .int x3), (3, .int x4)]) hx hb d_15_26_288 hl (by decide) rfl (fun ls hl => ?_)
                            refine lv_iconst (v := 0) hx hb d_15_26_290 (by decide) ?_
                            refine lv_istore (lv' := [(17, .int 0), (16, .int a254), (15, .int lx218), (14, .int lx203), (13, .int lx188), (12, .int lx173), (11, .int lx150), (5, .long lx68), (0, .ref (q 134)), (1, .int x2), (2, .int x3), (3, .int x4)]) hx hb d_15_26_291 hl (by decide) rfl (fun ls hl => ?_)
                            refine lv_iconst (v := 0) hx hb d_15_26_293 (by decide) ?_
                            refine lv_istore (lv' := [(18, .int 0), (17, .int 0), (16, .int a254), (15, .int lx218), (14, .int lx203), (13, .int lx188), (12, .int lx173), (11, .int lx150), (5, .long lx68), (0, .ref (q 134)), (1, .int x2), (2, .int x3), (3, .int x4)]) hx hb d_15_26_294 hl (by decide) rfl (fun ls hl => ?_)
                            refine q_loop (X := Int32 × Int32 × (Nat → Int32)) (fun z H locs ls w265 => q_F (0 ≤ z.2.1.toInt + 1) ∧ q_F (lx39.toInt ≤ z.1.toInt) ∧ q_F (0 ≤ z.1.toInt + z.2.1.toInt) ∧ q_Wd D g (va_A ws sz) s w265 H locs ∧ lv_has ls 20 [(18, .int z.1), (17, .int z.2.1), (16, .int a254), (15, .int lx218), (14, .int lx203), (13, .int lx188), (12, .int lx173), (11, .int lx150), (5, .long lx68), (0, .ref (q 134)), (1, .int x2), (2, .int x3), (3, .int x4)] ∧ q_I (msh g q) q w265 ∧ q_un ws w265 [134, 136, 137, 138, 139, 140] ∧ w265[134]? = (some (q 134, .inr (14, [.int lx39, .ref (q 135), .int t0_1, .ref (q 136), .ref (q 137), .ref (q 138), .ref (q 139), .ref (q 140), .int t0_2, .long t0_3, .int t0_4, .int t0_5, .ref (q 141), .int t0_6, .ref (q 142), .int t0_7, .ref (q 143), .int t0_8, .ref (q 144), .int t0_9, .int 2])) : Option (Nat × va_E)) ∧ w265[136]? = (some (q 136, .inl (g 0, (10000 : Int32).toNatClampNeg, .inl t1_0)) : Option (Nat × va_E)) ∧ w265[137]? = (some (q 137, .inl (g 0, (10 : Int32).toNatClampNeg, .inl t2_0)) : Option (Nat × va_E)) ∧ w265[138]? = (some (q 138, .inl (g 3, 10, .inl t3_0)) : Option (Nat × va_E)) ∧ w265[139]? = (some (q 139, .inl (g 0, (10 : Int32).toNatClampNeg, .inl t4_0)) : Option (Nat × va_E)) ∧ w265[140]? = (some (q 140, .inl (g 0, (4400 : Int32).toNatClampNeg, .inl z.2.2)) : Option (Nat × va_E)) ∧ (∃ n, (a254.toInt - z.1.toInt).toNat < n ∧ F_DR_add_L296 x2 x3 x4 x5 t0_0 t0_1 t0_2 t0_3 t0_4 t0_5 t0_6 t0_7 t0_8 t0_9 t0_10 t1_0 t2_0 t3_0 t4_0 t5_0 lx39 lx68 lx91 lx114 lx150 lx173 lx188 lx203 lx218 lx236 a254 n z.1 z.2.1 z.2.2 = (F_DR_add x2 x3 x4 x5 t0_0 t0_1 t0_2 t0_3 t0_4 t0_5 t0_6 t0_7 t0_8 t0_9 t0_10 t1_0 t2_0 t3_0 t4_0 t5_0) ∧ True ∧ S_DR_add_L296 x2 x3 x4 x5 t0_0 t0_1 t0_2 t0_3 t0_4 t0_5 t0_6 t0_7 t0_8 t0_9 t0_10 t1_0 t2_0 t3_0 t4_0 t5_0 lx39 lx68 lx91 lx114 lx150 lx173 lx188 lx203 lx218 lx236 a254 n z.1 z.2.1 z.2.2)) (fun z => (a254.toInt - z.1.toInt).toNat) ?_ ((0 : Int32), (0 : Int32), (t5_0 : (Nat → Int32))) _ _ _ w58 ⟨(show q_F (0 ≤ 0 + 1) from (show 0 ≤ 0 + 1 from by omega)), (show q_F (lx39.toInt ≤ 0) from (show lx39.toInt ≤ 0 from by have t1 : lx39.toInt ≤ 0 := b57; omega)), (show q_F (0 ≤ 0 + 0) from (show 0 ≤ 0 + 0 from by omega)), V, q_lw hl (q_lw1 0 rfl (q_lw1 1 rfl (q_lw1 2 rfl (q_lw1 3 rfl (q_lw1 4 rfl (q_lw1 5 rfl (q_lw1 6 rfl (q_lw1 7 rfl (q_lw1 8 rfl (q_lw1 9 rfl (q_lw1 10 rfl (q_lw1 11 rfl (q_lw1 12 rfl q_lw0))))))))))))), hI, hF, hT0, hT1, hT2, hT3, hT4, hT5, ⟨((a254.toInt - (0 : Int32).toInt).toNat + 1), Nat.lt_succ_self _, (show F_DR_add_L296 x2 x3 x4 x5 t0_0 t0_1 t0_2 t0_3 t0_4 t0_5 t0_6 t0_7 t0_8 t0_9 t0_10 t1_0 t2_0 t3_0 t4_0 t5_0 lx39 lx68 lx91 lx114 lx150 lx173 lx188 lx203 lx218 lx236 a254 ((a254.toInt - (0 : Int32).toInt).toNat + 1) 0 0 t5_0 = (F_DR_add x2 x3 x4 x5 t0_0 t0_1 t0_2 t0_3 t0_4 t0_5 t0_6 t0_7 t0_8 t0_9 t0_10 t1_0 t2_0 t3_0 t4_0 t5_0) from Eq.trans (by rw [← e255, ← e253, F_DR_add_J285.eq_1]) hR247), (show True ∧ S_DR_add_L296 x2 x3 x4 x5 t0_0 t0_1 t0_2 t0_3 t0_4 t0_5 t0_6 t0_7 t0_8 t0_9 t0_10 t1_0 t2_0 t3_0 t4_0 t5_0 lx39 lx68 lx91 lx114 lx150 lx173 lx188 lx203 lx218 lx236 a254 ((a254.toInt - (0 : Int32).toInt).toNat + 1) 0 0 t5_0 from (by rw [← e255, ← e253]; have h := hS248; rw [S_DR_add_J285.eq_1] at h; with_reducible exact h))⟩⟩
                            rintro ⟨lx258, lx259, lx260⟩ H locs ls w265 ⟨i261, i262, i263, V, hl, hI, hF, hO266, hO267, hO268, hO269, hO270, hO271, ⟨fu274, hf275, hR272, hS273⟩⟩ ih264
                            obtain ⟨fm276, rfl⟩ : ∃ m, fu274 = m + 1 := ⟨fu274 - 1, by omega⟩
                            clear i261
                            replace i262 : q_F (lx39.toInt ≤ lx258.toInt) := i262
                            clear i263
                            replace hl : lv_has ls 20 [(18, .int lx258), (17, .int lx259), (16, .int a254), (15, .int lx218), (14, .int lx203), (13, .int lx188), (12, .int lx173), (11, .int lx150), (5, .long lx68), (0, .ref (q 134)), (1, .int x2), (2, .int x3), (3, .int x4)] := hl
                            replace hO266 : w265[134]? = (some (q 134, .inr (14, [.int lx39, .ref (q 135), .int t0_1, .ref (q 136), .ref (q 137), .ref (q 138), .ref (q 139), .ref (q 140), .int t0_2, .long t0_3, .int t0_4, .int t0_5, .ref (q 141), .int t0_6, .ref (q 142), .int t0_7, .ref (q 143), .int t0_8, .ref (q 144), .int t0_9, .int 2])) : Option (Nat × va_E)) := hO266
                            replace hO267 : w265[136]? = (some (q 136, .inl (g 0, (10000 : Int32).toNatClampNeg, .inl t1_0)) : Option (Nat × va_E)) := hO267
                            replace hO268 : w265[137]? = (some (q 137, .inl (g 0, (10 : Int32).toNatClampNeg, .inl t2_0)) : Option (Nat × va_E)) := hO268
                            replace hO269 : w265[138]? = (some (q 138, .inl (g 3, 10, .inl t3_0)) : Option (Nat × va_E)) := hO269
                            replace hO270 : w265[139]? = (some (q 139, .inl (g 0, (10 : Int32).toNatClampNeg, .inl t4_0)) : Option (Nat × va_E)) := hO270
                            replace hO271 : w265[140]? = (some (q 140, .inl (g 0, (4400 : Int32).toNatClampNeg, .inl lx260)) : Option (Nat × va_E)) := hO271
                            refine lv_iload hx hb d_15_26_296 (lv_at hl 0 rfl) ?_
                            refine lv_iload hx hb d_15_26_298 (lv_at hl 2 rfl) ?_
                            refine lv_icmp_ge (tgt := 390) hx hb d_15_26_300 (by decide) (fun c277 => ?_) (fun c277 => ?_)
                            ·
                              refine lv_aload_n hx hb d_15_26_390 rfl (lv_at hl 9 rfl) ?_
                              refine lv_iload hx hb d_15_26_391 (lv_at hl 2 rfl) ?_
                              refine q_put (ci := 14) (j := 8) (v := .int a254) (ty := .int) C0 V i_DR o_DR n_DR rfl rfl hO266 (by decide) w_2011 rfl rfl rfl rfl (Nat.le_of_ble_eq_true rfl) d_15_26_393 (fun H locs w279 hu280 hO266 V => ?_)
                              replace hO266 : w279[134]? = (some (q 134, .inr (14, [.int lx39, .ref (q 135), .int t0_1, .ref (q 136), .ref (q 137), .ref (q 138), .ref (q 139), .ref (q 140), .int a254, .long t0_3, .int t0_4, .int t0_5, .ref (q 141), .int t0_6, .ref (q 142), .int t0_7, .ref (q 143), .int t0_8, .ref (q 144), .int t0_9, .int 2])) : Option (Nat × va_E)) := hO266
                              replace hI := n_p134 hI hu280 hO266 (by first | with_reducible exact q_fe btt0_1 | exact ⟨(by have t1 : 0 ≤ t0_1.toInt ∧ t0_1.toInt ≤ 4100 := btt0_1; omega), (by have t1 : 0 ≤ t0_1.toInt ∧ t0_1.toInt ≤ 4100 := btt0_1; omega)⟩) (by first | with_reducible exact q_fe btt0_4 | exact ⟨(by have t1 : 0 ≤ t0_4.toInt ∧ t0_4.toInt ≤ 1 := btt0_4; omega), (by have t1 : 0 ≤ t0_4.toInt ∧ t0_4.toInt ≤ 1 := btt0_4; omega)⟩) (by first | with_reducible exact q_fe btt0_5 | exact ⟨(by have t1 : 0 ≤ t0_5.toInt ∧ t0_5.toInt ≤ 1 := btt0_5; omega), (by have t1 : 0 ≤ t0_5.toInt ∧ t0_5.toInt ≤ 1 := btt0_5; omega)⟩) (by first | with_reducible exact q_fe btt0_9 | exact ⟨(by have t1 : 0 ≤ t0_9.toInt ∧ t0_9.toInt ≤ 12200 := btt0_9; omega), (by have t1 : 0 ≤ t0_9.toInt ∧ t0_9.toInt ≤ 12200 := btt0_9; omega)⟩)
                              replace hO267 := (hu280 _ (by decide)).trans hO267
                              replace hO268 := (hu280 _ (by decide)).trans hO268
                              replace hO269 := (hu280 _ (by decide)).trans hO269
                              replace hO270 := (hu280 _ (by decide)).trans hO270
                              replace hO271 := (hu280 _ (by decide)).trans hO271
                              replace hF := q_us hF hu280 (by simp)
                              refine lv_aload_n hx hb d_15_26_396 rfl (lv_at hl 9 rfl) ?_
                              refine lv_lload hx hb d_15_26_397 (lv_at hl 8 rfl) ?_
                              refine q_put (ci := 14) (j := 9) (v := .long lx68) (ty := .long) C0 V i_DR o_DR n_DR rfl rfl hO266 (by decide) w_2012 rfl rfl rfl rfl (Nat.le_of_ble_eq_true rfl) d_15_26_399 (fun H locs w281 hu282 hO266 V => ?_)
                              replace hO266 : w281[134]? = (some (q 134, .inr (14, [.int lx39, .ref (q 135), .int t0_1, .ref (q 136), .ref (q 137), .ref (q 138), .ref (q 139), .ref (q 140), .int a254, .long lx68, .int t0_4, .int t0_5, .ref (q 141), .int t0_6, .ref (q 142), .int t0_7, .ref (q 143), .int t0_8, .ref (q 144), .int t0_9, .int 2])) : Option (Nat × va_E)) := hO266
                              replace hI := n_p134 hI hu282 hO266 (by first | with_reducible exact q_fe btt0_1 | exact ⟨(by have t1 : 0 ≤ t0_1.toInt ∧ t0_1.toInt ≤ 4100 := btt0_1; omega), (by have t1 : 0 ≤ t0_1.toInt ∧ t0_1.toInt ≤ 4100 := btt0_1; omega)⟩) (by first | with_reducible exact q_fe btt0_4 | exact ⟨(by have t1 : 0 ≤ t0_4.toInt ∧ t0_4.toInt ≤ 1 := btt0_4; omega), (by have t1 : 0 ≤ t0_4.toInt ∧ t0_4.toInt ≤ 1 := btt0_4; omega)⟩) (by first | with_reducible exact q_fe btt0_5 | exact ⟨(by have t1 : 0 ≤ t0_5.toInt ∧ t0_5.toInt ≤ 1 := btt0_5; omega), (by have t1 : 0 ≤ t0_5.toInt ∧ t0_5.toInt ≤ 1 := btt0_5; omega)⟩) (by first | with_reducible exact q_fe btt0_9 | exact ⟨(by have t1 : 0 ≤ t0_9.toInt ∧ t0_9.toInt ≤ 12200 := btt0_9; omega), (by have t1 : 0 ≤ t0_9.toInt ∧ t0_9.toInt ≤ 12200 := btt0_9; omega)⟩)
                              replace hO267 := (hu282 _ (by decide)).trans hO267
                              replace hO268 := (hu282 _ (by decide)).trans hO268
                              replace hO269 := (hu282 _ (by decide)).trans hO269
                              replace hO270 := (hu282 _ (by decide)).trans hO270
                              replace hO271 := (hu282 _ (by decide)).trans hO271
                              replace hF := q_us hF hu282 (by simp)
                              refine lv_aload_n hx hb d_15_26_402 rfl (lv_at hl 9 rfl) ?_
                              refine lv_iconst (v := 0) hx hb d_15_26_403 (by decide) ?_
                              refine q_put (ci := 14) (j := 10) (v := .int 0) (ty := .boolean) C0 V i_DR o_DR n_DR rfl rfl hO266 (by decide) w_2013 rfl rfl rfl rfl (Nat.le_of_ble_eq_true rfl) d_15_26_404 (fun H locs w283 hu284 hO266 V => ?_)
                              replace hO266 : w283[134]? = (some (q 134, .inr (14, [.int lx39, .ref (q 135), .int t0_1, .ref (q 136), .ref (q 137), .ref (q 138), .ref (q 139), .ref (q 140), .int a254, .long lx68, .int 0, .int t0_5, .ref (q 141), .int t0_6, .ref (q 142), .int t0_7, .ref (q 143), .int t0_8, .ref (q 144), .int t0_9, .int 2])) : Option (Nat × va_E)) := hO266
                              replace hI := n_p134 hI hu284 hO266 (by first | with_reducible exact q_fe btt0_1 | exact ⟨(by have t1 : 0 ≤ t0_1.toInt ∧ t0_1.toInt ≤ 4100 := btt0_1; omega), (by have t1 : 0 ≤ t0_1.toInt ∧ t0_1.toInt ≤ 4100 := btt0_1; omega)⟩) ⟨(by have z9 : (0 : Int32).toInt = 0 := rfl; omega), (by have z9 : (0 : Int32).toInt = 0 := rfl; omega)⟩ (by first | with_reducible exact q_fe btt0_5 | exact ⟨(by have t1 : 0 ≤ t0_5.toInt ∧ t0_5.toInt ≤ 1 := btt0_5; omega), (by have t1 : 0 ≤ t0_5.toInt ∧ t0_5.toInt ≤ 1 := btt0_5; omega)⟩) (by first | with_reducible exact q_fe btt0_9 | exact ⟨(by have t1 : 0 ≤ t0_9.toInt ∧ t0_9.toInt ≤ 12200 := btt0_9; omega), (by have t1 : 0 ≤ t0_9.toInt ∧ t0_9.toInt ≤ 12200 := btt0_9; omega)⟩)
                              replace hO267 := (hu284 _ (by decide)).trans hO267
                              replace hO268 := (hu284 _ (by decide)).trans hO268
                              replace hO269 := (hu284 _ (by decide)).trans hO269
                              replace hO270 := (hu284 _ (by decide)).trans hO270
                              replace hO271 := (hu284 _ (by decide)).trans hO271
                              replace hF := q_us hF hu284 (by simp)
                              refine lv_aload_n hx hb d_15_26_407 rfl (lv_at hl 9 rfl) ?_
                              refine lv_aload_n hx hb d_15_26_408 rfl (lv_at hl 9 rfl) ?_
                              refine lv_iload_n hx hb d_15_26_409 rfl (lv_at hl 10 rfl) ?_
                              have ob285 : True ∧ S_DR_isZero x2 lx39 t0_1 a254 lx68 (0 : Int32) t0_5 t0_6 t0_7 t0_8 t0_9 (2 : Int32) t1_0 := (by have h := hS273; rw [S_DR_add_L296.eq_2] at h; rw [if_pos c277] at h; with_reducible exact h.2.1)
                              refine q_goi V (q_runV (As := [.int x2]) (rest := [.ref (q 134)]) (d := 1) (mc := 0) (ms := 0) (ci := 14) C0 V rfl LV_DR_120 (X_DR_isZero l D g q w283  x2 hI lx39 t0_1 a254 lx68 0 t0_5 t0_6 t0_7 t0_8 t0_9 2 hO266 t1_0 hO267 ob285 _) rfl rfl hO266 rfl hl.1 rfl (Nat.le_of_ble_eq_true rfl) ⟨by decide, by decide⟩ ⟨Nat.le_of_ble_eq_true rfl, Nat.le_of_ble_eq_true rfl⟩ d_15_26_410) (fun a288 u286 H locs hp287 V => ?_)
                              obtain ⟨rfl, b289, b290, hE291⟩ := hp287
                              have e292 : a288 = (F_DR_isZero x2 lx39 t0_1 a254 lx68 (0 : Int32) t0_5 t0_6 t0_7 t0_8 t0_9 (2 : Int32) t1_0) := hE291
                              clear b289
                              clear b290
                              refine lv_if_eq (tgt := 421) hx hb d_15_26_413 (by decide) (fun c293 => ?_) (fun c293 => ?_)
                              ·
                                refine lv_aload_n hx hb d_15_26_421 rfl (lv_at hl 9 rfl) ?_
                                refine lv_iload_n hx hb d_15_26_422 rfl (lv_at hl 11 rfl) ?_
                                have ob295 : True ∧ S_DR_isZero x3 lx39 t0_1 a254 lx68 (0 : Int32) t0_5 t0_6 t0_7 t0_8 t0_9 (2 : Int32) t1_0 := (by have h := hS273; rw [S_DR_add_L296.eq_2] at h; rw [if_pos c277] at h; replace h := q_s2 h; have c293x := c293; rw [e292] at c293x; rw [if_pos c293x] at h; with_reducible exact h.2.1)
                                refine q_goi V (q_runV (As := [.int x3]) (rest := [.ref (q 134)]) (d := 1) (mc := 0) (ms := 0) (ci := 14) C0 V rfl LV_DR_120 (X_DR_isZero l D g q w283  x3 hI lx39 t0_1 a254 lx68 0 t0_5 t0_6 t0_7 t0_8 t0_9 2 hO266 t1_0 hO267 ob295 _) rfl rfl hO266 rfl hl.1 rfl (Nat.le_of_ble_eq_true rfl) ⟨by decide, by decide⟩ ⟨Nat.le_of_ble_eq_true rfl, Nat.le_of_ble_eq_true rfl⟩ d_15_26_423) (fun a298 u296 H locs hp297 V => ?_)
                                obtain ⟨rfl, b299, b300, hE301⟩ := hp297
                                have e302 : a298 = (F_DR_isZero x3 lx39 t0_1 a254 lx68 (0 : Int32) t0_5 t0_6 t0_7 t0_8 t0_9 (2 : Int32) t1_0) := hE301
                                clear b299
                                clear b300
                                refine lv_if_eq (tgt := 438) hx hb d_15_26_426 (by decide) (fun c303 => ?_) (fun c303 => ?_)
                                ·
                                  refine lv_iload hx hb d_15_26_438 (lv_at hl 5 rfl) ?_
                                  refine lv_if_eq (tgt := 448) hx hb d_15_26_440 (by decide) (fun c305 => ?_) (fun c305 => ?_)
                                  ·
                                    refine lv_aload_n hx hb d_15_26_448 rfl (lv_at hl 9 rfl) ?_
                                    refine q_get (ci := 14) (j := 5) (v := .ref (q 138)) C0 V i_DR rfl rfl hO266 (by decide) w_2006 rfl d_15_26_449 ?_
                                    refine lv_iload_n hx hb d_15_26_452 rfl (lv_at hl 10 rfl) ?_
                                    refine q_zald C0 V hO269 (q_ix (x := x2.toInt) rfl (by first | with_reducible exact q_fe ob60 | (have t1 : 0 ≤ x2.toInt := ob60; omega)) (by have t1 : 0 ≤ x2.toInt := ob60; have t2 : x2.toInt ≤ 9 := ob61; omega)) d_15_26_453 ?_
                                    obtain ⟨a307, e308⟩ := q_nm (t3_0 x2.toNatClampNeg : Int32)
                                    refine q_ti (v := a307) e308 ?_
                                    have ob311 : q_F (0 ≤ a307.toInt) := (by rw [← e308]; have h := hS273; rw [S_DR_add_L296.eq_2] at h; rw [if_pos c277] at h; replace h := q_s2 h; have c293x := c293; rw [e292] at c293x; rw [if_pos c293x] at h; replace h := q_s2 h; have c303x := c303; rw [e302] at c303x; rw [if_pos c303x] at h; rw [if_pos c305] at h; exact h.2.1)
                                    have ob312 : q_F (a307.toInt ≤ 1) := (by rw [← e308]; have h := hS273; rw [S_DR_add_L296.eq_2] at h; rw [if_pos c277] at h; replace h := q_s2 h; have c293x := c293; rw [e292] at c293x; rw [if_pos c293x] at h; replace h := q_s2 h; have c303x := c303; rw [e302] at c303x; rw [if_pos c303x] at h; rw [if_pos c305] at h; replace h := q_s2 h; exact h.2.1)
                                    refine q_put (ci := 14) (j := 11) (v := .int a307) (ty := .boolean) C0 V i_DR o_DR n_DR rfl rfl hO266 (by decide) w_2014 rfl rfl (q_nz01 (q_Ile (x := 0) (y := a307.toInt) (by decide) rfl (by first | with_reducible exact q_fe ob311 | (have t1 : 0 ≤ a307.toInt := ob311; omega))) (q_Ile (x := a307.toInt) (y := 1) rfl (by decide) (by first | with_reducible exact q_fe ob312 | (have t1 : a307.toInt ≤ 1 := ob312; omega)))) (q_fz01 (q_Ile (x := 0) (y := a307.toInt) (by decide) rfl (by first | with_reducible exact q_fe ob311 | (have t1 : 0 ≤ a307.toInt := ob311; omega))) (q_Ile (x := a307.toInt) (y := 1) rfl (by decide) (by first | with_reducible exact q_fe ob312 | (have t1 : a307.toInt ≤ 1 := ob312; omega)))) (Nat.le_of_ble_eq_true rfl) d_15_26_454 (fun H locs w309 hu310 hO266 V => ?_)
                                    replace hO266 : w309[134]? = (some (q 134, .inr (14, [.int lx39, .ref (q 135), .int t0_1, .ref (q 136), .ref (q 137), .ref (q 138), .ref (q 139), .ref (q 140), .int a254, .long lx68, .int 0, .int a307, .ref (q 141), .int t0_6, .ref (q 142), .int t0_7, .ref (q 143), .int t0_8, .ref (q 144), .int t0_9, .int 2])) : Option (Nat × va_E)) := hO266
                                    replace hI := n_p134 hI hu310 hO266 (by first | with_reducible exact q_fe btt0_1 | exact ⟨(by have t1 : 0 ≤ t0_1.toInt ∧ t0_1.toInt ≤ 4100 := btt0_1; omega), (by have t1 : 0 ≤ t0_1.toInt ∧ t0_1.toInt ≤ 4100 := btt0_1; omega)⟩) ⟨(by have z9 : (0 : Int32).toInt = 0 := rfl; omega), (by have z9 : (0 : Int32).toInt = 0 := rfl; omega)⟩ ⟨(by first | with_reducible exact q_fe ob311 | (have t1 : 0 ≤ a307.toInt := ob311; omega)), (by first | with_reducible exact q_fe ob312 | (have t1 : a307.toInt ≤ 1 := ob312; omega))⟩ (by first | with_reducible exact q_fe btt0_9 | exact ⟨(by have t1 : 0 ≤ t0_9.toInt ∧ t0_9.toInt ≤ 12200 := btt0_9; omega), (by have t1 : 0 ≤ t0_9.toInt ∧ t0_9.toInt ≤ 12200 := btt0_9; omega)⟩)
                                    replace hO267 := (hu310 _ (by decide)).trans hO267
                                    replace hO268 := (hu310 _ (by decide)).trans hO268
                                    replace hO269 := (hu310 _ (by decide)).trans hO269
                                    replace hO270 := (hu310 _ (by decide)).trans hO270
                                    replace hO271 := (hu310 _ (by decide)).trans hO271
                                    replace hF := q_us hF hu310 (by simp)
                                    refine lv_aload_n hx hb d_15_26_457 rfl (lv_at hl 9 rfl) ?_
                                    refine lv_iload_n hx hb d_15_26_458 rfl (lv_at hl 12 rfl) ?_
                                    have ob313 : True ∧ S_DR_store x4 lx39 t0_1 a254 lx68 (0 : Int32) a307 t0_6 t0_7 t0_8 t0_9 (2 : Int32) t1_0 t2_0 t3_0 t4_0 lx260 := (by rw [← e308]; have h := hS273; rw [S_DR_add_L296.eq_2] at h; rw [if_pos c277] at h; replace h := q_s2 h; have c293x := c293; rw [e292] at c293x; rw [if_pos c293x] at h; replace h := q_s2 h; have c303x := c303; rw [e302] at c303x; rw [if_pos c303x] at h; rw [if_pos c305] at h; replace h := q_s2 h; replace h := q_s2 h; with_reducible exact h.2.1)
                                    refine q_gov V (q_runV (As := [.int x4]) (rest := []) (d := 2) (mc := 0) (ms := 0) (ci := 14) C0 V rfl LV_DR_89 (X_DR_store l D g q w309  x4 hI lx39 t0_1 a254 lx68 0 a307 t0_6 t0_7 t0_8 t0_9 2 hO266 t1_0 hO267 t2_0 hO268 t3_0 hO269 t4_0 hO270 lx260 hO271 ob313 _) rfl rfl hO266 rfl hl.1 rfl (Nat.le_of_ble_eq_true rfl) ⟨by decide, by decide⟩ ⟨Nat.le_of_ble_eq_true rfl, Nat.le_of_ble_eq_true rfl⟩ d_15_26_459) (fun u314 H locs hp315 V => ?_)
                                    obtain ⟨hI, hZ9⟩ := hp315
                                    obtain ⟨hu361, hZ9⟩ := hZ9
                                    obtain ⟨y317, hZ9⟩ := hZ9
                                    obtain ⟨y318, hZ9⟩ := hZ9
                                    obtain ⟨y319, hZ9⟩ := hZ9
                                    obtain ⟨y320, hZ9⟩ := hZ9
                                    obtain ⟨y321, hZ9⟩ := hZ9
                                    obtain ⟨y322, hZ9⟩ := hZ9
                                    obtain ⟨y323, hZ9⟩ := hZ9
                                    obtain ⟨y324, hZ9⟩ := hZ9
                                    obtain ⟨y325, hZ9⟩ := hZ9
                                    obtain ⟨y326, hZ9⟩ := hZ9
                                    obtain ⟨y327, hZ9⟩ := hZ9
                                    obtain ⟨f328, hZ9⟩ := hZ9
                                    obtain ⟨f330, hZ9⟩ := hZ9
                                    obtain ⟨f332, hZ9⟩ := hZ9
                                    obtain ⟨f334, hZ9⟩ := hZ9
                                    obtain ⟨f336, hZ9⟩ := hZ9
                                    obtain ⟨hO316, hZ9⟩ := hZ9
                                    obtain ⟨hA329, hZ9⟩ := hZ9
                                    obtain ⟨hA331, hZ9⟩ := hZ9
                                    obtain ⟨hA333, hZ9⟩ := hZ9
                                    obtain ⟨hA335, hZ9⟩ := hZ9
                                    obtain ⟨hA337, hZ9⟩ := hZ9
                                    obtain ⟨b338, hZ9⟩ := hZ9
                                    obtain ⟨b339, hZ9⟩ := hZ9
                                    obtain ⟨b340, hZ9⟩ := hZ9
                                    replace hZ9 := hZ9.2.2.2.2
                                    obtain ⟨b345, hZ9⟩ := hZ9
                                    obtain ⟨b346, hZ9⟩ := hZ9
                                    replace hZ9 := hZ9.2
                                    obtain ⟨b348, hZ9⟩ := hZ9
                                    obtain ⟨b349, hZ9⟩ := hZ9
                                    obtain ⟨b350, hZ9⟩ := hZ9
                                    obtain ⟨b351, hZ9⟩ := hZ9
                                    obtain ⟨b352, hZ9⟩ := hZ9
                                    obtain ⟨b353, hZ9⟩ := hZ9
                                    obtain ⟨b354, hZ9⟩ := hZ9
                                    replace hZ9 := hZ9.2
                                    obtain ⟨b356, hZ9⟩ := hZ9
                                    obtain ⟨b357, hZ9⟩ := hZ9
                                    replace hZ9 := hZ9.2
                                    obtain ⟨-, hE360⟩ := hZ9
                                    replace hO316 : u314[134]? = (some (q 134, .inr (14, [.int y317, .ref (q 135), .int y318, .ref (q 136), .ref (q 137), .ref (q 138), .ref (q 139), .ref (q 140), .int y319, .long y320, .int y321, .int y322, .ref (q 141), .int y323, .ref (q 142), .int y324, .ref (q 143), .int y325, .ref (q 144), .int y326, .int y327])) : Option (Nat × va_E)) := hO316
                                    replace hA329 : u314[136]? = (some (q 136, .inl (g 0, (10000 : Int32).toNatClampNeg, .inl f328)) : Option (Nat × va_E)) := hA329
                                    replace hA331 : u314[137]? = (some (q 137, .inl (g 0, (10 : Int32).toNatClampNeg, .inl f330)) : Option (Nat × va_E)) := hA331
                                    replace hA333 : u314[138]? = (some (q 138, .inl (g 3, 10, .inl f332)) : Option (Nat × va_E)) := hA333
                                    replace hA335 : u314[139]? = (some (q 139, .inl (g 0, (10 : Int32).toNatClampNeg, .inl f334)) : Option (Nat × va_E)) := hA335
                                    replace hA337 : u314[140]? = (some (q 140, .inl (g 0, (4400 : Int32).toNatClampNeg, .inl f336)) : Option (Nat × va_E)) := hA337
                                    obtain ⟨p362, e363⟩ : ∃ z, z = (F_DR_store x4 lx39 t0_1 a254 lx68 (0 : Int32) a307 t0_6 t0_7 t0_8 t0_9 (2 : Int32) t1_0 t2_0 t3_0 t4_0 lx260) := ⟨_, rfl⟩
                                    have e364 : y317 = p362.1 := congrArg (fun z => z.1) (hE360.trans e363.symm)
                                    have e365 : y318 = p362.2.1 := congrArg (fun z => z.2.1) (hE360.trans e363.symm)
                                    have e366 : y319 = p362.2.2.1 := congrArg (fun z => z.2.2.1) (hE360.trans e363.symm)
                                    have e367 : y320 = p362.2.2.2.1 := congrArg (fun z => z.2.2.2.1) (hE360.trans e363.symm)
                                    have e368 : y321 = p362.2.2.2.2.1 := congrArg (fun z => z.2.2.2.2.1) (hE360.trans e363.symm)
                                    have e369 : y322 = p362.2.2.2.2.2.1 := congrArg (fun z => z.2.2.2.2.2.1) (hE360.trans e363.symm)
                                    have e370 : y323 = p362.2.2.2.2.2.2.1 := congrArg (fun z => z.2.2.2.2.2.2.1) (hE360.trans e363.symm)
                                    have e371 : y324 = p362.2.2.2.2.2.2.2.1 := congrArg (fun z => z.2.2.2.2.2.2.2.1) (hE360.trans e363.symm)
                                    have e372 : y325 = p362.2.2.2.2.2.2.2.2.1 := congrArg (fun z => z.2.2.2.2.2.2.2.2.1) (hE360.trans e363.symm)
                                    have e373 : y326 = p362.2.2.2.2.2.2.2.2.2.1 := congrArg (fun z => z.2.2.2.2.2.2.2.2.2.1) (hE360.trans e363.symm)
                                    have e374 : y327 = p362.2.2.2.2.2.2.2.2.2.2.1 := congrArg (fun z => z.2.2.2.2.2.2.2.2.2.2.1) (hE360.trans e363.symm)
                                    have e375 : f328 = p362.2.2.2.2.2.2.2.2.2.2.2.1 := congrArg (fun z => z.2.2.2.2.2.2.2.2.2.2.2.1) (hE360.trans e363.symm)
                                    have e376 : f330 = p362.2.2.2.2.2.2.2.2.2.2.2.2.1 := congrArg (fun z => z.2.2.2.2.2.2.2.2.2.2.2.2.1) (hE360.trans e363.symm)
                                    have e377 : f332 = p362.2.2.2.2.2.2.2.2.2.2.2.2.2.1 := congrArg (fun z => z.2.2.2.2.2.2.2.2.2.2.2.2.2.1) (hE360.trans e363.symm)
                                    have e378 : f334 = p362.2.2.2.2.2.2.2.2.2.2.2.2.2.2.1 := congrArg (fun z => z.2.2.2.2.2.2.2.2.2.2.2.2.2.2.1) (hE360.trans e363.symm)
                                    have e379 : f336 = p362.2.2.2.2.2.2.2.2.2.2.2.2.2.2.2 := congrArg (fun z => z.2.2.2.2.2.2.2.2.2.2.2.2.2.2.2) (hE360.trans e363.symm)
                                    replace b338 : q_F (0 ≤ y322.toInt) := b338
                                    replace b339 : q_F (t0_1.toInt ≤ y318.toInt) := b339
                                    replace b340 : q_F (y318.toInt ≤ t0_1.toInt) := b340
                                    replace b345 : q_F (0 ≤ y321.toInt) := b345
                                    replace b346 : q_F (y321.toInt ≤ 0) := b346
                                    replace b348 : q_F (y322.toInt ≤ a307.toInt) := b348
                                    replace b349 : q_F (t0_6.toInt ≤ y323.toInt) := b349
                                    replace b350 : q_F (y323.toInt ≤ t0_6.toInt) := b350
                                    replace b351 : q_F (t0_7.toInt ≤ y324.toInt) := b351
                                    replace b352 : q_F (y324.toInt ≤ t0_7.toInt) := b352
                                    replace b353 : q_F (t0_8.toInt ≤ y325.toInt) := b353
                                    replace b354 : q_F (y325.toInt ≤ t0_8.toInt) := b354
                                    replace b356 : q_F (t0_9.toInt ≤ y326.toInt) := b356
                                    replace b357 : q_F (y326.toInt ≤ t0_9.toInt) := b357
                                    replace hF := q_uc hF hu361 (by simp)
                                    have hR380 := (show F_DR_add_c459 (F_DR_add_L296 x2 x3 x4 x5 t0_0 t0_1 t0_2 t0_3 t0_4 t0_5 t0_6 t0_7 t0_8 t0_9 t0_10 t1_0 t2_0 t3_0 t4_0 t5_0 lx39 lx68 lx91 lx114 lx150 lx173 lx188 lx203 lx218 lx236 a254 fm276) x2 x3 x4 x5 t0_0 t0_1 t0_2 t0_3 t0_4 t0_5 t0_6 t0_7 t0_8 t0_9 t0_10 t1_0 t2_0 t3_0 t4_0 t5_0 lx39 lx68 lx91 lx114 lx150 lx173 lx188 lx203 lx218 lx236 a254 lx258 lx259 lx260 p362 = (F_DR_add x2 x3 x4 x5 t0_0 t0_1 t0_2 t0_3 t0_4 t0_5 t0_6 t0_7 t0_8 t0_9 t0_10 t1_0 t2_0 t3_0 t4_0 t5_0) from Eq.trans (by have c293x := c293; rw [e292] at c293x; have c303x := c303; rw [e302] at c303x; rw [e363, ← e308, F_DR_add_L296.eq_2, if_pos c277, if_pos c293x, if_pos c303x, if_pos c305]) hR272)
                                    have hS381 := (show True ∧ S_DR_add_c459 (S_DR_add_L296 x2 x3 x4 x5 t0_0 t0_1 t0_2 t0_3 t0_4 t0_5 t0_6 t0_7 t0_8 t0_9 t0_10 t1_0 t2_0 t3_0 t4_0 t5_0 lx39 lx68 lx91 lx114 lx150 lx173 lx188 lx203 lx218 lx236 a254 fm276) x2 x3 x4 x5 t0_0 t0_1 t0_2 t0_3 t0_4 t0_5 t0_6 t0_7 t0_8 t0_9 t0_10 t1_0 t2_0 t3_0 t4_0 t5_0 lx39 lx68 lx91 lx114 lx150 lx173 lx188 lx203 lx218 lx236 a254 lx258 lx259 lx260 p362 from (by rw [e363, ← e308]; have h := hS273; rw [S_DR_add_L296.eq_2] at h; rw [if_pos c277] at h; replace h := q_s2 h; have c293x := c293; rw [e292] at c293x; rw [if_pos c293x] at h; replace h := q_s2 h; have c303x := c303; rw [e302] at c303x; rw [if_pos c303x] at h; rw [if_pos c305] at h; replace h := q_s2 h; replace h := q_s2 h; replace h := q_s2 h; with_reducible exact h))
                                    exact q_retv C0 V (⟨hI, hF, y317, y318, y319, y320, y321, y322, y323, y324, y325, y326, y327, f328, f330, f332, f334, f336, hO316, hA329, hA331, hA333, hA335, hA337, (show 0 ≤ y321.toInt from (by first | with_reducible exact q_fe b345 | (have t1 : 0 ≤ y321.toInt := b345; omega))), (show 0 ≤ y322.toInt from (by first | with_reducible exact q_fe b338 | (have t1 : 0 ≤ y322.toInt := b338; omega))), (show y322.toInt ≤ 1 from (by have t1 : a307.toInt ≤ 1 := ob312; have t2 : y322.toInt ≤ a307.toInt := b348; omega)), (show t0_1.toInt ≤ y318.toInt from (by first | with_reducible exact q_fe b339 | (have t1 : t0_1.toInt ≤ y318.toInt := b339; omega))), (show y318.toInt ≤ t0_1.toInt from (by first | with_reducible exact q_fe b340 | (have t1 : y318.toInt ≤ t0_1.toInt := b340; omega))), (show y321.toInt ≤ t0_4.toInt from (by have t1 : 0 ≤ t0_4.toInt ∧ t0_4.toInt ≤ 1 := btt0_4; have t2 : y321.toInt ≤ 0 := b346; omega)), (show t0_6.toInt ≤ y323.toInt from (by first | with_reducible exact q_fe b349 | (have t1 : t0_6.toInt ≤ y323.toInt := b349; omega))), (show y323.toInt ≤ t0_6.toInt from (by first | with_reducible exact q_fe b350 | (have t1 : y323.toInt ≤ t0_6.toInt := b350; omega))), (show t0_7.toInt ≤ y324.toInt from (by first | with_reducible exact q_fe b351 | (have t1 : t0_7.toInt ≤ y324.toInt := b351; omega))), (show y324.toInt ≤ t0_7.toInt from (by first | with_reducible exact q_fe b352 | (have t1 : y324.toInt ≤ t0_7.toInt := b352; omega))), (show t0_8.toInt ≤ y325.toInt from (by first | with_reducible exact q_fe b353 | (have t1 : t0_8.toInt ≤ y325.toInt := b353; omega))), (show y325.toInt ≤ t0_8.toInt from (by first | with_reducible exact q_fe b354 | (have t1 : y325.toInt ≤ t0_8.toInt := b354; omega))), (show t0_9.toInt ≤ y326.toInt from (by first | with_reducible exact q_fe b356 | (have t1 : t0_9.toInt ≤ y326.toInt := b356; omega))), (show y326.toInt ≤ t0_9.toInt from (by first | with_reducible exact q_fe b357 | (have t1 : y326.toInt ≤ t0_9.toInt := b357; omega))), (show (y317, y318, y319, y320, y321, y322, y323, y324, y325, y326, y327, f328, f330, f332, f334, f336) = (F_DR_add x2 x3 x4 x5 t0_0 t0_1 t0_2 t0_3 t0_4 t0_5 t0_6 t0_7 t0_8 t0_9 t0_10 t1_0 t2_0 t3_0 t4_0 t5_0) from Eq.trans (by rw [e379, e378, e377, e376, e375, e374, e373, e372, e371, e370, e369, e368, e367, e366, e365, e364, F_DR_add_c459.eq_1]) hR380)⟩) d_15_26_462
                                  ·
                                    refine lv_iload hx hb d_15_26_443 (lv_at hl 7 rfl) ?_
                                    refine lv_goto (tgt := 454) hx hb d_15_26_445 (by decide) ?_
                                    refine q_put (ci := 14) (j := 11) (v := .int lx150) (ty := .boolean) C0 V i_DR o_DR n_DR rfl rfl hO266 (by decide) w_2014 rfl rfl (q_nz01 (q_Ile (x := 0) (y := lx150.toInt) (by decide) rfl (by have t1 : 0 ≤ lx39.toInt := i47; have t2 : lx39.toInt ≤ lx150.toInt := i158; omega)) (q_Ile (x := lx150.toInt) (y := 1) rfl (by decide) (by have t1 : lx39.toInt ≤ 0 := b57; have t2 : lx150.toInt ≤ lx39.toInt + 1 := i159; omega))) (q_fz01 (q_Ile (x := 0) (y := lx150.toInt) (by decide) rfl (by have t1 : 0 ≤ lx39.toInt := i47; have t2 : lx39.toInt ≤ lx150.toInt := i158; omega)) (q_Ile (x := lx150.toInt) (y := 1) rfl (by decide) (by have t1 : lx39.toInt ≤ 0 := b57; have t2 : lx150.toInt ≤ lx39.toInt + 1 := i159; omega))) (Nat.le_of_ble_eq_true rfl) d_15_26_454 (fun H locs w386 hu387 hO266 V => ?_)
                                    replace hO266 : w386[134]? = (some (q 134, .inr (14, [.int lx39, .ref (q 135), .int t0_1, .ref (q 136), .ref (q 137), .ref (q 138), .ref (q 139), .ref (q 140), .int a254, .long lx68, .int 0, .int lx150, .ref (q 141), .int t0_6, .ref (q 142), .int t0_7, .ref (q 143), .int t0_8, .ref (q 144), .int t0_9, .int 2])) : Option (Nat × va_E)) := hO266
                                    replace hI := n_p134 hI hu387 hO266 (by first | with_reducible exact q_fe btt0_1 | exact ⟨(by have t1 : 0 ≤ t0_1.toInt ∧ t0_1.toInt ≤ 4100 := btt0_1; omega), (by have t1 : 0 ≤ t0_1.toInt ∧ t0_1.toInt ≤ 4100 := btt0_1; omega)⟩) ⟨(by have z9 : (0 : Int32).toInt = 0 := rfl; omega), (by have z9 : (0 : Int32).toInt = 0 := rfl; omega)⟩ ⟨(by have t1 : 0 ≤ lx39.toInt := i47; have t2 : lx39.toInt ≤ lx150.toInt := i158; omega), (by have t1 : lx39.toInt ≤ 0 := b57; have t2 : lx150.toInt ≤ lx39.toInt + 1 := i159; omega)⟩ (by first | with_reducible exact q_fe btt0_9 | exact ⟨(by have t1 : 0 ≤ t0_9.toInt ∧ t0_9.toInt ≤ 12200 := btt0_9; omega), (by have t1 : 0 ≤ t0_9.toInt ∧ t0_9.toInt ≤ 12200 := btt0_9; omega)⟩)
                                    replace hO267 := (hu387 _ (by decide)).trans hO267
                                    replace hO268 := (hu387 _ (by decide)).trans hO268
                                    replace hO269 := (hu387 _ (by decide)).trans hO269
                                    replace hO270 := (hu387 _ (by decide)).trans hO270
                                    replace hO271 := (hu387 _ (by decide)).trans hO271
                                    replace hF := q_us hF hu387 (by simp)
                                    refine lv_aload_n hx hb d_15_26_457 rfl (lv_at hl 9 rfl) ?_
                                    refine lv_iload_n hx hb d_15_26_458 rfl (lv_at hl 12 rfl) ?_
                                    have ob388 : True ∧ S_DR_store x4 lx39 t0_1 a254 lx68 (0 : Int32) lx150 t0_6 t0_7 t0_8 t0_9 (2 : Int32) t1_0 t2_0 t3_0 t4_0 lx260 := (by have h := hS273; rw [S_DR_add_L296.eq_2] at h; rw [if_pos c277] at h; replace h := q_s2 h; have c293x := c293; rw [e292] at c293x; rw [if_pos c293x] at h; replace h := q_s2 h; have c303x := c303; rw [e302] at c303x; rw [if_pos c303x] at h; rw [if_neg c305] at h; with_reducible exact h.2.1)
                                    refine q_gov V (q_runV (As := [.int x4]) (rest := []) (d := 2) (mc := 0) (ms := 0) (ci := 14) C0 V rfl LV_DR_89 (X_DR_store l D g q w386  x4 hI lx39 t0_1 a254 lx68 0 lx150 t0_6 t0_7 t0_8 t0_9 2 hO266 t1_0 hO267 t2_0 hO268 t3_0 hO269 t4_0 hO270 lx260 hO271 ob388 _) rfl rfl hO266 rfl hl.1 rfl (Nat.le_of_ble_eq_true rfl) ⟨by decide, by decide⟩ ⟨Nat.le_of_ble_eq_true rfl, Nat.le_of_ble_eq_true rfl⟩ d_15_26_459) (fun u389 H locs hp390 V => ?_)
                                    obtain ⟨hI, hZ9⟩ := hp390
                                    obtain ⟨hu436, hZ9⟩ := hZ9
                                    obtain ⟨y392, hZ9⟩ := hZ9
                                    obtain ⟨y393, hZ9⟩ := hZ9
                                    obtain ⟨y394, hZ9⟩ := hZ9
                                    obtain ⟨y395, hZ9⟩ := hZ9
                                    obtain ⟨y396, hZ9⟩ := hZ9
                                    obtain ⟨y397, hZ9⟩ := hZ9
                                    obtain ⟨y398, hZ9⟩ := hZ9
                                    obtain ⟨y399, hZ9⟩ := hZ9
                                    obtain ⟨y400, hZ9⟩ := hZ9
                                    obtain ⟨y401, hZ9⟩ := hZ9
                                    obtain ⟨y402, hZ9⟩ := hZ9
                                    obtain ⟨f403, hZ9⟩ := hZ9
                                    obtain ⟨f405, hZ9⟩ := hZ9
                                    obtain ⟨f407, hZ9⟩ := hZ9
                                    obtain ⟨f409, hZ9⟩ := hZ9
                                    obtain ⟨f411, hZ9⟩ := hZ9
                                    obtain ⟨hO391, hZ9⟩ := hZ9
                                    obtain ⟨hA404, hZ9⟩ := hZ9
                                    obtain ⟨hA406, hZ9⟩ := hZ9
                                    obtain ⟨hA408, hZ9⟩ := hZ9
                                    obtain ⟨hA410, hZ9⟩ := hZ9
                                    obtain ⟨hA412, hZ9⟩ := hZ9
                                    obtain ⟨b413, hZ9⟩ := hZ9
                                    obtain ⟨b414, hZ9⟩ := hZ9
                                    obtain ⟨b415, hZ9⟩ := hZ9
                                    replace hZ9 := hZ9.2.2.2.2
                                    obtain ⟨b420, hZ9⟩ := hZ9
                                    obtain ⟨b421, hZ9⟩ := hZ9
                                    replace hZ9 := hZ9.2
                                    obtain ⟨b423, hZ9⟩ := hZ9
                                    obtain ⟨b424, hZ9⟩ := hZ9
                                    obtain ⟨b425, hZ9⟩ := hZ9
                                    obtain ⟨b426, hZ9⟩ := hZ9
                                    obtain ⟨b427, hZ9⟩ := hZ9
                                    obtain ⟨b428, hZ9⟩ := hZ9
                                    obtain ⟨b429, hZ9⟩ := hZ9
                                    replace hZ9 := hZ9.2
                                    obtain ⟨b431, hZ9⟩ := hZ9
                                    obtain ⟨b432, hZ9⟩ := hZ9
                                    replace hZ9 := hZ9.2
                                    obtain ⟨-, hE435⟩ := hZ9
                                    replace hO391 : u389[134]? = (some (q 134, .inr (14, [.int y392, .ref (q 135), .int y393, .ref (q 136), .ref (q 137), .ref (q 138), .ref (q 139), .ref (q 140), .int y394, .long y395, .int y396, .int y397, .ref (q 141), .int y398, .ref (q 142), .int y399, .ref (q 143), .int y400, .ref (q 144), .int y401, .int y402])) : Option (Nat × va_E)) := hO391
                                    replace hA404 : u389[136]? = (some (q 136, .inl (g 0, (10000 : Int32).toNatClampNeg, .inl f403)) : Option (Nat × va_E)) := hA404
                                    replace hA406 : u389[137]? = (some (q 137, .inl (g 0, (10 : Int32).toNatClampNeg, .inl f405)) : Option (Nat × va_E)) := hA406
                                    replace hA408 : u389[138]? = (some (q 138, .inl (g 3, 10, .inl f407)) : Option (Nat × va_E)) := hA408
                                    replace hA410 : u389[139]? = (some (q 139, .inl (g 0, (10 : Int32).toNatClampNeg, .inl f409)) : Option (Nat × va_E)) := hA410
                                    replace hA412 : u389[140]? = (some (q 140, .inl (g 0, (4400 : Int32).toNatClampNeg, .inl f411)) : Option (Nat × va_E)) := hA412
                                    obtain ⟨p437, e438⟩ : ∃ z, z = (F_DR_store x4 lx39 t0_1 a254 lx68 (0 : Int32) lx150 t0_6 t0_7 t0_8 t0_9 (2 : Int32) t1_0 t2_0 t3_0 t4_0 lx260) := ⟨_, rfl⟩
                                    have e439 : y392 = p437.1 := congrArg (fun z => z.1) (hE435.trans e438.symm)
                                    have e440 : y393 = p437.2.1 := congrArg (fun z => z.2.1) (hE435.trans e438.symm)
                                    have e441 : y394 = p437.2.2.1 := congrArg (fun z => z.2.2.1) (hE435.trans e438.symm)
                                    have e442 : y395 = p437.2.2.2.1 := congrArg (fun z => z.2.2.2.1) (hE435.trans e438.symm)
                                    have e443 : y396 = p437.2.2.2.2.1 := congrArg (fun z => z.2.2.2.2.1) (hE435.trans e438.symm)
                                    have e444 : y397 = p437.2.2.2.2.2.1 := congrArg (fun z => z.2.2.2.2.2.1) (hE435.trans e438.symm)
                                    have e445 : y398 = p437.2.2.2.2.2.2.1 := congrArg (fun z => z.2.2.2.2.2.2.1) (hE435.trans e438.symm)
                                    have e446 : y399 = p437.2.2.2.2.2.2.2.1 := congrArg (fun z => z.2.2.2.2.2.2.2.1) (hE435.trans e438.symm)
                                    have e447 : y400 = p437.2.2.2.2.2.2.2.2.1 := congrArg (fun z => z.2.2.2.2.2.2.2.2.1) (hE435.trans e438.symm)
                                    have e448 : y401 = p437.2.2.2.2.2.2.2.2.2.1 := congrArg (fun z => z.2.2.2.2.2.2.2.2.2.1) (hE435.trans e438.symm)
                                    have e449 : y402 = p437.2.2.2.2.2.2.2.2.2.2.1 := congrArg (fun z => z.2.2.2.2.2.2.2.2.2.2.1) (hE435.trans e438.symm)
                                    have e450 : f403 = p437.2.2.2.2.2.2.2.2.2.2.2.1 := congrArg (fun z => z.2.2.2.2.2.2.2.2.2.2.2.1) (hE435.trans e438.symm)
                                    have e451 : f405 = p437.2.2.2.2.2.2.2.2.2.2.2.2.1 := congrArg (fun z => z.2.2.2.2.2.2.2.2.2.2.2.2.1) (hE435.trans e438.symm)
                                    have e452 : f407 = p437.2.2.2.2.2.2.2.2.2.2.2.2.2.1 := congrArg (fun z => z.2.2.2.2.2.2.2.2.2.2.2.2.2.1) (hE435.trans e438.symm)
                                    have e453 : f409 = p437.2.2.2.2.2.2.2.2.2.2.2.2.2.2.1 := congrArg (fun z => z.2.2.2.2.2.2.2.2.2.2.2.2.2.2.1) (hE435.trans e438.symm)
                                    have e454 : f411 = p437.2.2.2.2.2.2.2.2.2.2.2.2.2.2.2 := congrArg (fun z => z.2.2.2.2.2.2.2.2.2.2.2.2.2.2.2) (hE435.trans e438.symm)
                                    replace b413 : q_F (0 ≤ y397.toInt) := b413
                                    replace b414 : q_F (t0_1.toInt ≤ y393.toInt) := b414
                                    replace b415 : q_F (y393.toInt ≤ t0_1.toInt) := b415
                                    replace b420 : q_F (0 ≤ y396.toInt) := b420
                                    replace b421 : q_F (y396.toInt ≤ 0) := b421
                                    replace b423 : q_F (y397.toInt ≤ lx150.toInt) := b423
                                    replace b424 : q_F (t0_6.toInt ≤ y398.toInt) := b424
                                    replace b425 : q_F (y398.toInt ≤ t0_6.toInt) := b425
                                    replace b426 : q_F (t0_7.toInt ≤ y399.toInt) := b426
                                    replace b427 : q_F (y399.toInt ≤ t0_7.toInt) := b427
                                    replace b428 : q_F (t0_8.toInt ≤ y400.toInt) := b428
                                    replace b429 : q_F (y400.toInt ≤ t0_8.toInt) := b429
                                    replace b431 : q_F (t0_9.toInt ≤ y401.toInt) := b431
                                    replace b432 : q_F (y401.toInt ≤ t0_9.toInt) := b432
                                    replace hF := q_uc hF hu436 (by simp)
                                    have hR455 := (show F_DR_add_c459_13 (F_DR_add_L296 x2 x3 x4 x5 t0_0 t0_1 t0_2 t0_3 t0_4 t0_5 t0_6 t0_7 t0_8 t0_9 t0_10 t1_0 t2_0 t3_0 t4_0 t5_0 lx39 lx68 lx91 lx114 lx150 lx173 lx188 lx203 lx218 lx236 a254 fm276) x2 x3 x4 x5 t0_0 t0_1 t0_2 t0_3 t0_4 t0_5 t0_6 t0_7 t0_8 t0_9 t0_10 t1_0 t2_0 t3_0 t4_0 t5_0 lx39 lx68 lx91 lx114 lx150 lx173 lx188 lx203 lx218 lx236 a254 lx258 lx259 lx260 p437 = (F_DR_add x2 x3 x4 x5 t0_0 t0_1 t0_2 t0_3 t0_4 t0_5 t0_6 t0_7 t0_8 t0_9 t0_10 t1_0 t2_0 t3_0 t4_0 t5_0) from Eq.trans (by have c293x := c293; rw [e292] at c293x; have c303x := c303; rw [e302] at c303x; rw [e438, F_DR_add_L296.eq_2, if_pos c277, if_pos c293x, if_pos c303x, if_neg c305]) hR272)
                                    have hS456 := (show True ∧ S_DR_add_c459_13 (S_DR_add_L296 x2 x3 x4 x5 t0_0 t0_1 t0_2 t0_3 t0_4 t0_5 t0_6 t0_7 t0_8 t0_9 t0_10 t1_0 t2_0 t3_0 t4_0 t5_0 lx39 lx68 lx91 lx114 lx150 lx173 lx188 lx203 lx218 lx236 a254 fm276) x2 x3 x4 x5 t0_0 t0_1 t0_2 t0_3 t0_4 t0_5 t0_6 t0_7 t0_8 t0_9 t0_10 t1_0 t2_0 t3_0 t4_0 t5_0 lx39 lx68 lx91 lx114 lx150 lx173 lx188 lx203 lx218 lx236 a254 lx258 lx259 lx260 p437 from (by rw [e438]; have h := hS273; rw [S_DR_add_L296.eq_2] at h; rw [if_pos c277] at h; replace h := q_s2 h; have c293x := c293; rw [e292] at c293x; rw [if_pos c293x] at h; replace h := q_s2 h; have c303x := c303; rw [e302] at c303x; rw [if_pos c303x] at h; rw [if_neg c305] at h; replace h := q_s2 h; with_reducible exact h))
                                    exact q_retv C0 V (⟨hI, hF, y392, y393, y394, y395, y396, y397, y398, y399, y400, y401, y402, f403, f405, f407, f409, f411, hO391, hA404, hA406, hA408, hA410, hA412, (show 0 ≤ y396.toInt from (by first | with_reducible exact q_fe b420 | (have t1 : 0 ≤ y396.toInt := b420; omega))), (show 0 ≤ y397.toInt from (by first | with_reducible exact q_fe b413 | (have t1 : 0 ≤ y397.toInt := b413; omega))), (show y397.toInt ≤ 1 from (by have t1 : lx39.toInt ≤ 0 := b57; have t2 : lx150.toInt ≤ lx39.toInt + 1 := i159; have t3 : y397.toInt ≤ lx150.toInt := b423; omega)), (show t0_1.toInt ≤ y393.toInt from (by first | with_reducible exact q_fe b414 | (have t1 : t0_1.toInt ≤ y393.toInt := b414; omega))), (show y393.toInt ≤ t0_1.toInt from (by first | with_reducible exact q_fe b415 | (have t1 : y393.toInt ≤ t0_1.toInt := b415; omega))), (show y396.toInt ≤ t0_4.toInt from (by have t1 : 0 ≤ t0_4.toInt ∧ t0_4.toInt ≤ 1 := btt0_4; have t2 : y396.toInt ≤ 0 := b421; omega)), (show t0_6.toInt ≤ y398.toInt from (by first | with_reducible exact q_fe b424 | (have t1 : t0_6.toInt ≤ y398.toInt := b424; omega))), (show y398.toInt ≤ t0_6.toInt from (by first | with_reducible exact q_fe b425 | (have t1 : y398.toInt ≤ t0_6.toInt := b425; omega))), (show t0_7.toInt ≤ y399.toInt from (by first | with_reducible exact q_fe b426 | (have t1 : t0_7.toInt ≤ y399.toInt := b426; omega))), (show y399.toInt ≤ t0_7.toInt from (by first | with_reducible exact q_fe b427 | (have t1 : y399.toInt ≤ t0_7.toInt := b427; omega))), (show t0_8.toInt ≤ y400.toInt from (by first | with_reducible exact q_fe b428 | (have t1 : t0_8.toInt ≤ y400.toInt := b428; omega))), (show y400.toInt ≤ t0_8.toInt from (by first | with_reducible exact q_fe b429 | (have t1 : y400.toInt ≤ t0_8.toInt := b429; omega))), (show t0_9.toInt ≤ y401.toInt from (by first | with_reducible exact q_fe b431 | (have t1 : t0_9.toInt ≤ y401.toInt := b431; omega))), (show y401.toInt ≤ t0_9.toInt from (by first | with_reducible exact q_fe b432 | (have t1 : y401.toInt ≤ t0_9.toInt := b432; omega))), (show (y392, y393, y394, y395, y396, y397, y398, y399, y400, y401, y402, f403, f405, f407, f409, f411) = (F_DR_add x2 x3 x4 x5 t0_0 t0_1 t0_2 t0_3 t0_4 t0_5 t0_6 t0_7 t0_8 t0_9 t0_10 t1_0 t2_0 t3_0 t4_0 t5_0) from Eq.trans (by rw [e454, e453, e452, e451, e450, e449, e448, e447, e446, e445, e444, e443, e442, e441, e440, e439, F_DR_add_c459_13.eq_1]) hR455)⟩) d_15_26_462
                                ·
                                  refine lv_aload_n hx hb d_15_26_429 rfl (lv_at hl 9 rfl) ?_
                                  refine q_get (ci := 14) (j := 5) (v := .ref (q 138)) C0 V i_DR rfl rfl hO266 (by decide) w_2006 rfl d_15_26_430 ?_
                                  refine lv_iload_n hx hb d_15_26_433 rfl (lv_at hl 10 rfl) ?_
                                  refine q_zald C0 V hO269 (q_ix (x := x2.toInt) rfl (by first | with_reducible exact q_fe ob60 | (have t1 : 0 ≤ x2.toInt := ob60; omega)) (by have t1 : 0 ≤ x2.toInt := ob60; have t2 : x2.toInt ≤ 9 := ob61; omega)) d_15_26_434 ?_
                                  obtain ⟨a461, e462⟩ := q_nm (t3_0 x2.toNatClampNeg : Int32)
                                  refine q_ti (v := a461) e462 ?_
                                  refine lv_goto (tgt := 454) hx hb d_15_26_435 (by decide) ?_
                                  have ob465 : q_F (0 ≤ a461.toInt) := (by rw [← e462]; have h := hS273; rw [S_DR_add_L296.eq_2] at h; rw [if_pos c277] at h; replace h := q_s2 h; have c293x := c293; rw [e292] at c293x; rw [if_pos c293x] at h; replace h := q_s2 h; have c303x := c303; rw [e302] at c303x; rw [if_neg c303x] at h; exact h.2.1)
                                  have ob466 : q_F (a461.toInt ≤ 1) := (by rw [← e462]; have h := hS273; rw [S_DR_add_L296.eq_2] at h; rw [if_pos c277] at h; replace h := q_s2 h; have c293x := c293; rw [e292] at c293x; rw [if_pos c293x] at h; replace h := q_s2 h; have c303x := c303; rw [e302] at c303x; rw [if_neg c303x] at h; replace h := q_s2 h; exact h.2.1)
                                  refine q_put (ci := 14) (j := 11) (v := .int a461) (ty := .boolean) C0 V i_DR o_DR n_DR rfl rfl hO266 (by decide) w_2014 rfl rfl (q_nz01 (q_Ile (x := 0) (y := a461.toInt) (by decide) rfl (by first | with_reducible exact q_fe ob465 | (have t1 : 0 ≤ a461.toInt := ob465; omega))) (q_Ile (x := a461.toInt) (y := 1) rfl (by decide) (by first | with_reducible exact q_fe ob466 | (have t1 : a461.toInt ≤ 1 := ob466; omega)))) (q_fz01 (q_Ile (x := 0) (y := a461.toInt) (by decide) rfl (by first | with_reducible exact q_fe ob465 | (have t1 : 0 ≤ a461.toInt := ob465; omega))) (q_Ile (x := a461.toInt) (y := 1) rfl (by decide) (by first | with_reducible exact q_fe ob466 | (have t1 : a461.toInt ≤ 1 := ob466; omega)))) (Nat.le_of_ble_eq_true rfl) d_15_26_454 (fun H locs w463 hu464 hO266 V => ?_)
                                  replace hO266 : w463[134]? = (some (q 134, .inr (14, [.int lx39, .ref (q 135), .int t0_1, .ref (q 136), .ref (q 137), .ref (q 138), .ref (q 139), .ref (q 140), .int a254, .long lx68, .int 0, .int a461, .ref (q 141), .int t0_6, .ref (q 142), .int t0_7, .ref (q 143), .int t0_8, .ref (q 144), .int t0_9, .int 2])) : Option (Nat × va_E)) := hO266
                                  replace hI := n_p134 hI hu464 hO266 (by first | with_reducible exact q_fe btt0_1 | exact ⟨(by have t1 : 0 ≤ t0_1.toInt ∧ t0_1.toInt ≤ 4100 := btt0_1; omega), (by have t1 : 0 ≤ t0_1.toInt ∧ t0_1.toInt ≤ 4100 := btt0_1; omega)⟩) ⟨(by have z9 : (0 : Int32).toInt = 0 := rfl; omega), (by have z9 : (0 : Int32).toInt = 0 := rfl; omega)⟩ ⟨(by first | with_reducible exact q_fe ob465 | (have t1 : 0 ≤ a461.toInt := ob465; omega)), (by first | with_reducible exact q_fe ob466 | (have t1 : a461.toInt ≤ 1 := ob466; omega))⟩ (by first | with_reducible exact q_fe btt0_9 | exact ⟨(by have t1 : 0 ≤ t0_9.toInt ∧ t0_9.toInt ≤ 12200 := btt0_9; omega), (by have t1 : 0 ≤ t0_9.toInt ∧ t0_9.toInt ≤ 12200 := btt0_9; omega)⟩)
                                  replace hO267 := (hu464 _ (by decide)).trans hO267
                                  replace hO268 := (hu464 _ (by decide)).trans hO268
                                  replace hO269 := (hu464 _ (by decide)).trans hO269
                                  replace hO270 := (hu464 _ (by decide)).trans hO270
                                  replace hO271 := (hu464 _ (by decide)).trans hO271
                                  replace hF := q_us hF hu464 (by simp)
                                  refine lv_aload_n hx hb d_15_26_457 rfl (lv_at hl 9 rfl) ?_
                                  refine lv_iload_n hx hb d_15_26_458 rfl (lv_at hl 12 rfl) ?_
                                  have ob467 : True ∧ S_DR_store x4 lx39 t0_1 a254 lx68 (0 : Int32) a461 t0_6 t0_7 t0_8 t0_9 (2 : Int32) t1_0 t2_0 t3_0 t4_0 lx260 := (by rw [← e462]; have h := hS273; rw [S_DR_add_L296.eq_2] at h; rw [if_pos c277] at h; replace h := q_s2 h; have c293x := c293; rw [e292] at c293x; rw [if_pos c293x] at h; replace h := q_s2 h; have c303x := c303; rw [e302] at c303x; rw [if_neg c303x] at h; replace h := q_s2 h; replace h := q_s2 h; with_reducible exact h.2.1)
                                  refine q_gov V (q_runV (As := [.int x4]) (rest := []) (d := 2) (mc := 0) (ms := 0) (ci := 14) C0 V rfl LV_DR_89 (X_DR_store l D g q w463  x4 hI lx39 t0_1 a254 lx68 0 a461 t0_6 t0_7 t0_8 t0_9 2 hO266 t1_0 hO267 t2_0 hO268 t3_0 hO269 t4_0 hO270 lx260 hO271 ob467 _) rfl rfl hO266 rfl hl.1 rfl (Nat.le_of_ble_eq_true rfl) ⟨by decide, by decide⟩ ⟨Nat.le_of_ble_eq_true rfl, Nat.le_of_ble_eq_true rfl⟩ d_15_26_459) (fun u468 H locs hp469 V => ?_)
                                  obtain ⟨hI, hZ9⟩ := hp469
                                  obtain ⟨hu515, hZ9⟩ := hZ9
                                  obtain ⟨y471, hZ9⟩ := hZ9
                                  obtain ⟨y472, hZ9⟩ := hZ9
                                  obtain ⟨y473, hZ9⟩ := hZ9
                                  obtain ⟨y474, hZ9⟩ := hZ9
                                  obtain ⟨y475, hZ9⟩ := hZ9
                                  obtain ⟨y476, hZ9⟩ := hZ9
                                  obtain ⟨y477, hZ9⟩ := hZ9
                                  obtain ⟨y478, hZ9⟩ := hZ9
                                  obtain ⟨y479, hZ9⟩ := hZ9
                                  obtain ⟨y480, hZ9⟩ := hZ9
                                  obtain ⟨y481, hZ9⟩ := hZ9
                                  obtain ⟨f482, hZ9⟩ := hZ9
                                  obtain ⟨f484, hZ9⟩ := hZ9
                                  obtain ⟨f486, hZ9⟩ := hZ9
                                  obtain ⟨f488, hZ9⟩ := hZ9
                                  obtain ⟨f490, hZ9⟩ := hZ9
                                  obtain ⟨hO470, hZ9⟩ := hZ9
                                  obtain ⟨hA483, hZ9⟩ := hZ9
                                  obtain ⟨hA485, hZ9⟩ := hZ9
                                  obtain ⟨hA487, hZ9⟩ := hZ9
                                  obtain ⟨hA489, hZ9⟩ := hZ9
                                  obtain ⟨hA491, hZ9⟩ := hZ9
                                  obtain ⟨b492, hZ9⟩ := hZ9
                                  obtain ⟨b493, hZ9⟩ := hZ9
                                  obtain ⟨b494, hZ9⟩ := hZ9
                                  replace hZ9 := hZ9.2.2.2.2
                                  obtain ⟨b499, hZ9⟩ := hZ9
                                  obtain ⟨b500, hZ9⟩ := hZ9
                                  replace hZ9 := hZ9.2
                                  obtain ⟨b502, hZ9⟩ := hZ9
                                  obtain ⟨b503, hZ9⟩ := hZ9
                                  obtain ⟨b504, hZ9⟩ := hZ9
                                  obtain ⟨b505, hZ9⟩ := hZ9
                                  obtain ⟨b506, hZ9⟩ := hZ9
                                  obtain ⟨b507, hZ9⟩ := hZ9
                                  obtain ⟨b508, hZ9⟩ := hZ9
                                  replace hZ9 := hZ9.2
                                  obtain ⟨b510, hZ9⟩ := hZ9
                                  obtain ⟨b511, hZ9⟩ := hZ9
                                  replace hZ9 := hZ9.2
                                  obtain ⟨-, hE514⟩ := hZ9
                                  replace hO470 : u468[134]? = (some (q 134, .inr (14, [.int y471, .ref (q 135), .int y472, .ref (q 136), .ref (q 137), .ref (q 138), .ref (q 139), .ref (q 140), .int y473, .long y474, .int y475, .int y476, .ref (q 141), .int y477, .ref (q 142), .int y478, .ref (q 143), .int y479, .ref (q 144), .int y480, .int y481])) : Option (Nat × va_E)) := hO470
                                  replace hA483 : u468[136]? = (some (q 136, .inl (g 0, (10000 : Int32).toNatClampNeg, .inl f482)) : Option (Nat × va_E)) := hA483
                                  replace hA485 : u468[137]? = (some (q 137, .inl (g 0, (10 : Int32).toNatClampNeg, .inl f484)) : Option (Nat × va_E)) := hA485
                                  replace hA487 : u468[138]? = (some (q 138, .inl (g 3, 10, .inl f486)) : Option (Nat × va_E)) := hA487
                                  replace hA489 : u468[139]? = (some (q 139, .inl (g 0, (10 : Int32).toNatClampNeg, .inl f488)) : Option (Nat × va_E)) := hA489
                                  replace hA491 : u468[140]? = (some (q 140, .inl (g 0, (4400 : Int32).toNatClampNeg, .inl f490)) : Option (Nat × va_E)) := hA491
                                  obtain ⟨p516, e517⟩ : ∃ z, z = (F_DR_store x4 lx39 t0_1 a254 lx68 (0 : Int32) a461 t0_6 t0_7 t0_8 t0_9 (2 : Int32) t1_0 t2_0 t3_0 t4_0 lx260) := ⟨_, rfl⟩
                                  have e518 : y471 = p516.1 := congrArg (fun z => z.1) (hE514.trans e517.symm)
                                  have e519 : y472 = p516.2.1 := congrArg (fun z => z.2.1) (hE514.trans e517.symm)
                                  have e520 : y473 = p516.2.2.1 := congrArg (fun z => z.2.2.1) (hE514.trans e517.symm)
                                  have e521 : y474 = p516.2.2.2.1 := congrArg (fun z => z.2.2.2.1) (hE514.trans e517.symm)
                                  have e522 : y475 = p516.2.2.2.2.1 := congrArg (fun z => z.2.2.2.2.1) (hE514.trans e517.symm)
                                  have e523 : y476 = p516.2.2.2.2.2.1 := congrArg (fun z => z.2.2.2.2.2.1) (hE514.trans e517.symm)
                                  have e524 : y477 = p516.2.2.2.2.2.2.1 := congrArg (fun z => z.2.2.2.2.2.2.1) (hE514.trans e517.symm)
                                  have e525 : y478 = p516.2.2.2.2.2.2.2.1 := congrArg (fun z => z.2.2.2.2.2.2.2.1) (hE514.trans e517.symm)
                                  have e526 : y479 = p516.2.2.2.2.2.2.2.2.1 := congrArg (fun z => z.2.2.2.2.2.2.2.2.1) (hE514.trans e517.symm)
                                  have e527 : y480 = p516.2.2.2.2.2.2.2.2.2.1 := congrArg (fun z => z.2.2.2.2.2.2.2.2.2.1) (hE514.trans e517.symm)
                                  have e528 : y481 = p516.2.2.2.2.2.2.2.2.2.2.1 := congrArg (fun z => z.2.2.2.2.2.2.2.2.2.2.1) (hE514.trans e517.symm)
                                  have e529 : f482 = p516.2.2.2.2.2.2.2.2.2.2.2.1 := congrArg (fun z => z.2.2.2.2.2.2.2.2.2.2.2.1) (hE514.trans e517.symm)
                                  have e530 : f484 = p516.2.2.2.2.2.2.2.2.2.2.2.2.1 := congrArg (fun z => z.2.2.2.2.2.2.2.2.2.2.2.2.1) (hE514.trans e517.symm)
                                  have e531 : f486 = p516.2.2.2.2.2.2.2.2.2.2.2.2.2.1 := congrArg (fun z => z.2.2.2.2.2.2.2.2.2.2.2.2.2.1) (hE514.trans e517.symm)
                                  have e532 : f488 = p516.2.2.2.2.2.2.2.2.2.2.2.2.2.2.1 := congrArg (fun z => z.2.2.2.2.2.2.2.2.2.2.2.2.2.2.1) (hE514.trans e517.symm)
                                  have e533 : f490 = p516.2.2.2.2.2.2.2.2.2.2.2.2.2.2.2 := congrArg (fun z => z.2.2.2.2.2.2.2.2.2.2.2.2.2.2.2) (hE514.trans e517.symm)
                                  replace b492 : q_F (0 ≤ y476.toInt) := b492
                                  replace b493 : q_F (t0_1.toInt ≤ y472.toInt) := b493
                                  replace b494 : q_F (y472.toInt ≤ t0_1.toInt) := b494
                                  replace b499 : q_F (0 ≤ y475.toInt) := b499
                                  replace b500 : q_F (y475.toInt ≤ 0) := b500
                                  replace b502 : q_F (y476.toInt ≤ a461.toInt) := b502
                                  replace b503 : q_F (t0_6.toInt ≤ y477.toInt) := b503
                                  replace b504 : q_F (y477.toInt ≤ t0_6.toInt) := b504
                                  replace b505 : q_F (t0_7.toInt ≤ y478.toInt) := b505
                                  replace b506 : q_F (y478.toInt ≤ t0_7.toInt) := b506
                                  replace b507 : q_F (t0_8.toInt ≤ y479.toInt) := b507
                                  replace b508 : q_F (y479.toInt ≤ t0_8.toInt) := b508
                                  replace b510 : q_F (t0_9.toInt ≤ y480.toInt) := b510
                                  replace b511 : q_F (y480.toInt ≤ t0_9.toInt) := b511
                                  replace hF := q_uc hF hu515 (by simp)
                                  have hR534 := (show F_DR_add_c459_14 (F_DR_add_L296 x2 x3 x4 x5 t0_0 t0_1 t0_2 t0_3 t0_4 t0_5 t0_6 t0_7 t0_8 t0_9 t0_10 t1_0 t2_0 t3_0 t4_0 t5_0 lx39 lx68 lx91 lx114 lx150 lx173 lx188 lx203 lx218 lx236 a254 fm276) x2 x3 x4 x5 t0_0 t0_1 t0_2 t0_3 t0_4 t0_5 t0_6 t0_7 t0_8 t0_9 t0_10 t1_0 t2_0 t3_0 t4_0 t5_0 lx39 lx68 lx91 lx114 lx150 lx173 lx188 lx203 lx218 lx236 a254 lx258 lx259 lx260 p516 = (F_DR_add x2 x3 x4 x5 t0_0 t0_1 t0_2 t0_3 t0_4 t0_5 t0_6 t0_7 t0_8 t0_9 t0_10 t1_0 t2_0 t3_0 t4_0 t5_0) from Eq.trans (by have c293x := c293; rw [e292] at c293x; have c303x := c303; rw [e302] at c303x; rw [e517, ← e462, F_DR_add_L296.eq_2, if_pos c277, if_pos c293x, if_neg c303x]) hR272)
                                  have hS535 := (show True ∧ S_DR_add_c459_14 (S_DR_add_L296 x2 x3 x4 x5 t0_0 t0_1 t0_2 t0_3 t0_4 t0_5 t0_6 t0_7 t0_8 t0_9 t0_10 t1_0 t2_0 t3_0 t4_0 t5_0 lx39 lx68 lx91 lx114 lx150 lx173 lx188 lx203 lx218 lx236 a254 fm276) x2 x3 x4 x5 t0_0 t0_1 t0_2 t0_3 t0_4 t0_5 t0_6 t0_7 t0_8 t0_9 t0_10 t1_0 t2_0 t3_0 t4_0 t5_0 lx39 lx68 lx91 lx114 lx150 lx173 lx188 lx203 lx218 lx236 a254 lx258 lx259 lx260 p516 from (by rw [e517, ← e462]; have h := hS273; rw [S_DR_add_L296.eq_2] at h; rw [if_pos c277] at h; replace h := q_s2 h; have c293x := c293; rw [e292] at c293x; rw [if_pos c293x] at h; replace h := q_s2 h; have c303x := c303; rw [e302] at c303x; rw [if_neg c303x] at h; replace h := q_s2 h; replace h := q_s2 h; replace h := q_s2 h; with_reducible exact h))
                                  exact q_retv C0 V (⟨hI, hF, y471, y472, y473, y474, y475, y476, y477, y478, y479, y480, y481, f482, f484, f486, f488, f490, hO470, hA483, hA485, hA487, hA489, hA491, (show 0 ≤ y475.toInt from (by first | with_reducible exact q_fe b499 | (have t1 : 0 ≤ y475.toInt := b499; omega))), (show 0 ≤ y476.toInt from (by first | with_reducible exact q_fe b492 | (have t1 : 0 ≤ y476.toInt := b492; omega))), (show y476.toInt ≤ 1 from (by have t1 : a461.toInt ≤ 1 := ob466; have t2 : y476.toInt ≤ a461.toInt := b502; omega)), (show t0_1.toInt ≤ y472.toInt from (by first | with_reducible exact q_fe b493 | (have t1 : t0_1.toInt ≤ y472.toInt := b493; omega))), (show y472.toInt ≤ t0_1.toInt from (by first | with_reducible exact q_fe b494 | (have t1 : y472.toInt ≤ t0_1.toInt := b494; omega))), (show y475.toInt ≤ t0_4.toInt from (by have t1 : 0 ≤ t0_4.toInt ∧ t0_4.toInt ≤ 1 := btt0_4; have t2 : y475.toInt ≤ 0 := b500; omega)), (show t0_6.toInt ≤ y477.toInt from (by first | with_reducible exact q_fe b503 | (have t1 : t0_6.toInt ≤ y477.toInt := b503; omega))), (show y477.toInt ≤ t0_6.toInt from (by first | with_reducible exact q_fe b504 | (have t1 : y477.toInt ≤ t0_6.toInt := b504; omega))), (show t0_7.toInt ≤ y478.toInt from (by first | with_reducible exact q_fe b505 | (have t1 : t0_7.toInt ≤ y478.toInt := b505; omega))), (show y478.toInt ≤ t0_7.toInt from (by first | with_reducible exact q_fe b506 | (have t1 : y478.toInt ≤ t0_7.toInt := b506; omega))), (show t0_8.toInt ≤ y479.toInt from (by first | with_reducible exact q_fe b507 | (have t1 : t0_8.toInt ≤ y479.toInt := b507; omega))), (show y479.toInt ≤ t0_8.toInt from (by first | with_reducible exact q_fe b508 | (have t1 : y479.toInt ≤ t0_8.toInt := b508; omega))), (show t0_9.toInt ≤ y480.toInt from (by first | with_reducible exact q_fe b510 | (have t1 : t0_9.toInt ≤ y480.toInt := b510; omega))), (show y480.toInt ≤ t0_9.toInt from (by first | with_reducible exact q_fe b511 | (have t1 : y480.toInt ≤ t0_9.toInt := b511; omega))), (show (y471, y472, y473, y474, y475, y476, y477, y478, y479, y480, y481, f482, f484, f486, f488, f490) = (F_DR_add x2 x3 x4 x5 t0_0 t0_1 t0_2 t0_3 t0_4 t0_5 t0_6 t0_7 t0_8 t0_9 t0_10 t1_0 t2_0 t3_0 t4_0 t5_0) from Eq.trans (by rw [e533, e532, e531, e530, e529, e528, e527, e526, e525, e524, e523, e522, e521, e520, e519, e518, F_DR_add_c459_14.eq_1]) hR534)⟩) d_15_26_462
                              ·
                                refine lv_iload hx hb d_15_26_416 (lv_at hl 7 rfl) ?_
                                refine lv_goto (tgt := 454) hx hb d_15_26_418 (by decide) ?_
                                refine q_put (ci := 14) (j := 11) (v := .int lx150) (ty := .boolean) C0 V i_DR o_DR n_DR rfl rfl hO266 (by decide) w_2014 rfl rfl (q_nz01 (q_Ile (x := 0) (y := lx150.toInt) (by decide) rfl (by have t1 : 0 ≤ lx39.toInt := i47; have t2 : lx39.toInt ≤ lx150.toInt := i158; omega)) (q_Ile (x := lx150.toInt) (y := 1) rfl (by decide) (by have t1 : lx39.toInt ≤ 0 := b57; have t2 : lx150.toInt ≤ lx39.toInt + 1 := i159; omega))) (q_fz01 (q_Ile (x := 0) (y := lx150.toInt) (by decide) rfl (by have t1 : 0 ≤ lx39.toInt := i47; have t2 : lx39.toInt ≤ lx150.toInt := i158; omega)) (q_Ile (x := lx150.toInt) (y := 1) rfl (by decide) (by have t1 : lx39.toInt ≤ 0 := b57; have t2 : lx150.toInt ≤ lx39.toInt + 1 := i159; omega))) (Nat.le_of_ble_eq_true rfl) d_15_26_454 (fun H locs w540 hu541 hO266 V => ?_)
                                replace hO266 : w540[134]? = (some (q 134, .inr (14, [.int lx39, .ref (q 135), .int t0_1, .ref (q 136), .ref (q 137), .ref (q 138), .ref (q 139), .ref (q 140), .int a254, .long lx68, .int 0, .int lx150, .ref (q 141), .int t0_6, .ref (q 142), .int t0_7, .ref (q 143), .int t0_8, .ref (q 144), .int t0_9, .int 2])) : Option (Nat × va_E)) := hO266
                                replace hI := n_p134 hI hu541 hO266 (by first | with_reducible exact q_fe btt0_1 | exact ⟨(by have t1 : 0 ≤ t0_1.toInt ∧ t0_1.toInt ≤ 4100 := btt0_1; omega), (by have t1 : 0 ≤ t0_1.toInt ∧ t0_1.toInt ≤ 4100 := btt0_1; omega)⟩) ⟨(by have z9 : (0 : Int32).toInt = 0 := rfl; omega), (by have z9 : (0 : Int32).toInt = 0 := rfl; omega)⟩ ⟨(by have t1 : 0 ≤ lx39.toInt := i47; have t2 : lx39.toInt ≤ lx150.toInt := i158; omega), (by have t1 : lx39.toInt ≤ 0 := b57; have t2 : lx150.toInt ≤ lx39.toInt + 1 := i159; omega)⟩ (by first | with_reducible exact q_fe btt0_9 | exact ⟨(by have t1 : 0 ≤ t0_9.toInt ∧ t0_9.toInt ≤ 12200 := btt0_9; omega), (by have t1 : 0 ≤ t0_9.toInt ∧ t0_9.toInt ≤ 12200 := btt0_9; omega)⟩)
                                replace hO267 := (hu541 _ (by decide)).trans hO267
                                replace hO268 := (hu541 _ (by decide)).trans hO268
                                replace hO269 := (hu541 _ (by decide)).trans hO269
                                replace hO270 := (hu541 _ (by decide)).trans hO270
                                replace hO271 := (hu541 _ (by decide)).trans hO271
                                replace hF := q_us hF hu541 (by simp)
                                refine lv_aload_n hx hb d_15_26_457 rfl (lv_at hl 9 rfl) ?_
                                refine lv_iload_n hx hb d_15_26_458 rfl (lv_at hl 12 rfl) ?_
                                have ob542 : True ∧ S_DR_store x4 lx39 t0_1 a254 lx68 (0 : Int32) lx150 t0_6 t0_7 t0_8 t0_9 (2 : Int32) t1_0 t2_0 t3_0 t4_0 lx260 := (by have h := hS273; rw [S_DR_add_L296.eq_2] at h; rw [if_pos c277] at h; replace h := q_s2 h; have c293x := c293; rw [e292] at c293x; rw [if_neg c293x] at h; with_reducible exact h.2.1)
                                refine q_gov V (q_runV (As := [.int x4]) (rest := []) (d := 2) (mc := 0) (ms := 0) (ci := 14) C0 V rfl LV_DR_89 (X_DR_store l D g q w540  x4 hI lx39 t0_1 a254 lx68 0 lx150 t0_6 t0_7 t0_8 t0_9 2 hO266 t1_0 hO267 t2_0 hO268 t3_0 hO269 t4_0 hO270 lx260 hO271 ob542 _) rfl rfl hO266 rfl hl.1 rfl (Nat.le_of_ble_eq_true rfl) ⟨by decide, by decide⟩ ⟨Nat.le_of_ble_eq_true rfl, Nat.le_of_ble_eq_true rfl⟩ d_15_26_459) (fun u543 H locs hp544 V => ?_)
                                obtain ⟨hI, hZ9⟩ := hp544
                                obtain ⟨hu590, hZ9⟩ := hZ9
                                obtain ⟨y546, hZ9⟩ := hZ9
                                obtain ⟨y547, hZ9⟩ := hZ9
                                obtain ⟨y548, hZ9⟩ := hZ9
                                obtain ⟨y549, hZ9⟩ := hZ9
                                obtain ⟨y550, hZ9⟩ := hZ9
                                obtain ⟨y551, hZ9⟩ := hZ9
                                obtain ⟨y552, hZ9⟩ := hZ9
                                obtain ⟨y553, hZ9⟩ := hZ9
                                obtain ⟨y554, hZ9⟩ := hZ9
                                obtain ⟨y555, hZ9⟩ := hZ9
                                obtain ⟨y556, hZ9⟩ := hZ9
                                obtain ⟨f557, hZ9⟩ := hZ9
                                obtain ⟨f559, hZ9⟩ := hZ9
                                obtain ⟨f561, hZ9⟩ := hZ9
                                obtain ⟨f563, hZ9⟩ := hZ9
                                obtain ⟨f565, hZ9⟩ := hZ9
                                obtain ⟨hO545, hZ9⟩ := hZ9
                                obtain ⟨hA558, hZ9⟩ := hZ9
                                obtain ⟨hA560, hZ9⟩ := hZ9
                                obtain ⟨hA562, hZ9⟩ := hZ9
                                obtain ⟨hA564, hZ9⟩ := hZ9
                                obtain ⟨hA566, hZ9⟩ := hZ9
                                obtain ⟨b567, hZ9⟩ := hZ9
                                obtain ⟨b568, hZ9⟩ := hZ9
                                obtain ⟨b569, hZ9⟩ := hZ9
                                replace hZ9 := hZ9.2.2.2.2
                                obtain ⟨b574, hZ9⟩ := hZ9
                                obtain ⟨b575, hZ9⟩ := hZ9
                                replace hZ9 := hZ9.2
                                obtain ⟨b577, hZ9⟩ := hZ9
                                obtain ⟨b578, hZ9⟩ := hZ9
                                obtain ⟨b579, hZ9⟩ := hZ9
                                obtain ⟨b580, hZ9⟩ := hZ9
                                obtain ⟨b581, hZ9⟩ := hZ9
                                obtain ⟨b582, hZ9⟩ := hZ9
                                obtain ⟨b583, hZ9⟩ := hZ9
                                replace hZ9 := hZ9.2
                                obtain ⟨b585, hZ9⟩ := hZ9
                                obtain ⟨b586, hZ9⟩ := hZ9
                                replace hZ9 := hZ9.2
                                obtain ⟨-, hE589⟩ := hZ9
                                replace hO545 : u543[134]? = (some (q 134, .inr (14, [.int y546, .ref (q 135), .int y547, .ref (q 136), .ref (q 137), .ref (q 138), .ref (q 139), .ref (q 140), .int y548, .long y549, .int y550, .int y551, .ref (q 141), .int y552, .ref (q 142), .int y553, .ref (q 143), .int y554, .ref (q 144), .int y555, .int y556])) : Option (Nat × va_E)) := hO545
                                replace hA558 : u543[136]? = (some (q 136, .inl (g 0, (10000 : Int32).toNatClampNeg, .inl f557)) : Option (Nat × va_E)) := hA558
                                replace hA560 : u543[137]? = (some (q 137, .inl (g 0, (10 : Int32).toNatClampNeg, .inl f559)) : Option (Nat × va_E)) := hA560
                                replace hA562 : u543[138]? = (some (q 138, .inl (g 3, 10, .inl f561)) : Option (Nat × va_E)) := hA562
                                replace hA564 : u543[139]? = (some (q 139, .inl (g 0, (10 : Int32).toNatClampNeg, .inl f563)) : Option (Nat × va_E)) := hA564
                                replace hA566 : u543[140]? = (some (q 140, .inl (g 0, (4400 : Int32).toNatClampNeg, .inl f565)) : Option (Nat × va_E)) := hA566
                                obtain ⟨p591, e592⟩ : ∃ z, z = (F_DR_store x4 lx39 t0_1 a254 lx68 (0 : Int32) lx150 t0_6 t0_7 t0_8 t0_9 (2 : Int32) t1_0 t2_0 t3_0 t4_0 lx260) := ⟨_, rfl⟩
                                have e593 : y546 = p591.1 := congrArg (fun z => z.1) (hE589.trans e592.symm)
                                have e594 : y547 = p591.2.1 := congrArg (fun z => z.2.1) (hE589.trans e592.symm)
                                have e595 : y548 = p591.2.2.1 := congrArg (fun z => z.2.2.1) (hE589.trans e592.symm)
                                have e596 : y549 = p591.2.2.2.1 := congrArg (fun z => z.2.2.2.1) (hE589.trans e592.symm)
                                have e597 : y550 = p591.2.2.2.2.1 := congrArg (fun z => z.2.2.2.2.1) (hE589.trans e592.symm)
                                have e598 : y551 = p591.2.2.2.2.2.1 := congrArg (fun z => z.2.2.2.2.2.1) (hE589.trans e592.symm)
                                have e599 : y552 = p591.2.2.2.2.2.2.1 := congrArg (fun z => z.2.2.2.2.2.2.1) (hE589.trans e592.symm)
                                have e600 : y553 = p591.2.2.2.2.2.2.2.1 := congrArg (fun z => z.2.2.2.2.2.2.2.1) (hE589.trans e592.symm)
                                have e601 : y554 = p591.2.2.2.2.2.2.2.2.1 := congrArg (fun z => z.2.2.2.2.2.2.2.2.1) (hE589.trans e592.symm)
                                have e602 : y555 = p591.2.2.2.2.2.2.2.2.2.1 := congrArg (fun z => z.2.2.2.2.2.2.2.2.2.1) (hE589.trans e592.symm)
                                have e603 : y556 = p591.2.2.2.2.2.2.2.2.2.2.1 := congrArg (fun z => z.2.2.2.2.2.2.2.2.2.2.1) (hE589.trans e592.symm)
                                have e604 : f557 = p591.2.2.2.2.2.2.2.2.2.2.2.1 := congrArg (fun z => z.2.2.2.2.2.2.2.2.2.2.2.1) (hE589.trans e592.symm)
                                have e605 : f559 = p591.2.2.2.2.2.2.2.2.2.2.2.2.1 := congrArg (fun z => z.2.2.2.2.2.2.2.2.2.2.2.2.1) (hE589.trans e592.symm)
                                have e606 : f561 = p591.2.2.2.2.2.2.2.2.2.2.2.2.2.1 := congrArg (fun z => z.2.2.2.2.2.2.2.2.2.2.2.2.2.1) (hE589.trans e592.symm)
                                have e607 : f563 = p591.2.2.2.2.2.2.2.2.2.2.2.2.2.2.1 := congrArg (fun z => z.2.2.2.2.2.2.2.2.2.2.2.2.2.2.1) (hE589.trans e592.symm)
                                have e608 : f565 = p591.2.2.2.2.2.2.2.2.2.2.2.2.2.2.2 := congrArg (fun z => z.2.2.2.2.2.2.2.2.2.2.2.2.2.2.2) (hE589.trans e592.symm)
                                replace b567 : q_F (0 ≤ y551.toInt) := b567
                                replace b568 : q_F (t0_1.toInt ≤ y547.toInt) := b568
                                replace b569 : q_F (y547.toInt ≤ t0_1.toInt) := b569
                                replace b574 : q_F (0 ≤ y550.toInt) := b574
                                replace b575 : q_F (y550.toInt ≤ 0) := b575
                                replace b577 : q_F (y551.toInt ≤ lx150.toInt) := b577
                                replace b578 : q_F (t0_6.toInt ≤ y552.toInt) := b578
                                replace b579 : q_F (y552.toInt ≤ t0_6.toInt) := b579
                                replace b580 : q_F (t0_7.toInt ≤ y553.toInt) := b580
                                replace b581 : q_F (y553.toInt ≤ t0_7.toInt) := b581
                                replace b582 : q_F (t0_8.toInt ≤ y554.toInt) := b582
                                replace b583 : q_F (y554.toInt ≤ t0_8.toInt) := b583
                                replace b585 : q_F (t0_9.toInt ≤ y555.toInt) := b585
                                replace b586 : q_F (y555.toInt ≤ t0_9.toInt) := b586
                                replace hF := q_uc hF hu590 (by simp)
                                have hR609 := (show F_DR_add_c459_15 (F_DR_add_L296 x2 x3 x4 x5 t0_0 t0_1 t0_2 t0_3 t0_4 t0_5 t0_6 t0_7 t0_8 t0_9 t0_10 t1_0 t2_0 t3_0 t4_0 t5_0 lx39 lx68 lx91 lx114 lx150 lx173 lx188 lx203 lx218 lx236 a254 fm276) x2 x3 x4 x5 t0_0 t0_1 t0_2 t0_3 t0_4 t0_5 t0_6 t0_7 t0_8 t0_9 t0_10 t1_0 t2_0 t3_0 t4_0 t5_0 lx39 lx68 lx91 lx114 lx150 lx173 lx188 lx203 lx218 lx236 a254 lx258 lx259 lx260 p591 = (F_DR_add x2 x3 x4 x5 t0_0 t0_1 t0_2 t0_3 t0_4 t0_5 t0_6 t0_7 t0_8 t0_9 t0_10 t1_0 t2_0 t3_0 t4_0 t5_0) from Eq.trans (by have c293x := c293; rw [e292] at c293x; rw [e592, F_DR_add_L296.eq_2, if_pos c277, if_neg c293x]) hR272)
                                have hS610 := (show True ∧ S_DR_add_c459_15 (S_DR_add_L296 x2 x3 x4 x5 t0_0 t0_1 t0_2 t0_3 t0_4 t0_5 t0_6 t0_7 t0_8 t0_9 t0_10 t1_0 t2_0 t3_0 t4_0 t5_0 lx39 lx68 lx91 lx114 lx150 lx173 lx188 lx203 lx218 lx236 a254 fm276) x2 x3 x4 x5 t0_0 t0_1 t0_2 t0_3 t0_4 t0_5 t0_6 t0_7 t0_8 t0_9 t0_10 t1_0 t2_0 t3_0 t4_0 t5_0 lx39 lx68 lx91 lx114 lx150 lx173 lx188 lx203 lx218 lx236 a254 lx258 lx259 lx260 p591 from (by rw [e592]; have h := hS273; rw [S_DR_add_L296.eq_2] at h; rw [if_pos c277] at h; replace h := q_s2 h; have c293x := c293; rw [e292] at c293x; rw [if_neg c293x] at h; replace h := q_s2 h; with_reducible exact h))
                                exact q_retv C0 V (⟨hI, hF, y546, y547, y548, y549, y550, y551, y552, y553, y554, y555, y556, f557, f559, f561, f563, f565, hO545, hA558, hA560, hA562, hA564, hA566, (show 0 ≤ y550.toInt from (by first | with_reducible exact q_fe b574 | (have t1 : 0 ≤ y550.toInt := b574; omega))), (show 0 ≤ y551.toInt from (by first | with_reducible exact q_fe b567 | (have t1 : 0 ≤ y551.toInt := b567; omega))), (show y551.toInt ≤ 1 from (by have t1 : lx39.toInt ≤ 0 := b57; have t2 : lx150.toInt ≤ lx39.toInt + 1 := i159; have t3 : y551.toInt ≤ lx150.toInt := b577; omega)), (show t0_1.toInt ≤ y547.toInt from (by first | with_reducible exact q_fe b568 | (have t1 : t0_1.toInt ≤ y547.toInt := b568; omega))), (show y547.toInt ≤ t0_1.toInt from (by first | with_reducible exact q_fe b569 | (have t1 : y547.toInt ≤ t0_1.toInt := b569; omega))), (show y550.toInt ≤ t0_4.toInt from (by have t1 : 0 ≤ t0_4.toInt ∧ t0_4.toInt ≤ 1 := btt0_4; have t2 : y550.toInt ≤ 0 := b575; omega)), (show t0_6.toInt ≤ y552.toInt from (by first | with_reducible exact q_fe b578 | (have t1 : t0_6.toInt ≤ y552.toInt := b578; omega))), (show y552.toInt ≤ t0_6.toInt from (by first | with_reducible exact q_fe b579 | (have t1 : y552.toInt ≤ t0_6.toInt := b579; omega))), (show t0_7.toInt ≤ y553.toInt from (by first | with_reducible exact q_fe b580 | (have t1 : t0_7.toInt ≤ y553.toInt := b580; omega))), (show y553.toInt ≤ t0_7.toInt from (by first | with_reducible exact q_fe b581 | (have t1 : y553.toInt ≤ t0_7.toInt := b581; omega))), (show t0_8.toInt ≤ y554.toInt from (by first | with_reducible exact q_fe b582 | (have t1 : t0_8.toInt ≤ y554.toInt := b582; omega))), (show y554.toInt ≤ t0_8.toInt from (by first | with_reducible exact q_fe b583 | (have t1 : y554.toInt ≤ t0_8.toInt := b583; omega))), (show t0_9.toInt ≤ y555.toInt from (by first | with_reducible exact q_fe b585 | (have t1 : t0_9.toInt ≤ y555.toInt := b585; omega))), (show y555.toInt ≤ t0_9.toInt from (by first | with_reducible exact q_fe b586 | (have t1 : y555.toInt ≤ t0_9.toInt := b586; omega))), (show (y546, y547, y548, y549, y550, y551, y552, y553, y554, y555, y556, f557, f559, f561, f563, f565) = (F_DR_add x2 x3 x4 x5 t0_0 t0_1 t0_2 t0_3 t0_4 t0_5 t0_6 t0_7 t0_8 t0_9 t0_10 t1_0 t2_0 t3_0 t4_0 t5_0) from Eq.trans (by rw [e608, e607, e606, e605, e604, e603, e602, e601, e600, e599, e598, e597, e596, e595, e594, e593, F_DR_add_c459_15.eq_1]) hR609)⟩) d_15_26_462
                            ·
                              have b614 : q_F (lx258.toInt < a254.toInt) := (q_nleI c277)
                              refine lv_aload_n hx hb d_15_26_303 rfl (lv_at hl 9 rfl) ?_
                              refine lv_iload hx hb d_15_26_304 (lv_at hl 4 rfl) ?_
                              refine lv_lload hx hb d_15_26_306 (lv_at hl 8 rfl) ?_
                              refine lv_iload hx hb d_15_26_308 (lv_at hl 0 rfl) ?_
                              have ob615 : True ∧ S_DR_figure lx203 lx68 lx258 lx39 t0_1 t0_2 t0_3 t0_4 t0_5 t0_6 t0_7 t0_8 t0_9 (2 : Int32) t1_0 t2_0 t4_0 := (by have h := hS273; rw [S_DR_add_L296.eq_2] at h; rw [if_neg c277] at h; with_reducible exact h.2.1)
                              refine q_goi V (q_runV (As := [.int lx203, .long lx68, .int lx258]) (rest := []) (d := 1) (mc := 0) (ms := 0) (ci := 14) C0 V rfl LV_DR_128 (X_DR_figure l D g q w265  lx203 lx68 lx258 hI lx39 t0_1 t0_2 t0_3 t0_4 t0_5 t0_6 t0_7 t0_8 t0_9 2 hO266 t1_0 hO267 t2_0 hO268 t4_0 hO270 ob615 _) rfl rfl hO266 rfl hl.1 rfl (Nat.le_of_ble_eq_true rfl) ⟨by decide, by decide⟩ ⟨Nat.le_of_ble_eq_true rfl, Nat.le_of_ble_eq_true rfl⟩ d_15_26_310) (fun a618 u616 H locs hp617 V => ?_)
                              obtain ⟨rfl, hE619⟩ := hp617
                              have e620 : a618 = (F_DR_figure lx203 lx68 lx258 lx39 t0_1 t0_2 t0_3 t0_4 t0_5 t0_6 t0_7 t0_8 t0_9 (2 : Int32) t1_0 t2_0 t4_0) := hE619
                              refine lv_iload hx hb d_15_26_313 (lv_at hl 6 rfl) ?_
                              refine q_join (X := Int32) (fun z H locs ls _ => q_Wd D g (va_A ws sz) s w265 H locs ∧ lv_has ls 20 [(18, .int lx258), (17, .int lx259), (16, .int a254), (15, .int lx218), (14, .int lx203), (13, .int lx188), (12, .int lx173), (11, .int lx150), (5, .long lx68), (0, .ref (q 134)), (1, .int x2), (2, .int x3), (3, .int x4)] ∧ F_DR_add_J342 (F_DR_add_L296 x2 x3 x4 x5 t0_0 t0_1 t0_2 t0_3 t0_4 t0_5 t0_6 t0_7 t0_8 t0_9 t0_10 t1_0 t2_0 t3_0 t4_0 t5_0 lx39 lx68 lx91 lx114 lx150 lx173 lx188 lx203 lx218 lx236 a254 fm276) x2 x3 x4 x5 t0_0 t0_1 t0_2 t0_3 t0_4 t0_5 t0_6 t0_7 t0_8 t0_9 t0_10 t1_0 t2_0 t3_0 t4_0 t5_0 lx39 lx68 lx91 lx114 lx150 lx173 lx188 lx203 lx218 lx236 a254 lx258 lx259 lx260 a618 z = (F_DR_add x2 x3 x4 x5 t0_0 t0_1 t0_2 t0_3 t0_4 t0_5 t0_6 t0_7 t0_8 t0_9 t0_10 t1_0 t2_0 t3_0 t4_0 t5_0) ∧ True ∧ S_DR_add_J342 (S_DR_add_L296 x2 x3 x4 x5 t0_0 t0_1 t0_2 t0_3 t0_4 t0_5 t0_6 t0_7 t0_8 t0_9 t0_10 t1_0 t2_0 t3_0 t4_0 t5_0 lx39 lx68 lx91 lx114 lx150 lx173 lx188 lx203 lx218 lx236 a254 fm276) x2 x3 x4 x5 t0_0 t0_1 t0_2 t0_3 t0_4 t0_5 t0_6 t0_7 t0_8 t0_9 t0_10 t1_0 t2_0 t3_0 t4_0 t5_0 lx39 lx68 lx91 lx114 lx150 lx173 lx188 lx203 lx218 lx236 a254 lx258 lx259 lx260 a618 z) (fun z => [.int z, .int a618]) 342 0 0 ?_ ?_
                              ·
                                rintro lx621 H locs ls _ ⟨V, hl, hR629, hS630⟩
                                replace hl : lv_has ls 20 [(18, .int lx258), (17, .int lx259), (16, .int a254), (15, .int lx218), (14, .int lx203), (13, .int lx188), (12, .int lx173), (11, .int lx150), (5, .long lx68), (0, .ref (q 134)), (1, .int x2), (2, .int x3), (3, .int x4)] := hl
                                refine lv_iadd hx hb d_15_26_342 ?_
                                obtain ⟨a634, e635⟩ := q_nm (a618 + lx621 : Int32)
                                refine q_ti (v := a634) e635 ?_
                                refine lv_iload hx hb d_15_26_343 (lv_at hl 1 rfl) ?_
                                refine lv_iadd hx hb d_15_26_345 ?_
                                obtain ⟨a636, e637⟩ := q_nm (a634 + lx259 : Int32)
                                refine q_ti (v := a636) e637 ?_
                                refine lv_istore (lv' := [(19, .int a636), (18, .int lx258), (17, .int lx259), (16, .int a254), (15, .int lx218), (14, .int lx203), (13, .int lx188), (12, .int lx173), (11, .int lx150), (5, .long lx68), (0, .ref (q 134)), (1, .int x2), (2, .int x3), (3, .int x4)]) hx hb d_15_26_346 hl (by decide) rfl (fun ls hl => ?_)
                                refine lv_aload_n hx hb d_15_26_348 rfl (lv_at hl 10 rfl) ?_
                                refine q_get (ci := 14) (j := 7) (v := .ref (q 140)) C0 V i_DR rfl rfl hO266 (by decide) w_2010 rfl d_15_26_349 ?_
                                refine lv_iload hx hb d_15_26_352 (lv_at hl 3 rfl) ?_
                                refine lv_iconst (v := 1) hx hb d_15_26_354 (by decide) ?_
                                refine lv_isub hx hb d_15_26_355 ?_
                                obtain ⟨a638, e639⟩ := q_nm (a254 - 1 : Int32)
                                refine q_ti (v := a638) e639 ?_
                                have b640 : q_F (a638.toInt = a254.toInt - 1) := (by rw [← e639]; show (a254 - 1 : Int32).toInt = a254.toInt - 1; exact q_subI (x := a254.toInt) (y := 1) rfl (by decide) (by have t1 : lx258.toInt < a254.toInt := b614; have _ := q_lo32 (x := lx258); have _ := q_hi32 (x := lx258); have _ := q_lo32 (x := a254); have _ := q_hi32 (x := a254); omega) (by have t1 : lx258.toInt < a254.toInt := b614; have _ := q_lo32 (x := lx258); have _ := q_hi32 (x := lx258); have _ := q_lo32 (x := a254); have _ := q_hi32 (x := a254); omega))
                                refine lv_iload hx hb d_15_26_356 (lv_at hl 1 rfl) ?_
                                refine lv_isub hx hb d_15_26_358 ?_
                                obtain ⟨a641, e642⟩ := q_nm (a638 - lx258 : Int32)
                                refine q_ti (v := a641) e642 ?_
                                have b643 : q_F (a641.toInt = a638.toInt - lx258.toInt) := (by rw [← e642]; show (a638 - lx258 : Int32).toInt = a638.toInt - lx258.toInt; exact q_subI (x := a638.toInt) (y := lx258.toInt) rfl rfl (by have t1 : lx258.toInt < a254.toInt := b614; have t2 : a638.toInt = a254.toInt - 1 := b640; have t3 : 0 ≤ lx39.toInt := i47; have t4 : lx39.toInt ≤ lx258.toInt := i262; have _ := q_lo32 (x := a254); have _ := q_hi32 (x := a254); omega) (by have t1 : lx258.toInt < a254.toInt := b614; have t2 : a638.toInt = a254.toInt - 1 := b640; have t3 : 0 ≤ lx39.toInt := i47; have t4 : lx39.toInt ≤ lx258.toInt := i262; have _ := q_lo32 (x := a254); have _ := q_hi32 (x := a254); omega))
                                refine lv_iload hx hb d_15_26_359 (lv_at hl 0 rfl) ?_
                                refine lv_bipush (v := 10) hx hb d_15_26_361 (by decide) ?_
                                refine lv_iadd hx hb d_15_26_363 ?_
                                obtain ⟨a644, e645⟩ := q_nm (a636 + 10 : Int32)
                                refine q_ti (v := a644) e645 ?_
                                refine lv_bipush (v := 10) hx hb d_15_26_364 (by decide) ?_
                                refine lv_irem hx hb d_15_26_366 (by decide) ?_
                                obtain ⟨a646, e647⟩ := q_nm (a644 - a644 / 10 * 10 : Int32)
                                refine q_ti (v := a646) e647 ?_
                                have ob648 : q_F (a641.toInt ≤ 4399) := (by rw [← e642, ← e639]; have h := hS630; rw [S_DR_add_J342.eq_1] at h; exact h.2.1)
                                refine q_iast C0 V hO271 (q_ix (x := a641.toInt) rfl (by have t1 : lx258.toInt < a254.toInt := b614; have t2 : a638.toInt = a254.toInt - 1 := b640; have t3 : a641.toInt = a638.toInt - lx258.toInt := b643; omega) (by have t1 : lx258.toInt < a254.toInt := b614; have t2 : a638.toInt = a254.toInt - 1 := b640; have t3 : a641.toInt = a638.toInt - lx258.toInt := b643; have t4 : a641.toInt ≤ 4399 := ob648; have e9 : (((4400 : Int32).toNatClampNeg : Nat) : Int) = 4400 := (by decide); omega)) d_15_26_367 (fun H locs w649 hu650 hO271 V => ?_)
                                replace hI := n_ai' hI (n_r140 g q).1 hu650 hO271 (q_updB (fun _ => s_bnd) s_bnd)
                                replace hO266 := (hu650 _ (by decide)).trans hO266
                                replace hO267 := (hu650 _ (by decide)).trans hO267
                                replace hO268 := (hu650 _ (by decide)).trans hO268
                                replace hO269 := (hu650 _ (by decide)).trans hO269
                                replace hO270 := (hu650 _ (by decide)).trans hO270
                                replace hF := q_us hF hu650 (by simp)
                                obtain ⟨f651, e652⟩ := q_nm (upd lx260 a641.toNatClampNeg a646 : (Nat → Int32))
                                rw [e652] at hO271
                                refine lv_iload hx hb d_15_26_368 (lv_at hl 0 rfl) ?_
                                refine lv_if_ge (tgt := 377) hx hb d_15_26_370 (by decide) (fun c653 => ?_) (fun c653 => ?_)
                                ·
                                  have b654 : q_F (0 ≤ a636.toInt) := (q_leI c653)
                                  refine lv_iload hx hb d_15_26_377 (lv_at hl 0 rfl) ?_
                                  refine lv_bipush (v := 10) hx hb d_15_26_379 (by decide) ?_
                                  refine lv_idiv hx hb d_15_26_381 (by decide) ?_
                                  obtain ⟨a655, e656⟩ := q_nm (a636 / 10 : Int32)
                                  refine q_ti (v := a655) e656 ?_
                                  have b657 : q_F (10 * a655.toInt ≤ a636.toInt ∧ a636.toInt ≤ 10 * a655.toInt + 9) := (by rw [← e656]; show 10 * (a636 / 10 : Int32).toInt ≤ a636.toInt ∧ a636.toInt ≤ 10 * (a636 / 10 : Int32).toInt + 9; exact (by have z := q_divI (y := 10) (rfl : a636.toInt = _) (by decide : (10 : Int32).toInt = 10) (by first | with_reducible exact q_fe b654 | (have t1 : 0 ≤ a636.toInt := b654; omega)) (by decide); omega))
                                  refine lv_istore (lv' := [(17, .int a655), (19, .int a636), (18, .int lx258), (16, .int a254), (15, .int lx218), (14, .int lx203), (13, .int lx188), (12, .int lx173), (11, .int lx150), (5, .long lx68), (0, .ref (q 134)), (1, .int x2), (2, .int x3), (3, .int x4)]) hx hb d_15_26_382 hl (by decide) rfl (fun ls hl => ?_)
                                  obtain ⟨a658, e659⟩ := q_nm (lx258 + 1 : Int32)
                                  have b660 : q_F (a658.toInt = lx258.toInt + 1) := (by rw [← e659]; exact q_addI (y := 1) rfl (by decide) (by have _ := q_lo32 (x := lx258); have _ := q_hi32 (x := lx258); have t1 : lx258.toInt < a254.toInt := b614; have _ := q_lo32 (x := a254); have _ := q_hi32 (x := a254); omega) (by have _ := q_lo32 (x := lx258); have _ := q_hi32 (x := lx258); have t1 : lx258.toInt < a254.toInt := b614; have _ := q_lo32 (x := a254); have _ := q_hi32 (x := a254); omega))
                                  refine lv_iinc (v := a658) (lv' := [(18, .int a658), (17, .int a655), (19, .int a636), (16, .int a254), (15, .int lx218), (14, .int lx203), (13, .int lx188), (12, .int lx173), (11, .int lx150), (5, .long lx68), (0, .ref (q 134)), (1, .int x2), (2, .int x3), (3, .int x4)]) hx hb d_15_26_384 hl (k := 2) rfl (e659) (by decide) rfl (fun ls hl => ?_)
                                  refine lv_goto (tgt := 296) hx hb d_15_26_387 (by decide) ?_
                                  exact ih264 ((a658 : Int32), (a655 : Int32), (f651 : (Nat → Int32))) _ _ _ _ (show (a254.toInt - a658.toInt).toNat < (a254.toInt - lx258.toInt).toNat from by have t1 : a658.toInt = lx258.toInt + 1 := b660; have t2 : lx258.toInt < a254.toInt := b614; omega) ⟨(show q_F (0 ≤ a655.toInt + 1) from (show 0 ≤ a655.toInt + 1 from by have t1 : 0 ≤ a636.toInt := b654; have t2 : 10 * a655.toInt ≤ a636.toInt ∧ a636.toInt ≤ 10 * a655.toInt + 9 := b657; omega)), (show q_F (lx39.toInt ≤ a658.toInt) from (show lx39.toInt ≤ a658.toInt from by have t1 : lx39.toInt ≤ lx258.toInt := i262; have t2 : a658.toInt = lx258.toInt + 1 := b660; omega)), (show q_F (0 ≤ a658.toInt + a655.toInt) from (show 0 ≤ a658.toInt + a655.toInt from by have t1 : 0 ≤ lx39.toInt := i47; have t2 : lx39.toInt ≤ lx258.toInt := i262; have t3 : 0 ≤ a636.toInt := b654; have t4 : 10 * a655.toInt ≤ a636.toInt ∧ a636.toInt ≤ 10 * a655.toInt + 9 := b657; have t5 : a658.toInt = lx258.toInt + 1 := b660; omega)), V, q_lw hl (q_lw1 0 rfl (q_lw1 1 rfl (q_lw1 3 rfl (q_lw1 4 rfl (q_lw1 5 rfl (q_lw1 6 rfl (q_lw1 7 rfl (q_lw1 8 rfl (q_lw1 9 rfl (q_lw1 10 rfl (q_lw1 11 rfl (q_lw1 12 rfl (q_lw1 13 rfl q_lw0))))))))))))), hI, hF, hO266, hO267, hO268, hO269, hO270, hO271, ⟨fm276, Nat.lt_of_lt_of_le (show (a254.toInt - a658.toInt).toNat < (a254.toInt - lx258.toInt).toNat from by have t1 : a658.toInt = lx258.toInt + 1 := b660; have t2 : lx258.toInt < a254.toInt := b614; omega) (Nat.le_of_lt_succ hf275), (show F_DR_add_L296 x2 x3 x4 x5 t0_0 t0_1 t0_2 t0_3 t0_4 t0_5 t0_6 t0_7 t0_8 t0_9 t0_10 t1_0 t2_0 t3_0 t4_0 t5_0 lx39 lx68 lx91 lx114 lx150 lx173 lx188 lx203 lx218 lx236 a254 fm276 a658 a655 f651 = (F_DR_add x2 x3 x4 x5 t0_0 t0_1 t0_2 t0_3 t0_4 t0_5 t0_6 t0_7 t0_8 t0_9 t0_10 t1_0 t2_0 t3_0 t4_0 t5_0) from Eq.trans (by have c653x := c653; rw [← e637, ← e635] at c653x; rw [← e659, ← e656, ← e652, ← e647, ← e645, ← e642, ← e639, ← e637, ← e635, F_DR_add_J342.eq_1, if_pos c653x]) hR629), (show True ∧ S_DR_add_L296 x2 x3 x4 x5 t0_0 t0_1 t0_2 t0_3 t0_4 t0_5 t0_6 t0_7 t0_8 t0_9 t0_10 t1_0 t2_0 t3_0 t4_0 t5_0 lx39 lx68 lx91 lx114 lx150 lx173 lx188 lx203 lx218 lx236 a254 fm276 a658 a655 f651 from (by rw [← e659, ← e656, ← e652, ← e647, ← e645, ← e642, ← e639, ← e637, ← e635]; have h := hS630; rw [S_DR_add_J342.eq_1] at h; replace h := q_s2 h; have c653x := c653; rw [← e637, ← e635] at c653x; rw [if_pos c653x] at h; with_reducible exact h))⟩⟩
                                ·
                                  refine lv_iconst (v := (-1)) hx hb d_15_26_373 (by decide) ?_
                                  refine lv_goto (tgt := 382) hx hb d_15_26_374 (by decide) ?_
                                  refine lv_istore (lv' := [(17, .int (-1)), (19, .int a636), (18, .int lx258), (16, .int a254), (15, .int lx218), (14, .int lx203), (13, .int lx188), (12, .int lx173), (11, .int lx150), (5, .long lx68), (0, .ref (q 134)), (1, .int x2), (2, .int x3), (3, .int x4)]) hx hb d_15_26_382 hl (by decide) rfl (fun ls hl => ?_)
                                  obtain ⟨a662, e663⟩ := q_nm (lx258 + 1 : Int32)
                                  have b664 : q_F (a662.toInt = lx258.toInt + 1) := (by rw [← e663]; exact q_addI (y := 1) rfl (by decide) (by have _ := q_lo32 (x := lx258); have _ := q_hi32 (x := lx258); have t1 : lx258.toInt < a254.toInt := b614; have _ := q_lo32 (x := a254); have _ := q_hi32 (x := a254); omega) (by have _ := q_lo32 (x := lx258); have _ := q_hi32 (x := lx258); have t1 : lx258.toInt < a254.toInt := b614; have _ := q_lo32 (x := a254); have _ := q_hi32 (x := a254); omega))
                                  refine lv_iinc (v := a662) (lv' := [(18, .int a662), (17, .int (-1)), (19, .int a636), (16, .int a254), (15, .int lx218), (14, .int lx203), (13, .int lx188), (12, .int lx173), (11, .int lx150), (5, .long lx68), (0, .ref (q 134)), (1, .int x2), (2, .int x3), (3, .int x4)]) hx hb d_15_26_384 hl (k := 2) rfl (e663) (by decide) rfl (fun ls hl => ?_)
                                  refine lv_goto (tgt := 296) hx hb d_15_26_387 (by decide) ?_
                                  exact ih264 ((a662 : Int32), ((-1) : Int32), (f651 : (Nat → Int32))) _ _ _ _ (show (a254.toInt - a662.toInt).toNat < (a254.toInt - lx258.toInt).toNat from by have t1 : a662.toInt = lx258.toInt + 1 := b664; have t2 : lx258.toInt < a254.toInt := b614; omega) ⟨(show q_F (0 ≤ (-1) + 1) from (show 0 ≤ (-1) + 1 from by omega)), (show q_F (lx39.toInt ≤ a662.toInt) from (show lx39.toInt ≤ a662.toInt from by have t1 : lx39.toInt ≤ lx258.toInt := i262; have t2 : a662.toInt = lx258.toInt + 1 := b664; omega)), (show q_F (0 ≤ a662.toInt + (-1)) from (show 0 ≤ a662.toInt + (-1) from by have t1 : 0 ≤ lx39.toInt := i47; have t2 : lx39.toInt ≤ lx258.toInt := i262; have t3 : a662.toInt = lx258.toInt + 1 := b664; omega)), V, q_lw hl (q_lw1 0 rfl (q_lw1 1 rfl (q_lw1 3 rfl (q_lw1 4 rfl (q_lw1 5 rfl (q_lw1 6 rfl (q_lw1 7 rfl (q_lw1 8 rfl (q_lw1 9 rfl (q_lw1 10 rfl (q_lw1 11 rfl (q_lw1 12 rfl (q_lw1 13 rfl q_lw0))))))))))))), hI, hF, hO266, hO267, hO268, hO269, hO270, hO271, ⟨fm276, Nat.lt_of_lt_of_le (show (a254.toInt - a662.toInt).toNat < (a254.toInt - lx258.toInt).toNat from by have t1 : a662.toInt = lx258.toInt + 1 := b664; have t2 : lx258.toInt < a254.toInt := b614; omega) (Nat.le_of_lt_succ hf275), (show F_DR_add_L296 x2 x3 x4 x5 t0_0 t0_1 t0_2 t0_3 t0_4 t0_5 t0_6 t0_7 t0_8 t0_9 t0_10 t1_0 t2_0 t3_0 t4_0 t5_0 lx39 lx68 lx91 lx114 lx150 lx173 lx188 lx203 lx218 lx236 a254 fm276 a662 (-1) f651 = (F_DR_add x2 x3 x4 x5 t0_0 t0_1 t0_2 t0_3 t0_4 t0_5 t0_6 t0_7 t0_8 t0_9 t0_10 t1_0 t2_0 t3_0 t4_0 t5_0) from Eq.trans (by have c653x := c653; rw [← e637, ← e635] at c653x; rw [← e663, ← e652, ← e647, ← e645, ← e642, ← e639, ← e637, ← e635, F_DR_add_J342.eq_1, if_neg c653x]) hR629), (show True ∧ S_DR_add_L296 x2 x3 x4 x5 t0_0 t0_1 t0_2 t0_3 t0_4 t0_5 t0_6 t0_7 t0_8 t0_9 t0_10 t1_0 t2_0 t3_0 t4_0 t5_0 lx39 lx68 lx91 lx114 lx150 lx173 lx188 lx203 lx218 lx236 a254 fm276 a662 (-1) f651 from (by rw [← e663, ← e652, ← e647, ← e645, ← e642, ← e639, ← e637, ← e635]; have h := hS630; rw [S_DR_add_J342.eq_1] at h; replace h := q_s2 h; have c653x := c653; rw [← e637, ← e635] at c653x; rw [if_neg c653x] at h; with_reducible exact h))⟩⟩
                              ·
                                intro J628
                                refine lv_if_eq (tgt := 331) hx hb d_15_26_315 (by decide) (fun c665 => ?_) (fun c665 => ?_)
                                ·
                                  refine lv_aload_n hx hb d_15_26_331 rfl (lv_at hl 9 rfl) ?_
                                  refine lv_iload hx hb d_15_26_332 (lv_at hl 3 rfl) ?_
                                  refine lv_lload hx hb d_15_26_334 (lv_at hl 8 rfl) ?_
                                  refine lv_iload hx hb d_15_26_336 (lv_at hl 0 rfl) ?_
                                  have ob667 : True ∧ S_DR_figure lx218 lx68 lx258 lx39 t0_1 t0_2 t0_3 t0_4 t0_5 t0_6 t0_7 t0_8 t0_9 (2 : Int32) t1_0 t2_0 t4_0 := (by have h := hS273; rw [S_DR_add_L296.eq_2] at h; rw [if_neg c277] at h; replace h := q_s2 h; rw [if_pos c665] at h; with_reducible exact h.2.1)
                                  refine q_goi V (q_runV (As := [.int lx218, .long lx68, .int lx258]) (rest := [.int a618]) (d := 1) (mc := 0) (ms := 0) (ci := 14) C0 V rfl LV_DR_128 (X_DR_figure l D g q w265  lx218 lx68 lx258 hI lx39 t0_1 t0_2 t0_3 t0_4 t0_5 t0_6 t0_7 t0_8 t0_9 2 hO266 t1_0 hO267 t2_0 hO268 t4_0 hO270 ob667 _) rfl rfl hO266 rfl hl.1 rfl (Nat.le_of_ble_eq_true rfl) ⟨by decide, by decide⟩ ⟨Nat.le_of_ble_eq_true rfl, Nat.le_of_ble_eq_true rfl⟩ d_15_26_338) (fun a670 u668 H locs hp669 V => ?_)
                                  obtain ⟨rfl, hE671⟩ := hp669
                                  have e672 : a670 = (F_DR_figure lx218 lx68 lx258 lx39 t0_1 t0_2 t0_3 t0_4 t0_5 t0_6 t0_7 t0_8 t0_9 (2 : Int32) t1_0 t2_0 t4_0) := hE671
                                  refine lv_ineg hx hb d_15_26_341 ?_
                                  obtain ⟨a673, e674⟩ := q_nm (-a670 : Int32)
                                  refine q_ti (v := a673) e674 ?_
                                  exact J628 ((a673 : Int32)) _ _ _ w265 ⟨V, q_lw hl (q_lw1 0 rfl (q_lw1 1 rfl (q_lw1 2 rfl (q_lw1 3 rfl (q_lw1 4 rfl (q_lw1 5 rfl (q_lw1 6 rfl (q_lw1 7 rfl (q_lw1 8 rfl (q_lw1 9 rfl (q_lw1 10 rfl (q_lw1 11 rfl (q_lw1 12 rfl q_lw0))))))))))))), (show F_DR_add_J342 (F_DR_add_L296 x2 x3 x4 x5 t0_0 t0_1 t0_2 t0_3 t0_4 t0_5 t0_6 t0_7 t0_8 t0_9 t0_10 t1_0 t2_0 t3_0 t4_0 t5_0 lx39 lx68 lx91 lx114 lx150 lx173 lx188 lx203 lx218 lx236 a254 fm276) x2 x3 x4 x5 t0_0 t0_1 t0_2 t0_3 t0_4 t0_5 t0_6 t0_7 t0_8 t0_9 t0_10 t1_0 t2_0 t3_0 t4_0 t5_0 lx39 lx68 lx91 lx114 lx150 lx173 lx188 lx203 lx218 lx236 a254 lx258 lx259 lx260 a618 a673 = (F_DR_add x2 x3 x4 x5 t0_0 t0_1 t0_2 t0_3 t0_4 t0_5 t0_6 t0_7 t0_8 t0_9 t0_10 t1_0 t2_0 t3_0 t4_0 t5_0) from Eq.trans (by rw [← e674, e672, e620, F_DR_add_L296.eq_2, if_neg c277, if_pos c665]) hR272), (show True ∧ S_DR_add_J342 (S_DR_add_L296 x2 x3 x4 x5 t0_0 t0_1 t0_2 t0_3 t0_4 t0_5 t0_6 t0_7 t0_8 t0_9 t0_10 t1_0 t2_0 t3_0 t4_0 t5_0 lx39 lx68 lx91 lx114 lx150 lx173 lx188 lx203 lx218 lx236 a254 fm276) x2 x3 x4 x5 t0_0 t0_1 t0_2 t0_3 t0_4 t0_5 t0_6 t0_7 t0_8 t0_9 t0_10 t1_0 t2_0 t3_0 t4_0 t5_0 lx39 lx68 lx91 lx114 lx150 lx173 lx188 lx203 lx218 lx236 a254 lx258 lx259 lx260 a618 a673 from (by rw [← e674, e672, e620]; have h := hS273; rw [S_DR_add_L296.eq_2] at h; rw [if_neg c277] at h; replace h := q_s2 h; rw [if_pos c665] at h; replace h := q_s2 h; with_reducible exact h))⟩
                                ·
                                  refine lv_aload_n hx hb d_15_26_318 rfl (lv_at hl 9 rfl) ?_
                                  refine lv_iload hx hb d_15_26_319 (lv_at hl 3 rfl) ?_
                                  refine lv_lload hx hb d_15_26_321 (lv_at hl 8 rfl) ?_
                                  refine lv_iload hx hb d_15_26_323 (lv_at hl 0 rfl) ?_
                                  have ob676 : True ∧ S_DR_figure lx218 lx68 lx258 lx39 t0_1 t0_2 t0_3 t0_4 t0_5 t0_6 t0_7 t0_8 t0_9 (2 : Int32) t1_0 t2_0 t4_0 := (by have h := hS273; rw [S_DR_add_L296.eq_2] at h; rw [if_neg c277] at h; replace h := q_s2 h; rw [if_neg c665] at h; with_reducible exact h.2.1)
                                  refine q_goi V (q_runV (As := [.int lx218, .long lx68, .int lx258]) (rest := [.int a618]) (d := 1) (mc := 0) (ms := 0) (ci := 14) C0 V rfl LV_DR_128 (X_DR_figure l D g q w265  lx218 lx68 lx258 hI lx39 t0_1 t0_2 t0_3 t0_4 t0_5 t0_6 t0_7 t0_8 t0_9 2 hO266 t1_0 hO267 t2_0 hO268 t4_0 hO270 ob676 _) rfl rfl hO266 rfl hl.1 rfl (Nat.le_of_ble_eq_true rfl) ⟨by decide, by decide⟩ ⟨Nat.le_of_ble_eq_true rfl, Nat.le_of_ble_eq_true rfl⟩ d_15_26_325) (fun a679 u677 H locs hp678 V => ?_)
                                  obtain ⟨rfl, hE680⟩ := hp678
                                  have e681 : a679 = (F_DR_figure lx218 lx68 lx258 lx39 t0_1 t0_2 t0_3 t0_4 t0_5 t0_6 t0_7 t0_8 t0_9 (2 : Int32) t1_0 t2_0 t4_0) := hE680
                                  refine lv_goto (tgt := 342) hx hb d_15_26_328 (by decide) ?_
                                  exact J628 ((a679 : Int32)) _ _ _ w265 ⟨V, q_lw hl (q_lw1 0 rfl (q_lw1 1 rfl (q_lw1 2 rfl (q_lw1 3 rfl (q_lw1 4 rfl (q_lw1 5 rfl (q_lw1 6 rfl (q_lw1 7 rfl (q_lw1 8 rfl (q_lw1 9 rfl (q_lw1 10 rfl (q_lw1 11 rfl (q_lw1 12 rfl q_lw0))))))))))))), (show F_DR_add_J342 (F_DR_add_L296 x2 x3 x4 x5 t0_0 t0_1 t0_2 t0_3 t0_4 t0_5 t0_6 t0_7 t0_8 t0_9 t0_10 t1_0 t2_0 t3_0 t4_0 t5_0 lx39 lx68 lx91 lx114 lx150 lx173 lx188 lx203 lx218 lx236 a254 fm276) x2 x3 x4 x5 t0_0 t0_1 t0_2 t0_3 t0_4 t0_5 t0_6 t0_7 t0_8 t0_9 t0_10 t1_0 t2_0 t3_0 t4_0 t5_0 lx39 lx68 lx91 lx114 lx150 lx173 lx188 lx203 lx218 lx236 a254 lx258 lx259 lx260 a618 a679 = (F_DR_add x2 x3 x4 x5 t0_0 t0_1 t0_2 t0_3 t0_4 t0_5 t0_6 t0_7 t0_8 t0_9 t0_10 t1_0 t2_0 t3_0 t4_0 t5_0) from Eq.trans (by rw [e681, e620, F_DR_add_L296.eq_2, if_neg c277, if_neg c665]) hR272), (show True ∧ S_DR_add_J342 (S_DR_add_L296 x2 x3 x4 x5 t0_0 t0_1 t0_2 t0_3 t0_4 t0_5 t0_6 t0_7 t0_8 t0_9 t0_10 t1_0 t2_0 t3_0 t4_0 t5_0 lx39 lx68 lx91 lx114 lx150 lx173 lx188 lx203 lx218 lx236 a254 fm276) x2 x3 x4 x5 t0_0 t0_1 t0_2 t0_3 t0_4 t0_5 t0_6 t0_7 t0_8 t0_9 t0_10 t1_0 t2_0 t3_0 t4_0 t5_0 lx39 lx68 lx91 lx114 lx150 lx173 lx188 lx203 lx218 lx236 a254 lx258 lx259 lx260 a618 a679 from (by rw [e681, e620]; have h := hS273; rw [S_DR_add_L296.eq_2] at h; rw [if_neg c277] at h; replace h := q_s2 h; rw [if_neg c665] at h; replace h := q_s2 h; with_reducible exact h))⟩
                          ·
                            intro J243
                            refine lv_if_le (tgt := 283) hx hb d_15_26_275 (by decide) (fun c682 => ?_) (fun c682 => ?_)
                            ·
                              have b683 : q_F (a233.toInt ≤ 0) := (q_leI c682)
                              refine lv_lload hx hb d_15_26_283 (lv_at hl 5 rfl) ?_
                              exact J243 ((lx114 : Int64)) _ _ _ w58 ⟨(show q_F (lx114.toInt ≤ lx114.toInt) from (show lx114.toInt ≤ lx114.toInt from by omega)), (show q_F (lx91.toInt ≤ lx114.toInt) from (show lx91.toInt ≤ lx114.toInt from by have t1 : -1 ≤ a233.toInt ∧ a233.toInt ≤ 1 ∧ ((a233.toInt = -1 ∧ lx91.toInt < lx114.toInt) ∨ (a233.toInt = 0 ∧ lx91.toInt = lx114.toInt) ∨ (a233.toInt = 1 ∧ lx114.toInt < lx91.toInt)) := b235; have t2 : a233.toInt ≤ 0 := b683; omega)), (show q_F (lx114.toInt ≤ lx39.toInt + 1001) from (show lx114.toInt ≤ lx39.toInt + 1001 from by have t1 : 0 ≤ lx39.toInt := i47; have t2 : -1 ≤ a137.toInt ∧ a137.toInt ≤ 1 ∧ ((a137.toInt = -1 ∧ lx114.toInt < 1001) ∨ (a137.toInt = 0 ∧ lx114.toInt = 1001) ∨ (a137.toInt = 1 ∧ 1001 < lx114.toInt)) := b139; have t3 : a137.toInt ≤ 0 := b141; omega)), V, q_lw hl (q_lw1 0 rfl (q_lw1 1 rfl (q_lw1 2 rfl (q_lw1 3 rfl (q_lw1 4 rfl (q_lw1 7 rfl (q_lw1 8 rfl (q_lw1 9 rfl (q_lw1 10 rfl (q_lw1 11 rfl q_lw0)))))))))), (show F_DR_add_J285 x2 x3 x4 x5 t0_0 t0_1 t0_2 t0_3 t0_4 t0_5 t0_6 t0_7 t0_8 t0_9 t0_10 t1_0 t2_0 t3_0 t4_0 t5_0 lx39 lx68 lx91 lx114 lx150 lx173 lx188 lx203 lx218 lx114 = (F_DR_add x2 x3 x4 x5 t0_0 t0_1 t0_2 t0_3 t0_4 t0_5 t0_6 t0_7 t0_8 t0_9 t0_10 t1_0 t2_0 t3_0 t4_0 t5_0) from Eq.trans (by have c682x := c682; rw [← e234] at c682x; rw [F_DR_add_J268.eq_1, if_pos c682x]) hR228), (show True ∧ S_DR_add_J285 x2 x3 x4 x5 t0_0 t0_1 t0_2 t0_3 t0_4 t0_5 t0_6 t0_7 t0_8 t0_9 t0_10 t1_0 t2_0 t3_0 t4_0 t5_0 lx39 lx68 lx91 lx114 lx150 lx173 lx188 lx203 lx218 lx114 from (by have h := hS229; rw [S_DR_add_J268.eq_1] at h; have c682x := c682; rw [← e234] at c682x; rw [if_pos c682x] at h; with_reducible exact h))⟩
                            ·
                              have b684 : q_F (0 < a233.toInt) := (q_nleI c682)
                              refine lv_lload hx hb d_15_26_278 (lv_at hl 6 rfl) ?_
                              refine lv_goto (tgt := 285) hx hb d_15_26_280 (by decide) ?_
                              exact J243 ((lx91 : Int64)) _ _ _ w58 ⟨(show q_F (lx114.toInt ≤ lx91.toInt) from (show lx114.toInt ≤ lx91.toInt from by have t1 : -1 ≤ a233.toInt ∧ a233.toInt ≤ 1 ∧ ((a233.toInt = -1 ∧ lx91.toInt < lx114.toInt) ∨ (a233.toInt = 0 ∧ lx91.toInt = lx114.toInt) ∨ (a233.toInt = 1 ∧ lx114.toInt < lx91.toInt)) := b235; have t2 : 0 < a233.toInt := b684; omega)), (show q_F (lx91.toInt ≤ lx91.toInt) from (show lx91.toInt ≤ lx91.toInt from by omega)), (show q_F (lx91.toInt ≤ lx39.toInt + 1001) from (show lx91.toInt ≤ lx39.toInt + 1001 from by have t1 : 0 ≤ lx39.toInt := i47; have t2 : -1 ≤ a129.toInt ∧ a129.toInt ≤ 1 ∧ ((a129.toInt = -1 ∧ lx91.toInt < 1001) ∨ (a129.toInt = 0 ∧ lx91.toInt = 1001) ∨ (a129.toInt = 1 ∧ 1001 < lx91.toInt)) := b131; have t3 : a129.toInt ≤ 0 := b136; omega)), V, q_lw hl (q_lw1 0 rfl (q_lw1 1 rfl (q_lw1 2 rfl (q_lw1 3 rfl (q_lw1 4 rfl (q_lw1 7 rfl (q_lw1 8 rfl (q_lw1 9 rfl (q_lw1 10 rfl (q_lw1 11 rfl q_lw0)))))))))), (show F_DR_add_J285 x2 x3 x4 x5 t0_0 t0_1 t0_2 t0_3 t0_4 t0_5 t0_6 t0_7 t0_8 t0_9 t0_10 t1_0 t2_0 t3_0 t4_0 t5_0 lx39 lx68 lx91 lx114 lx150 lx173 lx188 lx203 lx218 lx91 = (F_DR_add x2 x3 x4 x5 t0_0 t0_1 t0_2 t0_3 t0_4 t0_5 t0_6 t0_7 t0_8 t0_9 t0_10 t1_0 t2_0 t3_0 t4_0 t5_0) from Eq.trans (by have c682x := c682; rw [← e234] at c682x; rw [F_DR_add_J268.eq_1, if_neg c682x]) hR228), (show True ∧ S_DR_add_J285 x2 x3 x4 x5 t0_0 t0_1 t0_2 t0_3 t0_4 t0_5 t0_6 t0_7 t0_8 t0_9 t0_10 t1_0 t2_0 t3_0 t4_0 t5_0 lx39 lx68 lx91 lx114 lx150 lx173 lx188 lx203 lx218 lx91 from (by have h := hS229; rw [S_DR_add_J268.eq_1] at h; have c682x := c682; rw [← e234] at c682x; rw [if_neg c682x] at h; with_reducible exact h))⟩
                        ·
                          intro J225
                          refine lv_if_eq (tgt := 267) hx hb d_15_26_260 (by decide) (fun c685 => ?_) (fun c685 => ?_)
                          ·
                            refine lv_iload_n hx hb d_15_26_267 rfl (lv_at hl 9 rfl) ?_
                            exact J225 ((x3 : Int32)) _ _ _ w58 ⟨(show q_F (lx39.toInt ≤ x3.toInt) from (show lx39.toInt ≤ x3.toInt from by have t1 : lx39.toInt ≤ 0 := b57; have t2 : 0 ≤ x3.toInt := ob64; omega)), (show q_F (x3.toInt ≤ lx39.toInt + 9) from (show x3.toInt ≤ lx39.toInt + 9 from by have t1 : 0 ≤ lx39.toInt := i47; have t2 : x3.toInt ≤ 9 := ob65; omega)), V, q_lw hl (q_lw1 0 rfl (q_lw1 1 rfl (q_lw1 2 rfl (q_lw1 3 rfl (q_lw1 4 rfl (q_lw1 5 rfl (q_lw1 6 rfl (q_lw1 7 rfl (q_lw1 8 rfl (q_lw1 9 rfl (q_lw1 10 rfl q_lw0))))))))))), (show F_DR_add_J268 x2 x3 x4 x5 t0_0 t0_1 t0_2 t0_3 t0_4 t0_5 t0_6 t0_7 t0_8 t0_9 t0_10 t1_0 t2_0 t3_0 t4_0 t5_0 lx39 lx68 lx91 lx114 lx150 lx173 lx188 lx203 x3 = (F_DR_add x2 x3 x4 x5 t0_0 t0_1 t0_2 t0_3 t0_4 t0_5 t0_6 t0_7 t0_8 t0_9 t0_10 t1_0 t2_0 t3_0 t4_0 t5_0) from Eq.trans (by rw [F_DR_add_J256.eq_1, if_pos c685]) hR213), (show True ∧ S_DR_add_J268 x2 x3 x4 x5 t0_0 t0_1 t0_2 t0_3 t0_4 t0_5 t0_6 t0_7 t0_8 t0_9 t0_10 t1_0 t2_0 t3_0 t4_0 t5_0 lx39 lx68 lx91 lx114 lx150 lx173 lx188 lx203 x3 from (by have h := hS214; rw [S_DR_add_J256.eq_1] at h; rw [if_pos c685] at h; with_reducible exact h))⟩
                          ·
                            refine lv_iload_n hx hb d_15_26_263 rfl (lv_at hl 8 rfl) ?_
                            refine lv_goto (tgt := 268) hx hb d_15_26_264 (by decide) ?_
                            exact J225 ((x2 : Int32)) _ _ _ w58 ⟨(show q_F (lx39.toInt ≤ x2.toInt) from (show lx39.toInt ≤ x2.toInt from by have t1 : lx39.toInt ≤ 0 := b57; have t2 : 0 ≤ x2.toInt := ob60; omega)), (show q_F (x2.toInt ≤ lx39.toInt + 9) from (show x2.toInt ≤ lx39.toInt + 9 from by have t1 : 0 ≤ lx39.toInt := i47; have t2 : x2.toInt ≤ 9 := ob61; omega)), V, q_lw hl (q_lw1 0 rfl (q_lw1 1 rfl (q_lw1 2 rfl (q_lw1 3 rfl (q_lw1 4 rfl (q_lw1 5 rfl (q_lw1 6 rfl (q_lw1 7 rfl (q_lw1 8 rfl (q_lw1 9 rfl (q_lw1 10 rfl q_lw0))))))))))), (show F_DR_add_J268 x2 x3 x4 x5 t0_0 t0_1 t0_2 t0_3 t0_4 t0_5 t0_6 t0_7 t0_8 t0_9 t0_10 t1_0 t2_0 t3_0 t4_0 t5_0 lx39 lx68 lx91 lx114 lx150 lx173 lx188 lx203 x2 = (F_DR_add x2 x3 x4 x5 t0_0 t0_1 t0_2 t0_3 t0_4 t0_5 t0_6 t0_7 t0_8 t0_9 t0_10 t1_0 t2_0 t3_0 t4_0 t5_0) from Eq.trans (by rw [F_DR_add_J256.eq_1, if_neg c685]) hR213), (show True ∧ S_DR_add_J268 x2 x3 x4 x5 t0_0 t0_1 t0_2 t0_3 t0_4 t0_5 t0_6 t0_7 t0_8 t0_9 t0_10 t1_0 t2_0 t3_0 t4_0 t5_0 lx39 lx68 lx91 lx114 lx150 lx173 lx188 lx203 x2 from (by have h := hS214; rw [S_DR_add_J256.eq_1] at h; rw [if_neg c685] at h; with_reducible exact h))⟩
                      ·
                        intro J210
                        refine lv_if_eq (tgt := 255) hx hb d_15_26_248 (by decide) (fun c688 => ?_) (fun c688 => ?_)
                        ·
                          refine lv_iload_n hx hb d_15_26_255 rfl (lv_at hl 7 rfl) ?_
                          exact J210 ((x2 : Int32)) _ _ _ w58 ⟨(show q_F (lx39.toInt ≤ x2.toInt) from (show lx39.toInt ≤ x2.toInt from by have t1 : lx39.toInt ≤ 0 := b57; have t2 : 0 ≤ x2.toInt := ob60; omega)), (show q_F (x2.toInt ≤ lx39.toInt + 9) from (show x2.toInt ≤ lx39.toInt + 9 from by have t1 : 0 ≤ lx39.toInt := i47; have t2 : x2.toInt ≤ 9 := ob61; omega)), V, q_lw hl (q_lw1 0 rfl (q_lw1 1 rfl (q_lw1 2 rfl (q_lw1 3 rfl (q_lw1 4 rfl (q_lw1 5 rfl (q_lw1 6 rfl (q_lw1 7 rfl (q_lw1 8 rfl (q_lw1 9 rfl q_lw0)))))))))), (show F_DR_add_J256 x2 x3 x4 x5 t0_0 t0_1 t0_2 t0_3 t0_4 t0_5 t0_6 t0_7 t0_8 t0_9 t0_10 t1_0 t2_0 t3_0 t4_0 t5_0 lx39 lx68 lx91 lx114 lx150 lx173 lx188 x2 = (F_DR_add x2 x3 x4 x5 t0_0 t0_1 t0_2 t0_3 t0_4 t0_5 t0_6 t0_7 t0_8 t0_9 t0_10 t1_0 t2_0 t3_0 t4_0 t5_0) from Eq.trans (by rw [F_DR_add_J244.eq_1, if_pos c688]) hR198), (show True ∧ S_DR_add_J256 x2 x3 x4 x5 t0_0 t0_1 t0_2 t0_3 t0_4 t0_5 t0_6 t0_7 t0_8 t0_9 t0_10 t1_0 t2_0 t3_0 t4_0 t5_0 lx39 lx68 lx91 lx114 lx150 lx173 lx188 x2 from (by have h := hS199; rw [S_DR_add_J244.eq_1] at h; rw [if_pos c688] at h; with_reducible exact h))⟩
                        ·
                          refine lv_iload_n hx hb d_15_26_251 rfl (lv_at hl 8 rfl) ?_
                          refine lv_goto (tgt := 256) hx hb d_15_26_252 (by decide) ?_
                          exact J210 ((x3 : Int32)) _ _ _ w58 ⟨(show q_F (lx39.toInt ≤ x3.toInt) from (show lx39.toInt ≤ x3.toInt from by have t1 : lx39.toInt ≤ 0 := b57; have t2 : 0 ≤ x3.toInt := ob64; omega)), (show q_F (x3.toInt ≤ lx39.toInt + 9) from (show x3.toInt ≤ lx39.toInt + 9 from by have t1 : 0 ≤ lx39.toInt := i47; have t2 : x3.toInt ≤ 9 := ob65; omega)), V, q_lw hl (q_lw1 0 rfl (q_lw1 1 rfl (q_lw1 2 rfl (q_lw1 3 rfl (q_lw1 4 rfl (q_lw1 5 rfl (q_lw1 6 rfl (q_lw1 7 rfl (q_lw1 8 rfl (q_lw1 9 rfl q_lw0)))))))))), (show F_DR_add_J256 x2 x3 x4 x5 t0_0 t0_1 t0_2 t0_3 t0_4 t0_5 t0_6 t0_7 t0_8 t0_9 t0_10 t1_0 t2_0 t3_0 t4_0 t5_0 lx39 lx68 lx91 lx114 lx150 lx173 lx188 x3 = (F_DR_add x2 x3 x4 x5 t0_0 t0_1 t0_2 t0_3 t0_4 t0_5 t0_6 t0_7 t0_8 t0_9 t0_10 t1_0 t2_0 t3_0 t4_0 t5_0) from Eq.trans (by rw [F_DR_add_J244.eq_1, if_neg c688]) hR198), (show True ∧ S_DR_add_J256 x2 x3 x4 x5 t0_0 t0_1 t0_2 t0_3 t0_4 t0_5 t0_6 t0_7 t0_8 t0_9 t0_10 t1_0 t2_0 t3_0 t4_0 t5_0 lx39 lx68 lx91 lx114 lx150 lx173 lx188 x3 from (by have h := hS199; rw [S_DR_add_J244.eq_1] at h; rw [if_neg c688] at h; with_reducible exact h))⟩
                    ·
                      intro J195
                      refine q_join (X := Unit) (fun z H locs ls _ => q_Wd D g (va_A ws sz) s w58 H locs ∧ lv_has ls 20 [(12, .int lx173), (11, .int lx150), (9, .long lx114), (7, .long lx91), (5, .long lx68), (0, .ref (q 134)), (1, .int x2), (2, .int x3), (3, .int x4)] ∧ F_DR_add_J243 x2 x3 x4 x5 t0_0 t0_1 t0_2 t0_3 t0_4 t0_5 t0_6 t0_7 t0_8 t0_9 t0_10 t1_0 t2_0 t3_0 t4_0 t5_0 lx39 lx68 lx91 lx114 lx150 lx173 = (F_DR_add x2 x3 x4 x5 t0_0 t0_1 t0_2 t0_3 t0_4 t0_5 t0_6 t0_7 t0_8 t0_9 t0_10 t1_0 t2_0 t3_0 t4_0 t5_0) ∧ True ∧ S_DR_add_J243 x2 x3 x4 x5 t0_0 t0_1 t0_2 t0_3 t0_4 t0_5 t0_6 t0_7 t0_8 t0_9 t0_10 t1_0 t2_0 t3_0 t4_0 t5_0 lx39 lx68 lx91 lx114 lx150 lx173) (fun z => []) 243 0 0 ?_ ?_
                      ·
                        rintro _ H locs ls _ ⟨V, hl, hR698, hS699⟩
                        replace hl : lv_has ls 20 [(12, .int lx173), (11, .int lx150), (9, .long lx114), (7, .long lx91), (5, .long lx68), (0, .ref (q 134)), (1, .int x2), (2, .int x3), (3, .int x4)] := hl
                        refine lv_iconst (v := 0) hx hb d_15_26_243 (by decide) ?_
                        exact J195 ((0 : Int32)) _ _ _ w58 ⟨(show q_F (lx39.toInt ≤ 0) from (show lx39.toInt ≤ 0 from by have t1 : lx39.toInt ≤ 0 := b57; omega)), (show q_F (0 ≤ lx39.toInt + 1) from (show 0 ≤ lx39.toInt + 1 from by have t1 : 0 ≤ lx39.toInt := i47; omega)), V, q_lw hl (q_lw1 0 rfl (q_lw1 1 rfl (q_lw1 2 rfl (q_lw1 3 rfl (q_lw1 4 rfl (q_lw1 5 rfl (q_lw1 6 rfl (q_lw1 7 rfl (q_lw1 8 rfl q_lw0))))))))), (show F_DR_add_J244 x2 x3 x4 x5 t0_0 t0_1 t0_2 t0_3 t0_4 t0_5 t0_6 t0_7 t0_8 t0_9 t0_10 t1_0 t2_0 t3_0 t4_0 t5_0 lx39 lx68 lx91 lx114 lx150 lx173 0 = (F_DR_add x2 x3 x4 x5 t0_0 t0_1 t0_2 t0_3 t0_4 t0_5 t0_6 t0_7 t0_8 t0_9 t0_10 t1_0 t2_0 t3_0 t4_0 t5_0) from Eq.trans (by rw [F_DR_add_J243.eq_1]) hR698), (show True ∧ S_DR_add_J244 x2 x3 x4 x5 t0_0 t0_1 t0_2 t0_3 t0_4 t0_5 t0_6 t0_7 t0_8 t0_9 t0_10 t1_0 t2_0 t3_0 t4_0 t5_0 lx39 lx68 lx91 lx114 lx150 lx173 0 from (by have h := hS699; rw [S_DR_add_J243.eq_1] at h; with_reducible exact h))⟩
                      ·
                        intro J697
                        refine lv_if_ne (tgt := 243) hx hb d_15_26_227 (by decide) (fun c703 => ?_) (fun c703 => ?_)
                        ·
                          exact J697 (()) _ _ _ w58 ⟨V, q_lw hl (q_lw1 0 rfl (q_lw1 1 rfl (q_lw1 2 rfl (q_lw1 3 rfl (q_lw1 4 rfl (q_lw1 5 rfl (q_lw1 6 rfl (q_lw1 7 rfl (q_lw1 8 rfl q_lw0))))))))), (show F_DR_add_J243 x2 x3 x4 x5 t0_0 t0_1 t0_2 t0_3 t0_4 t0_5 t0_6 t0_7 t0_8 t0_9 t0_10 t1_0 t2_0 t3_0 t4_0 t5_0 lx39 lx68 lx91 lx114 lx150 lx173 = (F_DR_add x2 x3 x4 x5 t0_0 t0_1 t0_2 t0_3 t0_4 t0_5 t0_6 t0_7 t0_8 t0_9 t0_10 t1_0 t2_0 t3_0 t4_0 t5_0) from Eq.trans (by rw [F_DR_add_J223.eq_1, if_neg c703]) hR183), (show True ∧ S_DR_add_J243 x2 x3 x4 x5 t0_0 t0_1 t0_2 t0_3 t0_4 t0_5 t0_6 t0_7 t0_8 t0_9 t0_10 t1_0 t2_0 t3_0 t4_0 t5_0 lx39 lx68 lx91 lx114 lx150 lx173 from (by have h := hS184; rw [S_DR_add_J223.eq_1] at h; rw [if_neg c703] at h; with_reducible exact h))⟩
                        ·
                          refine lv_aload_n hx hb d_15_26_230 rfl (lv_at hl 5 rfl) ?_
                          refine lv_iload_n hx hb d_15_26_231 rfl (lv_at hl 6 rfl) ?_
                          refine lv_iload_n hx hb d_15_26_232 rfl (lv_at hl 7 rfl) ?_
                          have ob706 : True ∧ S_DR_compareSizes x2 x3 lx39 t0_1 t0_2 t0_3 t0_4 t0_5 t0_6 t0_7 t0_8 t0_9 (2 : Int32) t1_0 t2_0 t4_0 := (by have h := hS184; rw [S_DR_add_J223.eq_1] at h; rw [if_pos c703] at h; with_reducible exact h.2.1)
                          refine q_goi V (q_runV (As := [.int x2, .int x3]) (rest := []) (d := 1) (mc := 0) (ms := 0) (ci := 14) C0 V rfl LV_DR_123 (X_DR_compareSizes l D g q w58  x2 x3 hI lx39 t0_1 t0_2 t0_3 t0_4 t0_5 t0_6 t0_7 t0_8 t0_9 2 hT0 t1_0 hT1 t2_0 hT2 t4_0 hT4 ob706 _) rfl rfl hT0 rfl hl.1 rfl (Nat.le_of_ble_eq_true rfl) ⟨by decide, by decide⟩ ⟨Nat.le_of_ble_eq_true rfl, Nat.le_of_ble_eq_true rfl⟩ d_15_26_233) (fun a709 u707 H locs hp708 V => ?_)
                          obtain ⟨rfl, hZ9⟩ := hp708
                          replace hZ9 := hZ9.2.2.2.2.2
                          obtain ⟨-, hE716⟩ := hZ9
                          have e717 : a709 = (F_DR_compareSizes x2 x3 lx39 t0_1 t0_2 t0_3 t0_4 t0_5 t0_6 t0_7 t0_8 t0_9 (2 : Int32) t1_0 t2_0 t4_0) := hE716
                          refine lv_if_ge (tgt := 243) hx hb d_15_26_236 (by decide) (fun c718 => ?_) (fun c718 => ?_)
                          ·
                            exact J697 (()) _ _ _ w58 ⟨V, q_lw hl (q_lw1 0 rfl (q_lw1 1 rfl (q_lw1 2 rfl (q_lw1 3 rfl (q_lw1 4 rfl (q_lw1 5 rfl (q_lw1 6 rfl (q_lw1 7 rfl (q_lw1 8 rfl q_lw0))))))))), (show F_DR_add_J243 x2 x3 x4 x5 t0_0 t0_1 t0_2 t0_3 t0_4 t0_5 t0_6 t0_7 t0_8 t0_9 t0_10 t1_0 t2_0 t3_0 t4_0 t5_0 lx39 lx68 lx91 lx114 lx150 lx173 = (F_DR_add x2 x3 x4 x5 t0_0 t0_1 t0_2 t0_3 t0_4 t0_5 t0_6 t0_7 t0_8 t0_9 t0_10 t1_0 t2_0 t3_0 t4_0 t5_0) from Eq.trans (by have c718x := c718; rw [e717] at c718x; rw [F_DR_add_J223.eq_1, if_pos c703, if_pos c718x]) hR183), (show True ∧ S_DR_add_J243 x2 x3 x4 x5 t0_0 t0_1 t0_2 t0_3 t0_4 t0_5 t0_6 t0_7 t0_8 t0_9 t0_10 t1_0 t2_0 t3_0 t4_0 t5_0 lx39 lx68 lx91 lx114 lx150 lx173 from (by have h := hS184; rw [S_DR_add_J223.eq_1] at h; rw [if_pos c703] at h; replace h := q_s2 h; have c718x := c718; rw [e717] at c718x; rw [if_pos c718x] at h; with_reducible exact h))⟩
                          ·
                            refine lv_iconst (v := 1) hx hb d_15_26_239 (by decide) ?_
                            refine lv_goto (tgt := 244) hx hb d_15_26_240 (by decide) ?_
                            exact J195 ((1 : Int32)) _ _ _ w58 ⟨(show q_F (lx39.toInt ≤ 1) from (show lx39.toInt ≤ 1 from by have t1 : lx39.toInt ≤ 1 := i48; omega)), (show q_F (1 ≤ lx39.toInt + 1) from (show 1 ≤ lx39.toInt + 1 from by have t1 : 0 ≤ lx39.toInt := i47; omega)), V, q_lw hl (q_lw1 0 rfl (q_lw1 1 rfl (q_lw1 2 rfl (q_lw1 3 rfl (q_lw1 4 rfl (q_lw1 5 rfl (q_lw1 6 rfl (q_lw1 7 rfl (q_lw1 8 rfl q_lw0))))))))), (show F_DR_add_J244 x2 x3 x4 x5 t0_0 t0_1 t0_2 t0_3 t0_4 t0_5 t0_6 t0_7 t0_8 t0_9 t0_10 t1_0 t2_0 t3_0 t4_0 t5_0 lx39 lx68 lx91 lx114 lx150 lx173 1 = (F_DR_add x2 x3 x4 x5 t0_0 t0_1 t0_2 t0_3 t0_4 t0_5 t0_6 t0_7 t0_8 t0_9 t0_10 t1_0 t2_0 t3_0 t4_0 t5_0) from Eq.trans (by have c718x := c718; rw [e717] at c718x; rw [F_DR_add_J223.eq_1, if_pos c703, if_neg c718x]) hR183), (show True ∧ S_DR_add_J244 x2 x3 x4 x5 t0_0 t0_1 t0_2 t0_3 t0_4 t0_5 t0_6 t0_7 t0_8 t0_9 t0_10 t1_0 t2_0 t3_0 t4_0 t5_0 lx39 lx68 lx91 lx114 lx150 lx173 1 from (by have h := hS184; rw [S_DR_add_J223.eq_1] at h; rw [if_pos c703] at h; replace h := q_s2 h; have c718x := c718; rw [e717] at c718x; rw [if_neg c718x] at h; with_reducible exact h))⟩
                  ·
                    intro J180
                    refine q_join (X := Unit) (fun z H locs ls _ => q_Wd D g (va_A ws sz) s w58 H locs ∧ lv_has ls 20 [(11, .int lx150), (9, .long lx114), (7, .long lx91), (5, .long lx68), (0, .ref (q 134)), (1, .int x2), (2, .int x3), (3, .int x4)] ∧ F_DR_add_J218 x2 x3 x4 x5 t0_0 t0_1 t0_2 t0_3 t0_4 t0_5 t0_6 t0_7 t0_8 t0_9 t0_10 t1_0 t2_0 t3_0 t4_0 t5_0 lx39 lx68 lx91 lx114 lx150 = (F_DR_add x2 x3 x4 x5 t0_0 t0_1 t0_2 t0_3 t0_4 t0_5 t0_6 t0_7 t0_8 t0_9 t0_10 t1_0 t2_0 t3_0 t4_0 t5_0) ∧ True ∧ S_DR_add_J218 x2 x3 x4 x5 t0_0 t0_1 t0_2 t0_3 t0_4 t0_5 t0_6 t0_7 t0_8 t0_9 t0_10 t1_0 t2_0 t3_0 t4_0 t5_0 lx39 lx68 lx91 lx114 lx150) (fun z => []) 218 0 0 ?_ ?_
                    ·
                      rintro _ H locs ls _ ⟨V, hl, hR728, hS729⟩
                      replace hl : lv_has ls 20 [(11, .int lx150), (9, .long lx114), (7, .long lx91), (5, .long lx68), (0, .ref (q 134)), (1, .int x2), (2, .int x3), (3, .int x4)] := hl
                      refine lv_iconst (v := 1) hx hb d_15_26_218 (by decide) ?_
                      refine lv_goto (tgt := 223) hx hb d_15_26_219 (by decide) ?_
                      exact J180 ((1 : Int32)) _ _ _ w58 ⟨(show q_F (lx39.toInt ≤ 1) from (show lx39.toInt ≤ 1 from by have t1 : lx39.toInt ≤ 1 := i48; omega)), (show q_F (1 ≤ lx39.toInt + 1) from (show 1 ≤ lx39.toInt + 1 from by have t1 : 0 ≤ lx39.toInt := i47; omega)), V, q_lw hl (q_lw1 0 rfl (q_lw1 1 rfl (q_lw1 2 rfl (q_lw1 3 rfl (q_lw1 4 rfl (q_lw1 5 rfl (q_lw1 6 rfl (q_lw1 7 rfl q_lw0)))))))), (show F_DR_add_J223 x2 x3 x4 x5 t0_0 t0_1 t0_2 t0_3 t0_4 t0_5 t0_6 t0_7 t0_8 t0_9 t0_10 t1_0 t2_0 t3_0 t4_0 t5_0 lx39 lx68 lx91 lx114 lx150 1 = (F_DR_add x2 x3 x4 x5 t0_0 t0_1 t0_2 t0_3 t0_4 t0_5 t0_6 t0_7 t0_8 t0_9 t0_10 t1_0 t2_0 t3_0 t4_0 t5_0) from Eq.trans (by rw [F_DR_add_J218.eq_1]) hR728), (show True ∧ S_DR_add_J223 x2 x3 x4 x5 t0_0 t0_1 t0_2 t0_3 t0_4 t0_5 t0_6 t0_7 t0_8 t0_9 t0_10 t1_0 t2_0 t3_0 t4_0 t5_0 lx39 lx68 lx91 lx114 lx150 1 from (by have h := hS729; rw [S_DR_add_J218.eq_1] at h; with_reducible exact h))⟩
                    ·
                      intro J727
                      refine lv_if_ne (tgt := 218) hx hb d_15_26_196 (by decide) (fun c733 => ?_) (fun c733 => ?_)
                      ·
                        exact J727 (()) _ _ _ w58 ⟨V, q_lw hl (q_lw1 0 rfl (q_lw1 1 rfl (q_lw1 2 rfl (q_lw1 3 rfl (q_lw1 4 rfl (q_lw1 5 rfl (q_lw1 6 rfl (q_lw1 7 rfl q_lw0)))))))), (show F_DR_add_J218 x2 x3 x4 x5 t0_0 t0_1 t0_2 t0_3 t0_4 t0_5 t0_6 t0_7 t0_8 t0_9 t0_10 t1_0 t2_0 t3_0 t4_0 t5_0 lx39 lx68 lx91 lx114 lx150 = (F_DR_add x2 x3 x4 x5 t0_0 t0_1 t0_2 t0_3 t0_4 t0_5 t0_6 t0_7 t0_8 t0_9 t0_10 t1_0 t2_0 t3_0 t4_0 t5_0) from Eq.trans (by have c733x := c733; rw [e172] at c733x; rw [F_DR_add_J189.eq_1, if_neg c733x]) hR160), (show True ∧ S_DR_add_J218 x2 x3 x4 x5 t0_0 t0_1 t0_2 t0_3 t0_4 t0_5 t0_6 t0_7 t0_8 t0_9 t0_10 t1_0 t2_0 t3_0 t4_0 t5_0 lx39 lx68 lx91 lx114 lx150 from (by have h := hS161; rw [S_DR_add_J189.eq_1] at h; replace h := q_s2 h; have c733x := c733; rw [e172] at c733x; rw [if_neg c733x] at h; with_reducible exact h))⟩
                      ·
                        refine lv_aload_n hx hb d_15_26_199 rfl (lv_at hl 4 rfl) ?_
                        refine lv_iload_n hx hb d_15_26_200 rfl (lv_at hl 6 rfl) ?_
                        have ob736 : True ∧ S_DR_isZero x3 lx39 t0_1 t0_2 t0_3 t0_4 t0_5 t0_6 t0_7 t0_8 t0_9 (2 : Int32) t1_0 := (by have h := hS161; rw [S_DR_add_J189.eq_1] at h; replace h := q_s2 h; have c733x := c733; rw [e172] at c733x; rw [if_pos c733x] at h; with_reducible exact h.2.1)
                        refine q_goi V (q_runV (As := [.int x3]) (rest := []) (d := 1) (mc := 0) (ms := 0) (ci := 14) C0 V rfl LV_DR_120 (X_DR_isZero l D g q w58  x3 hI lx39 t0_1 t0_2 t0_3 t0_4 t0_5 t0_6 t0_7 t0_8 t0_9 2 hT0 t1_0 hT1 ob736 _) rfl rfl hT0 rfl hl.1 rfl (Nat.le_of_ble_eq_true rfl) ⟨by decide, by decide⟩ ⟨Nat.le_of_ble_eq_true rfl, Nat.le_of_ble_eq_true rfl⟩ d_15_26_201) (fun a739 u737 H locs hp738 V => ?_)
                        obtain ⟨rfl, b740, b741, hE742⟩ := hp738
                        have e743 : a739 = (F_DR_isZero x3 lx39 t0_1 t0_2 t0_3 t0_4 t0_5 t0_6 t0_7 t0_8 t0_9 (2 : Int32) t1_0) := hE742
                        clear b740
                        clear b741
                        refine lv_if_ne (tgt := 218) hx hb d_15_26_204 (by decide) (fun c744 => ?_) (fun c744 => ?_)
                        ·
                          exact J727 (()) _ _ _ w58 ⟨V, q_lw hl (q_lw1 0 rfl (q_lw1 1 rfl (q_lw1 2 rfl (q_lw1 3 rfl (q_lw1 4 rfl (q_lw1 5 rfl (q_lw1 6 rfl (q_lw1 7 rfl q_lw0)))))))), (show F_DR_add_J218 x2 x3 x4 x5 t0_0 t0_1 t0_2 t0_3 t0_4 t0_5 t0_6 t0_7 t0_8 t0_9 t0_10 t1_0 t2_0 t3_0 t4_0 t5_0 lx39 lx68 lx91 lx114 lx150 = (F_DR_add x2 x3 x4 x5 t0_0 t0_1 t0_2 t0_3 t0_4 t0_5 t0_6 t0_7 t0_8 t0_9 t0_10 t1_0 t2_0 t3_0 t4_0 t5_0) from Eq.trans (by have c733x := c733; rw [e172] at c733x; have c744x := c744; rw [e743] at c744x; rw [F_DR_add_J189.eq_1, if_pos c733x, if_neg c744x]) hR160), (show True ∧ S_DR_add_J218 x2 x3 x4 x5 t0_0 t0_1 t0_2 t0_3 t0_4 t0_5 t0_6 t0_7 t0_8 t0_9 t0_10 t1_0 t2_0 t3_0 t4_0 t5_0 lx39 lx68 lx91 lx114 lx150 from (by have h := hS161; rw [S_DR_add_J189.eq_1] at h; replace h := q_s2 h; have c733x := c733; rw [e172] at c733x; rw [if_pos c733x] at h; replace h := q_s2 h; have c744x := c744; rw [e743] at c744x; rw [if_neg c744x] at h; with_reducible exact h))⟩
                        ·
                          refine lv_aload_n hx hb d_15_26_207 rfl (lv_at hl 4 rfl) ?_
                          refine q_get (ci := 14) (j := 5) (v := .ref (q 138)) C0 V i_DR rfl rfl hT0 (by decide) w_2006 rfl d_15_26_208 ?_
                          refine lv_iload_n hx hb d_15_26_211 rfl (lv_at hl 5 rfl) ?_
                          refine q_zald C0 V hT3 (q_ix (x := x2.toInt) rfl (by first | with_reducible exact q_fe ob60 | (have t1 : 0 ≤ x2.toInt := ob60; omega)) (by have t1 : 0 ≤ x2.toInt := ob60; have t2 : x2.toInt ≤ 9 := ob61; omega)) d_15_26_212 ?_
                          obtain ⟨a747, e748⟩ := q_nm (t3_0 x2.toNatClampNeg : Int32)
                          refine q_ti (v := a747) e748 ?_
                          refine lv_iload hx hb d_15_26_213 (lv_at hl 0 rfl) ?_
                          refine lv_icmp_ne (tgt := 222) hx hb d_15_26_215 (by decide) (fun c749 => ?_) (fun c749 => ?_)
                          ·
                            refine lv_iconst (v := 0) hx hb d_15_26_222 (by decide) ?_
                            exact J180 ((0 : Int32)) _ _ _ w58 ⟨(show q_F (lx39.toInt ≤ 0) from (show lx39.toInt ≤ 0 from by have t1 : lx39.toInt ≤ 0 := b57; omega)), (show q_F (0 ≤ lx39.toInt + 1) from (show 0 ≤ lx39.toInt + 1 from by have t1 : 0 ≤ lx39.toInt := i47; omega)), V, q_lw hl (q_lw1 0 rfl (q_lw1 1 rfl (q_lw1 2 rfl (q_lw1 3 rfl (q_lw1 4 rfl (q_lw1 5 rfl (q_lw1 6 rfl (q_lw1 7 rfl q_lw0)))))))), (show F_DR_add_J223 x2 x3 x4 x5 t0_0 t0_1 t0_2 t0_3 t0_4 t0_5 t0_6 t0_7 t0_8 t0_9 t0_10 t1_0 t2_0 t3_0 t4_0 t5_0 lx39 lx68 lx91 lx114 lx150 0 = (F_DR_add x2 x3 x4 x5 t0_0 t0_1 t0_2 t0_3 t0_4 t0_5 t0_6 t0_7 t0_8 t0_9 t0_10 t1_0 t2_0 t3_0 t4_0 t5_0) from Eq.trans (by have c733x := c733; rw [e172] at c733x; have c744x := c744; rw [e743] at c744x; have c749x := c749; rw [← e748] at c749x; rw [F_DR_add_J189.eq_1, if_pos c733x, if_pos c744x, if_neg c749x]) hR160), (show True ∧ S_DR_add_J223 x2 x3 x4 x5 t0_0 t0_1 t0_2 t0_3 t0_4 t0_5 t0_6 t0_7 t0_8 t0_9 t0_10 t1_0 t2_0 t3_0 t4_0 t5_0 lx39 lx68 lx91 lx114 lx150 0 from (by have h := hS161; rw [S_DR_add_J189.eq_1] at h; replace h := q_s2 h; have c733x := c733; rw [e172] at c733x; rw [if_pos c733x] at h; replace h := q_s2 h; have c744x := c744; rw [e743] at c744x; rw [if_pos c744x] at h; have c749x := c749; rw [← e748] at c749x; rw [if_neg c749x] at h; with_reducible exact h))⟩
                          ·
                            exact J727 (()) _ _ _ w58 ⟨V, q_lw hl (q_lw1 0 rfl (q_lw1 1 rfl (q_lw1 2 rfl (q_lw1 3 rfl (q_lw1 4 rfl (q_lw1 5 rfl (q_lw1 6 rfl (q_lw1 7 rfl q_lw0)))))))), (show F_DR_add_J218 x2 x3 x4 x5 t0_0 t0_1 t0_2 t0_3 t0_4 t0_5 t0_6 t0_7 t0_8 t0_9 t0_10 t1_0 t2_0 t3_0 t4_0 t5_0 lx39 lx68 lx91 lx114 lx150 = (F_DR_add x2 x3 x4 x5 t0_0 t0_1 t0_2 t0_3 t0_4 t0_5 t0_6 t0_7 t0_8 t0_9 t0_10 t1_0 t2_0 t3_0 t4_0 t5_0) from Eq.trans (by have c733x := c733; rw [e172] at c733x; have c744x := c744; rw [e743] at c744x; have c749x := c749; rw [← e748] at c749x; rw [F_DR_add_J189.eq_1, if_pos c733x, if_pos c744x, if_pos c749x]) hR160), (show True ∧ S_DR_add_J218 x2 x3 x4 x5 t0_0 t0_1 t0_2 t0_3 t0_4 t0_5 t0_6 t0_7 t0_8 t0_9 t0_10 t1_0 t2_0 t3_0 t4_0 t5_0 lx39 lx68 lx91 lx114 lx150 from (by have h := hS161; rw [S_DR_add_J189.eq_1] at h; replace h := q_s2 h; have c733x := c733; rw [e172] at c733x; rw [if_pos c733x] at h; replace h := q_s2 h; have c744x := c744; rw [e743] at c744x; rw [if_pos c744x] at h; have c749x := c749; rw [← e748] at c749x; rw [if_pos c749x] at h; with_reducible exact h))⟩
                ·
                  intro J157
                  refine q_join (X := Unit) (fun z H locs ls _ => q_Wd D g (va_A ws sz) s w58 H locs ∧ lv_has ls 20 [(9, .long lx114), (7, .long lx91), (5, .long lx68), (0, .ref (q 134)), (1, .int x2), (2, .int x3), (3, .int x4)] ∧ F_DR_add_J188 x2 x3 x4 x5 t0_0 t0_1 t0_2 t0_3 t0_4 t0_5 t0_6 t0_7 t0_8 t0_9 t0_10 t1_0 t2_0 t3_0 t4_0 t5_0 lx39 lx68 lx91 lx114 = (F_DR_add x2 x3 x4 x5 t0_0 t0_1 t0_2 t0_3 t0_4 t0_5 t0_6 t0_7 t0_8 t0_9 t0_10 t1_0 t2_0 t3_0 t4_0 t5_0) ∧ True ∧ S_DR_add_J188 x2 x3 x4 x5 t0_0 t0_1 t0_2 t0_3 t0_4 t0_5 t0_6 t0_7 t0_8 t0_9 t0_10 t1_0 t2_0 t3_0 t4_0 t5_0 lx39 lx68 lx91 lx114) (fun z => []) 188 0 0 ?_ ?_
                  ·
                    rintro _ H locs ls _ ⟨V, hl, hR759, hS760⟩
                    replace hl : lv_has ls 20 [(9, .long lx114), (7, .long lx91), (5, .long lx68), (0, .ref (q 134)), (1, .int x2), (2, .int x3), (3, .int x4)] := hl
                    refine lv_iconst (v := 0) hx hb d_15_26_188 (by decide) ?_
                    exact J157 ((0 : Int32)) _ _ _ w58 ⟨(show q_F (lx39.toInt ≤ 0) from (show lx39.toInt ≤ 0 from by have t1 : lx39.toInt ≤ 0 := b57; omega)), (show q_F (0 ≤ lx39.toInt + 1) from (show 0 ≤ lx39.toInt + 1 from by have t1 : 0 ≤ lx39.toInt := i47; omega)), V, q_lw hl (q_lw1 0 rfl (q_lw1 1 rfl (q_lw1 2 rfl (q_lw1 3 rfl (q_lw1 4 rfl (q_lw1 5 rfl (q_lw1 6 rfl q_lw0))))))), (show F_DR_add_J189 x2 x3 x4 x5 t0_0 t0_1 t0_2 t0_3 t0_4 t0_5 t0_6 t0_7 t0_8 t0_9 t0_10 t1_0 t2_0 t3_0 t4_0 t5_0 lx39 lx68 lx91 lx114 0 = (F_DR_add x2 x3 x4 x5 t0_0 t0_1 t0_2 t0_3 t0_4 t0_5 t0_6 t0_7 t0_8 t0_9 t0_10 t1_0 t2_0 t3_0 t4_0 t5_0) from Eq.trans (by rw [F_DR_add_J188.eq_1]) hR759), (show True ∧ S_DR_add_J189 x2 x3 x4 x5 t0_0 t0_1 t0_2 t0_3 t0_4 t0_5 t0_6 t0_7 t0_8 t0_9 t0_10 t1_0 t2_0 t3_0 t4_0 t5_0 lx39 lx68 lx91 lx114 0 from (by have h := hS760; rw [S_DR_add_J188.eq_1] at h; with_reducible exact h))⟩
                  ·
                    intro J758
                    refine lv_if_ne (tgt := 188) hx hb d_15_26_170 (by decide) (fun c764 => ?_) (fun c764 => ?_)
                    ·
                      exact J758 (()) _ _ _ w58 ⟨V, q_lw hl (q_lw1 0 rfl (q_lw1 1 rfl (q_lw1 2 rfl (q_lw1 3 rfl (q_lw1 4 rfl (q_lw1 5 rfl (q_lw1 6 rfl q_lw0))))))), (show F_DR_add_J188 x2 x3 x4 x5 t0_0 t0_1 t0_2 t0_3 t0_4 t0_5 t0_6 t0_7 t0_8 t0_9 t0_10 t1_0 t2_0 t3_0 t4_0 t5_0 lx39 lx68 lx91 lx114 = (F_DR_add x2 x3 x4 x5 t0_0 t0_1 t0_2 t0_3 t0_4 t0_5 t0_6 t0_7 t0_8 t0_9 t0_10 t1_0 t2_0 t3_0 t4_0 t5_0) from Eq.trans (by have c132x := c132; rw [← e130] at c132x; have c140x := c140; rw [← e138] at c140x; have c764x := c764; rw [e149] at c764x; rw [F_DR_add_J139.eq_1, if_neg c132x, if_pos c140x, if_neg c764x]) hR124), (show True ∧ S_DR_add_J188 x2 x3 x4 x5 t0_0 t0_1 t0_2 t0_3 t0_4 t0_5 t0_6 t0_7 t0_8 t0_9 t0_10 t1_0 t2_0 t3_0 t4_0 t5_0 lx39 lx68 lx91 lx114 from (by have h := hS125; rw [S_DR_add_J139.eq_1] at h; have c132x := c132; rw [← e130] at c132x; rw [if_neg c132x] at h; have c140x := c140; rw [← e138] at c140x; rw [if_pos c140x] at h; replace h := q_s2 h; have c764x := c764; rw [e149] at c764x; rw [if_neg c764x] at h; with_reducible exact h))⟩
                    ·
                      refine lv_aload_n hx hb d_15_26_173 rfl (lv_at hl 3 rfl) ?_
                      refine q_get (ci := 14) (j := 5) (v := .ref (q 138)) C0 V i_DR rfl rfl hT0 (by decide) w_2006 rfl d_15_26_174 ?_
                      refine lv_iload_n hx hb d_15_26_177 rfl (lv_at hl 5 rfl) ?_
                      refine q_zald C0 V hT3 (q_ix (x := x3.toInt) rfl (by first | with_reducible exact q_fe ob64 | (have t1 : 0 ≤ x3.toInt := ob64; omega)) (by have t1 : 0 ≤ x3.toInt := ob64; have t2 : x3.toInt ≤ 9 := ob65; omega)) d_15_26_178 ?_
                      obtain ⟨a767, e768⟩ := q_nm (t3_0 x3.toNatClampNeg : Int32)
                      refine q_ti (v := a767) e768 ?_
                      refine lv_iload hx hb d_15_26_179 (lv_at hl 7 rfl) ?_
                      refine lv_icmp_eq (tgt := 188) hx hb d_15_26_181 (by decide) (fun c769 => ?_) (fun c769 => ?_)
                      ·
                        exact J758 (()) _ _ _ w58 ⟨V, q_lw hl (q_lw1 0 rfl (q_lw1 1 rfl (q_lw1 2 rfl (q_lw1 3 rfl (q_lw1 4 rfl (q_lw1 5 rfl (q_lw1 6 rfl q_lw0))))))), (show F_DR_add_J188 x2 x3 x4 x5 t0_0 t0_1 t0_2 t0_3 t0_4 t0_5 t0_6 t0_7 t0_8 t0_9 t0_10 t1_0 t2_0 t3_0 t4_0 t5_0 lx39 lx68 lx91 lx114 = (F_DR_add x2 x3 x4 x5 t0_0 t0_1 t0_2 t0_3 t0_4 t0_5 t0_6 t0_7 t0_8 t0_9 t0_10 t1_0 t2_0 t3_0 t4_0 t5_0) from Eq.trans (by have c132x := c132; rw [← e130] at c132x; have c140x := c140; rw [← e138] at c140x; have c764x := c764; rw [e149] at c764x; have c769x := c769; rw [← e768] at c769x; rw [F_DR_add_J139.eq_1, if_neg c132x, if_pos c140x, if_pos c764x, if_pos c769x]) hR124), (show True ∧ S_DR_add_J188 x2 x3 x4 x5 t0_0 t0_1 t0_2 t0_3 t0_4 t0_5 t0_6 t0_7 t0_8 t0_9 t0_10 t1_0 t2_0 t3_0 t4_0 t5_0 lx39 lx68 lx91 lx114 from (by have h := hS125; rw [S_DR_add_J139.eq_1] at h; have c132x := c132; rw [← e130] at c132x; rw [if_neg c132x] at h; have c140x := c140; rw [← e138] at c140x; rw [if_pos c140x] at h; replace h := q_s2 h; have c764x := c764; rw [e149] at c764x; rw [if_pos c764x] at h; have c769x := c769; rw [← e768] at c769x; rw [if_pos c769x] at h; with_reducible exact h))⟩
                      ·
                        refine lv_iconst (v := 1) hx hb d_15_26_184 (by decide) ?_
                        refine lv_goto (tgt := 189) hx hb d_15_26_185 (by decide) ?_
                        exact J157 ((1 : Int32)) _ _ _ w58 ⟨(show q_F (lx39.toInt ≤ 1) from (show lx39.toInt ≤ 1 from by have t1 : lx39.toInt ≤ 1 := i48; omega)), (show q_F (1 ≤ lx39.toInt + 1) from (show 1 ≤ lx39.toInt + 1 from by have t1 : 0 ≤ lx39.toInt := i47; omega)), V, q_lw hl (q_lw1 0 rfl (q_lw1 1 rfl (q_lw1 2 rfl (q_lw1 3 rfl (q_lw1 4 rfl (q_lw1 5 rfl (q_lw1 6 rfl q_lw0))))))), (show F_DR_add_J189 x2 x3 x4 x5 t0_0 t0_1 t0_2 t0_3 t0_4 t0_5 t0_6 t0_7 t0_8 t0_9 t0_10 t1_0 t2_0 t3_0 t4_0 t5_0 lx39 lx68 lx91 lx114 1 = (F_DR_add x2 x3 x4 x5 t0_0 t0_1 t0_2 t0_3 t0_4 t0_5 t0_6 t0_7 t0_8 t0_9 t0_10 t1_0 t2_0 t3_0 t4_0 t5_0) from Eq.trans (by have c132x := c132; rw [← e130] at c132x; have c140x := c140; rw [← e138] at c140x; have c764x := c764; rw [e149] at c764x; have c769x := c769; rw [← e768] at c769x; rw [F_DR_add_J139.eq_1, if_neg c132x, if_pos c140x, if_pos c764x, if_neg c769x]) hR124), (show True ∧ S_DR_add_J189 x2 x3 x4 x5 t0_0 t0_1 t0_2 t0_3 t0_4 t0_5 t0_6 t0_7 t0_8 t0_9 t0_10 t1_0 t2_0 t3_0 t4_0 t5_0 lx39 lx68 lx91 lx114 1 from (by have h := hS125; rw [S_DR_add_J139.eq_1] at h; have c132x := c132; rw [← e130] at c132x; rw [if_neg c132x] at h; have c140x := c140; rw [← e138] at c140x; rw [if_pos c140x] at h; replace h := q_s2 h; have c764x := c764; rw [e149] at c764x; rw [if_pos c764x] at h; have c769x := c769; rw [← e768] at c769x; rw [if_neg c769x] at h; with_reducible exact h))⟩
              ·
                refine lv_aload_n hx hb d_15_26_159 rfl (lv_at hl 3 rfl) ?_
                refine lv_iconst (v := 2) hx hb d_15_26_160 (by decide) ?_
                refine q_put (ci := 14) (j := 0) (v := .int 2) (ty := .int) C0 V i_DR o_DR n_DR rfl rfl hT0 (by decide) w_1996 rfl rfl rfl rfl (Nat.le_of_ble_eq_true rfl) d_15_26_161 (fun H locs w773 hu774 hT0 V => ?_)
                replace hT0 : w773[134]? = (some (q 134, .inr (14, [.int 2, .ref (q 135), .int t0_1, .ref (q 136), .ref (q 137), .ref (q 138), .ref (q 139), .ref (q 140), .int t0_2, .long t0_3, .int t0_4, .int t0_5, .ref (q 141), .int t0_6, .ref (q 142), .int t0_7, .ref (q 143), .int t0_8, .ref (q 144), .int t0_9, .int 2])) : Option (Nat × va_E)) := hT0
                replace hI := n_p134 hI hu774 hT0 (by first | with_reducible exact q_fe btt0_1 | exact ⟨(by have t1 : 0 ≤ t0_1.toInt ∧ t0_1.toInt ≤ 4100 := btt0_1; omega), (by have t1 : 0 ≤ t0_1.toInt ∧ t0_1.toInt ≤ 4100 := btt0_1; omega)⟩) (by first | with_reducible exact q_fe btt0_4 | exact ⟨(by have t1 : 0 ≤ t0_4.toInt ∧ t0_4.toInt ≤ 1 := btt0_4; omega), (by have t1 : 0 ≤ t0_4.toInt ∧ t0_4.toInt ≤ 1 := btt0_4; omega)⟩) (by first | with_reducible exact q_fe btt0_5 | exact ⟨(by have t1 : 0 ≤ t0_5.toInt ∧ t0_5.toInt ≤ 1 := btt0_5; omega), (by have t1 : 0 ≤ t0_5.toInt ∧ t0_5.toInt ≤ 1 := btt0_5; omega)⟩) (by first | with_reducible exact q_fe btt0_9 | exact ⟨(by have t1 : 0 ≤ t0_9.toInt ∧ t0_9.toInt ≤ 12200 := btt0_9; omega), (by have t1 : 0 ≤ t0_9.toInt ∧ t0_9.toInt ≤ 12200 := btt0_9; omega)⟩)
                replace hT1 := (hu774 _ (by decide)).trans hT1
                replace hT2 := (hu774 _ (by decide)).trans hT2
                replace hT3 := (hu774 _ (by decide)).trans hT3
                replace hT4 := (hu774 _ (by decide)).trans hT4
                replace hT5 := (hu774 _ (by decide)).trans hT5
                replace hF := q_us hF hu774 (by simp)
                exact q_retv C0 V (⟨hI, hF, 2, t0_1, t0_2, t0_3, t0_4, t0_5, t0_6, t0_7, t0_8, t0_9, 2, t1_0, t2_0, t3_0, t4_0, t5_0, hT0, hT1, hT2, hT3, hT4, hT5, (show 0 ≤ t0_4.toInt from (by have z20 : (2 : Int32).toInt = 2 := rfl; have z30 : (2 : Int32).toInt = 2 := rfl; have t1 : 0 ≤ t0_4.toInt ∧ t0_4.toInt ≤ 1 := btt0_4; omega)), (show 0 ≤ t0_5.toInt from (by have z20 : (2 : Int32).toInt = 2 := rfl; have z30 : (2 : Int32).toInt = 2 := rfl; have t1 : 0 ≤ t0_5.toInt ∧ t0_5.toInt ≤ 1 := btt0_5; omega)), (show t0_5.toInt ≤ 1 from (by have z20 : (2 : Int32).toInt = 2 := rfl; have z30 : (2 : Int32).toInt = 2 := rfl; have t1 : 0 ≤ t0_5.toInt ∧ t0_5.toInt ≤ 1 := btt0_5; omega)), (show t0_1.toInt ≤ t0_1.toInt from (by have z20 : (2 : Int32).toInt = 2 := rfl; have z30 : (2 : Int32).toInt = 2 := rfl; omega)), (show t0_1.toInt ≤ t0_1.toInt from (by have z20 : (2 : Int32).toInt = 2 := rfl; have z30 : (2 : Int32).toInt = 2 := rfl; omega)), (show t0_4.toInt ≤ t0_4.toInt from (by have z20 : (2 : Int32).toInt = 2 := rfl; have z30 : (2 : Int32).toInt = 2 := rfl; omega)), (show t0_6.toInt ≤ t0_6.toInt from (by have z20 : (2 : Int32).toInt = 2 := rfl; have z30 : (2 : Int32).toInt = 2 := rfl; omega)), (show t0_6.toInt ≤ t0_6.toInt from (by have z20 : (2 : Int32).toInt = 2 := rfl; have z30 : (2 : Int32).toInt = 2 := rfl; omega)), (show t0_7.toInt ≤ t0_7.toInt from (by have z20 : (2 : Int32).toInt = 2 := rfl; have z30 : (2 : Int32).toInt = 2 := rfl; omega)), (show t0_7.toInt ≤ t0_7.toInt from (by have z20 : (2 : Int32).toInt = 2 := rfl; have z30 : (2 : Int32).toInt = 2 := rfl; omega)), (show t0_8.toInt ≤ t0_8.toInt from (by have z20 : (2 : Int32).toInt = 2 := rfl; have z30 : (2 : Int32).toInt = 2 := rfl; omega)), (show t0_8.toInt ≤ t0_8.toInt from (by have z20 : (2 : Int32).toInt = 2 := rfl; have z30 : (2 : Int32).toInt = 2 := rfl; omega)), (show t0_9.toInt ≤ t0_9.toInt from (by have z20 : (2 : Int32).toInt = 2 := rfl; have z30 : (2 : Int32).toInt = 2 := rfl; omega)), (show t0_9.toInt ≤ t0_9.toInt from (by have z20 : (2 : Int32).toInt = 2 := rfl; have z30 : (2 : Int32).toInt = 2 := rfl; omega)), (show ((2 : Int32), t0_1, t0_2, t0_3, t0_4, t0_5, t0_6, t0_7, t0_8, t0_9, (2 : Int32), t1_0, t2_0, t3_0, t4_0, t5_0) = (F_DR_add x2 x3 x4 x5 t0_0 t0_1 t0_2 t0_3 t0_4 t0_5 t0_6 t0_7 t0_8 t0_9 t0_10 t1_0 t2_0 t3_0 t4_0 t5_0) from Eq.trans (by have c132x := c132; rw [← e130] at c132x; have c140x := c140; rw [← e138] at c140x; rw [F_DR_add_J139.eq_1, if_neg c132x, if_neg c140x]) hR124)⟩) d_15_26_164
          ·
            intro J121
            refine lv_if_eq (tgt := 121) hx hb d_15_26_114 (by decide) (fun c775 => ?_) (fun c775 => ?_)
            ·
              refine lv_aload_n hx hb d_15_26_121 rfl (lv_at hl 2 rfl) ?_
              refine q_get (ci := 14) (j := 4) (v := .ref (q 137)) C0 V i_DR rfl rfl hT0 (by decide) w_2004 rfl d_15_26_122 ?_
              refine lv_iload_n hx hb d_15_26_125 rfl (lv_at hl 4 rfl) ?_
              refine q_iald C0 V hT2 (q_ix (x := x3.toInt) rfl (by first | with_reducible exact q_fe ob64 | (have t1 : 0 ≤ x3.toInt := ob64; omega)) (by have t1 : 0 ≤ x3.toInt := ob64; have t2 : x3.toInt ≤ 9 := ob65; have e9 : (((10 : Int32).toNatClampNeg : Nat) : Int) = 10 := (by decide); omega)) d_15_26_126 ?_
              obtain ⟨a777, e778⟩ := q_nm (t2_0 x3.toNatClampNeg : Int32)
              refine q_ti (v := a777) e778 ?_
              refine lv_i2l hx hb d_15_26_127 rfl ?_
              obtain ⟨j779, e780⟩ := q_nm (a777.toInt64 : Int64)
              refine q_tl (v := j779) e780 ?_
              have b781 : q_F (j779.toInt = a777.toInt) := (by rw [← e780]; show (a777.toInt64 : Int64).toInt = a777.toInt; exact q_i2l rfl)
              refine lv_lload hx hb d_15_26_128 (lv_at hl 1 rfl) ?_
              refine lv_ladd hx hb d_15_26_130 ?_
              obtain ⟨j782, e783⟩ := q_nm (j779 + lx68 : Int64)
              refine q_tl (v := j782) e783 ?_
              have b784 : q_F (j782.toInt = j779.toInt + lx68.toInt) := (by rw [← e783]; show (j779 + lx68 : Int64).toInt = j779.toInt + lx68.toInt; exact q_addL (x := j779.toInt) (y := lx68.toInt) rfl rfl (by have t1 : 0 ≤ lx68.toInt + 2147483648 := i76; have t2 : j779.toInt = a777.toInt := b781; have _ := q_lo32 (x := a777); have _ := q_hi32 (x := a777); have t3 : lx68.toInt ≤ 2147483647 := i77; omega) (by have t1 : 0 ≤ lx68.toInt + 2147483648 := i76; have t2 : j779.toInt = a777.toInt := b781; have _ := q_lo32 (x := a777); have _ := q_hi32 (x := a777); have t3 : lx68.toInt ≤ 2147483647 := i77; omega))
              refine lv_aload_n hx hb d_15_26_131 rfl (lv_at hl 2 rfl) ?_
              refine q_get (ci := 14) (j := 6) (v := .ref (q 139)) C0 V i_DR rfl rfl hT0 (by decide) w_2008 rfl d_15_26_132 ?_
              refine lv_iload_n hx hb d_15_26_135 rfl (lv_at hl 4 rfl) ?_
              refine q_iald C0 V hT4 (q_ix (x := x3.toInt) rfl (by first | with_reducible exact q_fe ob64 | (have t1 : 0 ≤ x3.toInt := ob64; omega)) (by have t1 : 0 ≤ x3.toInt := ob64; have t2 : x3.toInt ≤ 9 := ob65; have e9 : (((10 : Int32).toNatClampNeg : Nat) : Int) = 10 := (by decide); omega)) d_15_26_136 ?_
              obtain ⟨a785, e786⟩ := q_nm (t4_0 x3.toNatClampNeg : Int32)
              refine q_ti (v := a785) e786 ?_
              refine lv_i2l hx hb d_15_26_137 rfl ?_
              obtain ⟨j787, e788⟩ := q_nm (a785.toInt64 : Int64)
              refine q_tl (v := j787) e788 ?_
              have b789 : q_F (j787.toInt = a785.toInt) := (by rw [← e788]; show (a785.toInt64 : Int64).toInt = a785.toInt; exact q_i2l rfl)
              refine lv_lsub hx hb d_15_26_138 ?_
              obtain ⟨j790, e791⟩ := q_nm (j782 - j787 : Int64)
              refine q_tl (v := j790) e791 ?_
              have b792 : q_F (j790.toInt = j782.toInt - j787.toInt) := (by rw [← e791]; show (j782 - j787 : Int64).toInt = j782.toInt - j787.toInt; exact q_subL (x := j782.toInt) (y := j787.toInt) rfl rfl (by have t1 : 0 ≤ lx68.toInt + 2147483648 := i76; have t2 : j779.toInt = a777.toInt := b781; have t3 : j782.toInt = j779.toInt + lx68.toInt := b784; have t4 : j787.toInt = a785.toInt := b789; have _ := q_lo32 (x := a777); have _ := q_hi32 (x := a777); have _ := q_lo32 (x := a785); have _ := q_hi32 (x := a785); have t5 : lx68.toInt ≤ 2147483647 := i77; omega) (by have t1 : 0 ≤ lx68.toInt + 2147483648 := i76; have t2 : j779.toInt = a777.toInt := b781; have t3 : j782.toInt = j779.toInt + lx68.toInt := b784; have t4 : j787.toInt = a785.toInt := b789; have _ := q_lo32 (x := a777); have _ := q_hi32 (x := a777); have _ := q_lo32 (x := a785); have _ := q_hi32 (x := a785); have t5 : lx68.toInt ≤ 2147483647 := i77; omega))
              exact J121 ((j790 : Int64)) _ _ _ w58 ⟨(show q_F (0 ≤ j790.toInt + 6442450943) from (show 0 ≤ j790.toInt + 6442450943 from by have t1 : 0 ≤ lx68.toInt + 2147483648 := i76; have t2 : j779.toInt = a777.toInt := b781; have t3 : j782.toInt = j779.toInt + lx68.toInt := b784; have t4 : j787.toInt = a785.toInt := b789; have t5 : j790.toInt = j782.toInt - j787.toInt := b792; have _ := q_lo32 (x := a777); have _ := q_hi32 (x := a777); have _ := q_lo32 (x := a785); have _ := q_hi32 (x := a785); omega)), (show q_F (j790.toInt ≤ 6442450942) from (show j790.toInt ≤ 6442450942 from by have t1 : lx68.toInt ≤ 2147483647 := i77; have t2 : j779.toInt = a777.toInt := b781; have t3 : j782.toInt = j779.toInt + lx68.toInt := b784; have t4 : j787.toInt = a785.toInt := b789; have t5 : j790.toInt = j782.toInt - j787.toInt := b792; have _ := q_lo32 (x := a777); have _ := q_hi32 (x := a777); have _ := q_lo32 (x := a785); have _ := q_hi32 (x := a785); omega)), V, q_lw hl (q_lw1 0 rfl (q_lw1 1 rfl (q_lw1 2 rfl (q_lw1 3 rfl (q_lw1 4 rfl (q_lw1 5 rfl (q_lw1 6 rfl q_lw0))))))), (show F_DR_add_J139 x2 x3 x4 x5 t0_0 t0_1 t0_2 t0_3 t0_4 t0_5 t0_6 t0_7 t0_8 t0_9 t0_10 t1_0 t2_0 t3_0 t4_0 t5_0 lx39 lx68 lx91 j790 = (F_DR_add x2 x3 x4 x5 t0_0 t0_1 t0_2 t0_3 t0_4 t0_5 t0_6 t0_7 t0_8 t0_9 t0_10 t1_0 t2_0 t3_0 t4_0 t5_0) from Eq.trans (by have c775x := c775; rw [e113] at c775x; rw [← e791, ← e788, ← e786, ← e783, ← e780, ← e778, F_DR_add_J107.eq_1, if_pos c775x]) hR101), (show True ∧ S_DR_add_J139 x2 x3 x4 x5 t0_0 t0_1 t0_2 t0_3 t0_4 t0_5 t0_6 t0_7 t0_8 t0_9 t0_10 t1_0 t2_0 t3_0 t4_0 t5_0 lx39 lx68 lx91 j790 from (by rw [← e791, ← e788, ← e786, ← e783, ← e780, ← e778]; have h := hS102; rw [S_DR_add_J107.eq_1] at h; replace h := q_s2 h; have c775x := c775; rw [e113] at c775x; rw [if_pos c775x] at h; with_reducible exact h))⟩
            ·
              refine lv_lconst (v := 1) hx hb d_15_26_117 (by decide) ?_
              refine lv_goto (tgt := 139) hx hb d_15_26_118 (by decide) ?_
              exact J121 ((1 : Int64)) _ _ _ w58 ⟨(show q_F (0 ≤ 1 + 6442450943) from (show 0 ≤ 1 + 6442450943 from by omega)), (show q_F (1 ≤ 6442450942) from (show 1 ≤ 6442450942 from by omega)), V, q_lw hl (q_lw1 0 rfl (q_lw1 1 rfl (q_lw1 2 rfl (q_lw1 3 rfl (q_lw1 4 rfl (q_lw1 5 rfl (q_lw1 6 rfl q_lw0))))))), (show F_DR_add_J139 x2 x3 x4 x5 t0_0 t0_1 t0_2 t0_3 t0_4 t0_5 t0_6 t0_7 t0_8 t0_9 t0_10 t1_0 t2_0 t3_0 t4_0 t5_0 lx39 lx68 lx91 1 = (F_DR_add x2 x3 x4 x5 t0_0 t0_1 t0_2 t0_3 t0_4 t0_5 t0_6 t0_7 t0_8 t0_9 t0_10 t1_0 t2_0 t3_0 t4_0 t5_0) from Eq.trans (by have c775x := c775; rw [e113] at c775x; rw [F_DR_add_J107.eq_1, if_neg c775x]) hR101), (show True ∧ S_DR_add_J139 x2 x3 x4 x5 t0_0 t0_1 t0_2 t0_3 t0_4 t0_5 t0_6 t0_7 t0_8 t0_9 t0_10 t1_0 t2_0 t3_0 t4_0 t5_0 lx39 lx68 lx91 1 from (by have h := hS102; rw [S_DR_add_J107.eq_1] at h; replace h := q_s2 h; have c775x := c775; rw [e113] at c775x; rw [if_neg c775x] at h; with_reducible exact h))⟩
        ·
          intro J98
          refine lv_if_eq (tgt := 89) hx hb d_15_26_82 (by decide) (fun c794 => ?_) (fun c794 => ?_)
          ·
            refine lv_aload_n hx hb d_15_26_89 rfl (lv_at hl 1 rfl) ?_
            refine q_get (ci := 14) (j := 4) (v := .ref (q 137)) C0 V i_DR rfl rfl hT0 (by decide) w_2004 rfl d_15_26_90 ?_
            refine lv_iload_n hx hb d_15_26_93 rfl (lv_at hl 2 rfl) ?_
            refine q_iald C0 V hT2 (q_ix (x := x2.toInt) rfl (by first | with_reducible exact q_fe ob60 | (have t1 : 0 ≤ x2.toInt := ob60; omega)) (by have t1 : 0 ≤ x2.toInt := ob60; have t2 : x2.toInt ≤ 9 := ob61; have e9 : (((10 : Int32).toNatClampNeg : Nat) : Int) = 10 := (by decide); omega)) d_15_26_94 ?_
            obtain ⟨a796, e797⟩ := q_nm (t2_0 x2.toNatClampNeg : Int32)
            refine q_ti (v := a796) e797 ?_
            refine lv_i2l hx hb d_15_26_95 rfl ?_
            obtain ⟨j798, e799⟩ := q_nm (a796.toInt64 : Int64)
            refine q_tl (v := j798) e799 ?_
            have b800 : q_F (j798.toInt = a796.toInt) := (by rw [← e799]; show (a796.toInt64 : Int64).toInt = a796.toInt; exact q_i2l rfl)
            refine lv_lload hx hb d_15_26_96 (lv_at hl 0 rfl) ?_
            refine lv_ladd hx hb d_15_26_98 ?_
            obtain ⟨j801, e802⟩ := q_nm (j798 + lx68 : Int64)
            refine q_tl (v := j801) e802 ?_
            have b803 : q_F (j801.toInt = j798.toInt + lx68.toInt) := (by rw [← e802]; show (j798 + lx68 : Int64).toInt = j798.toInt + lx68.toInt; exact q_addL (x := j798.toInt) (y := lx68.toInt) rfl rfl (by have t1 : 0 ≤ lx68.toInt + 2147483648 := i76; have t2 : j798.toInt = a796.toInt := b800; have _ := q_lo32 (x := a796); have _ := q_hi32 (x := a796); have t3 : lx68.toInt ≤ 2147483647 := i77; omega) (by have t1 : 0 ≤ lx68.toInt + 2147483648 := i76; have t2 : j798.toInt = a796.toInt := b800; have _ := q_lo32 (x := a796); have _ := q_hi32 (x := a796); have t3 : lx68.toInt ≤ 2147483647 := i77; omega))
            refine lv_aload_n hx hb d_15_26_99 rfl (lv_at hl 1 rfl) ?_
            refine q_get (ci := 14) (j := 6) (v := .ref (q 139)) C0 V i_DR rfl rfl hT0 (by decide) w_2008 rfl d_15_26_100 ?_
            refine lv_iload_n hx hb d_15_26_103 rfl (lv_at hl 2 rfl) ?_
            refine q_iald C0 V hT4 (q_ix (x := x2.toInt) rfl (by first | with_reducible exact q_fe ob60 | (have t1 : 0 ≤ x2.toInt := ob60; omega)) (by have t1 : 0 ≤ x2.toInt := ob60; have t2 : x2.toInt ≤ 9 := ob61; have e9 : (((10 : Int32).toNatClampNeg : Nat) : Int) = 10 := (by decide); omega)) d_15_26_104 ?_
            obtain ⟨a804, e805⟩ := q_nm (t4_0 x2.toNatClampNeg : Int32)
            refine q_ti (v := a804) e805 ?_
            refine lv_i2l hx hb d_15_26_105 rfl ?_
            obtain ⟨j806, e807⟩ := q_nm (a804.toInt64 : Int64)
            refine q_tl (v := j806) e807 ?_
            have b808 : q_F (j806.toInt = a804.toInt) := (by rw [← e807]; show (a804.toInt64 : Int64).toInt = a804.toInt; exact q_i2l rfl)
            refine lv_lsub hx hb d_15_26_106 ?_
            obtain ⟨j809, e810⟩ := q_nm (j801 - j806 : Int64)
            refine q_tl (v := j809) e810 ?_
            have b811 : q_F (j809.toInt = j801.toInt - j806.toInt) := (by rw [← e810]; show (j801 - j806 : Int64).toInt = j801.toInt - j806.toInt; exact q_subL (x := j801.toInt) (y := j806.toInt) rfl rfl (by have t1 : 0 ≤ lx68.toInt + 2147483648 := i76; have t2 : j798.toInt = a796.toInt := b800; have t3 : j801.toInt = j798.toInt + lx68.toInt := b803; have t4 : j806.toInt = a804.toInt := b808; have _ := q_lo32 (x := a796); have _ := q_hi32 (x := a796); have _ := q_lo32 (x := a804); have _ := q_hi32 (x := a804); have t5 : lx68.toInt ≤ 2147483647 := i77; omega) (by have t1 : 0 ≤ lx68.toInt + 2147483648 := i76; have t2 : j798.toInt = a796.toInt := b800; have t3 : j801.toInt = j798.toInt + lx68.toInt := b803; have t4 : j806.toInt = a804.toInt := b808; have _ := q_lo32 (x := a796); have _ := q_hi32 (x := a796); have _ := q_lo32 (x := a804); have _ := q_hi32 (x := a804); have t5 : lx68.toInt ≤ 2147483647 := i77; omega))
            exact J98 ((j809 : Int64)) _ _ _ w58 ⟨(show q_F (0 ≤ j809.toInt + 6442450943) from (show 0 ≤ j809.toInt + 6442450943 from by have t1 : 0 ≤ lx68.toInt + 2147483648 := i76; have t2 : j798.toInt = a796.toInt := b800; have t3 : j801.toInt = j798.toInt + lx68.toInt := b803; have t4 : j806.toInt = a804.toInt := b808; have t5 : j809.toInt = j801.toInt - j806.toInt := b811; have _ := q_lo32 (x := a796); have _ := q_hi32 (x := a796); have _ := q_lo32 (x := a804); have _ := q_hi32 (x := a804); omega)), (show q_F (j809.toInt ≤ 6442450942) from (show j809.toInt ≤ 6442450942 from by have t1 : lx68.toInt ≤ 2147483647 := i77; have t2 : j798.toInt = a796.toInt := b800; have t3 : j801.toInt = j798.toInt + lx68.toInt := b803; have t4 : j806.toInt = a804.toInt := b808; have t5 : j809.toInt = j801.toInt - j806.toInt := b811; have _ := q_lo32 (x := a796); have _ := q_hi32 (x := a796); have _ := q_lo32 (x := a804); have _ := q_hi32 (x := a804); omega)), V, q_lw hl (q_lw1 0 rfl (q_lw1 1 rfl (q_lw1 2 rfl (q_lw1 3 rfl (q_lw1 4 rfl (q_lw1 5 rfl q_lw0)))))), (show F_DR_add_J107 x2 x3 x4 x5 t0_0 t0_1 t0_2 t0_3 t0_4 t0_5 t0_6 t0_7 t0_8 t0_9 t0_10 t1_0 t2_0 t3_0 t4_0 t5_0 lx39 lx68 j809 = (F_DR_add x2 x3 x4 x5 t0_0 t0_1 t0_2 t0_3 t0_4 t0_5 t0_6 t0_7 t0_8 t0_9 t0_10 t1_0 t2_0 t3_0 t4_0 t5_0) from Eq.trans (by have c794x := c794; rw [e90] at c794x; rw [← e810, ← e807, ← e805, ← e802, ← e799, ← e797, F_DR_add_J75.eq_1, if_pos c794x]) hR78), (show True ∧ S_DR_add_J107 x2 x3 x4 x5 t0_0 t0_1 t0_2 t0_3 t0_4 t0_5 t0_6 t0_7 t0_8 t0_9 t0_10 t1_0 t2_0 t3_0 t4_0 t5_0 lx39 lx68 j809 from (by rw [← e810, ← e807, ← e805, ← e802, ← e799, ← e797]; have h := hS79; rw [S_DR_add_J75.eq_1] at h; replace h := q_s2 h; have c794x := c794; rw [e90] at c794x; rw [if_pos c794x] at h; with_reducible exact h))⟩
          ·
            refine lv_lconst (v := 1) hx hb d_15_26_85 (by decide) ?_
            refine lv_goto (tgt := 107) hx hb d_15_26_86 (by decide) ?_
            exact J98 ((1 : Int64)) _ _ _ w58 ⟨(show q_F (0 ≤ 1 + 6442450943) from (show 0 ≤ 1 + 6442450943 from by omega)), (show q_F (1 ≤ 6442450942) from (show 1 ≤ 6442450942 from by omega)), V, q_lw hl (q_lw1 0 rfl (q_lw1 1 rfl (q_lw1 2 rfl (q_lw1 3 rfl (q_lw1 4 rfl (q_lw1 5 rfl q_lw0)))))), (show F_DR_add_J107 x2 x3 x4 x5 t0_0 t0_1 t0_2 t0_3 t0_4 t0_5 t0_6 t0_7 t0_8 t0_9 t0_10 t1_0 t2_0 t3_0 t4_0 t5_0 lx39 lx68 1 = (F_DR_add x2 x3 x4 x5 t0_0 t0_1 t0_2 t0_3 t0_4 t0_5 t0_6 t0_7 t0_8 t0_9 t0_10 t1_0 t2_0 t3_0 t4_0 t5_0) from Eq.trans (by have c794x := c794; rw [e90] at c794x; rw [F_DR_add_J75.eq_1, if_neg c794x]) hR78), (show True ∧ S_DR_add_J107 x2 x3 x4 x5 t0_0 t0_1 t0_2 t0_3 t0_4 t0_5 t0_6 t0_7 t0_8 t0_9 t0_10 t1_0 t2_0 t3_0 t4_0 t5_0 lx39 lx68 1 from (by have h := hS79; rw [S_DR_add_J75.eq_1] at h; replace h := q_s2 h; have c794x := c794; rw [e90] at c794x; rw [if_neg c794x] at h; with_reducible exact h))⟩
      ·
        intro J75
        refine lv_icmp_le (tgt := 68) hx hb d_15_26_55 (by decide) (fun c813 => ?_) (fun c813 => ?_)
        ·
          refine lv_aload_n hx hb d_15_26_68 rfl (lv_at hl 0 rfl) ?_
          refine q_get (ci := 14) (j := 6) (v := .ref (q 139)) C0 V i_DR rfl rfl hT0 (by decide) w_2008 rfl d_15_26_69 ?_
          refine lv_iload_n hx hb d_15_26_72 rfl (lv_at hl 2 rfl) ?_
          refine q_iald C0 V hT4 (q_ix (x := x3.toInt) rfl (by first | with_reducible exact q_fe ob64 | (have t1 : 0 ≤ x3.toInt := ob64; omega)) (by have t1 : 0 ≤ x3.toInt := ob64; have t2 : x3.toInt ≤ 9 := ob65; have e9 : (((10 : Int32).toNatClampNeg : Nat) : Int) = 10 := (by decide); omega)) d_15_26_73 ?_
          obtain ⟨a815, e816⟩ := q_nm (t4_0 x3.toNatClampNeg : Int32)
          refine q_ti (v := a815) e816 ?_
          refine lv_i2l hx hb d_15_26_74 rfl ?_
          obtain ⟨j817, e818⟩ := q_nm (a815.toInt64 : Int64)
          refine q_tl (v := j817) e818 ?_
          have b819 : q_F (j817.toInt = a815.toInt) := (by rw [← e818]; show (a815.toInt64 : Int64).toInt = a815.toInt; exact q_i2l rfl)
          exact J75 ((j817 : Int64)) _ _ _ w58 ⟨(show q_F (0 ≤ j817.toInt + 2147483648) from (show 0 ≤ j817.toInt + 2147483648 from by have t1 : j817.toInt = a815.toInt := b819; have _ := q_lo32 (x := a815); have _ := q_hi32 (x := a815); omega)), (show q_F (j817.toInt ≤ 2147483647) from (show j817.toInt ≤ 2147483647 from by have t1 : j817.toInt = a815.toInt := b819; have _ := q_lo32 (x := a815); have _ := q_hi32 (x := a815); omega)), V, q_lw hl (q_lw1 0 rfl (q_lw1 1 rfl (q_lw1 2 rfl (q_lw1 3 rfl (q_lw1 4 rfl q_lw0))))), (show F_DR_add_J75 x2 x3 x4 x5 t0_0 t0_1 t0_2 t0_3 t0_4 t0_5 t0_6 t0_7 t0_8 t0_9 t0_10 t1_0 t2_0 t3_0 t4_0 t5_0 lx39 j817 = (F_DR_add x2 x3 x4 x5 t0_0 t0_1 t0_2 t0_3 t0_4 t0_5 t0_6 t0_7 t0_8 t0_9 t0_10 t1_0 t2_0 t3_0 t4_0 t5_0) from Eq.trans (by have c813x := c813; rw [← e67, ← e63] at c813x; rw [← e818, ← e816, F_DR_add_J27.eq_1, if_pos c56, if_pos c813x]) hR49), (show True ∧ S_DR_add_J75 x2 x3 x4 x5 t0_0 t0_1 t0_2 t0_3 t0_4 t0_5 t0_6 t0_7 t0_8 t0_9 t0_10 t1_0 t2_0 t3_0 t4_0 t5_0 lx39 j817 from (by rw [← e818, ← e816]; have h := hS50; rw [S_DR_add_J27.eq_1] at h; rw [if_pos c56] at h; replace h := q_s2 h; replace h := q_s2 h; replace h := q_s2 h; replace h := q_s2 h; have c813x := c813; rw [← e67, ← e63] at c813x; rw [if_pos c813x] at h; with_reducible exact h))⟩
        ·
          refine lv_aload_n hx hb d_15_26_58 rfl (lv_at hl 0 rfl) ?_
          refine q_get (ci := 14) (j := 6) (v := .ref (q 139)) C0 V i_DR rfl rfl hT0 (by decide) w_2008 rfl d_15_26_59 ?_
          refine lv_iload_n hx hb d_15_26_62 rfl (lv_at hl 1 rfl) ?_
          refine q_iald C0 V hT4 (q_ix (x := x2.toInt) rfl (by first | with_reducible exact q_fe ob60 | (have t1 : 0 ≤ x2.toInt := ob60; omega)) (by have t1 : 0 ≤ x2.toInt := ob60; have t2 : x2.toInt ≤ 9 := ob61; have e9 : (((10 : Int32).toNatClampNeg : Nat) : Int) = 10 := (by decide); omega)) d_15_26_63 ?_
          obtain ⟨a821, e822⟩ := q_nm (t4_0 x2.toNatClampNeg : Int32)
          refine q_ti (v := a821) e822 ?_
          refine lv_i2l hx hb d_15_26_64 rfl ?_
          obtain ⟨j823, e824⟩ := q_nm (a821.toInt64 : Int64)
          refine q_tl (v := j823) e824 ?_
          have b825 : q_F (j823.toInt = a821.toInt) := (by rw [← e824]; show (a821.toInt64 : Int64).toInt = a821.toInt; exact q_i2l rfl)
          refine lv_goto (tgt := 75) hx hb d_15_26_65 (by decide) ?_
          exact J75 ((j823 : Int64)) _ _ _ w58 ⟨(show q_F (0 ≤ j823.toInt + 2147483648) from (show 0 ≤ j823.toInt + 2147483648 from by have t1 : j823.toInt = a821.toInt := b825; have _ := q_lo32 (x := a821); have _ := q_hi32 (x := a821); omega)), (show q_F (j823.toInt ≤ 2147483647) from (show j823.toInt ≤ 2147483647 from by have t1 : j823.toInt = a821.toInt := b825; have _ := q_lo32 (x := a821); have _ := q_hi32 (x := a821); omega)), V, q_lw hl (q_lw1 0 rfl (q_lw1 1 rfl (q_lw1 2 rfl (q_lw1 3 rfl (q_lw1 4 rfl q_lw0))))), (show F_DR_add_J75 x2 x3 x4 x5 t0_0 t0_1 t0_2 t0_3 t0_4 t0_5 t0_6 t0_7 t0_8 t0_9 t0_10 t1_0 t2_0 t3_0 t4_0 t5_0 lx39 j823 = (F_DR_add x2 x3 x4 x5 t0_0 t0_1 t0_2 t0_3 t0_4 t0_5 t0_6 t0_7 t0_8 t0_9 t0_10 t1_0 t2_0 t3_0 t4_0 t5_0) from Eq.trans (by have c813x := c813; rw [← e67, ← e63] at c813x; rw [← e824, ← e822, F_DR_add_J27.eq_1, if_pos c56, if_neg c813x]) hR49), (show True ∧ S_DR_add_J75 x2 x3 x4 x5 t0_0 t0_1 t0_2 t0_3 t0_4 t0_5 t0_6 t0_7 t0_8 t0_9 t0_10 t1_0 t2_0 t3_0 t4_0 t5_0 lx39 j823 from (by rw [← e824, ← e822]; have h := hS50; rw [S_DR_add_J27.eq_1] at h; rw [if_pos c56] at h; replace h := q_s2 h; replace h := q_s2 h; replace h := q_s2 h; replace h := q_s2 h; have c813x := c813; rw [← e67, ← e63] at c813x; rw [if_neg c813x] at h; with_reducible exact h))⟩
    ·
      exact q_retv C0 V (⟨hI, hF, lx39, t0_1, t0_2, t0_3, t0_4, t0_5, t0_6, t0_7, t0_8, t0_9, t0_10, t1_0, t2_0, t3_0, t4_0, t5_0, hT0, hT1, hT2, hT3, hT4, hT5, (show 0 ≤ t0_4.toInt from (by first | with_reducible exact (q_fe btt0_4).2 | with_reducible exact (q_fe btt0_4).1 | (have t1 : 0 ≤ t0_4.toInt ∧ t0_4.toInt ≤ 1 := btt0_4; omega))), (show 0 ≤ t0_5.toInt from (by first | with_reducible exact (q_fe btt0_5).2 | with_reducible exact (q_fe btt0_5).1 | (have t1 : 0 ≤ t0_5.toInt ∧ t0_5.toInt ≤ 1 := btt0_5; omega))), (show t0_5.toInt ≤ 1 from (by first | with_reducible exact (q_fe btt0_5).2 | with_reducible exact (q_fe btt0_5).1 | (have t1 : 0 ≤ t0_5.toInt ∧ t0_5.toInt ≤ 1 := btt0_5; omega))), (show t0_1.toInt ≤ t0_1.toInt from (by omega)), (show t0_1.toInt ≤ t0_1.toInt from (by omega)), (show t0_4.toInt ≤ t0_4.toInt from (by omega)), (show t0_6.toInt ≤ t0_6.toInt from (by omega)), (show t0_6.toInt ≤ t0_6.toInt from (by omega)), (show t0_7.toInt ≤ t0_7.toInt from (by omega)), (show t0_7.toInt ≤ t0_7.toInt from (by omega)), (show t0_8.toInt ≤ t0_8.toInt from (by omega)), (show t0_8.toInt ≤ t0_8.toInt from (by omega)), (show t0_9.toInt ≤ t0_9.toInt from (by omega)), (show t0_9.toInt ≤ t0_9.toInt from (by omega)), (show (lx39, t0_1, t0_2, t0_3, t0_4, t0_5, t0_6, t0_7, t0_8, t0_9, t0_10, t1_0, t2_0, t3_0, t4_0, t5_0) = (F_DR_add x2 x3 x4 x5 t0_0 t0_1 t0_2 t0_3 t0_4 t0_5 t0_6 t0_7 t0_8 t0_9 t0_10 t1_0 t2_0 t3_0 t4_0 t5_0) from Eq.trans (by rw [F_DR_add_J27.eq_1, if_neg c56]) hR49)⟩) d_15_26_37
  ·
    intro J46
    refine q_join (X := Unit) (fun z H locs ls _ => q_Wd D g (va_A ws sz) s ws H locs ∧ lv_has ls 20 [(0, .ref (q 134)), (1, .int x2), (2, .int x3), (3, .int x4), (4, .int x5)] ∧ F_DR_add_J22 x2 x3 x4 x5 t0_0 t0_1 t0_2 t0_3 t0_4 t0_5 t0_6 t0_7 t0_8 t0_9 t0_10 t1_0 t2_0 t3_0 t4_0 t5_0 = (F_DR_add x2 x3 x4 x5 t0_0 t0_1 t0_2 t0_3 t0_4 t0_5 t0_6 t0_7 t0_8 t0_9 t0_10 t1_0 t2_0 t3_0 t4_0 t5_0) ∧ True ∧ S_DR_add_J22 x2 x3 x4 x5 t0_0 t0_1 t0_2 t0_3 t0_4 t0_5 t0_6 t0_7 t0_8 t0_9 t0_10 t1_0 t2_0 t3_0 t4_0 t5_0) (fun z => [.ref (q 134)]) 22 0 0 ?_ ?_
    ·
      rintro _ H locs ls _ ⟨V, hl, hR834, hS835⟩
      replace hl : lv_has ls 20 [(0, .ref (q 134)), (1, .int x2), (2, .int x3), (3, .int x4), (4, .int x5)] := hl
      refine lv_iconst (v := 1) hx hb d_15_26_22 (by decide) ?_
      refine lv_goto (tgt := 27) hx hb d_15_26_23 (by decide) ?_
      exact J46 ((1 : Int32)) _ _ _ ws ⟨(show q_F (0 ≤ 1) from (show 0 ≤ 1 from by omega)), (show q_F (1 ≤ 1) from (show 1 ≤ 1 from by omega)), V, q_lw hl (q_lw1 0 rfl (q_lw1 1 rfl (q_lw1 2 rfl (q_lw1 3 rfl (q_lw1 4 rfl q_lw0))))), (show F_DR_add_J27 x2 x3 x4 x5 t0_0 t0_1 t0_2 t0_3 t0_4 t0_5 t0_6 t0_7 t0_8 t0_9 t0_10 t1_0 t2_0 t3_0 t4_0 t5_0 1 = (F_DR_add x2 x3 x4 x5 t0_0 t0_1 t0_2 t0_3 t0_4 t0_5 t0_6 t0_7 t0_8 t0_9 t0_10 t1_0 t2_0 t3_0 t4_0 t5_0) from Eq.trans (by rw [F_DR_add_J22.eq_1]) hR834), (show True ∧ S_DR_add_J27 x2 x3 x4 x5 t0_0 t0_1 t0_2 t0_3 t0_4 t0_5 t0_6 t0_7 t0_8 t0_9 t0_10 t1_0 t2_0 t3_0 t4_0 t5_0 1 from (by have h := hS835; rw [S_DR_add_J22.eq_1] at h; with_reducible exact h))⟩
    ·
      intro J833
      refine lv_if_ne (tgt := 22) hx hb d_15_26_5 (by decide) (fun c839 => ?_) (fun c839 => ?_)
      ·
        exact J833 (()) _ _ _ ws ⟨V, q_lw hl (q_lw1 0 rfl (q_lw1 1 rfl (q_lw1 2 rfl (q_lw1 3 rfl (q_lw1 4 rfl q_lw0))))), (show F_DR_add_J22 x2 x3 x4 x5 t0_0 t0_1 t0_2 t0_3 t0_4 t0_5 t0_6 t0_7 t0_8 t0_9 t0_10 t1_0 t2_0 t3_0 t4_0 t5_0 = (F_DR_add x2 x3 x4 x5 t0_0 t0_1 t0_2 t0_3 t0_4 t0_5 t0_6 t0_7 t0_8 t0_9 t0_10 t1_0 t2_0 t3_0 t4_0 t5_0) from (by have c839x := c839; rw [e38] at c839x; rw [F_DR_add.eq_1, if_neg c839x])), (show True ∧ S_DR_add_J22 x2 x3 x4 x5 t0_0 t0_1 t0_2 t0_3 t0_4 t0_5 t0_6 t0_7 t0_8 t0_9 t0_10 t1_0 t2_0 t3_0 t4_0 t5_0 from (by have h := hS; rw [S_DR_add.eq_1] at h; have c839x := c839; rw [e38] at c839x; rw [if_neg c839x] at h; with_reducible exact h))⟩
      ·
        refine lv_iload_n hx hb d_15_26_8 rfl (lv_at hl 2 rfl) ?_
        refine q_goi V (q_runS (As := [.int x3]) (rest := [.ref (q 134)]) (d := 1) (mc := 0) (ms := 0) C0 V rfl LS_DR_113 (X_DR_no l D g q ws  x3 hI   _) rfl hl.1 rfl (Nat.le_of_ble_eq_true rfl) ⟨by decide, by decide⟩ ⟨Nat.le_of_ble_eq_true rfl, Nat.le_of_ble_eq_true rfl⟩ d_15_26_9) (fun a844 u842 H locs hp843 V => ?_)
        obtain ⟨rfl, b845, b846, hE847⟩ := hp843
        have e848 : a844 = (F_DR_no x3) := hE847
        clear b845
        clear b846
        refine lv_if_ne (tgt := 22) hx hb d_15_26_12 (by decide) (fun c849 => ?_) (fun c849 => ?_)
        ·
          exact J833 (()) _ _ _ ws ⟨V, q_lw hl (q_lw1 0 rfl (q_lw1 1 rfl (q_lw1 2 rfl (q_lw1 3 rfl (q_lw1 4 rfl q_lw0))))), (show F_DR_add_J22 x2 x3 x4 x5 t0_0 t0_1 t0_2 t0_3 t0_4 t0_5 t0_6 t0_7 t0_8 t0_9 t0_10 t1_0 t2_0 t3_0 t4_0 t5_0 = (F_DR_add x2 x3 x4 x5 t0_0 t0_1 t0_2 t0_3 t0_4 t0_5 t0_6 t0_7 t0_8 t0_9 t0_10 t1_0 t2_0 t3_0 t4_0 t5_0) from (by have c839x := c839; rw [e38] at c839x; have c849x := c849; rw [e848] at c849x; rw [F_DR_add.eq_1, if_pos c839x, if_neg c849x])), (show True ∧ S_DR_add_J22 x2 x3 x4 x5 t0_0 t0_1 t0_2 t0_3 t0_4 t0_5 t0_6 t0_7 t0_8 t0_9 t0_10 t1_0 t2_0 t3_0 t4_0 t5_0 from (by have h := hS; rw [S_DR_add.eq_1] at h; have c839x := c839; rw [e38] at c839x; rw [if_pos c839x] at h; have c849x := c849; rw [e848] at c849x; rw [if_neg c849x] at h; with_reducible exact h))⟩
        ·
          refine lv_iload_n hx hb d_15_26_15 rfl (lv_at hl 3 rfl) ?_
          refine q_goi V (q_runS (As := [.int x4]) (rest := [.ref (q 134)]) (d := 1) (mc := 0) (ms := 0) C0 V rfl LS_DR_113 (X_DR_no l D g q ws  x4 hI   _) rfl hl.1 rfl (Nat.le_of_ble_eq_true rfl) ⟨by decide, by decide⟩ ⟨Nat.le_of_ble_eq_true rfl, Nat.le_of_ble_eq_true rfl⟩ d_15_26_16) (fun a854 u852 H locs hp853 V => ?_)
          obtain ⟨rfl, b855, b856, hE857⟩ := hp853
          have e858 : a854 = (F_DR_no x4) := hE857
          clear b855
          clear b856
          refine lv_if_eq (tgt := 26) hx hb d_15_26_19 (by decide) (fun c859 => ?_) (fun c859 => ?_)
          ·
            refine lv_iconst (v := 0) hx hb d_15_26_26 (by decide) ?_
            exact J46 ((0 : Int32)) _ _ _ ws ⟨(show q_F (0 ≤ 0) from (show 0 ≤ 0 from by omega)), (show q_F (0 ≤ 1) from (show 0 ≤ 1 from by omega)), V, q_lw hl (q_lw1 0 rfl (q_lw1 1 rfl (q_lw1 2 rfl (q_lw1 3 rfl (q_lw1 4 rfl q_lw0))))), (show F_DR_add_J27 x2 x3 x4 x5 t0_0 t0_1 t0_2 t0_3 t0_4 t0_5 t0_6 t0_7 t0_8 t0_9 t0_10 t1_0 t2_0 t3_0 t4_0 t5_0 0 = (F_DR_add x2 x3 x4 x5 t0_0 t0_1 t0_2 t0_3 t0_4 t0_5 t0_6 t0_7 t0_8 t0_9 t0_10 t1_0 t2_0 t3_0 t4_0 t5_0) from (by have c839x := c839; rw [e38] at c839x; have c849x := c849; rw [e848] at c849x; have c859x := c859; rw [e858] at c859x; rw [F_DR_add.eq_1, if_pos c839x, if_pos c849x, if_pos c859x])), (show True ∧ S_DR_add_J27 x2 x3 x4 x5 t0_0 t0_1 t0_2 t0_3 t0_4 t0_5 t0_6 t0_7 t0_8 t0_9 t0_10 t1_0 t2_0 t3_0 t4_0 t5_0 0 from (by have h := hS; rw [S_DR_add.eq_1] at h; have c839x := c839; rw [e38] at c839x; rw [if_pos c839x] at h; have c849x := c849; rw [e848] at c849x; rw [if_pos c849x] at h; have c859x := c859; rw [e858] at c859x; rw [if_pos c859x] at h; with_reducible exact h))⟩
          ·
            exact J833 (()) _ _ _ ws ⟨V, q_lw hl (q_lw1 0 rfl (q_lw1 1 rfl (q_lw1 2 rfl (q_lw1 3 rfl (q_lw1 4 rfl q_lw0))))), (show F_DR_add_J22 x2 x3 x4 x5 t0_0 t0_1 t0_2 t0_3 t0_4 t0_5 t0_6 t0_7 t0_8 t0_9 t0_10 t1_0 t2_0 t3_0 t4_0 t5_0 = (F_DR_add x2 x3 x4 x5 t0_0 t0_1 t0_2 t0_3 t0_4 t0_5 t0_6 t0_7 t0_8 t0_9 t0_10 t1_0 t2_0 t3_0 t4_0 t5_0) from (by have c839x := c839; rw [e38] at c839x; have c849x := c849; rw [e848] at c849x; have c859x := c859; rw [e858] at c859x; rw [F_DR_add.eq_1, if_pos c839x, if_pos c849x, if_neg c859x])), (show True ∧ S_DR_add_J22 x2 x3 x4 x5 t0_0 t0_1 t0_2 t0_3 t0_4 t0_5 t0_6 t0_7 t0_8 t0_9 t0_10 t1_0 t2_0 t3_0 t4_0 t5_0 from (by have h := hS; rw [S_DR_add.eq_1] at h; have c839x := c839; rw [e38] at c839x; rw [if_pos c839x] at h; have c849x := c849; rw [e848] at c849x; rw [if_pos c849x] at h; have c859x := c859; rw [e858] at c859x; rw [if_neg c859x] at h; with_reducible exact h))⟩

