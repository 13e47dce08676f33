/-! Long.compare, exactly -/
theorem d_28_42_0 : decode prog_28_method_42_code 0 = .ok (.lload_n 0, 1) := by decide +kernel
theorem d_28_42_1 : decode prog_28_method_42_code 1 = .ok (.lload_n 2, 1) := by decide +kernel
theorem d_28_42_2 : decode prog_28_method_42_code 2 = .ok (.lcmp, 1) := by decide +kernel
theorem d_28_42_3 : decode prog_28_method_42_code 3 = .ok (.ifCond .ge 7, 3) := by decide +kernel
theorem d_28_42_10 : decode prog_28_method_42_code 10 = .ok (.lload_n 0, 1) := by decide +kernel
theorem d_28_42_11 : decode prog_28_method_42_code 11 = .ok (.lload_n 2, 1) := by decide +kernel
theorem d_28_42_12 : decode prog_28_method_42_code 12 = .ok (.lcmp, 1) := by decide +kernel
theorem d_28_42_13 : decode prog_28_method_42_code 13 = .ok (.ifCond .ne 7, 3) := by decide +kernel
theorem d_28_42_20 : decode prog_28_method_42_code 20 = .ok (.iconst 1, 1) := by decide +kernel
theorem d_28_42_21 : decode prog_28_method_42_code 21 = .ok (.ireturn, 1) := by decide +kernel
theorem d_28_42_16 : decode prog_28_method_42_code 16 = .ok (.iconst 0, 1) := by decide +kernel
theorem d_28_42_17 : decode prog_28_method_42_code 17 = .ok (.goto 4, 3) := by decide +kernel
theorem d_28_42_6 : decode prog_28_method_42_code 6 = .ok (.iconst (-1), 1) := by decide +kernel
theorem d_28_42_7 : decode prog_28_method_42_code 7 = .ok (.goto 14, 3) := by decide +kernel
def y_jLong_compare : MethodName := ⟨"java/lang/Long", "compare", "(JJ)I"⟩
def F_jLong_compare (x1 : Int64) (x2 : Int64) : Int32 := if (0 : Int32) ≤ (lg_cmp x1 x2 : Int32) then (if (lg_cmp x1 x2 : Int32) = (0 : Int32) then ((0 : Int32)) else ((1 : Int32))) else ((-1 : Int32))
set_option maxRecDepth 100000 in
set_option maxHeartbeats 4000000 in
theorem X_jLong_compare (l : Launch) (D : va_G) (g : Nat → ClassId) (q : Nat → Nat) (ws : va_W) (x1 : Int64) (x2 : Int64) (hI : q_I (nsh g q) q ws) : q_mI l y_jLong_compare prog_28_method_42_code 4 (.int) 1 0 0 D g [.long x1, .long x2] ws (fun r u => ws = u ∧ (0 ≤ r.toInt + 1) ∧ (r.toInt ≤ 1) ∧ r = (F_jLong_compare x1 x2)) := by
  intro sz
  refine q_into (by decide) (Nat.le_of_ble_eq_true rfl) ?_
  intro p e s m below meth c ls hsz C0 V hl
  have hx := C0.1
  have hb := C0.2.1
  have hl : lv_has ls 4 [(0, .long x1), (2, .long x2)] := hl
  refine lv_lload_n hx hb d_28_42_0 rfl (lv_at hl 0 rfl) ?_
  refine lv_lload_n hx hb d_28_42_1 rfl (lv_at hl 1 rfl) ?_
  refine W.lcmp hx hb d_28_42_2 ?_
  obtain ⟨a1, e2⟩ := q_nm (lg_cmp x1 x2 : Int32)
  refine q_ti (v := a1) e2 ?_
  refine lv_if_ge (tgt := 10) hx hb d_28_42_3 (by decide) (fun c4 => ?_) (fun c4 => ?_)
  ·
    refine lv_lload_n hx hb d_28_42_10 rfl (lv_at hl 0 rfl) ?_
    refine lv_lload_n hx hb d_28_42_11 rfl (lv_at hl 1 rfl) ?_
    refine W.lcmp hx hb d_28_42_12 ?_
    obtain ⟨a6, e7⟩ := q_nm (lg_cmp x1 x2 : Int32)
    refine q_ti (v := a6) e7 ?_
    refine lv_if_ne (tgt := 20) hx hb d_28_42_13 (by decide) (fun c9 => ?_) (fun c9 => ?_)
    ·
      refine lv_iconst (v := 1) hx hb d_28_42_20 (by decide) ?_
      exact q_reti C0 V (⟨rfl, (show 0 ≤ (1 : Int32).toInt + 1 from (by have z2 : (1 : Int32).toInt = 1 := rfl; omega)), (show (1 : Int32).toInt ≤ 1 from (by have z2 : (1 : Int32).toInt = 1 := rfl; omega)), (show (1 : Int32) = (F_jLong_compare x1 x2) from (by have c4x := c4; rw [← e2] at c4x; have c9x := c9; rw [← e7] at c9x; rw [F_jLong_compare.eq_1, if_pos c4x, if_neg c9x]))⟩) d_28_42_21
    ·
      refine lv_iconst (v := 0) hx hb d_28_42_16 (by decide) ?_
      refine lv_goto (tgt := 21) hx hb d_28_42_17 (by decide) ?_
      exact q_reti C0 V (⟨rfl, (show 0 ≤ (0 : Int32).toInt + 1 from (by have z2 : (0 : Int32).toInt = 0 := rfl; omega)), (show (0 : Int32).toInt ≤ 1 from (by have z2 : (0 : Int32).toInt = 0 := rfl; omega)), (show (0 : Int32) = (F_jLong_compare x1 x2) from (by have c4x := c4; rw [← e2] at c4x; have c9x := c9; rw [← e7] at c9x; rw [F_jLong_compare.eq_1, if_pos c4x, if_pos c9x]))⟩) d_28_42_21
  ·
    refine lv_iconst (v := (-1)) hx hb d_28_42_6 (by decide) ?_
    refine lv_goto (tgt := 21) hx hb d_28_42_7 (by decide) ?_
    exact q_reti C0 V (⟨rfl, (show 0 ≤ (-1 : Int32).toInt + 1 from (by have z2 : (-1 : Int32).toInt = -1 := rfl; omega)), (show (-1 : Int32).toInt ≤ 1 from (by have z2 : (-1 : Int32).toInt = -1 := rfl; omega)), (show (-1 : Int32) = (F_jLong_compare x1 x2) from (by have c4x := c4; rw [← e2] at c4x; rw [F_jLong_compare.eq_1, if_neg c4x]))⟩) d_28_42_21

