/-! FloatRows, exactly -/
theorem d_17_3_0 : decode prog_17_method_3_code 0 = .ok (.iload_n 2, 1) := by decide +kernel
theorem d_17_3_1 : decode prog_17_method_3_code 1 = .ok (.ifCond .eq 16, 3) := by decide +kernel
theorem d_17_3_17 : decode prog_17_method_3_code 17 = .ok (.iconst 0, 1) := by decide +kernel
theorem d_17_3_18 : decode prog_17_method_3_code 18 = .ok (.ireturn, 1) := by decide +kernel
theorem d_17_3_4 : decode prog_17_method_3_code 4 = .ok (.lload_n 0, 1) := by decide +kernel
theorem d_17_3_5 : decode prog_17_method_3_code 5 = .ok (.bipush 32, 2) := by decide +kernel
theorem d_17_3_7 : decode prog_17_method_3_code 7 = .ok (.lushr, 1) := by decide +kernel
theorem d_17_3_8 : decode prog_17_method_3_code 8 = .ok (.lconst 0, 1) := by decide +kernel
theorem d_17_3_9 : decode prog_17_method_3_code 9 = .ok (.lcmp, 1) := by decide +kernel
theorem d_17_3_10 : decode prog_17_method_3_code 10 = .ok (.ifCond .eq 7, 3) := by decide +kernel
theorem d_17_3_13 : decode prog_17_method_3_code 13 = .ok (.iconst 1, 1) := by decide +kernel
theorem d_17_3_14 : decode prog_17_method_3_code 14 = .ok (.goto 4, 3) := by decide +kernel
def y_FR_isWrong : MethodName := ⟨"NumberHouseModel$FloatRows", "isWrong", "(JZ)Z"⟩
def F_FR_isWrong (x1 : Int64) (x2 : Int32) : Int32 := if x2 = (0 : Int32) then ((0 : Int32)) else (if (lg_cmp ((x1.toUInt64 >>> ((32 : Int32).toInt64.toUInt64 &&& Int64.toUInt64 63)).toInt64 : Int64) 0 : Int32) = (0 : Int32) then ((0 : Int32)) else ((1 : Int32)))
set_option maxRecDepth 100000 in
set_option maxHeartbeats 4000000 in
theorem X_FR_isWrong (l : Launch) (D : va_G) (g : Nat → ClassId) (q : Nat → Nat) (ws : va_W) (x1 : Int64) (x2 : Int32) (hI : q_I (msh g q) q ws) (hzx2 : 0 ≤ x2.toInt ∧ x2.toInt ≤ 1) : q_mI l y_FR_isWrong prog_17_method_3_code 3 (.boolean) 1 0 0 D g [.long x1, .int x2] ws (fun r u => ws = u ∧ (0 ≤ r.toInt) ∧ (r.toInt ≤ x2.toInt) ∧ r = (F_FR_isWrong x1 x2)) := by
  intro sz
  refine q_into (by decide) (Nat.le_of_ble_eq_true rfl) ?_
  intro p e s m below meth c ls hsz C0 V hl
  have hx := C0.1
  have hb := C0.2.1
  replace hzx2 : q_F (0 ≤ x2.toInt ∧ x2.toInt ≤ 1) := hzx2
  have hl : lv_has ls 3 [(0, .long x1), (2, .int x2)] := hl
  refine lv_iload_n hx hb d_17_3_0 rfl (lv_at hl 1 rfl) ?_
  refine lv_if_eq (tgt := 17) hx hb d_17_3_1 (by decide) (fun c1 => ?_) (fun c1 => ?_)
  ·
    have b2 : q_F (x2.toInt = 0) := (q_eqI c1)
    refine lv_iconst (v := 0) hx hb d_17_3_17 (by decide) ?_
    exact q_retz C0 V (by decide) (⟨rfl, (show 0 ≤ (0 : Int32).toInt from (by have z2 : (0 : Int32).toInt = 0 := rfl; omega)), (show (0 : Int32).toInt ≤ x2.toInt from (by have z2 : (0 : Int32).toInt = 0 := rfl; have t1 : 0 ≤ x2.toInt ∧ x2.toInt ≤ 1 := hzx2; omega)), (show (0 : Int32) = (F_FR_isWrong x1 x2) from (by rw [F_FR_isWrong.eq_1, if_pos c1]))⟩) d_17_3_18
  ·
    have b3 : q_F (x2.toInt ≠ 0) := (q_neI c1)
    refine lv_lload_n hx hb d_17_3_4 rfl (lv_at hl 0 rfl) ?_
    refine lv_bipush (v := 32) hx hb d_17_3_5 (by decide) ?_
    refine lv_lushr hx hb d_17_3_7 rfl ?_
    obtain ⟨j4, e5⟩ := q_nm ((x1.toUInt64 >>> ((32 : Int32).toInt64.toUInt64 &&& Int64.toUInt64 63)).toInt64 : Int64)
    refine q_tl (v := j4) e5 ?_
    have b6 : q_F (0 ≤ j4.toInt ∧ j4.toInt ≤ 4294967295) := (by rw [← e5]; show 0 ≤ ((x1.toUInt64 >>> ((32 : Int32).toInt64.toUInt64 &&& Int64.toUInt64 63)).toInt64 : Int64).toInt ∧ ((x1.toUInt64 >>> ((32 : Int32).toInt64.toUInt64 &&& Int64.toUInt64 63)).toInt64 : Int64).toInt ≤ 4294967295; exact (by have z := s_ushrJ (x := x1) (c := 32) 32 (by decide) (by decide); omega))
    refine lv_lconst (v := 0) hx hb d_17_3_8 (by decide) ?_
    refine W.lcmp hx hb d_17_3_9 ?_
    obtain ⟨a7, e8⟩ := q_nm (lg_cmp j4 0 : Int32)
    refine q_ti (v := a7) e8 ?_
    have b9 : q_F (-1 ≤ a7.toInt ∧ a7.toInt ≤ 1 ∧ ((a7.toInt = -1 ∧ j4.toInt < 0) ∨ (a7.toInt = 0 ∧ j4.toInt = 0) ∨ (a7.toInt = 1 ∧ 0 < j4.toInt))) := (by rw [← e8]; show -1 ≤ (lg_cmp j4 0 : Int32).toInt ∧ (lg_cmp j4 0 : Int32).toInt ≤ 1 ∧ (((lg_cmp j4 0 : Int32).toInt = -1 ∧ j4.toInt < 0) ∨ ((lg_cmp j4 0 : Int32).toInt = 0 ∧ j4.toInt = 0) ∨ ((lg_cmp j4 0 : Int32).toInt = 1 ∧ 0 < j4.toInt)); exact (by have y1 : (0 : Int64).toInt = 0 := rfl; have z := s_lcmp (a := j4) (b := 0); omega))
    refine lv_if_eq (tgt := 17) hx hb d_17_3_10 (by decide) (fun c10 => ?_) (fun c10 => ?_)
    ·
      have b11 : q_F (a7.toInt = 0) := (q_eqI c10)
      refine lv_iconst (v := 0) hx hb d_17_3_17 (by decide) ?_
      exact q_retz C0 V (by decide) (⟨rfl, (show 0 ≤ (0 : Int32).toInt from (by have z2 : (0 : Int32).toInt = 0 := rfl; omega)), (show (0 : Int32).toInt ≤ x2.toInt from (by have z2 : (0 : Int32).toInt = 0 := rfl; have t1 : 0 ≤ x2.toInt ∧ x2.toInt ≤ 1 := hzx2; omega)), (show (0 : Int32) = (F_FR_isWrong x1 x2) from (by have c10x := c10; rw [← e8, ← e5] at c10x; rw [F_FR_isWrong.eq_1, if_neg c1, if_pos c10x]))⟩) d_17_3_18
    ·
      have b12 : q_F (a7.toInt ≠ 0) := (q_neI c10)
      refine lv_iconst (v := 1) hx hb d_17_3_13 (by decide) ?_
      refine lv_goto (tgt := 18) hx hb d_17_3_14 (by decide) ?_
      exact q_retz C0 V (by decide) (⟨rfl, (show 0 ≤ (1 : Int32).toInt from (by have z2 : (1 : Int32).toInt = 1 := rfl; omega)), (show (1 : Int32).toInt ≤ x2.toInt from (by have z2 : (1 : Int32).toInt = 1 := rfl; have t1 : 0 ≤ x2.toInt ∧ x2.toInt ≤ 1 := hzx2; have t2 : x2.toInt ≠ 0 := b3; omega)), (show (1 : Int32) = (F_FR_isWrong x1 x2) from (by have c10x := c10; rw [← e8, ← e5] at c10x; rw [F_FR_isWrong.eq_1, if_neg c1, if_neg c10x]))⟩) d_17_3_18
theorem d_17_4_0 : decode prog_17_method_4_code 0 = .ok (.aload_n 0, 1) := by decide +kernel
theorem d_17_4_1 : decode prog_17_method_4_code 1 = .ok (.iload_n 3, 1) := by decide +kernel
theorem d_17_4_12 : decode prog_17_method_4_code 12 = .ok (.putfield 35, 3) := by decide +kernel
set_option maxRecDepth 100000 in
theorem w_2088 : (Cond.fieldLink "NumberHouseModel$FloatRows" (35 : Nat) "NumberHouseModel$FloatRows" "fractionBits" "I") ∈ q_tbl := q_of9 168 rfl (by decide +kernel)
theorem d_17_4_15 : decode prog_17_method_4_code 15 = .ok (.aload_n 0, 1) := by decide +kernel
theorem d_17_4_16 : decode prog_17_method_4_code 16 = .ok (.iload_n 3, 1) := by decide +kernel
theorem d_17_4_29 : decode prog_17_method_4_code 29 = .ok (.putfield 38, 3) := by decide +kernel
set_option maxRecDepth 100000 in
theorem w_2089 : (Cond.fieldLink "NumberHouseModel$FloatRows" (38 : Nat) "NumberHouseModel$FloatRows" "most" "I") ∈ q_tbl := q_of9 169 rfl (by decide +kernel)
theorem d_17_4_32 : decode prog_17_method_4_code 32 = .ok (.aload_n 0, 1) := by decide +kernel
theorem d_17_4_33 : decode prog_17_method_4_code 33 = .ok (.lload_n 1, 1) := by decide +kernel
theorem d_17_4_34 : decode prog_17_method_4_code 34 = .ok (.iload_n 3, 1) := by decide +kernel
theorem d_17_4_45 : decode prog_17_method_4_code 45 = .ok (.lushr, 1) := by decide +kernel
theorem d_17_4_46 : decode prog_17_method_4_code 46 = .ok (.lconst 1, 1) := by decide +kernel
theorem d_17_4_47 : decode prog_17_method_4_code 47 = .ok (.land, 1) := by decide +kernel
theorem d_17_4_48 : decode prog_17_method_4_code 48 = .ok (.lconst 1, 1) := by decide +kernel
theorem d_17_4_49 : decode prog_17_method_4_code 49 = .ok (.lcmp, 1) := by decide +kernel
theorem d_17_4_58 : decode prog_17_method_4_code 58 = .ok (.putfield 41, 3) := by decide +kernel
set_option maxRecDepth 100000 in
theorem w_2085 : (Cond.fieldLink "NumberHouseModel$FloatRows" (41 : Nat) "NumberHouseModel$FloatRows" "negative" "Z") ∈ q_tbl := q_of9 165 rfl (by decide +kernel)
theorem d_17_4_61 : decode prog_17_method_4_code 61 = .ok (.aload_n 0, 1) := by decide +kernel
theorem d_17_4_62 : decode prog_17_method_4_code 62 = .ok (.lload_n 1, 1) := by decide +kernel
theorem d_17_4_63 : decode prog_17_method_4_code 63 = .ok (.aload_n 0, 1) := by decide +kernel
theorem d_17_4_64 : decode prog_17_method_4_code 64 = .ok (.getfield 35, 3) := by decide +kernel
theorem d_17_4_67 : decode prog_17_method_4_code 67 = .ok (.lushr, 1) := by decide +kernel
theorem d_17_4_68 : decode prog_17_method_4_code 68 = .ok (.l2i, 1) := by decide +kernel
theorem d_17_4_69 : decode prog_17_method_4_code 69 = .ok (.aload_n 0, 1) := by decide +kernel
theorem d_17_4_70 : decode prog_17_method_4_code 70 = .ok (.getfield 38, 3) := by decide +kernel
theorem d_17_4_73 : decode prog_17_method_4_code 73 = .ok (.iand, 1) := by decide +kernel
theorem d_17_4_74 : decode prog_17_method_4_code 74 = .ok (.putfield 45, 3) := by decide +kernel
set_option maxRecDepth 100000 in
theorem w_2086 : (Cond.fieldLink "NumberHouseModel$FloatRows" (45 : Nat) "NumberHouseModel$FloatRows" "exponent" "I") ∈ q_tbl := q_of9 166 rfl (by decide +kernel)
theorem d_17_4_77 : decode prog_17_method_4_code 77 = .ok (.aload_n 0, 1) := by decide +kernel
theorem d_17_4_78 : decode prog_17_method_4_code 78 = .ok (.lload_n 1, 1) := by decide +kernel
theorem d_17_4_79 : decode prog_17_method_4_code 79 = .ok (.lconst 1, 1) := by decide +kernel
theorem d_17_4_80 : decode prog_17_method_4_code 80 = .ok (.aload_n 0, 1) := by decide +kernel
theorem d_17_4_81 : decode prog_17_method_4_code 81 = .ok (.getfield 35, 3) := by decide +kernel
theorem d_17_4_84 : decode prog_17_method_4_code 84 = .ok (.lshl, 1) := by decide +kernel
theorem d_17_4_85 : decode prog_17_method_4_code 85 = .ok (.lconst 1, 1) := by decide +kernel
theorem d_17_4_86 : decode prog_17_method_4_code 86 = .ok (.lsub, 1) := by decide +kernel
theorem d_17_4_87 : decode prog_17_method_4_code 87 = .ok (.land, 1) := by decide +kernel
theorem d_17_4_88 : decode prog_17_method_4_code 88 = .ok (.putfield 48, 3) := by decide +kernel
set_option maxRecDepth 100000 in
theorem w_2087 : (Cond.fieldLink "NumberHouseModel$FloatRows" (48 : Nat) "NumberHouseModel$FloatRows" "fraction" "J") ∈ q_tbl := q_of9 167 rfl (by decide +kernel)
theorem d_17_4_91 : decode prog_17_method_4_code 91 = .ok (.aload_n 0, 1) := by decide +kernel
theorem d_17_4_92 : decode prog_17_method_4_code 92 = .ok (.aload_n 0, 1) := by decide +kernel
theorem d_17_4_93 : decode prog_17_method_4_code 93 = .ok (.getfield 45, 3) := by decide +kernel
theorem d_17_4_117 : decode prog_17_method_4_code 117 = .ok (.putfield 52, 3) := by decide +kernel
set_option maxRecDepth 100000 in
theorem w_2090 : (Cond.fieldLink "NumberHouseModel$FloatRows" (52 : Nat) "NumberHouseModel$FloatRows" "size" "J") ∈ q_tbl := q_of9 170 rfl (by decide +kernel)
theorem d_17_4_120 : decode prog_17_method_4_code 120 = .ok (.aload_n 0, 1) := by decide +kernel
theorem d_17_4_121 : decode prog_17_method_4_code 121 = .ok (.aload_n 0, 1) := by decide +kernel
theorem d_17_4_122 : decode prog_17_method_4_code 122 = .ok (.getfield 45, 3) := by decide +kernel
theorem d_17_4_125 : decode prog_17_method_4_code 125 = .ok (.ifCond .ne 7, 3) := by decide +kernel
theorem d_17_4_132 : decode prog_17_method_4_code 132 = .ok (.aload_n 0, 1) := by decide +kernel
theorem d_17_4_133 : decode prog_17_method_4_code 133 = .ok (.getfield 45, 3) := by decide +kernel
theorem d_17_4_136 : decode prog_17_method_4_code 136 = .ok (.iload_n 3, 1) := by decide +kernel
theorem d_17_4_137 : decode prog_17_method_4_code 137 = .ok (.ifCond .eq 9, 3) := by decide +kernel
theorem d_17_4_146 : decode prog_17_method_4_code 146 = .ok (.sipush 1075, 3) := by decide +kernel
theorem d_17_4_149 : decode prog_17_method_4_code 149 = .ok (.isub, 1) := by decide +kernel
theorem d_17_4_150 : decode prog_17_method_4_code 150 = .ok (.putfield 55, 3) := by decide +kernel
set_option maxRecDepth 100000 in
theorem w_2091 : (Cond.fieldLink "NumberHouseModel$FloatRows" (55 : Nat) "NumberHouseModel$FloatRows" "twos" "I") ∈ q_tbl := q_of9 171 rfl (by decide +kernel)
theorem d_17_4_153 : decode prog_17_method_4_code 153 = .ok (.return_, 1) := by decide +kernel
theorem d_17_4_140 : decode prog_17_method_4_code 140 = .ok (.sipush 150, 3) := by decide +kernel
theorem d_17_4_143 : decode prog_17_method_4_code 143 = .ok (.goto 6, 3) := by decide +kernel
theorem d_17_4_128 : decode prog_17_method_4_code 128 = .ok (.iconst 1, 1) := by decide +kernel
theorem d_17_4_129 : decode prog_17_method_4_code 129 = .ok (.goto 7, 3) := by decide +kernel
theorem d_17_4_96 : decode prog_17_method_4_code 96 = .ok (.ifCond .ne 10, 3) := by decide +kernel
theorem d_17_4_106 : decode prog_17_method_4_code 106 = .ok (.aload_n 0, 1) := by decide +kernel
theorem d_17_4_107 : decode prog_17_method_4_code 107 = .ok (.getfield 48, 3) := by decide +kernel
theorem d_17_4_110 : decode prog_17_method_4_code 110 = .ok (.lconst 1, 1) := by decide +kernel
theorem d_17_4_111 : decode prog_17_method_4_code 111 = .ok (.aload_n 0, 1) := by decide +kernel
theorem d_17_4_112 : decode prog_17_method_4_code 112 = .ok (.getfield 35, 3) := by decide +kernel
theorem d_17_4_115 : decode prog_17_method_4_code 115 = .ok (.lshl, 1) := by decide +kernel
theorem d_17_4_116 : decode prog_17_method_4_code 116 = .ok (.ladd, 1) := by decide +kernel
theorem d_17_4_99 : decode prog_17_method_4_code 99 = .ok (.aload_n 0, 1) := by decide +kernel
theorem d_17_4_100 : decode prog_17_method_4_code 100 = .ok (.getfield 48, 3) := by decide +kernel
theorem d_17_4_103 : decode prog_17_method_4_code 103 = .ok (.goto 14, 3) := by decide +kernel
theorem d_17_4_50 : decode prog_17_method_4_code 50 = .ok (.ifCond .ne 7, 3) := by decide +kernel
theorem d_17_4_57 : decode prog_17_method_4_code 57 = .ok (.iconst 0, 1) := by decide +kernel
theorem d_17_4_53 : decode prog_17_method_4_code 53 = .ok (.iconst 1, 1) := by decide +kernel
theorem d_17_4_54 : decode prog_17_method_4_code 54 = .ok (.goto 4, 3) := by decide +kernel
theorem d_17_4_35 : decode prog_17_method_4_code 35 = .ok (.ifCond .eq 8, 3) := by decide +kernel
theorem d_17_4_43 : decode prog_17_method_4_code 43 = .ok (.bipush 63, 2) := by decide +kernel
theorem d_17_4_38 : decode prog_17_method_4_code 38 = .ok (.bipush 31, 2) := by decide +kernel
theorem d_17_4_40 : decode prog_17_method_4_code 40 = .ok (.goto 5, 3) := by decide +kernel
theorem d_17_4_17 : decode prog_17_method_4_code 17 = .ok (.ifCond .eq 9, 3) := by decide +kernel
theorem d_17_4_26 : decode prog_17_method_4_code 26 = .ok (.sipush 2047, 3) := by decide +kernel
theorem d_17_4_20 : decode prog_17_method_4_code 20 = .ok (.sipush 255, 3) := by decide +kernel
theorem d_17_4_23 : decode prog_17_method_4_code 23 = .ok (.goto 6, 3) := by decide +kernel
theorem d_17_4_2 : decode prog_17_method_4_code 2 = .ok (.ifCond .eq 8, 3) := by decide +kernel
theorem d_17_4_10 : decode prog_17_method_4_code 10 = .ok (.bipush 52, 2) := by decide +kernel
theorem d_17_4_5 : decode prog_17_method_4_code 5 = .ok (.bipush 23, 2) := by decide +kernel
theorem d_17_4_7 : decode prog_17_method_4_code 7 = .ok (.goto 5, 3) := by decide +kernel
def y_FR_open : MethodName := ⟨"NumberHouseModel$FloatRows", "open", "(JZ)V"⟩
def F_FR_open_J117 (x2 : Int64) (x3 : Int32) (t0_0 : Int32) (t0_1 : Int32) (t0_2 : Int32) (t0_3 : Int32) (t0_4 : Int64) (t0_5 : Int32) (t0_6 : Int32) (t0_7 : Int64) (t0_8 : Int32) (t0_9 : Int64) (t0_10 : Int32) (lx14 : Int32) (lx26 : Int32) (lx38 : Int32) (lx56 : Int32) (a72 : Int32) (j81 : Int64) (lx85 : Int64) : Int32 × Int32 × Int32 × Int32 × Int64 × Int32 × Int32 × Int64 × Int32 × Int64 × Int32 := if a72 = (0 : Int32) then (if x3 = (0 : Int32) then ((t0_0, t0_1, lx56, a72, j81, lx14, lx26, lx85, (-1074 : Int32), t0_9, t0_10)) else ((t0_0, t0_1, lx56, a72, j81, lx14, lx26, lx85, (-149 : Int32), t0_9, t0_10))) else (if x3 = (0 : Int32) then ((t0_0, t0_1, lx56, a72, j81, lx14, lx26, lx85, (a72 - 1075 : Int32), t0_9, t0_10)) else ((t0_0, t0_1, lx56, a72, j81, lx14, lx26, lx85, (a72 - 150 : Int32), t0_9, t0_10)))
def F_FR_open_J58 (x2 : Int64) (x3 : Int32) (t0_0 : Int32) (t0_1 : Int32) (t0_2 : Int32) (t0_3 : Int32) (t0_4 : Int64) (t0_5 : Int32) (t0_6 : Int32) (t0_7 : Int64) (t0_8 : Int32) (t0_9 : Int64) (t0_10 : Int32) (lx14 : Int32) (lx26 : Int32) (lx38 : Int32) (lx56 : Int32) : Int32 × Int32 × Int32 × Int32 × Int64 × Int32 × Int32 × Int64 × Int32 × Int64 × Int32 := if ((((x2.toUInt64 >>> (lx14.toInt64.toUInt64 &&& Int64.toUInt64 63)).toInt64 : Int64).toInt32 : Int32) &&& lx26 : Int32) = (0 : Int32) then (F_FR_open_J117 x2 x3 t0_0 t0_1 t0_2 t0_3 t0_4 t0_5 t0_6 t0_7 t0_8 t0_9 t0_10 lx14 lx26 lx38 lx56 ((((x2.toUInt64 >>> (lx14.toInt64.toUInt64 &&& Int64.toUInt64 63)).toInt64 : Int64).toInt32 : Int32) &&& lx26 : Int32) (x2 &&& (((1 : Int64) <<< (lx14.toInt64 &&& 63) : Int64) - 1 : Int64) : Int64) (x2 &&& (((1 : Int64) <<< (lx14.toInt64 &&& 63) : Int64) - 1 : Int64) : Int64)) else (F_FR_open_J117 x2 x3 t0_0 t0_1 t0_2 t0_3 t0_4 t0_5 t0_6 t0_7 t0_8 t0_9 t0_10 lx14 lx26 lx38 lx56 ((((x2.toUInt64 >>> (lx14.toInt64.toUInt64 &&& Int64.toUInt64 63)).toInt64 : Int64).toInt32 : Int32) &&& lx26 : Int32) (x2 &&& (((1 : Int64) <<< (lx14.toInt64 &&& 63) : Int64) - 1 : Int64) : Int64) ((x2 &&& (((1 : Int64) <<< (lx14.toInt64 &&& 63) : Int64) - 1 : Int64) : Int64) + ((1 : Int64) <<< (lx14.toInt64 &&& 63) : Int64) : Int64))
def F_FR_open_J45 (x2 : Int64) (x3 : Int32) (t0_0 : Int32) (t0_1 : Int32) (t0_2 : Int32) (t0_3 : Int32) (t0_4 : Int64) (t0_5 : Int32) (t0_6 : Int32) (t0_7 : Int64) (t0_8 : Int32) (t0_9 : Int64) (t0_10 : Int32) (lx14 : Int32) (lx26 : Int32) (lx38 : Int32) : Int32 × Int32 × Int32 × Int32 × Int64 × Int32 × Int32 × Int64 × Int32 × Int64 × Int32 := if (lg_cmp (((x2.toUInt64 >>> (lx38.toInt64.toUInt64 &&& Int64.toUInt64 63)).toInt64 : Int64) &&& 1 : Int64) 1 : Int32) = (0 : Int32) then (F_FR_open_J58 x2 x3 t0_0 t0_1 t0_2 t0_3 t0_4 t0_5 t0_6 t0_7 t0_8 t0_9 t0_10 lx14 lx26 lx38 1) else (F_FR_open_J58 x2 x3 t0_0 t0_1 t0_2 t0_3 t0_4 t0_5 t0_6 t0_7 t0_8 t0_9 t0_10 lx14 lx26 lx38 0)
def F_FR_open_J29 (x2 : Int64) (x3 : Int32) (t0_0 : Int32) (t0_1 : Int32) (t0_2 : Int32) (t0_3 : Int32) (t0_4 : Int64) (t0_5 : Int32) (t0_6 : Int32) (t0_7 : Int64) (t0_8 : Int32) (t0_9 : Int64) (t0_10 : Int32) (lx14 : Int32) (lx26 : Int32) : Int32 × Int32 × Int32 × Int32 × Int64 × Int32 × Int32 × Int64 × Int32 × Int64 × Int32 := if x3 = (0 : Int32) then (F_FR_open_J45 x2 x3 t0_0 t0_1 t0_2 t0_3 t0_4 t0_5 t0_6 t0_7 t0_8 t0_9 t0_10 lx14 lx26 63) else (F_FR_open_J45 x2 x3 t0_0 t0_1 t0_2 t0_3 t0_4 t0_5 t0_6 t0_7 t0_8 t0_9 t0_10 lx14 lx26 31)
def F_FR_open_J12 (x2 : Int64) (x3 : Int32) (t0_0 : Int32) (t0_1 : Int32) (t0_2 : Int32) (t0_3 : Int32) (t0_4 : Int64) (t0_5 : Int32) (t0_6 : Int32) (t0_7 : Int64) (t0_8 : Int32) (t0_9 : Int64) (t0_10 : Int32) (lx14 : Int32) : Int32 × Int32 × Int32 × Int32 × Int64 × Int32 × Int32 × Int64 × Int32 × Int64 × Int32 := if x3 = (0 : Int32) then (F_FR_open_J29 x2 x3 t0_0 t0_1 t0_2 t0_3 t0_4 t0_5 t0_6 t0_7 t0_8 t0_9 t0_10 lx14 2047) else (F_FR_open_J29 x2 x3 t0_0 t0_1 t0_2 t0_3 t0_4 t0_5 t0_6 t0_7 t0_8 t0_9 t0_10 lx14 255)
def F_FR_open (x2 : Int64) (x3 : Int32) (t0_0 : Int32) (t0_1 : Int32) (t0_2 : Int32) (t0_3 : Int32) (t0_4 : Int64) (t0_5 : Int32) (t0_6 : Int32) (t0_7 : Int64) (t0_8 : Int32) (t0_9 : Int64) (t0_10 : Int32) : Int32 × Int32 × Int32 × Int32 × Int64 × Int32 × Int32 × Int64 × Int32 × Int64 × Int32 := if x3 = (0 : Int32) then (F_FR_open_J12 x2 x3 t0_0 t0_1 t0_2 t0_3 t0_4 t0_5 t0_6 t0_7 t0_8 t0_9 t0_10 52) else (F_FR_open_J12 x2 x3 t0_0 t0_1 t0_2 t0_3 t0_4 t0_5 t0_6 t0_7 t0_8 t0_9 t0_10 23)
set_option maxRecDepth 100000 in
set_option maxHeartbeats 4000000 in
theorem X_FR_open (l : Launch) (D : va_G) (g : Nat → ClassId) (q : Nat → Nat) (ws : va_W) (x2 : Int64) (x3 : Int32) (hI : q_I (msh g q) q ws) (t0_0 : Int32) (t0_1 : Int32) (t0_2 : Int32) (t0_3 : Int32) (t0_4 : Int64) (t0_5 : Int32) (t0_6 : Int32) (t0_7 : Int64) (t0_8 : Int32) (t0_9 : Int64) (t0_10 : Int32) (hT0 : ws[145]? = (some (q 145, .inr (15, [.int t0_0, .ref (q 146), .ref (q 147), .ref (q 148), .ref (q 149), .ref (q 150), .ref (q 151), .ref (q 152), .int t0_1, .int t0_2, .int t0_3, .long t0_4, .int t0_5, .int t0_6, .long t0_7, .int t0_8, .long t0_9, .int t0_10])) : Option (Nat × va_E))) (hzx3 : 0 ≤ x3.toInt ∧ x3.toInt ≤ 1) : q_mV l y_FR_open prog_17_method_4_code 4 1 0 0 D g [.ref (q 145), .long x2, .int x3] ws (fun u => q_I (msh g q) q u ∧ q_un ws u [145] ∧ ∃ (u0_0 : Int32) (u0_1 : Int32) (u0_2 : Int32) (u0_3 : Int32) (u0_4 : Int64) (u0_5 : Int32) (u0_6 : Int32) (u0_7 : Int64) (u0_8 : Int32) (u0_9 : Int64) (u0_10 : Int32), u[145]? = (some (q 145, .inr (15, [.int u0_0, .ref (q 146), .ref (q 147), .ref (q 148), .ref (q 149), .ref (q 150), .ref (q 151), .ref (q 152), .int u0_1, .int u0_2, .int u0_3, .long u0_4, .int u0_5, .int u0_6, .long u0_7, .int u0_8, .long u0_9, .int u0_10])) : Option (Nat × va_E)) ∧ (0 ≤ u0_2.toInt) ∧ (u0_2.toInt ≤ 1) ∧ (0 ≤ u0_3.toInt) ∧ (23 ≤ u0_5.toInt) ∧ (u0_5.toInt ≤ 52) ∧ (255 ≤ u0_6.toInt) ∧ (u0_6.toInt ≤ 2047) ∧ (t0_0.toInt ≤ u0_0.toInt) ∧ (u0_0.toInt ≤ t0_0.toInt) ∧ (t0_1.toInt ≤ u0_1.toInt) ∧ (u0_1.toInt ≤ t0_1.toInt) ∧ (x3.toInt ≤ u0_8.toInt + 1074) ∧ (u0_8.toInt ≤ x3.toInt + 1896) ∧ (t0_9.toInt ≤ u0_9.toInt) ∧ (u0_9.toInt ≤ t0_9.toInt) ∧ (t0_10.toInt ≤ u0_10.toInt) ∧ (u0_10.toInt ≤ t0_10.toInt) ∧ (u0_3.toInt ≤ u0_6.toInt) ∧ (u0_8.toInt + 149 ≤ u0_3.toInt) ∧ (u0_3.toInt ≤ u0_8.toInt + 1075) ∧ (u0_8.toInt + 150 ≤ u0_6.toInt) ∧ (u0_0, u0_1, u0_2, u0_3, u0_4, u0_5, u0_6, u0_7, u0_8, u0_9, u0_10) = (F_FR_open x2 x3 t0_0 t0_1 t0_2 t0_3 t0_4 t0_5 t0_6 t0_7 t0_8 t0_9 t0_10)) := by
  intro sz
  refine q_into (by decide) (Nat.le_of_ble_eq_true rfl) ?_
  intro p e s m below meth c ls hsz C0 V hl
  have hx := C0.1
  have hb := C0.2.1
  replace hzx3 : q_F (0 ≤ x3.toInt ∧ x3.toInt ≤ 1) := hzx3
  obtain ⟨yy0_0, yy0_1, yy0_2, yy0_3, yy0_4, yy0_5, yy0_6, yy0_7, yy0_8, yy0_9, yy0_10, hh0, btt0_2⟩ := n_o145 hI
  obtain ⟨rfl, rfl, rfl, rfl, rfl, rfl, rfl, rfl, rfl, rfl, rfl⟩ : t0_0 = yy0_0 ∧ t0_1 = yy0_1 ∧ t0_2 = yy0_2 ∧ t0_3 = yy0_3 ∧ t0_4 = yy0_4 ∧ t0_5 = yy0_5 ∧ t0_6 = yy0_6 ∧ t0_7 = yy0_7 ∧ t0_8 = yy0_8 ∧ t0_9 = yy0_9 ∧ t0_10 = yy0_10 := by have z := Option.some.inj (hT0.symm.trans hh0); simpa using z
  replace btt0_2 : q_F (0 ≤ t0_2.toInt ∧ t0_2.toInt ≤ 1) := btt0_2
  have hF : q_un ws ws [145] := q_u0
  have hl : lv_has ls 4 [(0, .ref (q 145)), (1, .long x2), (3, .int x3)] := hl
  refine lv_aload_n hx hb d_17_4_0 rfl (lv_at hl 0 rfl) ?_
  refine lv_iload_n hx hb d_17_4_1 rfl (lv_at hl 2 rfl) ?_
  refine q_join (X := Int32) (fun z H locs ls _ => q_F (23 ≤ z.toInt) ∧ q_F (z.toInt ≤ 52) ∧ q_Wd D g (va_A ws sz) s ws H locs ∧ lv_has ls 4 [(0, .ref (q 145)), (1, .long x2), (3, .int x3)] ∧ F_FR_open_J12 x2 x3 t0_0 t0_1 t0_2 t0_3 t0_4 t0_5 t0_6 t0_7 t0_8 t0_9 t0_10 z = (F_FR_open x2 x3 t0_0 t0_1 t0_2 t0_3 t0_4 t0_5 t0_6 t0_7 t0_8 t0_9 t0_10)) (fun z => [.int z, .ref (q 145)]) 12 0 0 ?_ ?_
  ·
    rintro lx14 H locs ls _ ⟨i17, i18, V, hl, hR19⟩
    replace i17 : q_F (23 ≤ lx14.toInt) := i17
    replace i18 : q_F (lx14.toInt ≤ 52) := i18
    replace hl : lv_has ls 4 [(0, .ref (q 145)), (1, .long x2), (3, .int x3)] := hl
    refine q_put (ci := 15) (j := 12) (v := .int lx14) (ty := .int) C0 V i_FR o_FR n_FR rfl rfl hT0 (by decide) w_2088 rfl rfl rfl rfl (Nat.le_of_ble_eq_true rfl) d_17_4_12 (fun H locs w24 hu25 hT0 V => ?_)
    replace hT0 : w24[145]? = (some (q 145, .inr (15, [.int t0_0, .ref (q 146), .ref (q 147), .ref (q 148), .ref (q 149), .ref (q 150), .ref (q 151), .ref (q 152), .int t0_1, .int t0_2, .int t0_3, .long t0_4, .int lx14, .int t0_6, .long t0_7, .int t0_8, .long t0_9, .int t0_10])) : Option (Nat × va_E)) := hT0
    replace hI := n_p145 hI hu25 hT0 ⟨(by have t1 : 0 ≤ t0_2.toInt ∧ t0_2.toInt ≤ 1 := btt0_2; omega), (by have t1 : 0 ≤ t0_2.toInt ∧ t0_2.toInt ≤ 1 := btt0_2; omega)⟩
    replace hF := q_us hF hu25 (by simp)
    refine lv_aload_n hx hb d_17_4_15 rfl (lv_at hl 0 rfl) ?_
    refine lv_iload_n hx hb d_17_4_16 rfl (lv_at hl 2 rfl) ?_
    refine q_join (X := Int32) (fun z H locs ls _ => q_F (255 ≤ z.toInt) ∧ q_F (z.toInt ≤ 2047) ∧ q_Wd D g (va_A ws sz) s w24 H locs ∧ lv_has ls 4 [(0, .ref (q 145)), (1, .long x2), (3, .int x3)] ∧ F_FR_open_J29 x2 x3 t0_0 t0_1 t0_2 t0_3 t0_4 t0_5 t0_6 t0_7 t0_8 t0_9 t0_10 lx14 z = (F_FR_open x2 x3 t0_0 t0_1 t0_2 t0_3 t0_4 t0_5 t0_6 t0_7 t0_8 t0_9 t0_10)) (fun z => [.int z, .ref (q 145)]) 29 0 0 ?_ ?_
    ·
      rintro lx26 H locs ls _ ⟨i29, i30, V, hl, hR31⟩
      replace i29 : q_F (255 ≤ lx26.toInt) := i29
      replace i30 : q_F (lx26.toInt ≤ 2047) := i30
      replace hl : lv_has ls 4 [(0, .ref (q 145)), (1, .long x2), (3, .int x3)] := hl
      refine q_put (ci := 15) (j := 13) (v := .int lx26) (ty := .int) C0 V i_FR o_FR n_FR rfl rfl hT0 (by decide) w_2089 rfl rfl rfl rfl (Nat.le_of_ble_eq_true rfl) d_17_4_29 (fun H locs w36 hu37 hT0 V => ?_)
      replace hT0 : w36[145]? = (some (q 145, .inr (15, [.int t0_0, .ref (q 146), .ref (q 147), .ref (q 148), .ref (q 149), .ref (q 150), .ref (q 151), .ref (q 152), .int t0_1, .int t0_2, .int t0_3, .long t0_4, .int lx14, .int lx26, .long t0_7, .int t0_8, .long t0_9, .int t0_10])) : Option (Nat × va_E)) := hT0
      replace hI := n_p145 hI hu37 hT0 ⟨(by have t1 : 0 ≤ t0_2.toInt ∧ t0_2.toInt ≤ 1 := btt0_2; omega), (by have t1 : 0 ≤ t0_2.toInt ∧ t0_2.toInt ≤ 1 := btt0_2; omega)⟩
      replace hF := q_us hF hu37 (by simp)
      refine lv_aload_n hx hb d_17_4_32 rfl (lv_at hl 0 rfl) ?_
      refine lv_lload_n hx hb d_17_4_33 rfl (lv_at hl 1 rfl) ?_
      refine lv_iload_n hx hb d_17_4_34 rfl (lv_at hl 2 rfl) ?_
      refine q_join (X := Int32) (fun z H locs ls _ => q_F (31 ≤ z.toInt) ∧ q_F (z.toInt ≤ 63) ∧ q_Wd D g (va_A ws sz) s w36 H locs ∧ lv_has ls 4 [(0, .ref (q 145)), (1, .long x2), (3, .int x3)] ∧ F_FR_open_J45 x2 x3 t0_0 t0_1 t0_2 t0_3 t0_4 t0_5 t0_6 t0_7 t0_8 t0_9 t0_10 lx14 lx26 z = (F_FR_open x2 x3 t0_0 t0_1 t0_2 t0_3 t0_4 t0_5 t0_6 t0_7 t0_8 t0_9 t0_10)) (fun z => [.int z, .long x2, .ref (q 145)]) 45 0 0 ?_ ?_
      ·
        rintro lx38 H locs ls _ ⟨i41, i42, V, hl, hR43⟩
        replace i41 : q_F (31 ≤ lx38.toInt) := i41
        replace i42 : q_F (lx38.toInt ≤ 63) := i42
        replace hl : lv_has ls 4 [(0, .ref (q 145)), (1, .long x2), (3, .int x3)] := hl
        refine lv_lushr hx hb d_17_4_45 rfl ?_
        obtain ⟨j48, e49⟩ := q_nm ((x2.toUInt64 >>> (lx38.toInt64.toUInt64 &&& Int64.toUInt64 63)).toInt64 : Int64)
        refine q_tl (v := j48) e49 ?_
        refine lv_lconst (v := 1) hx hb d_17_4_46 (by decide) ?_
        refine lv_land hx hb d_17_4_47 ?_
        obtain ⟨j50, e51⟩ := q_nm (j48 &&& 1 : Int64)
        refine q_tl (v := j50) e51 ?_
        have b52 : q_F (0 ≤ j50.toInt ∧ j50.toInt ≤ 1) := (by rw [← e51]; show 0 ≤ (j48 &&& 1 : Int64).toInt ∧ (j48 &&& 1 : Int64).toInt ≤ 1; exact s_andJ (by decide))
        refine lv_lconst (v := 1) hx hb d_17_4_48 (by decide) ?_
        refine W.lcmp hx hb d_17_4_49 ?_
        obtain ⟨a53, e54⟩ := q_nm (lg_cmp j50 1 : Int32)
        refine q_ti (v := a53) e54 ?_
        have b55 : q_F (-1 ≤ a53.toInt ∧ a53.toInt ≤ 1 ∧ ((a53.toInt = -1 ∧ j50.toInt < 1) ∨ (a53.toInt = 0 ∧ j50.toInt = 1) ∨ (a53.toInt = 1 ∧ 1 < j50.toInt))) := (by rw [← e54]; show -1 ≤ (lg_cmp j50 1 : Int32).toInt ∧ (lg_cmp j50 1 : Int32).toInt ≤ 1 ∧ (((lg_cmp j50 1 : Int32).toInt = -1 ∧ j50.toInt < 1) ∨ ((lg_cmp j50 1 : Int32).toInt = 0 ∧ j50.toInt = 1) ∨ ((lg_cmp j50 1 : Int32).toInt = 1 ∧ 1 < j50.toInt)); exact (by have y1 : (1 : Int64).toInt = 1 := rfl; have z := s_lcmp (a := j50) (b := 1); omega))
        refine q_join (X := Int32) (fun z H locs ls _ => q_F (0 ≤ z.toInt) ∧ q_F (z.toInt ≤ 1) ∧ q_Wd D g (va_A ws sz) s w36 H locs ∧ lv_has ls 4 [(0, .ref (q 145)), (1, .long x2), (3, .int x3)] ∧ F_FR_open_J58 x2 x3 t0_0 t0_1 t0_2 t0_3 t0_4 t0_5 t0_6 t0_7 t0_8 t0_9 t0_10 lx14 lx26 lx38 z = (F_FR_open x2 x3 t0_0 t0_1 t0_2 t0_3 t0_4 t0_5 t0_6 t0_7 t0_8 t0_9 t0_10)) (fun z => [.int z, .ref (q 145)]) 58 0 0 ?_ ?_
        ·
          rintro lx56 H locs ls _ ⟨i59, i60, V, hl, hR61⟩
          replace i59 : q_F (0 ≤ lx56.toInt) := i59
          replace i60 : q_F (lx56.toInt ≤ 1) := i60
          replace hl : lv_has ls 4 [(0, .ref (q 145)), (1, .long x2), (3, .int x3)] := hl
          refine q_put (ci := 15) (j := 9) (v := .int lx56) (ty := .boolean) C0 V i_FR o_FR n_FR rfl rfl hT0 (by decide) w_2085 rfl rfl (q_nz01 (q_Ile (x := 0) (y := lx56.toInt) (by decide) rfl (by have t1 : 0 ≤ lx56.toInt := i59; omega)) (q_Ile (x := lx56.toInt) (y := 1) rfl (by decide) (by have t1 : lx56.toInt ≤ 1 := i60; omega))) (q_fz01 (q_Ile (x := 0) (y := lx56.toInt) (by decide) rfl (by have t1 : 0 ≤ lx56.toInt := i59; omega)) (q_Ile (x := lx56.toInt) (y := 1) rfl (by decide) (by have t1 : lx56.toInt ≤ 1 := i60; omega))) (Nat.le_of_ble_eq_true rfl) d_17_4_58 (fun H locs w66 hu67 hT0 V => ?_)
          replace hT0 : w66[145]? = (some (q 145, .inr (15, [.int t0_0, .ref (q 146), .ref (q 147), .ref (q 148), .ref (q 149), .ref (q 150), .ref (q 151), .ref (q 152), .int t0_1, .int lx56, .int t0_3, .long t0_4, .int lx14, .int lx26, .long t0_7, .int t0_8, .long t0_9, .int t0_10])) : Option (Nat × va_E)) := hT0
          replace hI := n_p145 hI hu67 hT0 ⟨(by have t1 : 0 ≤ lx56.toInt := i59; omega), (by have t1 : lx56.toInt ≤ 1 := i60; omega)⟩
          replace hF := q_us hF hu67 (by simp)
          refine lv_aload_n hx hb d_17_4_61 rfl (lv_at hl 0 rfl) ?_
          refine lv_lload_n hx hb d_17_4_62 rfl (lv_at hl 1 rfl) ?_
          refine lv_aload_n hx hb d_17_4_63 rfl (lv_at hl 0 rfl) ?_
          refine q_get (ci := 15) (j := 12) (v := .int lx14) C0 V i_FR rfl rfl hT0 (by decide) w_2088 rfl d_17_4_64 ?_
          refine lv_lushr hx hb d_17_4_67 rfl ?_
          obtain ⟨j68, e69⟩ := q_nm ((x2.toUInt64 >>> (lx14.toInt64.toUInt64 &&& Int64.toUInt64 63)).toInt64 : Int64)
          refine q_tl (v := j68) e69 ?_
          refine lv_l2i hx hb d_17_4_68 rfl ?_
          obtain ⟨a70, e71⟩ := q_nm (j68.toInt32 : Int32)
          refine q_ti (v := a70) e71 ?_
          refine lv_aload_n hx hb d_17_4_69 rfl (lv_at hl 0 rfl) ?_
          refine q_get (ci := 15) (j := 13) (v := .int lx26) C0 V i_FR rfl rfl hT0 (by decide) w_2089 rfl d_17_4_70 ?_
          refine lv_iand hx hb d_17_4_73 ?_
          obtain ⟨a72, e73⟩ := q_nm (a70 &&& lx26 : Int32)
          refine q_ti (v := a72) e73 ?_
          have b74 : q_F (0 ≤ a72.toInt ∧ a72.toInt ≤ lx26.toInt) := (by rw [← e73]; show 0 ≤ (a70 &&& lx26 : Int32).toInt ∧ (a70 &&& lx26 : Int32).toInt ≤ lx26.toInt; exact s_and (m := lx26) (by have t1 : 255 ≤ lx26.toInt := i29; omega))
          refine q_put (ci := 15) (j := 10) (v := .int a72) (ty := .int) C0 V i_FR o_FR n_FR rfl rfl hT0 (by decide) w_2086 rfl rfl rfl rfl (Nat.le_of_ble_eq_true rfl) d_17_4_74 (fun H locs w75 hu76 hT0 V => ?_)
          replace hT0 : w75[145]? = (some (q 145, .inr (15, [.int t0_0, .ref (q 146), .ref (q 147), .ref (q 148), .ref (q 149), .ref (q 150), .ref (q 151), .ref (q 152), .int t0_1, .int lx56, .int a72, .long t0_4, .int lx14, .int lx26, .long t0_7, .int t0_8, .long t0_9, .int t0_10])) : Option (Nat × va_E)) := hT0
          replace hI := n_p145 hI hu76 hT0 ⟨(by have t1 : 0 ≤ lx56.toInt := i59; omega), (by have t1 : lx56.toInt ≤ 1 := i60; omega)⟩
          replace hF := q_us hF hu76 (by simp)
          refine lv_aload_n hx hb d_17_4_77 rfl (lv_at hl 0 rfl) ?_
          refine lv_lload_n hx hb d_17_4_78 rfl (lv_at hl 1 rfl) ?_
          refine lv_lconst (v := 1) hx hb d_17_4_79 (by decide) ?_
          refine lv_aload_n hx hb d_17_4_80 rfl (lv_at hl 0 rfl) ?_
          refine q_get (ci := 15) (j := 12) (v := .int lx14) C0 V i_FR rfl rfl hT0 (by decide) w_2088 rfl d_17_4_81 ?_
          refine lv_lshl hx hb d_17_4_84 rfl ?_
          obtain ⟨j77, e78⟩ := q_nm ((1 : Int64) <<< (lx14.toInt64 &&& 63) : Int64)
          refine q_tl (v := j77) e78 ?_
          refine lv_lconst (v := 1) hx hb d_17_4_85 (by decide) ?_
          refine lv_lsub hx hb d_17_4_86 ?_
          obtain ⟨j79, e80⟩ := q_nm (j77 - 1 : Int64)
          refine q_tl (v := j79) e80 ?_
          refine lv_land hx hb d_17_4_87 ?_
          obtain ⟨j81, e82⟩ := q_nm (x2 &&& j79 : Int64)
          refine q_tl (v := j81) e82 ?_
          refine q_put (ci := 15) (j := 11) (v := .long j81) (ty := .long) C0 V i_FR o_FR n_FR rfl rfl hT0 (by decide) w_2087 rfl rfl rfl rfl (Nat.le_of_ble_eq_true rfl) d_17_4_88 (fun H locs w83 hu84 hT0 V => ?_)
          replace hT0 : w83[145]? = (some (q 145, .inr (15, [.int t0_0, .ref (q 146), .ref (q 147), .ref (q 148), .ref (q 149), .ref (q 150), .ref (q 151), .ref (q 152), .int t0_1, .int lx56, .int a72, .long j81, .int lx14, .int lx26, .long t0_7, .int t0_8, .long t0_9, .int t0_10])) : Option (Nat × va_E)) := hT0
          replace hI := n_p145 hI hu84 hT0 ⟨(by have t1 : 0 ≤ lx56.toInt := i59; omega), (by have t1 : lx56.toInt ≤ 1 := i60; omega)⟩
          replace hF := q_us hF hu84 (by simp)
          refine lv_aload_n hx hb d_17_4_91 rfl (lv_at hl 0 rfl) ?_
          refine lv_aload_n hx hb d_17_4_92 rfl (lv_at hl 0 rfl) ?_
          refine q_get (ci := 15) (j := 10) (v := .int a72) C0 V i_FR rfl rfl hT0 (by decide) w_2086 rfl d_17_4_93 ?_
          refine q_join (X := Int64) (fun z H locs ls _ => q_Wd D g (va_A ws sz) s w83 H locs ∧ lv_has ls 4 [(0, .ref (q 145)), (3, .int x3)] ∧ F_FR_open_J117 x2 x3 t0_0 t0_1 t0_2 t0_3 t0_4 t0_5 t0_6 t0_7 t0_8 t0_9 t0_10 lx14 lx26 lx38 lx56 a72 j81 z = (F_FR_open x2 x3 t0_0 t0_1 t0_2 t0_3 t0_4 t0_5 t0_6 t0_7 t0_8 t0_9 t0_10)) (fun z => [.long z, .ref (q 145)]) 117 0 0 ?_ ?_
          ·
            rintro lx85 H locs ls _ ⟨V, hl, hR88⟩
            replace hl : lv_has ls 4 [(0, .ref (q 145)), (3, .int x3)] := hl
            refine q_put (ci := 15) (j := 14) (v := .long lx85) (ty := .long) C0 V i_FR o_FR n_FR rfl rfl hT0 (by decide) w_2090 rfl rfl rfl rfl (Nat.le_of_ble_eq_true rfl) d_17_4_117 (fun H locs w93 hu94 hT0 V => ?_)
            replace hT0 : w93[145]? = (some (q 145, .inr (15, [.int t0_0, .ref (q 146), .ref (q 147), .ref (q 148), .ref (q 149), .ref (q 150), .ref (q 151), .ref (q 152), .int t0_1, .int lx56, .int a72, .long j81, .int lx14, .int lx26, .long lx85, .int t0_8, .long t0_9, .int t0_10])) : Option (Nat × va_E)) := hT0
            replace hI := n_p145 hI hu94 hT0 ⟨(by have t1 : 0 ≤ lx56.toInt := i59; omega), (by have t1 : lx56.toInt ≤ 1 := i60; omega)⟩
            replace hF := q_us hF hu94 (by simp)
            refine lv_aload_n hx hb d_17_4_120 rfl (lv_at hl 0 rfl) ?_
            refine lv_aload_n hx hb d_17_4_121 rfl (lv_at hl 0 rfl) ?_
            refine q_get (ci := 15) (j := 10) (v := .int a72) C0 V i_FR rfl rfl hT0 (by decide) w_2086 rfl d_17_4_122 ?_
            refine lv_if_ne (tgt := 132) hx hb d_17_4_125 (by decide) (fun c95 => ?_) (fun c95 => ?_)
            ·
              have b96 : q_F (a72.toInt ≠ 0) := (q_neI c95)
              refine lv_aload_n hx hb d_17_4_132 rfl (lv_at hl 0 rfl) ?_
              refine q_get (ci := 15) (j := 10) (v := .int a72) C0 V i_FR rfl rfl hT0 (by decide) w_2086 rfl d_17_4_133 ?_
              refine lv_iload_n hx hb d_17_4_136 rfl (lv_at hl 1 rfl) ?_
              refine lv_if_eq (tgt := 146) hx hb d_17_4_137 (by decide) (fun c97 => ?_) (fun c97 => ?_)
              ·
                have b98 : q_F (x3.toInt = 0) := (q_eqI c97)
                refine lv_sipush (v := 1075) hx hb d_17_4_146 (by decide) ?_
                refine lv_isub hx hb d_17_4_149 ?_
                obtain ⟨a99, e100⟩ := q_nm (a72 - 1075 : Int32)
                refine q_ti (v := a99) e100 ?_
                have b101 : q_F (a99.toInt = a72.toInt - 1075) := (by rw [← e100]; show (a72 - 1075 : Int32).toInt = a72.toInt - 1075; exact q_subI (x := a72.toInt) (y := 1075) rfl (by decide) (by have t1 : 0 ≤ a72.toInt ∧ a72.toInt ≤ lx26.toInt := b74; have _ := q_lo32 (x := a72); have _ := q_hi32 (x := a72); omega) (by have t1 : 0 ≤ a72.toInt ∧ a72.toInt ≤ lx26.toInt := b74; have _ := q_lo32 (x := a72); have _ := q_hi32 (x := a72); omega))
                refine q_put (ci := 15) (j := 15) (v := .int a99) (ty := .int) C0 V i_FR o_FR n_FR rfl rfl hT0 (by decide) w_2091 rfl rfl rfl rfl (Nat.le_of_ble_eq_true rfl) d_17_4_150 (fun H locs w102 hu103 hT0 V => ?_)
                replace hT0 : w102[145]? = (some (q 145, .inr (15, [.int t0_0, .ref (q 146), .ref (q 147), .ref (q 148), .ref (q 149), .ref (q 150), .ref (q 151), .ref (q 152), .int t0_1, .int lx56, .int a72, .long j81, .int lx14, .int lx26, .long lx85, .int a99, .long t0_9, .int t0_10])) : Option (Nat × va_E)) := hT0
                replace hI := n_p145 hI hu103 hT0 ⟨(by have t1 : 0 ≤ lx56.toInt := i59; omega), (by have t1 : lx56.toInt ≤ 1 := i60; omega)⟩
                replace hF := q_us hF hu103 (by simp)
                exact q_retv C0 V (⟨hI, hF, t0_0, t0_1, lx56, a72, j81, lx14, lx26, lx85, a99, t0_9, t0_10, hT0, (show 0 ≤ lx56.toInt from (by have t1 : 0 ≤ lx56.toInt := i59; omega)), (show lx56.toInt ≤ 1 from (by have t1 : lx56.toInt ≤ 1 := i60; omega)), (show 0 ≤ a72.toInt from (by have t1 : 0 ≤ a72.toInt ∧ a72.toInt ≤ lx26.toInt := b74; omega)), (show 23 ≤ lx14.toInt from (by have t1 : 23 ≤ lx14.toInt := i17; omega)), (show lx14.toInt ≤ 52 from (by have t1 : lx14.toInt ≤ 52 := i18; omega)), (show 255 ≤ lx26.toInt from (by have t1 : 255 ≤ lx26.toInt := i29; omega)), (show lx26.toInt ≤ 2047 from (by have t1 : lx26.toInt ≤ 2047 := i30; omega)), (show t0_0.toInt ≤ t0_0.toInt from (by omega)), (show t0_0.toInt ≤ t0_0.toInt from (by omega)), (show t0_1.toInt ≤ t0_1.toInt from (by omega)), (show t0_1.toInt ≤ t0_1.toInt from (by omega)), (show x3.toInt ≤ a99.toInt + 1074 from (by have t1 : 0 ≤ a72.toInt ∧ a72.toInt ≤ lx26.toInt := b74; have t2 : a72.toInt ≠ 0 := b96; have t3 : x3.toInt = 0 := b98; have t4 : a99.toInt = a72.toInt - 1075 := b101; omega)), (show a99.toInt ≤ x3.toInt + 1896 from (by have t1 : 0 ≤ x3.toInt ∧ x3.toInt ≤ 1 := hzx3; have t2 : lx26.toInt ≤ 2047 := i30; have t3 : 0 ≤ a72.toInt ∧ a72.toInt ≤ lx26.toInt := b74; have t4 : a99.toInt = a72.toInt - 1075 := b101; omega)), (show t0_9.toInt ≤ t0_9.toInt from (by omega)), (show t0_9.toInt ≤ t0_9.toInt from (by omega)), (show t0_10.toInt ≤ t0_10.toInt from (by omega)), (show t0_10.toInt ≤ t0_10.toInt from (by omega)), (show a72.toInt ≤ lx26.toInt from (by have t1 : 0 ≤ a72.toInt ∧ a72.toInt ≤ lx26.toInt := b74; omega)), (show a99.toInt + 149 ≤ a72.toInt from (by have t1 : a99.toInt = a72.toInt - 1075 := b101; omega)), (show a72.toInt ≤ a99.toInt + 1075 from (by have t1 : a99.toInt = a72.toInt - 1075 := b101; omega)), (show a99.toInt + 150 ≤ lx26.toInt from (by have t1 : 0 ≤ a72.toInt ∧ a72.toInt ≤ lx26.toInt := b74; have t2 : a99.toInt = a72.toInt - 1075 := b101; omega)), (show (t0_0, t0_1, lx56, a72, j81, lx14, lx26, lx85, a99, t0_9, t0_10) = (F_FR_open x2 x3 t0_0 t0_1 t0_2 t0_3 t0_4 t0_5 t0_6 t0_7 t0_8 t0_9 t0_10) from Eq.trans (by rw [← e100, F_FR_open_J117.eq_1, if_neg c95, if_pos c97]) hR88)⟩) d_17_4_153
              ·
                have b104 : q_F (x3.toInt ≠ 0) := (q_neI c97)
                refine lv_sipush (v := 150) hx hb d_17_4_140 (by decide) ?_
                refine lv_goto (tgt := 149) hx hb d_17_4_143 (by decide) ?_
                refine lv_isub hx hb d_17_4_149 ?_
                obtain ⟨a105, e106⟩ := q_nm (a72 - 150 : Int32)
                refine q_ti (v := a105) e106 ?_
                have b107 : q_F (a105.toInt = a72.toInt - 150) := (by rw [← e106]; show (a72 - 150 : Int32).toInt = a72.toInt - 150; exact q_subI (x := a72.toInt) (y := 150) rfl (by decide) (by have t1 : 0 ≤ a72.toInt ∧ a72.toInt ≤ lx26.toInt := b74; have _ := q_lo32 (x := a72); have _ := q_hi32 (x := a72); omega) (by have t1 : 0 ≤ a72.toInt ∧ a72.toInt ≤ lx26.toInt := b74; have _ := q_lo32 (x := a72); have _ := q_hi32 (x := a72); omega))
                refine q_put (ci := 15) (j := 15) (v := .int a105) (ty := .int) C0 V i_FR o_FR n_FR rfl rfl hT0 (by decide) w_2091 rfl rfl rfl rfl (Nat.le_of_ble_eq_true rfl) d_17_4_150 (fun H locs w108 hu109 hT0 V => ?_)
                replace hT0 : w108[145]? = (some (q 145, .inr (15, [.int t0_0, .ref (q 146), .ref (q 147), .ref (q 148), .ref (q 149), .ref (q 150), .ref (q 151), .ref (q 152), .int t0_1, .int lx56, .int a72, .long j81, .int lx14, .int lx26, .long lx85, .int a105, .long t0_9, .int t0_10])) : Option (Nat × va_E)) := hT0
                replace hI := n_p145 hI hu109 hT0 ⟨(by have t1 : 0 ≤ lx56.toInt := i59; omega), (by have t1 : lx56.toInt ≤ 1 := i60; omega)⟩
                replace hF := q_us hF hu109 (by simp)
                exact q_retv C0 V (⟨hI, hF, t0_0, t0_1, lx56, a72, j81, lx14, lx26, lx85, a105, t0_9, t0_10, hT0, (show 0 ≤ lx56.toInt from (by have t1 : 0 ≤ lx56.toInt := i59; omega)), (show lx56.toInt ≤ 1 from (by have t1 : lx56.toInt ≤ 1 := i60; omega)), (show 0 ≤ a72.toInt from (by have t1 : 0 ≤ a72.toInt ∧ a72.toInt ≤ lx26.toInt := b74; omega)), (show 23 ≤ lx14.toInt from (by have t1 : 23 ≤ lx14.toInt := i17; omega)), (show lx14.toInt ≤ 52 from (by have t1 : lx14.toInt ≤ 52 := i18; omega)), (show 255 ≤ lx26.toInt from (by have t1 : 255 ≤ lx26.toInt := i29; omega)), (show lx26.toInt ≤ 2047 from (by have t1 : lx26.toInt ≤ 2047 := i30; omega)), (show t0_0.toInt ≤ t0_0.toInt from (by omega)), (show t0_0.toInt ≤ t0_0.toInt from (by omega)), (show t0_1.toInt ≤ t0_1.toInt from (by omega)), (show t0_1.toInt ≤ t0_1.toInt from (by omega)), (show x3.toInt ≤ a105.toInt + 1074 from (by have t1 : 0 ≤ x3.toInt ∧ x3.toInt ≤ 1 := hzx3; have t2 : 0 ≤ a72.toInt ∧ a72.toInt ≤ lx26.toInt := b74; have t3 : a105.toInt = a72.toInt - 150 := b107; omega)), (show a105.toInt ≤ x3.toInt + 1896 from (by have t1 : 0 ≤ x3.toInt ∧ x3.toInt ≤ 1 := hzx3; have t2 : lx26.toInt ≤ 2047 := i30; have t3 : 0 ≤ a72.toInt ∧ a72.toInt ≤ lx26.toInt := b74; have t4 : x3.toInt ≠ 0 := b104; have t5 : a105.toInt = a72.toInt - 150 := b107; omega)), (show t0_9.toInt ≤ t0_9.toInt from (by omega)), (show t0_9.toInt ≤ t0_9.toInt from (by omega)), (show t0_10.toInt ≤ t0_10.toInt from (by omega)), (show t0_10.toInt ≤ t0_10.toInt from (by omega)), (show a72.toInt ≤ lx26.toInt from (by have t1 : 0 ≤ a72.toInt ∧ a72.toInt ≤ lx26.toInt := b74; omega)), (show a105.toInt + 149 ≤ a72.toInt from (by have t1 : a105.toInt = a72.toInt - 150 := b107; omega)), (show a72.toInt ≤ a105.toInt + 1075 from (by have t1 : a105.toInt = a72.toInt - 150 := b107; omega)), (show a105.toInt + 150 ≤ lx26.toInt from (by have t1 : 0 ≤ a72.toInt ∧ a72.toInt ≤ lx26.toInt := b74; have t2 : a105.toInt = a72.toInt - 150 := b107; omega)), (show (t0_0, t0_1, lx56, a72, j81, lx14, lx26, lx85, a105, t0_9, t0_10) = (F_FR_open x2 x3 t0_0 t0_1 t0_2 t0_3 t0_4 t0_5 t0_6 t0_7 t0_8 t0_9 t0_10) from Eq.trans (by rw [← e106, F_FR_open_J117.eq_1, if_neg c95, if_neg c97]) hR88)⟩) d_17_4_153
            ·
              have b110 : q_F (a72.toInt = 0) := (q_eqI c95)
              refine lv_iconst (v := 1) hx hb d_17_4_128 (by decide) ?_
              refine lv_goto (tgt := 136) hx hb d_17_4_129 (by decide) ?_
              refine lv_iload_n hx hb d_17_4_136 rfl (lv_at hl 1 rfl) ?_
              refine lv_if_eq (tgt := 146) hx hb d_17_4_137 (by decide) (fun c111 => ?_) (fun c111 => ?_)
              ·
                have b112 : q_F (x3.toInt = 0) := (q_eqI c111)
                refine lv_sipush (v := 1075) hx hb d_17_4_146 (by decide) ?_
                refine lv_isub hx hb d_17_4_149 ?_
                refine q_ti (v := (-1074)) (by decide) ?_
                refine q_put (ci := 15) (j := 15) (v := .int (-1074)) (ty := .int) C0 V i_FR o_FR n_FR rfl rfl hT0 (by decide) w_2091 rfl rfl rfl rfl (Nat.le_of_ble_eq_true rfl) d_17_4_150 (fun H locs w113 hu114 hT0 V => ?_)
                replace hT0 : w113[145]? = (some (q 145, .inr (15, [.int t0_0, .ref (q 146), .ref (q 147), .ref (q 148), .ref (q 149), .ref (q 150), .ref (q 151), .ref (q 152), .int t0_1, .int lx56, .int a72, .long j81, .int lx14, .int lx26, .long lx85, .int (-1074), .long t0_9, .int t0_10])) : Option (Nat × va_E)) := hT0
                replace hI := n_p145 hI hu114 hT0 ⟨(by have t1 : 0 ≤ lx56.toInt := i59; omega), (by have t1 : lx56.toInt ≤ 1 := i60; omega)⟩
                replace hF := q_us hF hu114 (by simp)
                exact q_retv C0 V (⟨hI, hF, t0_0, t0_1, lx56, a72, j81, lx14, lx26, lx85, (-1074), t0_9, t0_10, hT0, (show 0 ≤ lx56.toInt from (by have z21 : (-1074 : Int32).toInt = -1074 := rfl; have t1 : 0 ≤ lx56.toInt := i59; omega)), (show lx56.toInt ≤ 1 from (by have z21 : (-1074 : Int32).toInt = -1074 := rfl; have t1 : lx56.toInt ≤ 1 := i60; omega)), (show 0 ≤ a72.toInt from (by have z21 : (-1074 : Int32).toInt = -1074 := rfl; have t1 : 0 ≤ a72.toInt ∧ a72.toInt ≤ lx26.toInt := b74; omega)), (show 23 ≤ lx14.toInt from (by have z21 : (-1074 : Int32).toInt = -1074 := rfl; have t1 : 23 ≤ lx14.toInt := i17; omega)), (show lx14.toInt ≤ 52 from (by have z21 : (-1074 : Int32).toInt = -1074 := rfl; have t1 : lx14.toInt ≤ 52 := i18; omega)), (show 255 ≤ lx26.toInt from (by have z21 : (-1074 : Int32).toInt = -1074 := rfl; have t1 : 255 ≤ lx26.toInt := i29; omega)), (show lx26.toInt ≤ 2047 from (by have z21 : (-1074 : Int32).toInt = -1074 := rfl; have t1 : lx26.toInt ≤ 2047 := i30; omega)), (show t0_0.toInt ≤ t0_0.toInt from (by have z21 : (-1074 : Int32).toInt = -1074 := rfl; omega)), (show t0_0.toInt ≤ t0_0.toInt from (by have z21 : (-1074 : Int32).toInt = -1074 := rfl; omega)), (show t0_1.toInt ≤ t0_1.toInt from (by have z21 : (-1074 : Int32).toInt = -1074 := rfl; omega)), (show t0_1.toInt ≤ t0_1.toInt from (by have z21 : (-1074 : Int32).toInt = -1074 := rfl; omega)), (show x3.toInt ≤ (-1074 : Int32).toInt + 1074 from (by have z21 : (-1074 : Int32).toInt = -1074 := rfl; have t1 : x3.toInt = 0 := b112; omega)), (show (-1074 : Int32).toInt ≤ x3.toInt + 1896 from (by have z21 : (-1074 : Int32).toInt = -1074 := rfl; have t1 : 0 ≤ x3.toInt ∧ x3.toInt ≤ 1 := hzx3; omega)), (show t0_9.toInt ≤ t0_9.toInt from (by have z21 : (-1074 : Int32).toInt = -1074 := rfl; omega)), (show t0_9.toInt ≤ t0_9.toInt from (by have z21 : (-1074 : Int32).toInt = -1074 := rfl; omega)), (show t0_10.toInt ≤ t0_10.toInt from (by have z21 : (-1074 : Int32).toInt = -1074 := rfl; omega)), (show t0_10.toInt ≤ t0_10.toInt from (by have z21 : (-1074 : Int32).toInt = -1074 := rfl; omega)), (show a72.toInt ≤ lx26.toInt from (by have z21 : (-1074 : Int32).toInt = -1074 := rfl; have t1 : 0 ≤ a72.toInt ∧ a72.toInt ≤ lx26.toInt := b74; omega)), (show (-1074 : Int32).toInt + 149 ≤ a72.toInt from (by have z21 : (-1074 : Int32).toInt = -1074 := rfl; have t1 : 0 ≤ a72.toInt ∧ a72.toInt ≤ lx26.toInt := b74; omega)), (show a72.toInt ≤ (-1074 : Int32).toInt + 1075 from (by have z21 : (-1074 : Int32).toInt = -1074 := rfl; have t1 : a72.toInt = 0 := b110; omega)), (show (-1074 : Int32).toInt + 150 ≤ lx26.toInt from (by have z21 : (-1074 : Int32).toInt = -1074 := rfl; have t1 : 255 ≤ lx26.toInt := i29; omega)), (show (t0_0, t0_1, lx56, a72, j81, lx14, lx26, lx85, (-1074 : Int32), t0_9, t0_10) = (F_FR_open x2 x3 t0_0 t0_1 t0_2 t0_3 t0_4 t0_5 t0_6 t0_7 t0_8 t0_9 t0_10) from Eq.trans (by rw [F_FR_open_J117.eq_1, if_pos c95, if_pos c111]) hR88)⟩) d_17_4_153
              ·
                have b115 : q_F (x3.toInt ≠ 0) := (q_neI c111)
                refine lv_sipush (v := 150) hx hb d_17_4_140 (by decide) ?_
                refine lv_goto (tgt := 149) hx hb d_17_4_143 (by decide) ?_
                refine lv_isub hx hb d_17_4_149 ?_
                refine q_ti (v := (-149)) (by decide) ?_
                refine q_put (ci := 15) (j := 15) (v := .int (-149)) (ty := .int) C0 V i_FR o_FR n_FR rfl rfl hT0 (by decide) w_2091 rfl rfl rfl rfl (Nat.le_of_ble_eq_true rfl) d_17_4_150 (fun H locs w116 hu117 hT0 V => ?_)
                replace hT0 : w116[145]? = (some (q 145, .inr (15, [.int t0_0, .ref (q 146), .ref (q 147), .ref (q 148), .ref (q 149), .ref (q 150), .ref (q 151), .ref (q 152), .int t0_1, .int lx56, .int a72, .long j81, .int lx14, .int lx26, .long lx85, .int (-149), .long t0_9, .int t0_10])) : Option (Nat × va_E)) := hT0
                replace hI := n_p145 hI hu117 hT0 ⟨(by have t1 : 0 ≤ lx56.toInt := i59; omega), (by have t1 : lx56.toInt ≤ 1 := i60; omega)⟩
                replace hF := q_us hF hu117 (by simp)
                exact q_retv C0 V (⟨hI, hF, t0_0, t0_1, lx56, a72, j81, lx14, lx26, lx85, (-149), t0_9, t0_10, hT0, (show 0 ≤ lx56.toInt from (by have z21 : (-149 : Int32).toInt = -149 := rfl; have t1 : 0 ≤ lx56.toInt := i59; omega)), (show lx56.toInt ≤ 1 from (by have z21 : (-149 : Int32).toInt = -149 := rfl; have t1 : lx56.toInt ≤ 1 := i60; omega)), (show 0 ≤ a72.toInt from (by have z21 : (-149 : Int32).toInt = -149 := rfl; have t1 : 0 ≤ a72.toInt ∧ a72.toInt ≤ lx26.toInt := b74; omega)), (show 23 ≤ lx14.toInt from (by have z21 : (-149 : Int32).toInt = -149 := rfl; have t1 : 23 ≤ lx14.toInt := i17; omega)), (show lx14.toInt ≤ 52 from (by have z21 : (-149 : Int32).toInt = -149 := rfl; have t1 : lx14.toInt ≤ 52 := i18; omega)), (show 255 ≤ lx26.toInt from (by have z21 : (-149 : Int32).toInt = -149 := rfl; have t1 : 255 ≤ lx26.toInt := i29; omega)), (show lx26.toInt ≤ 2047 from (by have z21 : (-149 : Int32).toInt = -149 := rfl; have t1 : lx26.toInt ≤ 2047 := i30; omega)), (show t0_0.toInt ≤ t0_0.toInt from (by have z21 : (-149 : Int32).toInt = -149 := rfl; omega)), (show t0_0.toInt ≤ t0_0.toInt from (by have z21 : (-149 : Int32).toInt = -149 := rfl; omega)), (show t0_1.toInt ≤ t0_1.toInt from (by have z21 : (-149 : Int32).toInt = -149 := rfl; omega)), (show t0_1.toInt ≤ t0_1.toInt from (by have z21 : (-149 : Int32).toInt = -149 := rfl; omega)), (show x3.toInt ≤ (-149 : Int32).toInt + 1074 from (by have z21 : (-149 : Int32).toInt = -149 := rfl; have t1 : 0 ≤ x3.toInt ∧ x3.toInt ≤ 1 := hzx3; omega)), (show (-149 : Int32).toInt ≤ x3.toInt + 1896 from (by have z21 : (-149 : Int32).toInt = -149 := rfl; have t1 : 0 ≤ x3.toInt ∧ x3.toInt ≤ 1 := hzx3; omega)), (show t0_9.toInt ≤ t0_9.toInt from (by have z21 : (-149 : Int32).toInt = -149 := rfl; omega)), (show t0_9.toInt ≤ t0_9.toInt from (by have z21 : (-149 : Int32).toInt = -149 := rfl; omega)), (show t0_10.toInt ≤ t0_10.toInt from (by have z21 : (-149 : Int32).toInt = -149 := rfl; omega)), (show t0_10.toInt ≤ t0_10.toInt from (by have z21 : (-149 : Int32).toInt = -149 := rfl; omega)), (show a72.toInt ≤ lx26.toInt from (by have z21 : (-149 : Int32).toInt = -149 := rfl; have t1 : 0 ≤ a72.toInt ∧ a72.toInt ≤ lx26.toInt := b74; omega)), (show (-149 : Int32).toInt + 149 ≤ a72.toInt from (by have z21 : (-149 : Int32).toInt = -149 := rfl; have t1 : 0 ≤ a72.toInt ∧ a72.toInt ≤ lx26.toInt := b74; omega)), (show a72.toInt ≤ (-149 : Int32).toInt + 1075 from (by have z21 : (-149 : Int32).toInt = -149 := rfl; have t1 : a72.toInt = 0 := b110; omega)), (show (-149 : Int32).toInt + 150 ≤ lx26.toInt from (by have z21 : (-149 : Int32).toInt = -149 := rfl; have t1 : 255 ≤ lx26.toInt := i29; omega)), (show (t0_0, t0_1, lx56, a72, j81, lx14, lx26, lx85, (-149 : Int32), t0_9, t0_10) = (F_FR_open x2 x3 t0_0 t0_1 t0_2 t0_3 t0_4 t0_5 t0_6 t0_7 t0_8 t0_9 t0_10) from Eq.trans (by rw [F_FR_open_J117.eq_1, if_pos c95, if_neg c111]) hR88)⟩) d_17_4_153
          ·
            intro J87
            refine lv_if_ne (tgt := 106) hx hb d_17_4_96 (by decide) (fun c118 => ?_) (fun c118 => ?_)
            ·
              have b119 : q_F (a72.toInt ≠ 0) := (q_neI c118)
              refine lv_aload_n hx hb d_17_4_106 rfl (lv_at hl 0 rfl) ?_
              refine q_get (ci := 15) (j := 11) (v := .long j81) C0 V i_FR rfl rfl hT0 (by decide) w_2087 rfl d_17_4_107 ?_
              refine lv_lconst (v := 1) hx hb d_17_4_110 (by decide) ?_
              refine lv_aload_n hx hb d_17_4_111 rfl (lv_at hl 0 rfl) ?_
              refine q_get (ci := 15) (j := 12) (v := .int lx14) C0 V i_FR rfl rfl hT0 (by decide) w_2088 rfl d_17_4_112 ?_
              refine lv_lshl hx hb d_17_4_115 rfl ?_
              obtain ⟨j120, e121⟩ := q_nm ((1 : Int64) <<< (lx14.toInt64 &&& 63) : Int64)
              refine q_tl (v := j120) e121 ?_
              refine lv_ladd hx hb d_17_4_116 ?_
              obtain ⟨j122, e123⟩ := q_nm (j81 + j120 : Int64)
              refine q_tl (v := j122) e123 ?_
              exact J87 ((j122 : Int64)) _ _ _ w83 ⟨V, q_lw hl (q_lw1 0 rfl (q_lw1 2 rfl q_lw0)), (show F_FR_open_J117 x2 x3 t0_0 t0_1 t0_2 t0_3 t0_4 t0_5 t0_6 t0_7 t0_8 t0_9 t0_10 lx14 lx26 lx38 lx56 a72 j81 j122 = (F_FR_open x2 x3 t0_0 t0_1 t0_2 t0_3 t0_4 t0_5 t0_6 t0_7 t0_8 t0_9 t0_10) from Eq.trans (by have c118x := c118; rw [← e73, ← e71, ← e69] at c118x; rw [← e123, ← e121, ← e82, ← e80, ← e78, ← e73, ← e71, ← e69, F_FR_open_J58.eq_1, if_neg c118x]) hR61)⟩
            ·
              have b124 : q_F (a72.toInt = 0) := (q_eqI c118)
              refine lv_aload_n hx hb d_17_4_99 rfl (lv_at hl 0 rfl) ?_
              refine q_get (ci := 15) (j := 11) (v := .long j81) C0 V i_FR rfl rfl hT0 (by decide) w_2087 rfl d_17_4_100 ?_
              refine lv_goto (tgt := 117) hx hb d_17_4_103 (by decide) ?_
              exact J87 ((j81 : Int64)) _ _ _ w83 ⟨V, q_lw hl (q_lw1 0 rfl (q_lw1 2 rfl q_lw0)), (show F_FR_open_J117 x2 x3 t0_0 t0_1 t0_2 t0_3 t0_4 t0_5 t0_6 t0_7 t0_8 t0_9 t0_10 lx14 lx26 lx38 lx56 a72 j81 j81 = (F_FR_open x2 x3 t0_0 t0_1 t0_2 t0_3 t0_4 t0_5 t0_6 t0_7 t0_8 t0_9 t0_10) from Eq.trans (by have c118x := c118; rw [← e73, ← e71, ← e69] at c118x; rw [← e82, ← e80, ← e78, ← e73, ← e71, ← e69, F_FR_open_J58.eq_1, if_pos c118x]) hR61)⟩
        ·
          intro J58
          refine lv_if_ne (tgt := 57) hx hb d_17_4_50 (by decide) (fun c125 => ?_) (fun c125 => ?_)
          ·
            have b126 : q_F (a53.toInt ≠ 0) := (q_neI c125)
            refine lv_iconst (v := 0) hx hb d_17_4_57 (by decide) ?_
            exact J58 ((0 : Int32)) _ _ _ w36 ⟨(show q_F (0 ≤ 0) from (show 0 ≤ 0 from by omega)), (show q_F (0 ≤ 1) from (show 0 ≤ 1 from by omega)), V, q_lw hl (q_lw1 0 rfl (q_lw1 1 rfl (q_lw1 2 rfl q_lw0))), (show F_FR_open_J58 x2 x3 t0_0 t0_1 t0_2 t0_3 t0_4 t0_5 t0_6 t0_7 t0_8 t0_9 t0_10 lx14 lx26 lx38 0 = (F_FR_open x2 x3 t0_0 t0_1 t0_2 t0_3 t0_4 t0_5 t0_6 t0_7 t0_8 t0_9 t0_10) from Eq.trans (by have c125x := c125; rw [← e54, ← e51, ← e49] at c125x; rw [F_FR_open_J45.eq_1, if_neg c125x]) hR43)⟩
          ·
            have b127 : q_F (a53.toInt = 0) := (q_eqI c125)
            refine lv_iconst (v := 1) hx hb d_17_4_53 (by decide) ?_
            refine lv_goto (tgt := 58) hx hb d_17_4_54 (by decide) ?_
            exact J58 ((1 : Int32)) _ _ _ w36 ⟨(show q_F (0 ≤ 1) from (show 0 ≤ 1 from by omega)), (show q_F (1 ≤ 1) from (show 1 ≤ 1 from by omega)), V, q_lw hl (q_lw1 0 rfl (q_lw1 1 rfl (q_lw1 2 rfl q_lw0))), (show F_FR_open_J58 x2 x3 t0_0 t0_1 t0_2 t0_3 t0_4 t0_5 t0_6 t0_7 t0_8 t0_9 t0_10 lx14 lx26 lx38 1 = (F_FR_open x2 x3 t0_0 t0_1 t0_2 t0_3 t0_4 t0_5 t0_6 t0_7 t0_8 t0_9 t0_10) from Eq.trans (by have c125x := c125; rw [← e54, ← e51, ← e49] at c125x; rw [F_FR_open_J45.eq_1, if_pos c125x]) hR43)⟩
      ·
        intro J40
        refine lv_if_eq (tgt := 43) hx hb d_17_4_35 (by decide) (fun c128 => ?_) (fun c128 => ?_)
        ·
          have b129 : q_F (x3.toInt = 0) := (q_eqI c128)
          refine lv_bipush (v := 63) hx hb d_17_4_43 (by decide) ?_
          exact J40 ((63 : Int32)) _ _ _ w36 ⟨(show q_F (31 ≤ 63) from (show 31 ≤ 63 from by omega)), (show q_F (63 ≤ 63) from (show 63 ≤ 63 from by omega)), V, q_lw hl (q_lw1 0 rfl (q_lw1 1 rfl (q_lw1 2 rfl q_lw0))), (show F_FR_open_J45 x2 x3 t0_0 t0_1 t0_2 t0_3 t0_4 t0_5 t0_6 t0_7 t0_8 t0_9 t0_10 lx14 lx26 63 = (F_FR_open x2 x3 t0_0 t0_1 t0_2 t0_3 t0_4 t0_5 t0_6 t0_7 t0_8 t0_9 t0_10) from Eq.trans (by rw [F_FR_open_J29.eq_1, if_pos c128]) hR31)⟩
        ·
          have b130 : q_F (x3.toInt ≠ 0) := (q_neI c128)
          refine lv_bipush (v := 31) hx hb d_17_4_38 (by decide) ?_
          refine lv_goto (tgt := 45) hx hb d_17_4_40 (by decide) ?_
          exact J40 ((31 : Int32)) _ _ _ w36 ⟨(show q_F (31 ≤ 31) from (show 31 ≤ 31 from by omega)), (show q_F (31 ≤ 63) from (show 31 ≤ 63 from by omega)), V, q_lw hl (q_lw1 0 rfl (q_lw1 1 rfl (q_lw1 2 rfl q_lw0))), (show F_FR_open_J45 x2 x3 t0_0 t0_1 t0_2 t0_3 t0_4 t0_5 t0_6 t0_7 t0_8 t0_9 t0_10 lx14 lx26 31 = (F_FR_open x2 x3 t0_0 t0_1 t0_2 t0_3 t0_4 t0_5 t0_6 t0_7 t0_8 t0_9 t0_10) from Eq.trans (by rw [F_FR_open_J29.eq_1, if_neg c128]) hR31)⟩
    ·
      intro J28
      refine lv_if_eq (tgt := 26) hx hb d_17_4_17 (by decide) (fun c131 => ?_) (fun c131 => ?_)
      ·
        have b132 : q_F (x3.toInt = 0) := (q_eqI c131)
        refine lv_sipush (v := 2047) hx hb d_17_4_26 (by decide) ?_
        exact J28 ((2047 : Int32)) _ _ _ w24 ⟨(show q_F (255 ≤ 2047) from (show 255 ≤ 2047 from by omega)), (show q_F (2047 ≤ 2047) from (show 2047 ≤ 2047 from by omega)), V, q_lw hl (q_lw1 0 rfl (q_lw1 1 rfl (q_lw1 2 rfl q_lw0))), (show F_FR_open_J29 x2 x3 t0_0 t0_1 t0_2 t0_3 t0_4 t0_5 t0_6 t0_7 t0_8 t0_9 t0_10 lx14 2047 = (F_FR_open x2 x3 t0_0 t0_1 t0_2 t0_3 t0_4 t0_5 t0_6 t0_7 t0_8 t0_9 t0_10) from Eq.trans (by rw [F_FR_open_J12.eq_1, if_pos c131]) hR19)⟩
      ·
        have b133 : q_F (x3.toInt ≠ 0) := (q_neI c131)
        refine lv_sipush (v := 255) hx hb d_17_4_20 (by decide) ?_
        refine lv_goto (tgt := 29) hx hb d_17_4_23 (by decide) ?_
        exact J28 ((255 : Int32)) _ _ _ w24 ⟨(show q_F (255 ≤ 255) from (show 255 ≤ 255 from by omega)), (show q_F (255 ≤ 2047) from (show 255 ≤ 2047 from by omega)), V, q_lw hl (q_lw1 0 rfl (q_lw1 1 rfl (q_lw1 2 rfl q_lw0))), (show F_FR_open_J29 x2 x3 t0_0 t0_1 t0_2 t0_3 t0_4 t0_5 t0_6 t0_7 t0_8 t0_9 t0_10 lx14 255 = (F_FR_open x2 x3 t0_0 t0_1 t0_2 t0_3 t0_4 t0_5 t0_6 t0_7 t0_8 t0_9 t0_10) from Eq.trans (by rw [F_FR_open_J12.eq_1, if_neg c131]) hR19)⟩
  ·
    intro J16
    refine lv_if_eq (tgt := 10) hx hb d_17_4_2 (by decide) (fun c134 => ?_) (fun c134 => ?_)
    ·
      have b135 : q_F (x3.toInt = 0) := (q_eqI c134)
      refine lv_bipush (v := 52) hx hb d_17_4_10 (by decide) ?_
      exact J16 ((52 : Int32)) _ _ _ ws ⟨(show q_F (23 ≤ 52) from (show 23 ≤ 52 from by omega)), (show q_F (52 ≤ 52) from (show 52 ≤ 52 from by omega)), V, q_lw hl (q_lw1 0 rfl (q_lw1 1 rfl (q_lw1 2 rfl q_lw0))), (show F_FR_open_J12 x2 x3 t0_0 t0_1 t0_2 t0_3 t0_4 t0_5 t0_6 t0_7 t0_8 t0_9 t0_10 52 = (F_FR_open x2 x3 t0_0 t0_1 t0_2 t0_3 t0_4 t0_5 t0_6 t0_7 t0_8 t0_9 t0_10) from (by rw [F_FR_open.eq_1, if_pos c134]))⟩
    ·
      have b136 : q_F (x3.toInt ≠ 0) := (q_neI c134)
      refine lv_bipush (v := 23) hx hb d_17_4_5 (by decide) ?_
      refine lv_goto (tgt := 12) hx hb d_17_4_7 (by decide) ?_
      exact J16 ((23 : Int32)) _ _ _ ws ⟨(show q_F (23 ≤ 23) from (show 23 ≤ 23 from by omega)), (show q_F (23 ≤ 52) from (show 23 ≤ 52 from by omega)), V, q_lw hl (q_lw1 0 rfl (q_lw1 1 rfl (q_lw1 2 rfl q_lw0))), (show F_FR_open_J12 x2 x3 t0_0 t0_1 t0_2 t0_3 t0_4 t0_5 t0_6 t0_7 t0_8 t0_9 t0_10 23 = (F_FR_open x2 x3 t0_0 t0_1 t0_2 t0_3 t0_4 t0_5 t0_6 t0_7 t0_8 t0_9 t0_10) from (by rw [F_FR_open.eq_1, if_neg c134]))⟩
theorem d_17_5_0 : decode prog_17_method_5_code 0 = .ok (.aload_n 0, 1) := by decide +kernel
theorem d_17_5_1 : decode prog_17_method_5_code 1 = .ok (.getfield 45, 3) := by decide +kernel
theorem d_17_5_4 : decode prog_17_method_5_code 4 = .ok (.aload_n 0, 1) := by decide +kernel
theorem d_17_5_5 : decode prog_17_method_5_code 5 = .ok (.getfield 38, 3) := by decide +kernel
theorem d_17_5_8 : decode prog_17_method_5_code 8 = .ok (.if_icmp .ge 7, 3) := by decide +kernel
theorem d_17_5_15 : decode prog_17_method_5_code 15 = .ok (.iconst 0, 1) := by decide +kernel
theorem d_17_5_16 : decode prog_17_method_5_code 16 = .ok (.ireturn, 1) := by decide +kernel
theorem d_17_5_11 : decode prog_17_method_5_code 11 = .ok (.iconst 1, 1) := by decide +kernel
theorem d_17_5_12 : decode prog_17_method_5_code 12 = .ok (.goto 4, 3) := by decide +kernel
def y_FR_isFinite : MethodName := ⟨"NumberHouseModel$FloatRows", "isFinite", "()Z"⟩
def F_FR_isFinite (t0_0 : Int32) (t0_1 : Int32) (t0_2 : Int32) (t0_3 : Int32) (t0_4 : Int64) (t0_5 : Int32) (t0_6 : Int32) (t0_7 : Int64) (t0_8 : Int32) (t0_9 : Int64) (t0_10 : Int32) : Int32 := if t0_6 ≤ t0_3 then ((0 : Int32)) else ((1 : Int32))
set_option maxRecDepth 100000 in
set_option maxHeartbeats 4000000 in
theorem X_FR_isFinite (l : Launch) (D : va_G) (g : Nat → ClassId) (q : Nat → Nat) (ws : va_W) (hI : q_I (msh g q) q ws) (t0_0 : Int32) (t0_1 : Int32) (t0_2 : Int32) (t0_3 : Int32) (t0_4 : Int64) (t0_5 : Int32) (t0_6 : Int32) (t0_7 : Int64) (t0_8 : Int32) (t0_9 : Int64) (t0_10 : Int32) (hT0 : ws[145]? = (some (q 145, .inr (15, [.int t0_0, .ref (q 146), .ref (q 147), .ref (q 148), .ref (q 149), .ref (q 150), .ref (q 151), .ref (q 152), .int t0_1, .int t0_2, .int t0_3, .long t0_4, .int t0_5, .int t0_6, .long t0_7, .int t0_8, .long t0_9, .int t0_10])) : Option (Nat × va_E))) : q_mI l y_FR_isFinite prog_17_method_5_code 1 (.boolean) 1 0 0 D g [.ref (q 145)] ws (fun r u => ws = u ∧ (0 ≤ r.toInt) ∧ (r.toInt ≤ 1) ∧ r = (F_FR_isFinite t0_0 t0_1 t0_2 t0_3 t0_4 t0_5 t0_6 t0_7 t0_8 t0_9 t0_10)) := by
  intro sz
  refine q_into (by decide) (Nat.le_of_ble_eq_true rfl) ?_
  intro p e s m below meth c ls hsz C0 V hl
  have hx := C0.1
  have hb := C0.2.1
  obtain ⟨yy0_0, yy0_1, yy0_2, yy0_3, yy0_4, yy0_5, yy0_6, yy0_7, yy0_8, yy0_9, yy0_10, hh0, btt0_2⟩ := n_o145 hI
  obtain ⟨rfl, rfl, rfl, rfl, rfl, rfl, rfl, rfl, rfl, rfl, rfl⟩ : t0_0 = yy0_0 ∧ t0_1 = yy0_1 ∧ t0_2 = yy0_2 ∧ t0_3 = yy0_3 ∧ t0_4 = yy0_4 ∧ t0_5 = yy0_5 ∧ t0_6 = yy0_6 ∧ t0_7 = yy0_7 ∧ t0_8 = yy0_8 ∧ t0_9 = yy0_9 ∧ t0_10 = yy0_10 := by have z := Option.some.inj (hT0.symm.trans hh0); simpa using z
  replace btt0_2 : q_F (0 ≤ t0_2.toInt ∧ t0_2.toInt ≤ 1) := btt0_2
  have hl : lv_has ls 1 [(0, .ref (q 145))] := hl
  refine lv_aload_n hx hb d_17_5_0 rfl (lv_at hl 0 rfl) ?_
  refine q_get (ci := 15) (j := 10) (v := .int t0_3) C0 V i_FR rfl rfl hT0 (by decide) w_2086 rfl d_17_5_1 ?_
  refine lv_aload_n hx hb d_17_5_4 rfl (lv_at hl 0 rfl) ?_
  refine q_get (ci := 15) (j := 13) (v := .int t0_6) C0 V i_FR rfl rfl hT0 (by decide) w_2089 rfl d_17_5_5 ?_
  refine lv_icmp_ge (tgt := 15) hx hb d_17_5_8 (by decide) (fun c14 => ?_) (fun c14 => ?_)
  ·
    have b15 : q_F (t0_6.toInt ≤ t0_3.toInt) := (q_leI c14)
    refine lv_iconst (v := 0) hx hb d_17_5_15 (by decide) ?_
    exact q_retz C0 V (by decide) (⟨rfl, (show 0 ≤ (0 : Int32).toInt from (by have z11 : (0 : Int32).toInt = 0 := rfl; omega)), (show (0 : Int32).toInt ≤ 1 from (by have z11 : (0 : Int32).toInt = 0 := rfl; omega)), (show (0 : Int32) = (F_FR_isFinite t0_0 t0_1 t0_2 t0_3 t0_4 t0_5 t0_6 t0_7 t0_8 t0_9 t0_10) from (by rw [F_FR_isFinite.eq_1, if_pos c14]))⟩) d_17_5_16
  ·
    have b16 : q_F (t0_3.toInt < t0_6.toInt) := (q_nleI c14)
    refine lv_iconst (v := 1) hx hb d_17_5_11 (by decide) ?_
    refine lv_goto (tgt := 16) hx hb d_17_5_12 (by decide) ?_
    exact q_retz C0 V (by decide) (⟨rfl, (show 0 ≤ (1 : Int32).toInt from (by have z11 : (1 : Int32).toInt = 1 := rfl; omega)), (show (1 : Int32).toInt ≤ 1 from (by have z11 : (1 : Int32).toInt = 1 := rfl; omega)), (show (1 : Int32) = (F_FR_isFinite t0_0 t0_1 t0_2 t0_3 t0_4 t0_5 t0_6 t0_7 t0_8 t0_9 t0_10) from (by rw [F_FR_isFinite.eq_1, if_neg c14]))⟩) d_17_5_16
theorem d_17_6_0 : decode prog_17_method_6_code 0 = .ok (.iconst 0, 1) := by decide +kernel
theorem d_17_6_1 : decode prog_17_method_6_code 1 = .ok (.istore_n 2, 1) := by decide +kernel
theorem d_17_6_2 : decode prog_17_method_6_code 2 = .ok (.iload_n 2, 1) := by decide +kernel
theorem d_17_6_3 : decode prog_17_method_6_code 3 = .ok (.sipush 156, 3) := by decide +kernel
theorem d_17_6_6 : decode prog_17_method_6_code 6 = .ok (.if_icmp .ge 26, 3) := by decide +kernel
theorem d_17_6_32 : decode prog_17_method_6_code 32 = .ok (.iload_n 1, 1) := by decide +kernel
theorem d_17_6_33 : decode prog_17_method_6_code 33 = .ok (.istore_n 2, 1) := by decide +kernel
theorem d_17_6_34 : decode prog_17_method_6_code 34 = .ok (.iload_n 2, 1) := by decide +kernel
theorem d_17_6_35 : decode prog_17_method_6_code 35 = .ok (.ifCond .le 68, 3) := by decide +kernel
theorem d_17_6_103 : decode prog_17_method_6_code 103 = .ok (.iload_n 1, 1) := by decide +kernel
theorem d_17_6_104 : decode prog_17_method_6_code 104 = .ok (.istore_n 2, 1) := by decide +kernel
theorem d_17_6_105 : decode prog_17_method_6_code 105 = .ok (.iload_n 2, 1) := by decide +kernel
theorem d_17_6_106 : decode prog_17_method_6_code 106 = .ok (.ifCond .ge 57, 3) := by decide +kernel
theorem d_17_6_163 : decode prog_17_method_6_code 163 = .ok (.return_, 1) := by decide +kernel
theorem d_17_6_109 : decode prog_17_method_6_code 109 = .ok (.iconst 0, 1) := by decide +kernel
theorem d_17_6_110 : decode prog_17_method_6_code 110 = .ok (.istore_n 3, 1) := by decide +kernel
theorem d_17_6_111 : decode prog_17_method_6_code 111 = .ok (.sipush 155, 3) := by decide +kernel
theorem d_17_6_114 : decode prog_17_method_6_code 114 = .ok (.istore 4, 2) := by decide +kernel
theorem d_17_6_116 : decode prog_17_method_6_code 116 = .ok (.iload 4, 2) := by decide +kernel
theorem d_17_6_118 : decode prog_17_method_6_code 118 = .ok (.ifCond .lt 39, 3) := by decide +kernel
theorem d_17_6_157 : decode prog_17_method_6_code 157 = .ok (.iinc 2 1, 3) := by decide +kernel
theorem d_17_6_160 : decode prog_17_method_6_code 160 = .ok (.goto (-55), 3) := by decide +kernel
theorem d_17_6_121 : decode prog_17_method_6_code 121 = .ok (.aload_n 0, 1) := by decide +kernel
theorem d_17_6_122 : decode prog_17_method_6_code 122 = .ok (.getfield 7, 3) := by decide +kernel
theorem d_17_6_125 : decode prog_17_method_6_code 125 = .ok (.iload 4, 2) := by decide +kernel
theorem d_17_6_127 : decode prog_17_method_6_code 127 = .ok (.iaload, 1) := by decide +kernel
theorem d_17_6_128 : decode prog_17_method_6_code 128 = .ok (.iload_n 3, 1) := by decide +kernel
theorem d_17_6_129 : decode prog_17_method_6_code 129 = .ok (.ldc 58, 2) := by decide +kernel
set_option maxRecDepth 100000 in
theorem w_2608 : (Cond.constant "NumberHouseModel$FloatRows" (58 : Nat) (1000000000 : Int32)) ∈ q_tbl := q_of11 208 rfl (by decide +kernel)
theorem d_17_6_131 : decode prog_17_method_6_code 131 = .ok (.imul, 1) := by decide +kernel
theorem d_17_6_132 : decode prog_17_method_6_code 132 = .ok (.iadd, 1) := by decide +kernel
theorem d_17_6_133 : decode prog_17_method_6_code 133 = .ok (.istore 5, 2) := by decide +kernel
theorem d_17_6_135 : decode prog_17_method_6_code 135 = .ok (.iload 5, 2) := by decide +kernel
theorem d_17_6_137 : decode prog_17_method_6_code 137 = .ok (.iconst 1, 1) := by decide +kernel
theorem d_17_6_138 : decode prog_17_method_6_code 138 = .ok (.iand, 1) := by decide +kernel
theorem d_17_6_139 : decode prog_17_method_6_code 139 = .ok (.istore_n 3, 1) := by decide +kernel
theorem d_17_6_140 : decode prog_17_method_6_code 140 = .ok (.aload_n 0, 1) := by decide +kernel
theorem d_17_6_141 : decode prog_17_method_6_code 141 = .ok (.getfield 7, 3) := by decide +kernel
theorem d_17_6_144 : decode prog_17_method_6_code 144 = .ok (.iload 4, 2) := by decide +kernel
theorem d_17_6_146 : decode prog_17_method_6_code 146 = .ok (.iload 5, 2) := by decide +kernel
theorem d_17_6_148 : decode prog_17_method_6_code 148 = .ok (.iconst 2, 1) := by decide +kernel
theorem d_17_6_149 : decode prog_17_method_6_code 149 = .ok (.idiv, 1) := by decide +kernel
theorem d_17_6_150 : decode prog_17_method_6_code 150 = .ok (.iastore, 1) := by decide +kernel
theorem d_17_6_151 : decode prog_17_method_6_code 151 = .ok (.iinc 4 (-1), 3) := by decide +kernel
theorem d_17_6_154 : decode prog_17_method_6_code 154 = .ok (.goto (-38), 3) := by decide +kernel
theorem d_17_6_38 : decode prog_17_method_6_code 38 = .ok (.iconst 0, 1) := by decide +kernel
theorem d_17_6_39 : decode prog_17_method_6_code 39 = .ok (.istore_n 3, 1) := by decide +kernel
theorem d_17_6_40 : decode prog_17_method_6_code 40 = .ok (.iconst 0, 1) := by decide +kernel
theorem d_17_6_41 : decode prog_17_method_6_code 41 = .ok (.istore 4, 2) := by decide +kernel
theorem d_17_6_43 : decode prog_17_method_6_code 43 = .ok (.iload 4, 2) := by decide +kernel
theorem d_17_6_45 : decode prog_17_method_6_code 45 = .ok (.sipush 156, 3) := by decide +kernel
theorem d_17_6_48 : decode prog_17_method_6_code 48 = .ok (.if_icmp .ge 49, 3) := by decide +kernel
theorem d_17_6_97 : decode prog_17_method_6_code 97 = .ok (.iinc 2 (-1), 3) := by decide +kernel
theorem d_17_6_100 : decode prog_17_method_6_code 100 = .ok (.goto (-66), 3) := by decide +kernel
theorem d_17_6_51 : decode prog_17_method_6_code 51 = .ok (.iconst 2, 1) := by decide +kernel
theorem d_17_6_52 : decode prog_17_method_6_code 52 = .ok (.aload_n 0, 1) := by decide +kernel
theorem d_17_6_53 : decode prog_17_method_6_code 53 = .ok (.getfield 7, 3) := by decide +kernel
theorem d_17_6_56 : decode prog_17_method_6_code 56 = .ok (.iload 4, 2) := by decide +kernel
theorem d_17_6_58 : decode prog_17_method_6_code 58 = .ok (.iaload, 1) := by decide +kernel
theorem d_17_6_59 : decode prog_17_method_6_code 59 = .ok (.imul, 1) := by decide +kernel
theorem d_17_6_60 : decode prog_17_method_6_code 60 = .ok (.iload_n 3, 1) := by decide +kernel
theorem d_17_6_61 : decode prog_17_method_6_code 61 = .ok (.iadd, 1) := by decide +kernel
theorem d_17_6_62 : decode prog_17_method_6_code 62 = .ok (.istore 5, 2) := by decide +kernel
theorem d_17_6_64 : decode prog_17_method_6_code 64 = .ok (.iload 5, 2) := by decide +kernel
theorem d_17_6_66 : decode prog_17_method_6_code 66 = .ok (.ldc 58, 2) := by decide +kernel
theorem d_17_6_68 : decode prog_17_method_6_code 68 = .ok (.if_icmp .lt 7, 3) := by decide +kernel
theorem d_17_6_75 : decode prog_17_method_6_code 75 = .ok (.iconst 0, 1) := by decide +kernel
theorem d_17_6_76 : decode prog_17_method_6_code 76 = .ok (.istore_n 3, 1) := by decide +kernel
theorem d_17_6_77 : decode prog_17_method_6_code 77 = .ok (.aload_n 0, 1) := by decide +kernel
theorem d_17_6_78 : decode prog_17_method_6_code 78 = .ok (.getfield 7, 3) := by decide +kernel
theorem d_17_6_81 : decode prog_17_method_6_code 81 = .ok (.iload 4, 2) := by decide +kernel
theorem d_17_6_83 : decode prog_17_method_6_code 83 = .ok (.iload 5, 2) := by decide +kernel
theorem d_17_6_85 : decode prog_17_method_6_code 85 = .ok (.iload_n 3, 1) := by decide +kernel
theorem d_17_6_86 : decode prog_17_method_6_code 86 = .ok (.ldc 58, 2) := by decide +kernel
theorem d_17_6_88 : decode prog_17_method_6_code 88 = .ok (.imul, 1) := by decide +kernel
theorem d_17_6_89 : decode prog_17_method_6_code 89 = .ok (.isub, 1) := by decide +kernel
theorem d_17_6_90 : decode prog_17_method_6_code 90 = .ok (.iastore, 1) := by decide +kernel
theorem d_17_6_91 : decode prog_17_method_6_code 91 = .ok (.iinc 4 1, 3) := by decide +kernel
theorem d_17_6_94 : decode prog_17_method_6_code 94 = .ok (.goto (-51), 3) := by decide +kernel
theorem d_17_6_71 : decode prog_17_method_6_code 71 = .ok (.iconst 1, 1) := by decide +kernel
theorem d_17_6_72 : decode prog_17_method_6_code 72 = .ok (.goto 4, 3) := by decide +kernel
theorem d_17_6_9 : decode prog_17_method_6_code 9 = .ok (.aload_n 0, 1) := by decide +kernel
theorem d_17_6_10 : decode prog_17_method_6_code 10 = .ok (.getfield 7, 3) := by decide +kernel
theorem d_17_6_13 : decode prog_17_method_6_code 13 = .ok (.iload_n 2, 1) := by decide +kernel
theorem d_17_6_14 : decode prog_17_method_6_code 14 = .ok (.iload_n 2, 1) := by decide +kernel
theorem d_17_6_15 : decode prog_17_method_6_code 15 = .ok (.bipush 120, 2) := by decide +kernel
theorem d_17_6_17 : decode prog_17_method_6_code 17 = .ok (.if_icmp .ne 7, 3) := by decide +kernel
theorem d_17_6_24 : decode prog_17_method_6_code 24 = .ok (.iconst 0, 1) := by decide +kernel
theorem d_17_6_25 : decode prog_17_method_6_code 25 = .ok (.iastore, 1) := by decide +kernel
theorem d_17_6_26 : decode prog_17_method_6_code 26 = .ok (.iinc 2 1, 3) := by decide +kernel
theorem d_17_6_29 : decode prog_17_method_6_code 29 = .ok (.goto (-27), 3) := by decide +kernel
theorem d_17_6_20 : decode prog_17_method_6_code 20 = .ok (.iconst 1, 1) := by decide +kernel
theorem d_17_6_21 : decode prog_17_method_6_code 21 = .ok (.goto 4, 3) := by decide +kernel
def y_FR_setUnit : MethodName := ⟨"NumberHouseModel$FloatRows", "setUnit", "(I)V"⟩
def F_FR_setUnit_L116 (K_F_FR_setUnit_L2 : Int32 → (Nat → Int32) → (Nat → Int32)) (K_F_FR_setUnit_L34 : Int32 → (Nat → Int32) → (Nat → Int32)) (K_F_FR_setUnit_L105 : Int32 → (Nat → Int32) → (Nat → Int32)) (x2 : Int32) (t0_0 : Int32) (t0_1 : Int32) (t0_2 : Int32) (t0_3 : Int32) (t0_4 : Int64) (t0_5 : Int32) (t0_6 : Int32) (t0_7 : Int64) (t0_8 : Int32) (t0_9 : Int64) (t0_10 : Int32) (t1_0 : (Nat → Int32)) (lx18 : Int32) (lx19 : (Nat → Int32)) (lx34 : Int32) (lx35 : (Nat → Int32)) (lx49 : Int32) (lx50 : (Nat → Int32)) : Nat → Int32 → Int32 → (Nat → Int32) → (Nat → Int32)
  | 0, _, _, _ => default
  | fm + 1, lx66, lx67, lx68 => if lx66 < (0 : Int32) then (K_F_FR_setUnit_L105 (lx49 + 1 : Int32) lx68) else (F_FR_setUnit_L116 K_F_FR_setUnit_L2 K_F_FR_setUnit_L34 K_F_FR_setUnit_L105 x2 t0_0 t0_1 t0_2 t0_3 t0_4 t0_5 t0_6 t0_7 t0_8 t0_9 t0_10 t1_0 lx18 lx19 lx34 lx35 lx49 lx50 fm (lx66 + (-1) : Int32) (((lx68 lx66.toNatClampNeg : Int32) + (lx67 * 1000000000 : Int32) : Int32) &&& 1 : Int32) (upd lx68 lx66.toNatClampNeg (((lx68 lx66.toNatClampNeg : Int32) + (lx67 * 1000000000 : Int32) : Int32) / 2 : Int32) : (Nat → Int32)))
def F_FR_setUnit_L105 (K_F_FR_setUnit_L2 : Int32 → (Nat → Int32) → (Nat → Int32)) (K_F_FR_setUnit_L34 : Int32 → (Nat → Int32) → (Nat → Int32)) (x2 : Int32) (t0_0 : Int32) (t0_1 : Int32) (t0_2 : Int32) (t0_3 : Int32) (t0_4 : Int64) (t0_5 : Int32) (t0_6 : Int32) (t0_7 : Int64) (t0_8 : Int32) (t0_9 : Int64) (t0_10 : Int32) (t1_0 : (Nat → Int32)) (lx18 : Int32) (lx19 : (Nat → Int32)) (lx34 : Int32) (lx35 : (Nat → Int32)) : Nat → Int32 → (Nat → Int32) → (Nat → Int32)
  | 0, _, _ => default
  | fm + 1, lx49, lx50 => if (0 : Int32) ≤ lx49 then (lx50) else (F_FR_setUnit_L116 K_F_FR_setUnit_L2 K_F_FR_setUnit_L34 (F_FR_setUnit_L105 K_F_FR_setUnit_L2 K_F_FR_setUnit_L34 x2 t0_0 t0_1 t0_2 t0_3 t0_4 t0_5 t0_6 t0_7 t0_8 t0_9 t0_10 t1_0 lx18 lx19 lx34 lx35 fm) x2 t0_0 t0_1 t0_2 t0_3 t0_4 t0_5 t0_6 t0_7 t0_8 t0_9 t0_10 t1_0 lx18 lx19 lx34 lx35 lx49 lx50 (((155 : Int32).toInt - ((-1))).toNat + 1) 155 0 lx50)
def F_FR_setUnit_L43 (K_F_FR_setUnit_L2 : Int32 → (Nat → Int32) → (Nat → Int32)) (K_F_FR_setUnit_L34 : Int32 → (Nat → Int32) → (Nat → Int32)) (x2 : Int32) (t0_0 : Int32) (t0_1 : Int32) (t0_2 : Int32) (t0_3 : Int32) (t0_4 : Int64) (t0_5 : Int32) (t0_6 : Int32) (t0_7 : Int64) (t0_8 : Int32) (t0_9 : Int64) (t0_10 : Int32) (t1_0 : (Nat → Int32)) (lx18 : Int32) (lx19 : (Nat → Int32)) (lx34 : Int32) (lx35 : (Nat → Int32)) : Nat → Int32 → Int32 → (Nat → Int32) → (Nat → Int32)
  | 0, _, _, _ => default
  | fm + 1, lx111, lx112, lx113 => if (156 : Int32) ≤ lx111 then (K_F_FR_setUnit_L34 (lx34 + (-1) : Int32) lx113) else (if ((2 * (lx113 lx111.toNatClampNeg : Int32) : Int32) + lx112 : Int32) < (1000000000 : Int32) then (F_FR_setUnit_L43 K_F_FR_setUnit_L2 K_F_FR_setUnit_L34 x2 t0_0 t0_1 t0_2 t0_3 t0_4 t0_5 t0_6 t0_7 t0_8 t0_9 t0_10 t1_0 lx18 lx19 lx34 lx35 fm (lx111 + 1 : Int32) 0 (upd lx113 lx111.toNatClampNeg (((2 * (lx113 lx111.toNatClampNeg : Int32) : Int32) + lx112 : Int32) - 0 : Int32) : (Nat → Int32))) else (F_FR_setUnit_L43 K_F_FR_setUnit_L2 K_F_FR_setUnit_L34 x2 t0_0 t0_1 t0_2 t0_3 t0_4 t0_5 t0_6 t0_7 t0_8 t0_9 t0_10 t1_0 lx18 lx19 lx34 lx35 fm (lx111 + 1 : Int32) 1 (upd lx113 lx111.toNatClampNeg (((2 * (lx113 lx111.toNatClampNeg : Int32) : Int32) + lx112 : Int32) - 1000000000 : Int32) : (Nat → Int32))))
def F_FR_setUnit_L34 (K_F_FR_setUnit_L2 : Int32 → (Nat → Int32) → (Nat → Int32)) (x2 : Int32) (t0_0 : Int32) (t0_1 : Int32) (t0_2 : Int32) (t0_3 : Int32) (t0_4 : Int64) (t0_5 : Int32) (t0_6 : Int32) (t0_7 : Int64) (t0_8 : Int32) (t0_9 : Int64) (t0_10 : Int32) (t1_0 : (Nat → Int32)) (lx18 : Int32) (lx19 : (Nat → Int32)) : Nat → Int32 → (Nat → Int32) → (Nat → Int32)
  | 0, _, _ => default
  | fm + 1, lx34, lx35 => if lx34 ≤ (0 : Int32) then (F_FR_setUnit_L105 K_F_FR_setUnit_L2 (F_FR_setUnit_L34 K_F_FR_setUnit_L2 x2 t0_0 t0_1 t0_2 t0_3 t0_4 t0_5 t0_6 t0_7 t0_8 t0_9 t0_10 t1_0 lx18 lx19 fm) x2 t0_0 t0_1 t0_2 t0_3 t0_4 t0_5 t0_6 t0_7 t0_8 t0_9 t0_10 t1_0 lx18 lx19 lx34 lx35 ((0 - x2.toInt).toNat + 1) x2 lx35) else (F_FR_setUnit_L43 K_F_FR_setUnit_L2 (F_FR_setUnit_L34 K_F_FR_setUnit_L2 x2 t0_0 t0_1 t0_2 t0_3 t0_4 t0_5 t0_6 t0_7 t0_8 t0_9 t0_10 t1_0 lx18 lx19 fm) x2 t0_0 t0_1 t0_2 t0_3 t0_4 t0_5 t0_6 t0_7 t0_8 t0_9 t0_10 t1_0 lx18 lx19 lx34 lx35 ((156 - (0 : Int32).toInt).toNat + 1) 0 0 lx35)
def F_FR_setUnit_L2 (x2 : Int32) (t0_0 : Int32) (t0_1 : Int32) (t0_2 : Int32) (t0_3 : Int32) (t0_4 : Int64) (t0_5 : Int32) (t0_6 : Int32) (t0_7 : Int64) (t0_8 : Int32) (t0_9 : Int64) (t0_10 : Int32) (t1_0 : (Nat → Int32)) : Nat → Int32 → (Nat → Int32) → (Nat → Int32)
  | 0, _, _ => default
  | fm + 1, lx18, lx19 => if (156 : Int32) ≤ lx18 then (F_FR_setUnit_L34 (F_FR_setUnit_L2 x2 t0_0 t0_1 t0_2 t0_3 t0_4 t0_5 t0_6 t0_7 t0_8 t0_9 t0_10 t1_0 fm) x2 t0_0 t0_1 t0_2 t0_3 t0_4 t0_5 t0_6 t0_7 t0_8 t0_9 t0_10 t1_0 lx18 lx19 ((x2.toInt - ((-1))).toNat + 1) x2 lx19) else (if lx18 = (120 : Int32) then (F_FR_setUnit_L2 x2 t0_0 t0_1 t0_2 t0_3 t0_4 t0_5 t0_6 t0_7 t0_8 t0_9 t0_10 t1_0 fm (lx18 + 1 : Int32) (upd lx19 lx18.toNatClampNeg 1 : (Nat → Int32))) else (F_FR_setUnit_L2 x2 t0_0 t0_1 t0_2 t0_3 t0_4 t0_5 t0_6 t0_7 t0_8 t0_9 t0_10 t1_0 fm (lx18 + 1 : Int32) (upd lx19 lx18.toNatClampNeg 0 : (Nat → Int32))))
def F_FR_setUnit (x2 : Int32) (t0_0 : Int32) (t0_1 : Int32) (t0_2 : Int32) (t0_3 : Int32) (t0_4 : Int64) (t0_5 : Int32) (t0_6 : Int32) (t0_7 : Int64) (t0_8 : Int32) (t0_9 : Int64) (t0_10 : Int32) (t1_0 : (Nat → Int32)) : (Nat → Int32) := F_FR_setUnit_L2 x2 t0_0 t0_1 t0_2 t0_3 t0_4 t0_5 t0_6 t0_7 t0_8 t0_9 t0_10 t1_0 ((156 - (0 : Int32).toInt).toNat + 1) 0 t1_0
set_option maxRecDepth 100000 in
set_option maxHeartbeats 4000000 in
theorem X_FR_setUnit (l : Launch) (D : va_G) (g : Nat → ClassId) (q : Nat → Nat) (ws : va_W) (x2 : Int32) (hI : q_I (msh g q) q ws) (t0_0 : Int32) (t0_1 : Int32) (t0_2 : Int32) (t0_3 : Int32) (t0_4 : Int64) (t0_5 : Int32) (t0_6 : Int32) (t0_7 : Int64) (t0_8 : Int32) (t0_9 : Int64) (t0_10 : Int32) (hT0 : ws[145]? = (some (q 145, .inr (15, [.int t0_0, .ref (q 146), .ref (q 147), .ref (q 148), .ref (q 149), .ref (q 150), .ref (q 151), .ref (q 152), .int t0_1, .int t0_2, .int t0_3, .long t0_4, .int t0_5, .int t0_6, .long t0_7, .int t0_8, .long t0_9, .int t0_10])) : Option (Nat × va_E))) (t1_0 : (Nat → Int32)) (hT1 : ws[146]? = (some (q 146, .inl (g 0, (156 : Int32).toNatClampNeg, .inl t1_0)) : Option (Nat × va_E))) : q_mV l y_FR_setUnit prog_17_method_6_code 6 1 0 0 D g [.ref (q 145), .int x2] ws (fun u => q_I (msh g q) q u ∧ q_un ws u [146] ∧ ∃ (u1_0 : (Nat → Int32)), u[146]? = (some (q 146, .inl (g 0, (156 : Int32).toNatClampNeg, .inl u1_0)) : Option (Nat × va_E)) ∧ u1_0 = (F_FR_setUnit x2 t0_0 t0_1 t0_2 t0_3 t0_4 t0_5 t0_6 t0_7 t0_8 t0_9 t0_10 t1_0)) := by
  intro sz
  refine q_into (by decide) (Nat.le_of_ble_eq_true rfl) ?_
  intro p e s m below meth c ls hsz C0 V hl
  have hx := C0.1
  have hb := C0.2.1
  obtain ⟨yy0_0, yy0_1, yy0_2, yy0_3, yy0_4, yy0_5, yy0_6, yy0_7, yy0_8, yy0_9, yy0_10, hh0, btt0_2⟩ := n_o145 hI
  obtain ⟨rfl, rfl, rfl, rfl, rfl, rfl, rfl, rfl, rfl, rfl, rfl⟩ : t0_0 = yy0_0 ∧ t0_1 = yy0_1 ∧ t0_2 = yy0_2 ∧ t0_3 = yy0_3 ∧ t0_4 = yy0_4 ∧ t0_5 = yy0_5 ∧ t0_6 = yy0_6 ∧ t0_7 = yy0_7 ∧ t0_8 = yy0_8 ∧ t0_9 = yy0_9 ∧ t0_10 = yy0_10 := by have z := Option.some.inj (hT0.symm.trans hh0); simpa using z
  replace btt0_2 : q_F (0 ≤ t0_2.toInt ∧ t0_2.toInt ≤ 1) := btt0_2
  have hF : q_un ws ws [146] := q_u0
  have hl : lv_has ls 6 [(0, .ref (q 145)), (1, .int x2)] := hl
  refine lv_iconst (v := 0) hx hb d_17_6_0 (by decide) ?_
  refine lv_istore_n (lv' := [(2, .int 0), (0, .ref (q 145)), (1, .int x2)]) hx hb d_17_6_1 rfl hl (by decide) rfl (fun ls hl => ?_)
  refine q_loop (X := Int32 × (Nat → Int32)) (fun z H locs ls w23 => q_F (0 ≤ z.1.toInt) ∧ q_F (z.1.toInt ≤ 156) ∧ q_Wd D g (va_A ws sz) s w23 H locs ∧ lv_has ls 6 [(2, .int z.1), (0, .ref (q 145)), (1, .int x2)] ∧ q_I (msh g q) q w23 ∧ q_un ws w23 [146] ∧ w23[145]? = (some (q 145, .inr (15, [.int t0_0, .ref (q 146), .ref (q 147), .ref (q 148), .ref (q 149), .ref (q 150), .ref (q 151), .ref (q 152), .int t0_1, .int t0_2, .int t0_3, .long t0_4, .int t0_5, .int t0_6, .long t0_7, .int t0_8, .long t0_9, .int t0_10])) : Option (Nat × va_E)) ∧ w23[146]? = (some (q 146, .inl (g 0, (156 : Int32).toNatClampNeg, .inl z.2)) : Option (Nat × va_E)) ∧ (∃ n, (156 - z.1.toInt).toNat < n ∧ F_FR_setUnit_L2 x2 t0_0 t0_1 t0_2 t0_3 t0_4 t0_5 t0_6 t0_7 t0_8 t0_9 t0_10 t1_0 n z.1 z.2 = (F_FR_setUnit x2 t0_0 t0_1 t0_2 t0_3 t0_4 t0_5 t0_6 t0_7 t0_8 t0_9 t0_10 t1_0))) (fun z => (156 - z.1.toInt).toNat) ?_ ((0 : Int32), (t1_0 : (Nat → Int32))) _ _ _ ws ⟨(show q_F (0 ≤ 0) from (show 0 ≤ 0 from by omega)), (show q_F (0 ≤ 156) from (show 0 ≤ 156 from by omega)), V, q_lw hl (q_lw1 0 rfl (q_lw1 1 rfl (q_lw1 2 rfl q_lw0))), hI, hF, hT0, hT1, ⟨((156 - (0 : Int32).toInt).toNat + 1), Nat.lt_succ_self _, (show F_FR_setUnit_L2 x2 t0_0 t0_1 t0_2 t0_3 t0_4 t0_5 t0_6 t0_7 t0_8 t0_9 t0_10 t1_0 ((156 - (0 : Int32).toInt).toNat + 1) 0 t1_0 = (F_FR_setUnit x2 t0_0 t0_1 t0_2 t0_3 t0_4 t0_5 t0_6 t0_7 t0_8 t0_9 t0_10 t1_0) from (by rw [F_FR_setUnit.eq_1]))⟩⟩
  rintro ⟨lx18, lx19⟩ H locs ls w23 ⟨i20, i21, V, hl, hI, hF, hO24, hO25, ⟨fu28, hf29, hR26⟩⟩ ih22
  obtain ⟨fm30, rfl⟩ : ∃ m, fu28 = m + 1 := ⟨fu28 - 1, by omega⟩
  replace i20 : q_F (0 ≤ lx18.toInt) := i20
  replace i21 : q_F (lx18.toInt ≤ 156) := i21
  replace hl : lv_has ls 6 [(2, .int lx18), (0, .ref (q 145)), (1, .int x2)] := hl
  replace hO24 : w23[145]? = (some (q 145, .inr (15, [.int t0_0, .ref (q 146), .ref (q 147), .ref (q 148), .ref (q 149), .ref (q 150), .ref (q 151), .ref (q 152), .int t0_1, .int t0_2, .int t0_3, .long t0_4, .int t0_5, .int t0_6, .long t0_7, .int t0_8, .long t0_9, .int t0_10])) : Option (Nat × va_E)) := hO24
  replace hO25 : w23[146]? = (some (q 146, .inl (g 0, (156 : Int32).toNatClampNeg, .inl lx19)) : Option (Nat × va_E)) := hO25
  refine lv_iload_n hx hb d_17_6_2 rfl (lv_at hl 0 rfl) ?_
  refine lv_sipush (v := 156) hx hb d_17_6_3 (by decide) ?_
  refine lv_icmp_ge (tgt := 32) hx hb d_17_6_6 (by decide) (fun c31 => ?_) (fun c31 => ?_)
  ·
    have b32 : q_F (156 ≤ lx18.toInt) := (q_leI c31)
    refine lv_iload_n hx hb d_17_6_32 rfl (lv_at hl 2 rfl) ?_
    refine lv_istore_n (lv' := [(2, .int x2), (0, .ref (q 145)), (1, .int x2)]) hx hb d_17_6_33 rfl hl (by decide) rfl (fun ls hl => ?_)
    refine q_loop (X := Int32 × (Nat → Int32)) (fun z H locs ls w38 => q_F (z.1.toInt ≤ x2.toInt) ∧ q_Wd D g (va_A ws sz) s w38 H locs ∧ lv_has ls 6 [(2, .int z.1), (0, .ref (q 145)), (1, .int x2)] ∧ q_I (msh g q) q w38 ∧ q_un ws w38 [146] ∧ w38[145]? = (some (q 145, .inr (15, [.int t0_0, .ref (q 146), .ref (q 147), .ref (q 148), .ref (q 149), .ref (q 150), .ref (q 151), .ref (q 152), .int t0_1, .int t0_2, .int t0_3, .long t0_4, .int t0_5, .int t0_6, .long t0_7, .int t0_8, .long t0_9, .int t0_10])) : Option (Nat × va_E)) ∧ w38[146]? = (some (q 146, .inl (g 0, (156 : Int32).toNatClampNeg, .inl z.2)) : Option (Nat × va_E)) ∧ (∃ n, (z.1.toInt - ((-1))).toNat < n ∧ F_FR_setUnit_L34 (F_FR_setUnit_L2 x2 t0_0 t0_1 t0_2 t0_3 t0_4 t0_5 t0_6 t0_7 t0_8 t0_9 t0_10 t1_0 fm30) x2 t0_0 t0_1 t0_2 t0_3 t0_4 t0_5 t0_6 t0_7 t0_8 t0_9 t0_10 t1_0 lx18 lx19 n z.1 z.2 = (F_FR_setUnit x2 t0_0 t0_1 t0_2 t0_3 t0_4 t0_5 t0_6 t0_7 t0_8 t0_9 t0_10 t1_0))) (fun z => (z.1.toInt - ((-1))).toNat) ?_ ((x2 : Int32), (lx19 : (Nat → Int32))) _ _ _ w23 ⟨(show q_F (x2.toInt ≤ x2.toInt) from (show x2.toInt ≤ x2.toInt from by omega)), V, q_lw hl (q_lw1 0 rfl (q_lw1 1 rfl (q_lw1 2 rfl q_lw0))), hI, hF, hO24, hO25, ⟨((x2.toInt - ((-1))).toNat + 1), Nat.lt_succ_self _, (show F_FR_setUnit_L34 (F_FR_setUnit_L2 x2 t0_0 t0_1 t0_2 t0_3 t0_4 t0_5 t0_6 t0_7 t0_8 t0_9 t0_10 t1_0 fm30) x2 t0_0 t0_1 t0_2 t0_3 t0_4 t0_5 t0_6 t0_7 t0_8 t0_9 t0_10 t1_0 lx18 lx19 ((x2.toInt - ((-1))).toNat + 1) x2 lx19 = (F_FR_setUnit x2 t0_0 t0_1 t0_2 t0_3 t0_4 t0_5 t0_6 t0_7 t0_8 t0_9 t0_10 t1_0) from Eq.trans (by rw [F_FR_setUnit_L2.eq_2, if_pos c31]) hR26)⟩⟩
    rintro ⟨lx34, lx35⟩ H locs ls w38 ⟨i36, V, hl, hI, hF, hO39, hO40, ⟨fu43, hf44, hR41⟩⟩ ih37
    obtain ⟨fm45, rfl⟩ : ∃ m, fu43 = m + 1 := ⟨fu43 - 1, by omega⟩
    replace i36 : q_F (lx34.toInt ≤ x2.toInt) := i36
    replace hl : lv_has ls 6 [(2, .int lx34), (0, .ref (q 145)), (1, .int x2)] := hl
    replace hO39 : w38[145]? = (some (q 145, .inr (15, [.int t0_0, .ref (q 146), .ref (q 147), .ref (q 148), .ref (q 149), .ref (q 150), .ref (q 151), .ref (q 152), .int t0_1, .int t0_2, .int t0_3, .long t0_4, .int t0_5, .int t0_6, .long t0_7, .int t0_8, .long t0_9, .int t0_10])) : Option (Nat × va_E)) := hO39
    replace hO40 : w38[146]? = (some (q 146, .inl (g 0, (156 : Int32).toNatClampNeg, .inl lx35)) : Option (Nat × va_E)) := hO40
    refine lv_iload_n hx hb d_17_6_34 rfl (lv_at hl 0 rfl) ?_
    refine lv_if_le (tgt := 103) hx hb d_17_6_35 (by decide) (fun c46 => ?_) (fun c46 => ?_)
    ·
      have b47 : q_F (lx34.toInt ≤ 0) := (q_leI c46)
      refine lv_iload_n hx hb d_17_6_103 rfl (lv_at hl 2 rfl) ?_
      refine lv_istore_n (lv' := [(2, .int x2), (0, .ref (q 145)), (1, .int x2)]) hx hb d_17_6_104 rfl hl (by decide) rfl (fun ls hl => ?_)
      refine q_loop (X := Int32 × (Nat → Int32)) (fun z H locs ls w53 => q_F (x2.toInt ≤ z.1.toInt) ∧ q_Wd D g (va_A ws sz) s w53 H locs ∧ lv_has ls 6 [(2, .int z.1), (0, .ref (q 145))] ∧ q_I (msh g q) q w53 ∧ q_un ws w53 [146] ∧ w53[145]? = (some (q 145, .inr (15, [.int t0_0, .ref (q 146), .ref (q 147), .ref (q 148), .ref (q 149), .ref (q 150), .ref (q 151), .ref (q 152), .int t0_1, .int t0_2, .int t0_3, .long t0_4, .int t0_5, .int t0_6, .long t0_7, .int t0_8, .long t0_9, .int t0_10])) : Option (Nat × va_E)) ∧ w53[146]? = (some (q 146, .inl (g 0, (156 : Int32).toNatClampNeg, .inl z.2)) : Option (Nat × va_E)) ∧ (∃ n, (0 - z.1.toInt).toNat < n ∧ F_FR_setUnit_L105 (F_FR_setUnit_L2 x2 t0_0 t0_1 t0_2 t0_3 t0_4 t0_5 t0_6 t0_7 t0_8 t0_9 t0_10 t1_0 fm30) (F_FR_setUnit_L34 (F_FR_setUnit_L2 x2 t0_0 t0_1 t0_2 t0_3 t0_4 t0_5 t0_6 t0_7 t0_8 t0_9 t0_10 t1_0 fm30) x2 t0_0 t0_1 t0_2 t0_3 t0_4 t0_5 t0_6 t0_7 t0_8 t0_9 t0_10 t1_0 lx18 lx19 fm45) x2 t0_0 t0_1 t0_2 t0_3 t0_4 t0_5 t0_6 t0_7 t0_8 t0_9 t0_10 t1_0 lx18 lx19 lx34 lx35 n z.1 z.2 = (F_FR_setUnit x2 t0_0 t0_1 t0_2 t0_3 t0_4 t0_5 t0_6 t0_7 t0_8 t0_9 t0_10 t1_0))) (fun z => (0 - z.1.toInt).toNat) ?_ ((x2 : Int32), (lx35 : (Nat → Int32))) _ _ _ w38 ⟨(show q_F (x2.toInt ≤ x2.toInt) from (show x2.toInt ≤ x2.toInt from by omega)), V, q_lw hl (q_lw1 0 rfl (q_lw1 1 rfl q_lw0)), hI, hF, hO39, hO40, ⟨((0 - x2.toInt).toNat + 1), Nat.lt_succ_self _, (show F_FR_setUnit_L105 (F_FR_setUnit_L2 x2 t0_0 t0_1 t0_2 t0_3 t0_4 t0_5 t0_6 t0_7 t0_8 t0_9 t0_10 t1_0 fm30) (F_FR_setUnit_L34 (F_FR_setUnit_L2 x2 t0_0 t0_1 t0_2 t0_3 t0_4 t0_5 t0_6 t0_7 t0_8 t0_9 t0_10 t1_0 fm30) x2 t0_0 t0_1 t0_2 t0_3 t0_4 t0_5 t0_6 t0_7 t0_8 t0_9 t0_10 t1_0 lx18 lx19 fm45) x2 t0_0 t0_1 t0_2 t0_3 t0_4 t0_5 t0_6 t0_7 t0_8 t0_9 t0_10 t1_0 lx18 lx19 lx34 lx35 ((0 - x2.toInt).toNat + 1) x2 lx35 = (F_FR_setUnit x2 t0_0 t0_1 t0_2 t0_3 t0_4 t0_5 t0_6 t0_7 t0_8 t0_9 t0_10 t1_0) from Eq.trans (by rw [F_FR_setUnit_L34.eq_2, if_pos c46]) hR41)⟩⟩
      rintro ⟨lx49, lx50⟩ H locs ls w53 ⟨i51, V, hl, hI, hF, hO54, hO55, ⟨fu58, hf59, hR56⟩⟩ ih52
      obtain ⟨fm60, rfl⟩ : ∃ m, fu58 = m + 1 := ⟨fu58 - 1, by omega⟩
      replace i51 : q_F (x2.toInt ≤ lx49.toInt) := i51
      replace hl : lv_has ls 6 [(2, .int lx49), (0, .ref (q 145))] := hl
      replace hO54 : w53[145]? = (some (q 145, .inr (15, [.int t0_0, .ref (q 146), .ref (q 147), .ref (q 148), .ref (q 149), .ref (q 150), .ref (q 151), .ref (q 152), .int t0_1, .int t0_2, .int t0_3, .long t0_4, .int t0_5, .int t0_6, .long t0_7, .int t0_8, .long t0_9, .int t0_10])) : Option (Nat × va_E)) := hO54
      replace hO55 : w53[146]? = (some (q 146, .inl (g 0, (156 : Int32).toNatClampNeg, .inl lx50)) : Option (Nat × va_E)) := hO55
      refine lv_iload_n hx hb d_17_6_105 rfl (lv_at hl 0 rfl) ?_
      refine lv_if_ge (tgt := 163) hx hb d_17_6_106 (by decide) (fun c61 => ?_) (fun c61 => ?_)
      ·
        have b62 : q_F (0 ≤ lx49.toInt) := (q_leI c61)
        exact q_retv C0 V (⟨hI, hF, lx50, hO55, (show lx50 = (F_FR_setUnit x2 t0_0 t0_1 t0_2 t0_3 t0_4 t0_5 t0_6 t0_7 t0_8 t0_9 t0_10 t1_0) from Eq.trans (by rw [F_FR_setUnit_L105.eq_2, if_pos c61]) hR56)⟩) d_17_6_163
      ·
        have b63 : q_F (lx49.toInt < 0) := (q_nleI c61)
        refine lv_iconst (v := 0) hx hb d_17_6_109 (by decide) ?_
        refine lv_istore_n (lv' := [(3, .int 0), (2, .int lx49), (0, .ref (q 145))]) hx hb d_17_6_110 rfl hl (by decide) rfl (fun ls hl => ?_)
        refine lv_sipush (v := 155) hx hb d_17_6_111 (by decide) ?_
        refine lv_istore (lv' := [(4, .int 155), (3, .int 0), (2, .int lx49), (0, .ref (q 145))]) hx hb d_17_6_114 hl (by decide) rfl (fun ls hl => ?_)
        refine q_loop (X := Int32 × Int32 × (Nat → Int32)) (fun z H locs ls w74 => q_F (0 ≤ z.1.toInt + 1) ∧ q_F (0 ≤ z.2.1.toInt) ∧ q_F (z.2.1.toInt ≤ 1) ∧ q_F (z.1.toInt + z.2.1.toInt ≤ 155) ∧ q_Wd D g (va_A ws sz) s w74 H locs ∧ lv_has ls 6 [(4, .int z.1), (3, .int z.2.1), (2, .int lx49), (0, .ref (q 145))] ∧ q_I (msh g q) q w74 ∧ q_un ws w74 [146] ∧ w74[145]? = (some (q 145, .inr (15, [.int t0_0, .ref (q 146), .ref (q 147), .ref (q 148), .ref (q 149), .ref (q 150), .ref (q 151), .ref (q 152), .int t0_1, .int t0_2, .int t0_3, .long t0_4, .int t0_5, .int t0_6, .long t0_7, .int t0_8, .long t0_9, .int t0_10])) : Option (Nat × va_E)) ∧ w74[146]? = (some (q 146, .inl (g 0, (156 : Int32).toNatClampNeg, .inl z.2.2)) : Option (Nat × va_E)) ∧ (∃ n, (z.1.toInt - ((-1))).toNat < n ∧ F_FR_setUnit_L116 (F_FR_setUnit_L2 x2 t0_0 t0_1 t0_2 t0_3 t0_4 t0_5 t0_6 t0_7 t0_8 t0_9 t0_10 t1_0 fm30) (F_FR_setUnit_L34 (F_FR_setUnit_L2 x2 t0_0 t0_1 t0_2 t0_3 t0_4 t0_5 t0_6 t0_7 t0_8 t0_9 t0_10 t1_0 fm30) x2 t0_0 t0_1 t0_2 t0_3 t0_4 t0_5 t0_6 t0_7 t0_8 t0_9 t0_10 t1_0 lx18 lx19 fm45) (F_FR_setUnit_L105 (F_FR_setUnit_L2 x2 t0_0 t0_1 t0_2 t0_3 t0_4 t0_5 t0_6 t0_7 t0_8 t0_9 t0_10 t1_0 fm30) (F_FR_setUnit_L34 (F_FR_setUnit_L2 x2 t0_0 t0_1 t0_2 t0_3 t0_4 t0_5 t0_6 t0_7 t0_8 t0_9 t0_10 t1_0 fm30) x2 t0_0 t0_1 t0_2 t0_3 t0_4 t0_5 t0_6 t0_7 t0_8 t0_9 t0_10 t1_0 lx18 lx19 fm45) x2 t0_0 t0_1 t0_2 t0_3 t0_4 t0_5 t0_6 t0_7 t0_8 t0_9 t0_10 t1_0 lx18 lx19 lx34 lx35 fm60) x2 t0_0 t0_1 t0_2 t0_3 t0_4 t0_5 t0_6 t0_7 t0_8 t0_9 t0_10 t1_0 lx18 lx19 lx34 lx35 lx49 lx50 n z.1 z.2.1 z.2.2 = (F_FR_setUnit x2 t0_0 t0_1 t0_2 t0_3 t0_4 t0_5 t0_6 t0_7 t0_8 t0_9 t0_10 t1_0))) (fun z => (z.1.toInt - ((-1))).toNat) ?_ ((155 : Int32), (0 : Int32), (lx50 : (Nat → Int32))) _ _ _ w53 ⟨(show q_F (0 ≤ 155 + 1) from (show 0 ≤ 155 + 1 from by omega)), (show q_F (0 ≤ 0) from (show 0 ≤ 0 from by omega)), (show q_F (0 ≤ 1) from (show 0 ≤ 1 from by omega)), (show q_F (155 + 0 ≤ 155) from (show 155 + 0 ≤ 155 from by omega)), V, q_lw hl (q_lw1 0 rfl (q_lw1 1 rfl (q_lw1 2 rfl (q_lw1 3 rfl q_lw0)))), hI, hF, hO54, hO55, ⟨(((155 : Int32).toInt - ((-1))).toNat + 1), Nat.lt_succ_self _, (show F_FR_setUnit_L116 (F_FR_setUnit_L2 x2 t0_0 t0_1 t0_2 t0_3 t0_4 t0_5 t0_6 t0_7 t0_8 t0_9 t0_10 t1_0 fm30) (F_FR_setUnit_L34 (F_FR_setUnit_L2 x2 t0_0 t0_1 t0_2 t0_3 t0_4 t0_5 t0_6 t0_7 t0_8 t0_9 t0_10 t1_0 fm30) x2 t0_0 t0_1 t0_2 t0_3 t0_4 t0_5 t0_6 t0_7 t0_8 t0_9 t0_10 t1_0 lx18 lx19 fm45) (F_FR_setUnit_L105 (F_FR_setUnit_L2 x2 t0_0 t0_1 t0_2 t0_3 t0_4 t0_5 t0_6 t0_7 t0_8 t0_9 t0_10 t1_0 fm30) (F_FR_setUnit_L34 (F_FR_setUnit_L2 x2 t0_0 t0_1 t0_2 t0_3 t0_4 t0_5 t0_6 t0_7 t0_8 t0_9 t0_10 t1_0 fm30) x2 t0_0 t0_1 t0_2 t0_3 t0_4 t0_5 t0_6 t0_7 t0_8 t0_9 t0_10 t1_0 lx18 lx19 fm45) x2 t0_0 t0_1 t0_2 t0_3 t0_4 t0_5 t0_6 t0_7 t0_8 t0_9 t0_10 t1_0 lx18 lx19 lx34 lx35 fm60) x2 t0_0 t0_1 t0_2 t0_3 t0_4 t0_5 t0_6 t0_7 t0_8 t0_9 t0_10 t1_0 lx18 lx19 lx34 lx35 lx49 lx50 (((155 : Int32).toInt - ((-1))).toNat + 1) 155 0 lx50 = (F_FR_setUnit x2 t0_0 t0_1 t0_2 t0_3 t0_4 t0_5 t0_6 t0_7 t0_8 t0_9 t0_10 t1_0) from Eq.trans (by rw [F_FR_setUnit_L105.eq_2, if_neg c61]) hR56)⟩⟩
        rintro ⟨lx66, lx67, lx68⟩ H locs ls w74 ⟨i69, i70, i71, i72, V, hl, hI, hF, hO75, hO76, ⟨fu79, hf80, hR77⟩⟩ ih73
        obtain ⟨fm81, rfl⟩ : ∃ m, fu79 = m + 1 := ⟨fu79 - 1, by omega⟩
        replace i69 : q_F (0 ≤ lx66.toInt + 1) := i69
        replace i70 : q_F (0 ≤ lx67.toInt) := i70
        replace i71 : q_F (lx67.toInt ≤ 1) := i71
        replace i72 : q_F (lx66.toInt + lx67.toInt ≤ 155) := i72
        replace hl : lv_has ls 6 [(4, .int lx66), (3, .int lx67), (2, .int lx49), (0, .ref (q 145))] := hl
        replace hO75 : w74[145]? = (some (q 145, .inr (15, [.int t0_0, .ref (q 146), .ref (q 147), .ref (q 148), .ref (q 149), .ref (q 150), .ref (q 151), .ref (q 152), .int t0_1, .int t0_2, .int t0_3, .long t0_4, .int t0_5, .int t0_6, .long t0_7, .int t0_8, .long t0_9, .int t0_10])) : Option (Nat × va_E)) := hO75
        replace hO76 : w74[146]? = (some (q 146, .inl (g 0, (156 : Int32).toNatClampNeg, .inl lx68)) : Option (Nat × va_E)) := hO76
        refine lv_iload hx hb d_17_6_116 (lv_at hl 0 rfl) ?_
        refine lv_if_lt (tgt := 157) hx hb d_17_6_118 (by decide) (fun c82 => ?_) (fun c82 => ?_)
        ·
          have b83 : q_F (lx66.toInt < 0) := (q_ltI c82)
          obtain ⟨a84, e85⟩ := q_nm (lx49 + 1 : Int32)
          have b86 : q_F (a84.toInt = lx49.toInt + 1) := (by rw [← e85]; exact q_addI (y := 1) rfl (by decide) (by have _ := q_lo32 (x := lx49); have _ := q_hi32 (x := lx49); have t1 : lx49.toInt < 0 := b63; omega) (by have _ := q_lo32 (x := lx49); have _ := q_hi32 (x := lx49); have t1 : lx49.toInt < 0 := b63; omega))
          refine lv_iinc (v := a84) (lv' := [(2, .int a84), (4, .int lx66), (3, .int lx67), (0, .ref (q 145))]) hx hb d_17_6_157 hl (k := 2) rfl (e85) (by decide) rfl (fun ls hl => ?_)
          refine lv_goto (tgt := 105) hx hb d_17_6_160 (by decide) ?_
          exact ih52 ((a84 : Int32), (lx68 : (Nat → Int32))) _ _ _ _ (show (0 - a84.toInt).toNat < (0 - lx49.toInt).toNat from by have t1 : a84.toInt = lx49.toInt + 1 := b86; have t2 : lx49.toInt < 0 := b63; omega) ⟨(show q_F (x2.toInt ≤ a84.toInt) from (show x2.toInt ≤ a84.toInt from by have t1 : x2.toInt ≤ lx49.toInt := i51; have t2 : a84.toInt = lx49.toInt + 1 := b86; omega)), V, q_lw hl (q_lw1 0 rfl (q_lw1 3 rfl q_lw0)), hI, hF, hO75, hO76, ⟨fm60, Nat.lt_of_lt_of_le (show (0 - a84.toInt).toNat < (0 - lx49.toInt).toNat from by have t1 : a84.toInt = lx49.toInt + 1 := b86; have t2 : lx49.toInt < 0 := b63; omega) (Nat.le_of_lt_succ hf59), (show F_FR_setUnit_L105 (F_FR_setUnit_L2 x2 t0_0 t0_1 t0_2 t0_3 t0_4 t0_5 t0_6 t0_7 t0_8 t0_9 t0_10 t1_0 fm30) (F_FR_setUnit_L34 (F_FR_setUnit_L2 x2 t0_0 t0_1 t0_2 t0_3 t0_4 t0_5 t0_6 t0_7 t0_8 t0_9 t0_10 t1_0 fm30) x2 t0_0 t0_1 t0_2 t0_3 t0_4 t0_5 t0_6 t0_7 t0_8 t0_9 t0_10 t1_0 lx18 lx19 fm45) x2 t0_0 t0_1 t0_2 t0_3 t0_4 t0_5 t0_6 t0_7 t0_8 t0_9 t0_10 t1_0 lx18 lx19 lx34 lx35 fm60 a84 lx68 = (F_FR_setUnit x2 t0_0 t0_1 t0_2 t0_3 t0_4 t0_5 t0_6 t0_7 t0_8 t0_9 t0_10 t1_0) from Eq.trans (by rw [← e85, F_FR_setUnit_L116.eq_2, if_pos c82]) hR77)⟩⟩
        ·
          have b87 : q_F (0 ≤ lx66.toInt) := (q_nltI c82)
          refine lv_aload_n hx hb d_17_6_121 rfl (lv_at hl 3 rfl) ?_
          refine q_get (ci := 15) (j := 1) (v := .ref (q 146)) C0 V i_FR rfl rfl hO75 (by decide) w_2076 rfl d_17_6_122 ?_
          refine lv_iload hx hb d_17_6_125 (lv_at hl 0 rfl) ?_
          refine q_iald C0 V hO76 (q_ix (x := lx66.toInt) rfl (by have t1 : 0 ≤ lx66.toInt := b87; omega) (by have t1 : 0 ≤ lx66.toInt := b87; have t2 : 0 ≤ lx67.toInt := i70; have t3 : lx66.toInt + lx67.toInt ≤ 155 := i72; have e9 : (((156 : Int32).toNatClampNeg : Nat) : Int) = 156 := (by decide); omega)) d_17_6_127 ?_
          obtain ⟨a88, e89⟩ := q_nm (lx68 lx66.toNatClampNeg : Int32)
          refine q_ti (v := a88) e89 ?_
          refine lv_iload_n hx hb d_17_6_128 rfl (lv_at hl 1 rfl) ?_
          refine q_ldc C0 rfl w_2608 d_17_6_129 ?_
          refine lv_imul hx hb d_17_6_131 ?_
          obtain ⟨a90, e91⟩ := q_nm (lx67 * 1000000000 : Int32)
          refine q_ti (v := a90) e91 ?_
          have b92 : q_F (a90.toInt = lx67.toInt * 1000000000) := (by rw [← e91]; show (lx67 * 1000000000 : Int32).toInt = lx67.toInt * 1000000000; exact q_mulI (x := lx67.toInt) (y := 1000000000) rfl (by decide) (by have t1 : 0 ≤ lx67.toInt := i70; have t2 : lx67.toInt ≤ 1 := i71; omega) (by have t1 : 0 ≤ lx67.toInt := i70; have t2 : lx67.toInt ≤ 1 := i71; omega))
          refine lv_iadd hx hb d_17_6_132 ?_
          obtain ⟨a93, e94⟩ := q_nm (a88 + a90 : Int32)
          refine q_ti (v := a93) e94 ?_
          refine lv_istore (lv' := [(5, .int a93), (4, .int lx66), (3, .int lx67), (2, .int lx49), (0, .ref (q 145))]) hx hb d_17_6_133 hl (by decide) rfl (fun ls hl => ?_)
          refine lv_iload hx hb d_17_6_135 (lv_at hl 0 rfl) ?_
          refine lv_iconst (v := 1) hx hb d_17_6_137 (by decide) ?_
          refine lv_iand hx hb d_17_6_138 ?_
          obtain ⟨a95, e96⟩ := q_nm (a93 &&& 1 : Int32)
          refine q_ti (v := a95) e96 ?_
          have b97 : q_F (0 ≤ a95.toInt ∧ a95.toInt ≤ 1) := (by rw [← e96]; show 0 ≤ (a93 &&& 1 : Int32).toInt ∧ (a93 &&& 1 : Int32).toInt ≤ 1; exact s_and (by decide))
          refine lv_istore_n (lv' := [(3, .int a95), (5, .int a93), (4, .int lx66), (2, .int lx49), (0, .ref (q 145))]) hx hb d_17_6_139 rfl hl (by decide) rfl (fun ls hl => ?_)
          refine lv_aload_n hx hb d_17_6_140 rfl (lv_at hl 4 rfl) ?_
          refine q_get (ci := 15) (j := 1) (v := .ref (q 146)) C0 V i_FR rfl rfl hO75 (by decide) w_2076 rfl d_17_6_141 ?_
          refine lv_iload hx hb d_17_6_144 (lv_at hl 2 rfl) ?_
          refine lv_iload hx hb d_17_6_146 (lv_at hl 1 rfl) ?_
          refine lv_iconst (v := 2) hx hb d_17_6_148 (by decide) ?_
          refine lv_idiv hx hb d_17_6_149 (by decide) ?_
          obtain ⟨a98, e99⟩ := q_nm (a93 / 2 : Int32)
          refine q_ti (v := a98) e99 ?_
          have b100 : q_F ((0 ≤ a93.toInt ∧ 2 * a98.toInt ≤ a93.toInt ∧ a93.toInt ≤ 2 * a98.toInt + (2 - 1)) ∨ (a93.toInt < 0 ∧ a93.toInt ≤ 2 * a98.toInt ∧ 2 * a98.toInt ≤ a93.toInt + (2 - 1))) := (by rw [← e99]; show (0 ≤ a93.toInt ∧ 2 * (a93 / 2 : Int32).toInt ≤ a93.toInt ∧ a93.toInt ≤ 2 * (a93 / 2 : Int32).toInt + (2 - 1)) ∨ (a93.toInt < 0 ∧ a93.toInt ≤ 2 * (a93 / 2 : Int32).toInt ∧ 2 * (a93 / 2 : Int32).toInt ≤ a93.toInt + (2 - 1)); exact n_divI (a := a93) (b := 2) (n := 2) (by decide) (by decide))
          refine q_iast C0 V hO76 (q_ix (x := lx66.toInt) rfl (by have t1 : 0 ≤ lx66.toInt := b87; omega) (by have t1 : 0 ≤ lx66.toInt := b87; have t2 : 0 ≤ lx67.toInt := i70; have t3 : lx66.toInt + lx67.toInt ≤ 155 := i72; have e9 : (((156 : Int32).toNatClampNeg : Nat) : Int) = 156 := (by decide); omega)) d_17_6_150 (fun H locs w101 hu102 hO76 V => ?_)
          replace hI := n_ai' hI (n_r146 g q).1 hu102 hO76 (q_updB (fun _ => s_bnd) s_bnd)
          replace hO75 := (hu102 _ (by decide)).trans hO75
          replace hF := q_us hF hu102 (by simp)
          obtain ⟨f103, e104⟩ := q_nm (upd lx68 lx66.toNatClampNeg a98 : (Nat → Int32))
          rw [e104] at hO76
          obtain ⟨a105, e106⟩ := q_nm (lx66 + (-1) : Int32)
          have b107 : q_F (a105.toInt = lx66.toInt + (-1)) := (by rw [← e106]; exact q_addI (y := (-1)) rfl (by decide) (by have t1 : 0 ≤ lx66.toInt + 1 := i69; have _ := q_lo32 (x := lx66); have _ := q_hi32 (x := lx66); omega) (by have t1 : 0 ≤ lx66.toInt + 1 := i69; have _ := q_lo32 (x := lx66); have _ := q_hi32 (x := lx66); omega))
          refine lv_iinc (v := a105) (lv' := [(4, .int a105), (3, .int a95), (5, .int a93), (2, .int lx49), (0, .ref (q 145))]) hx hb d_17_6_151 hl (k := 2) rfl (e106) (by decide) rfl (fun ls hl => ?_)
          refine lv_goto (tgt := 116) hx hb d_17_6_154 (by decide) ?_
          exact ih73 ((a105 : Int32), (a95 : Int32), (f103 : (Nat → Int32))) _ _ _ _ (show (a105.toInt - ((-1))).toNat < (lx66.toInt - ((-1))).toNat from by have t1 : a105.toInt = lx66.toInt + (-1) := b107; have t2 : 0 ≤ lx66.toInt + 1 := i69; have t3 : 0 ≤ lx66.toInt := b87; omega) ⟨(show q_F (0 ≤ a105.toInt + 1) from (show 0 ≤ a105.toInt + 1 from by have t1 : 0 ≤ lx66.toInt := b87; have t2 : a105.toInt = lx66.toInt + (-1) := b107; omega)), (show q_F (0 ≤ a95.toInt) from (show 0 ≤ a95.toInt from by have t1 : 0 ≤ a95.toInt ∧ a95.toInt ≤ 1 := b97; omega)), (show q_F (a95.toInt ≤ 1) from (show a95.toInt ≤ 1 from by have t1 : 0 ≤ a95.toInt ∧ a95.toInt ≤ 1 := b97; omega)), (show q_F (a105.toInt + a95.toInt ≤ 155) from (show a105.toInt + a95.toInt ≤ 155 from by have t1 : 0 ≤ lx67.toInt := i70; have t2 : lx66.toInt + lx67.toInt ≤ 155 := i72; have t3 : 0 ≤ a95.toInt ∧ a95.toInt ≤ 1 := b97; have t4 : a105.toInt = lx66.toInt + (-1) := b107; omega)), V, q_lw hl (q_lw1 0 rfl (q_lw1 1 rfl (q_lw1 3 rfl (q_lw1 4 rfl q_lw0)))), hI, hF, hO75, hO76, ⟨fm81, Nat.lt_of_lt_of_le (show (a105.toInt - ((-1))).toNat < (lx66.toInt - ((-1))).toNat from by have t1 : a105.toInt = lx66.toInt + (-1) := b107; have t2 : 0 ≤ lx66.toInt + 1 := i69; have t3 : 0 ≤ lx66.toInt := b87; omega) (Nat.le_of_lt_succ hf80), (show F_FR_setUnit_L116 (F_FR_setUnit_L2 x2 t0_0 t0_1 t0_2 t0_3 t0_4 t0_5 t0_6 t0_7 t0_8 t0_9 t0_10 t1_0 fm30) (F_FR_setUnit_L34 (F_FR_setUnit_L2 x2 t0_0 t0_1 t0_2 t0_3 t0_4 t0_5 t0_6 t0_7 t0_8 t0_9 t0_10 t1_0 fm30) x2 t0_0 t0_1 t0_2 t0_3 t0_4 t0_5 t0_6 t0_7 t0_8 t0_9 t0_10 t1_0 lx18 lx19 fm45) (F_FR_setUnit_L105 (F_FR_setUnit_L2 x2 t0_0 t0_1 t0_2 t0_3 t0_4 t0_5 t0_6 t0_7 t0_8 t0_9 t0_10 t1_0 fm30) (F_FR_setUnit_L34 (F_FR_setUnit_L2 x2 t0_0 t0_1 t0_2 t0_3 t0_4 t0_5 t0_6 t0_7 t0_8 t0_9 t0_10 t1_0 fm30) x2 t0_0 t0_1 t0_2 t0_3 t0_4 t0_5 t0_6 t0_7 t0_8 t0_9 t0_10 t1_0 lx18 lx19 fm45) x2 t0_0 t0_1 t0_2 t0_3 t0_4 t0_5 t0_6 t0_7 t0_8 t0_9 t0_10 t1_0 lx18 lx19 lx34 lx35 fm60) x2 t0_0 t0_1 t0_2 t0_3 t0_4 t0_5 t0_6 t0_7 t0_8 t0_9 t0_10 t1_0 lx18 lx19 lx34 lx35 lx49 lx50 fm81 a105 a95 f103 = (F_FR_setUnit x2 t0_0 t0_1 t0_2 t0_3 t0_4 t0_5 t0_6 t0_7 t0_8 t0_9 t0_10 t1_0) from Eq.trans (by rw [← e106, ← e104, ← e99, ← e96, ← e94, ← e91, ← e89, F_FR_setUnit_L116.eq_2, if_neg c82]) hR77)⟩⟩
    ·
      have b108 : q_F (0 < lx34.toInt) := (q_nleI c46)
      refine lv_iconst (v := 0) hx hb d_17_6_38 (by decide) ?_
      refine lv_istore_n (lv' := [(3, .int 0), (2, .int lx34), (0, .ref (q 145)), (1, .int x2)]) hx hb d_17_6_39 rfl hl (by decide) rfl (fun ls hl => ?_)
      refine lv_iconst (v := 0) hx hb d_17_6_40 (by decide) ?_
      refine lv_istore (lv' := [(4, .int 0), (3, .int 0), (2, .int lx34), (0, .ref (q 145)), (1, .int x2)]) hx hb d_17_6_41 hl (by decide) rfl (fun ls hl => ?_)
      refine q_loop (X := Int32 × Int32 × (Nat → Int32)) (fun z H locs ls w119 => q_F (z.1.toInt ≤ 156) ∧ q_F (0 ≤ z.2.1.toInt) ∧ q_F (z.2.1.toInt ≤ 1) ∧ q_F (z.2.1.toInt ≤ z.1.toInt) ∧ q_Wd D g (va_A ws sz) s w119 H locs ∧ lv_has ls 6 [(4, .int z.1), (3, .int z.2.1), (2, .int lx34), (0, .ref (q 145)), (1, .int x2)] ∧ q_I (msh g q) q w119 ∧ q_un ws w119 [146] ∧ w119[145]? = (some (q 145, .inr (15, [.int t0_0, .ref (q 146), .ref (q 147), .ref (q 148), .ref (q 149), .ref (q 150), .ref (q 151), .ref (q 152), .int t0_1, .int t0_2, .int t0_3, .long t0_4, .int t0_5, .int t0_6, .long t0_7, .int t0_8, .long t0_9, .int t0_10])) : Option (Nat × va_E)) ∧ w119[146]? = (some (q 146, .inl (g 0, (156 : Int32).toNatClampNeg, .inl z.2.2)) : Option (Nat × va_E)) ∧ (∃ n, (156 - z.1.toInt).toNat < n ∧ F_FR_setUnit_L43 (F_FR_setUnit_L2 x2 t0_0 t0_1 t0_2 t0_3 t0_4 t0_5 t0_6 t0_7 t0_8 t0_9 t0_10 t1_0 fm30) (F_FR_setUnit_L34 (F_FR_setUnit_L2 x2 t0_0 t0_1 t0_2 t0_3 t0_4 t0_5 t0_6 t0_7 t0_8 t0_9 t0_10 t1_0 fm30) x2 t0_0 t0_1 t0_2 t0_3 t0_4 t0_5 t0_6 t0_7 t0_8 t0_9 t0_10 t1_0 lx18 lx19 fm45) x2 t0_0 t0_1 t0_2 t0_3 t0_4 t0_5 t0_6 t0_7 t0_8 t0_9 t0_10 t1_0 lx18 lx19 lx34 lx35 n z.1 z.2.1 z.2.2 = (F_FR_setUnit x2 t0_0 t0_1 t0_2 t0_3 t0_4 t0_5 t0_6 t0_7 t0_8 t0_9 t0_10 t1_0))) (fun z => (156 - z.1.toInt).toNat) ?_ ((0 : Int32), (0 : Int32), (lx35 : (Nat → Int32))) _ _ _ w38 ⟨(show q_F (0 ≤ 156) from (show 0 ≤ 156 from by omega)), (show q_F (0 ≤ 0) from (show 0 ≤ 0 from by omega)), (show q_F (0 ≤ 1) from (show 0 ≤ 1 from by omega)), (show q_F (0 ≤ 0) from (show 0 ≤ 0 from by omega)), V, q_lw hl (q_lw1 0 rfl (q_lw1 1 rfl (q_lw1 2 rfl (q_lw1 3 rfl (q_lw1 4 rfl q_lw0))))), hI, hF, hO39, hO40, ⟨((156 - (0 : Int32).toInt).toNat + 1), Nat.lt_succ_self _, (show F_FR_setUnit_L43 (F_FR_setUnit_L2 x2 t0_0 t0_1 t0_2 t0_3 t0_4 t0_5 t0_6 t0_7 t0_8 t0_9 t0_10 t1_0 fm30) (F_FR_setUnit_L34 (F_FR_setUnit_L2 x2 t0_0 t0_1 t0_2 t0_3 t0_4 t0_5 t0_6 t0_7 t0_8 t0_9 t0_10 t1_0 fm30) x2 t0_0 t0_1 t0_2 t0_3 t0_4 t0_5 t0_6 t0_7 t0_8 t0_9 t0_10 t1_0 lx18 lx19 fm45) x2 t0_0 t0_1 t0_2 t0_3 t0_4 t0_5 t0_6 t0_7 t0_8 t0_9 t0_10 t1_0 lx18 lx19 lx34 lx35 ((156 - (0 : Int32).toInt).toNat + 1) 0 0 lx35 = (F_FR_setUnit x2 t0_0 t0_1 t0_2 t0_3 t0_4 t0_5 t0_6 t0_7 t0_8 t0_9 t0_10 t1_0) from Eq.trans (by rw [F_FR_setUnit_L34.eq_2, if_neg c46]) hR41)⟩⟩
      rintro ⟨lx111, lx112, lx113⟩ H locs ls w119 ⟨i114, i115, i116, i117, V, hl, hI, hF, hO120, hO121, ⟨fu124, hf125, hR122⟩⟩ ih118
      obtain ⟨fm126, rfl⟩ : ∃ m, fu124 = m + 1 := ⟨fu124 - 1, by omega⟩
      replace i114 : q_F (lx111.toInt ≤ 156) := i114
      replace i115 : q_F (0 ≤ lx112.toInt) := i115
      replace i116 : q_F (lx112.toInt ≤ 1) := i116
      replace i117 : q_F (lx112.toInt ≤ lx111.toInt) := i117
      replace hl : lv_has ls 6 [(4, .int lx111), (3, .int lx112), (2, .int lx34), (0, .ref (q 145)), (1, .int x2)] := hl
      replace hO120 : w119[145]? = (some (q 145, .inr (15, [.int t0_0, .ref (q 146), .ref (q 147), .ref (q 148), .ref (q 149), .ref (q 150), .ref (q 151), .ref (q 152), .int t0_1, .int t0_2, .int t0_3, .long t0_4, .int t0_5, .int t0_6, .long t0_7, .int t0_8, .long t0_9, .int t0_10])) : Option (Nat × va_E)) := hO120
      replace hO121 : w119[146]? = (some (q 146, .inl (g 0, (156 : Int32).toNatClampNeg, .inl lx113)) : Option (Nat × va_E)) := hO121
      refine lv_iload hx hb d_17_6_43 (lv_at hl 0 rfl) ?_
      refine lv_sipush (v := 156) hx hb d_17_6_45 (by decide) ?_
      refine lv_icmp_ge (tgt := 97) hx hb d_17_6_48 (by decide) (fun c127 => ?_) (fun c127 => ?_)
      ·
        have b128 : q_F (156 ≤ lx111.toInt) := (q_leI c127)
        obtain ⟨a129, e130⟩ := q_nm (lx34 + (-1) : Int32)
        have b131 : q_F (a129.toInt = lx34.toInt + (-1)) := (by rw [← e130]; exact q_addI (y := (-1)) rfl (by decide) (by have t1 : 0 < lx34.toInt := b108; have _ := q_lo32 (x := lx34); have _ := q_hi32 (x := lx34); omega) (by have t1 : 0 < lx34.toInt := b108; have _ := q_lo32 (x := lx34); have _ := q_hi32 (x := lx34); omega))
        refine lv_iinc (v := a129) (lv' := [(2, .int a129), (4, .int lx111), (3, .int lx112), (0, .ref (q 145)), (1, .int x2)]) hx hb d_17_6_97 hl (k := 2) rfl (e130) (by decide) rfl (fun ls hl => ?_)
        refine lv_goto (tgt := 34) hx hb d_17_6_100 (by decide) ?_
        exact ih37 ((a129 : Int32), (lx113 : (Nat → Int32))) _ _ _ _ (show (a129.toInt - ((-1))).toNat < (lx34.toInt - ((-1))).toNat from by have t1 : a129.toInt = lx34.toInt + (-1) := b131; have t2 : 0 < lx34.toInt := b108; omega) ⟨(show q_F (a129.toInt ≤ x2.toInt) from (show a129.toInt ≤ x2.toInt from by have t1 : lx34.toInt ≤ x2.toInt := i36; have t2 : a129.toInt = lx34.toInt + (-1) := b131; omega)), V, q_lw hl (q_lw1 0 rfl (q_lw1 3 rfl (q_lw1 4 rfl q_lw0))), hI, hF, hO120, hO121, ⟨fm45, Nat.lt_of_lt_of_le (show (a129.toInt - ((-1))).toNat < (lx34.toInt - ((-1))).toNat from by have t1 : a129.toInt = lx34.toInt + (-1) := b131; have t2 : 0 < lx34.toInt := b108; omega) (Nat.le_of_lt_succ hf44), (show F_FR_setUnit_L34 (F_FR_setUnit_L2 x2 t0_0 t0_1 t0_2 t0_3 t0_4 t0_5 t0_6 t0_7 t0_8 t0_9 t0_10 t1_0 fm30) x2 t0_0 t0_1 t0_2 t0_3 t0_4 t0_5 t0_6 t0_7 t0_8 t0_9 t0_10 t1_0 lx18 lx19 fm45 a129 lx113 = (F_FR_setUnit x2 t0_0 t0_1 t0_2 t0_3 t0_4 t0_5 t0_6 t0_7 t0_8 t0_9 t0_10 t1_0) from Eq.trans (by rw [← e130, F_FR_setUnit_L43.eq_2, if_pos c127]) hR122)⟩⟩
      ·
        have b132 : q_F (lx111.toInt < 156) := (q_nleI c127)
        refine lv_iconst (v := 2) hx hb d_17_6_51 (by decide) ?_
        refine lv_aload_n hx hb d_17_6_52 rfl (lv_at hl 3 rfl) ?_
        refine q_get (ci := 15) (j := 1) (v := .ref (q 146)) C0 V i_FR rfl rfl hO120 (by decide) w_2076 rfl d_17_6_53 ?_
        refine lv_iload hx hb d_17_6_56 (lv_at hl 0 rfl) ?_
        refine q_iald C0 V hO121 (q_ix (x := lx111.toInt) rfl (by have t1 : 0 ≤ lx112.toInt := i115; have t2 : lx112.toInt ≤ lx111.toInt := i117; omega) (by have t1 : 0 ≤ lx112.toInt := i115; have t2 : lx112.toInt ≤ lx111.toInt := i117; have t3 : lx111.toInt < 156 := b132; have e9 : (((156 : Int32).toNatClampNeg : Nat) : Int) = 156 := (by decide); omega)) d_17_6_58 ?_
        obtain ⟨a133, e134⟩ := q_nm (lx113 lx111.toNatClampNeg : Int32)
        refine q_ti (v := a133) e134 ?_
        refine lv_imul hx hb d_17_6_59 ?_
        obtain ⟨a135, e136⟩ := q_nm (2 * a133 : Int32)
        refine q_ti (v := a135) e136 ?_
        refine lv_iload_n hx hb d_17_6_60 rfl (lv_at hl 1 rfl) ?_
        refine lv_iadd hx hb d_17_6_61 ?_
        obtain ⟨a137, e138⟩ := q_nm (a135 + lx112 : Int32)
        refine q_ti (v := a137) e138 ?_
        refine lv_istore (lv' := [(5, .int a137), (4, .int lx111), (3, .int lx112), (2, .int lx34), (0, .ref (q 145)), (1, .int x2)]) hx hb d_17_6_62 hl (by decide) rfl (fun ls hl => ?_)
        refine lv_iload hx hb d_17_6_64 (lv_at hl 0 rfl) ?_
        refine q_ldc C0 rfl w_2608 d_17_6_66 ?_
        refine lv_icmp_lt (tgt := 75) hx hb d_17_6_68 (by decide) (fun c139 => ?_) (fun c139 => ?_)
        ·
          have b140 : q_F (a137.toInt < 1000000000) := (q_ltI c139)
          refine lv_iconst (v := 0) hx hb d_17_6_75 (by decide) ?_
          refine lv_istore_n (lv' := [(3, .int 0), (5, .int a137), (4, .int lx111), (2, .int lx34), (0, .ref (q 145)), (1, .int x2)]) hx hb d_17_6_76 rfl hl (by decide) rfl (fun ls hl => ?_)
          refine lv_aload_n hx hb d_17_6_77 rfl (lv_at hl 4 rfl) ?_
          refine q_get (ci := 15) (j := 1) (v := .ref (q 146)) C0 V i_FR rfl rfl hO120 (by decide) w_2076 rfl d_17_6_78 ?_
          refine lv_iload hx hb d_17_6_81 (lv_at hl 2 rfl) ?_
          refine lv_iload hx hb d_17_6_83 (lv_at hl 1 rfl) ?_
          refine lv_iload_n hx hb d_17_6_85 rfl (lv_at hl 0 rfl) ?_
          refine q_ldc C0 rfl w_2608 d_17_6_86 ?_
          refine lv_imul hx hb d_17_6_88 ?_
          refine q_ti (v := 0) (by decide) ?_
          refine lv_isub hx hb d_17_6_89 ?_
          obtain ⟨a141, e142⟩ := q_nm (a137 - 0 : Int32)
          refine q_ti (v := a141) e142 ?_
          have b143 : q_F (a141.toInt = a137.toInt - 0) := (by rw [← e142]; show (a137 - 0 : Int32).toInt = a137.toInt - 0; exact q_subI (x := a137.toInt) (y := 0) rfl (by decide) (by have _ := q_lo32 (x := a137); have _ := q_hi32 (x := a137); have t1 : a137.toInt < 1000000000 := b140; omega) (by have _ := q_lo32 (x := a137); have _ := q_hi32 (x := a137); have t1 : a137.toInt < 1000000000 := b140; omega))
          refine q_iast C0 V hO121 (q_ix (x := lx111.toInt) rfl (by have t1 : 0 ≤ lx112.toInt := i115; have t2 : lx112.toInt ≤ lx111.toInt := i117; omega) (by have t1 : 0 ≤ lx112.toInt := i115; have t2 : lx112.toInt ≤ lx111.toInt := i117; have t3 : lx111.toInt < 156 := b132; have e9 : (((156 : Int32).toNatClampNeg : Nat) : Int) = 156 := (by decide); omega)) d_17_6_90 (fun H locs w144 hu145 hO121 V => ?_)
          replace hI := n_ai' hI (n_r146 g q).1 hu145 hO121 (q_updB (fun _ => s_bnd) s_bnd)
          replace hO120 := (hu145 _ (by decide)).trans hO120
          replace hF := q_us hF hu145 (by simp)
          obtain ⟨f146, e147⟩ := q_nm (upd lx113 lx111.toNatClampNeg a141 : (Nat → Int32))
          rw [e147] at hO121
          obtain ⟨a148, e149⟩ := q_nm (lx111 + 1 : Int32)
          have b150 : q_F (a148.toInt = lx111.toInt + 1) := (by rw [← e149]; exact q_addI (y := 1) rfl (by decide) (by have _ := q_lo32 (x := lx111); have _ := q_hi32 (x := lx111); have t1 : lx111.toInt ≤ 156 := i114; omega) (by have _ := q_lo32 (x := lx111); have _ := q_hi32 (x := lx111); have t1 : lx111.toInt ≤ 156 := i114; omega))
          refine lv_iinc (v := a148) (lv' := [(4, .int a148), (3, .int 0), (5, .int a137), (2, .int lx34), (0, .ref (q 145)), (1, .int x2)]) hx hb d_17_6_91 hl (k := 2) rfl (e149) (by decide) rfl (fun ls hl => ?_)
          refine lv_goto (tgt := 43) hx hb d_17_6_94 (by decide) ?_
          exact ih118 ((a148 : Int32), (0 : Int32), (f146 : (Nat → Int32))) _ _ _ _ (show (156 - a148.toInt).toNat < (156 - lx111.toInt).toNat from by have t1 : a148.toInt = lx111.toInt + 1 := b150; have t2 : lx111.toInt ≤ 156 := i114; have t3 : lx111.toInt < 156 := b132; omega) ⟨(show q_F (a148.toInt ≤ 156) from (show a148.toInt ≤ 156 from by have t1 : lx111.toInt < 156 := b132; have t2 : a148.toInt = lx111.toInt + 1 := b150; omega)), (show q_F (0 ≤ 0) from (show 0 ≤ 0 from by omega)), (show q_F (0 ≤ 1) from (show 0 ≤ 1 from by omega)), (show q_F (0 ≤ a148.toInt) from (show 0 ≤ a148.toInt from by have t1 : 0 ≤ lx112.toInt := i115; have t2 : lx112.toInt ≤ lx111.toInt := i117; have t3 : a148.toInt = lx111.toInt + 1 := b150; omega)), V, q_lw hl (q_lw1 0 rfl (q_lw1 1 rfl (q_lw1 3 rfl (q_lw1 4 rfl (q_lw1 5 rfl q_lw0))))), hI, hF, hO120, hO121, ⟨fm126, Nat.lt_of_lt_of_le (show (156 - a148.toInt).toNat < (156 - lx111.toInt).toNat from by have t1 : a148.toInt = lx111.toInt + 1 := b150; have t2 : lx111.toInt ≤ 156 := i114; have t3 : lx111.toInt < 156 := b132; omega) (Nat.le_of_lt_succ hf125), (show F_FR_setUnit_L43 (F_FR_setUnit_L2 x2 t0_0 t0_1 t0_2 t0_3 t0_4 t0_5 t0_6 t0_7 t0_8 t0_9 t0_10 t1_0 fm30) (F_FR_setUnit_L34 (F_FR_setUnit_L2 x2 t0_0 t0_1 t0_2 t0_3 t0_4 t0_5 t0_6 t0_7 t0_8 t0_9 t0_10 t1_0 fm30) x2 t0_0 t0_1 t0_2 t0_3 t0_4 t0_5 t0_6 t0_7 t0_8 t0_9 t0_10 t1_0 lx18 lx19 fm45) x2 t0_0 t0_1 t0_2 t0_3 t0_4 t0_5 t0_6 t0_7 t0_8 t0_9 t0_10 t1_0 lx18 lx19 lx34 lx35 fm126 a148 0 f146 = (F_FR_setUnit x2 t0_0 t0_1 t0_2 t0_3 t0_4 t0_5 t0_6 t0_7 t0_8 t0_9 t0_10 t1_0) from Eq.trans (by have c139x := c139; rw [← e138, ← e136, ← e134] at c139x; rw [← e149, ← e147, ← e142, ← e138, ← e136, ← e134, F_FR_setUnit_L43.eq_2, if_neg c127, if_pos c139x]) hR122)⟩⟩
        ·
          have b151 : q_F (1000000000 ≤ a137.toInt) := (q_nltI c139)
          refine lv_iconst (v := 1) hx hb d_17_6_71 (by decide) ?_
          refine lv_goto (tgt := 76) hx hb d_17_6_72 (by decide) ?_
          refine lv_istore_n (lv' := [(3, .int 1), (5, .int a137), (4, .int lx111), (2, .int lx34), (0, .ref (q 145)), (1, .int x2)]) hx hb d_17_6_76 rfl hl (by decide) rfl (fun ls hl => ?_)
          refine lv_aload_n hx hb d_17_6_77 rfl (lv_at hl 4 rfl) ?_
          refine q_get (ci := 15) (j := 1) (v := .ref (q 146)) C0 V i_FR rfl rfl hO120 (by decide) w_2076 rfl d_17_6_78 ?_
          refine lv_iload hx hb d_17_6_81 (lv_at hl 2 rfl) ?_
          refine lv_iload hx hb d_17_6_83 (lv_at hl 1 rfl) ?_
          refine lv_iload_n hx hb d_17_6_85 rfl (lv_at hl 0 rfl) ?_
          refine q_ldc C0 rfl w_2608 d_17_6_86 ?_
          refine lv_imul hx hb d_17_6_88 ?_
          refine q_ti (v := 1000000000) (by decide) ?_
          refine lv_isub hx hb d_17_6_89 ?_
          obtain ⟨a152, e153⟩ := q_nm (a137 - 1000000000 : Int32)
          refine q_ti (v := a152) e153 ?_
          have b154 : q_F (a152.toInt = a137.toInt - 1000000000) := (by rw [← e153]; show (a137 - 1000000000 : Int32).toInt = a137.toInt - 1000000000; exact q_subI (x := a137.toInt) (y := 1000000000) rfl (by decide) (by have t1 : 1000000000 ≤ a137.toInt := b151; have _ := q_lo32 (x := a137); have _ := q_hi32 (x := a137); omega) (by have t1 : 1000000000 ≤ a137.toInt := b151; have _ := q_lo32 (x := a137); have _ := q_hi32 (x := a137); omega))
          refine q_iast C0 V hO121 (q_ix (x := lx111.toInt) rfl (by have t1 : 0 ≤ lx112.toInt := i115; have t2 : lx112.toInt ≤ lx111.toInt := i117; omega) (by have t1 : 0 ≤ lx112.toInt := i115; have t2 : lx112.toInt ≤ lx111.toInt := i117; have t3 : lx111.toInt < 156 := b132; have e9 : (((156 : Int32).toNatClampNeg : Nat) : Int) = 156 := (by decide); omega)) d_17_6_90 (fun H locs w155 hu156 hO121 V => ?_)
          replace hI := n_ai' hI (n_r146 g q).1 hu156 hO121 (q_updB (fun _ => s_bnd) s_bnd)
          replace hO120 := (hu156 _ (by decide)).trans hO120
          replace hF := q_us hF hu156 (by simp)
          obtain ⟨f157, e158⟩ := q_nm (upd lx113 lx111.toNatClampNeg a152 : (Nat → Int32))
          rw [e158] at hO121
          obtain ⟨a159, e160⟩ := q_nm (lx111 + 1 : Int32)
          have b161 : q_F (a159.toInt = lx111.toInt + 1) := (by rw [← e160]; exact q_addI (y := 1) rfl (by decide) (by have _ := q_lo32 (x := lx111); have _ := q_hi32 (x := lx111); have t1 : lx111.toInt ≤ 156 := i114; omega) (by have _ := q_lo32 (x := lx111); have _ := q_hi32 (x := lx111); have t1 : lx111.toInt ≤ 156 := i114; omega))
          refine lv_iinc (v := a159) (lv' := [(4, .int a159), (3, .int 1), (5, .int a137), (2, .int lx34), (0, .ref (q 145)), (1, .int x2)]) hx hb d_17_6_91 hl (k := 2) rfl (e160) (by decide) rfl (fun ls hl => ?_)
          refine lv_goto (tgt := 43) hx hb d_17_6_94 (by decide) ?_
          exact ih118 ((a159 : Int32), (1 : Int32), (f157 : (Nat → Int32))) _ _ _ _ (show (156 - a159.toInt).toNat < (156 - lx111.toInt).toNat from by have t1 : a159.toInt = lx111.toInt + 1 := b161; have t2 : lx111.toInt ≤ 156 := i114; have t3 : lx111.toInt < 156 := b132; omega) ⟨(show q_F (a159.toInt ≤ 156) from (show a159.toInt ≤ 156 from by have t1 : lx111.toInt < 156 := b132; have t2 : a159.toInt = lx111.toInt + 1 := b161; omega)), (show q_F (0 ≤ 1) from (show 0 ≤ 1 from by omega)), (show q_F (1 ≤ 1) from (show 1 ≤ 1 from by omega)), (show q_F (1 ≤ a159.toInt) from (show 1 ≤ a159.toInt from by have t1 : 0 ≤ lx112.toInt := i115; have t2 : lx112.toInt ≤ lx111.toInt := i117; have t3 : a159.toInt = lx111.toInt + 1 := b161; omega)), V, q_lw hl (q_lw1 0 rfl (q_lw1 1 rfl (q_lw1 3 rfl (q_lw1 4 rfl (q_lw1 5 rfl q_lw0))))), hI, hF, hO120, hO121, ⟨fm126, Nat.lt_of_lt_of_le (show (156 - a159.toInt).toNat < (156 - lx111.toInt).toNat from by have t1 : a159.toInt = lx111.toInt + 1 := b161; have t2 : lx111.toInt ≤ 156 := i114; have t3 : lx111.toInt < 156 := b132; omega) (Nat.le_of_lt_succ hf125), (show F_FR_setUnit_L43 (F_FR_setUnit_L2 x2 t0_0 t0_1 t0_2 t0_3 t0_4 t0_5 t0_6 t0_7 t0_8 t0_9 t0_10 t1_0 fm30) (F_FR_setUnit_L34 (F_FR_setUnit_L2 x2 t0_0 t0_1 t0_2 t0_3 t0_4 t0_5 t0_6 t0_7 t0_8 t0_9 t0_10 t1_0 fm30) x2 t0_0 t0_1 t0_2 t0_3 t0_4 t0_5 t0_6 t0_7 t0_8 t0_9 t0_10 t1_0 lx18 lx19 fm45) x2 t0_0 t0_1 t0_2 t0_3 t0_4 t0_5 t0_6 t0_7 t0_8 t0_9 t0_10 t1_0 lx18 lx19 lx34 lx35 fm126 a159 1 f157 = (F_FR_setUnit x2 t0_0 t0_1 t0_2 t0_3 t0_4 t0_5 t0_6 t0_7 t0_8 t0_9 t0_10 t1_0) from Eq.trans (by have c139x := c139; rw [← e138, ← e136, ← e134] at c139x; rw [← e160, ← e158, ← e153, ← e138, ← e136, ← e134, F_FR_setUnit_L43.eq_2, if_neg c127, if_neg c139x]) hR122)⟩⟩
  ·
    have b162 : q_F (lx18.toInt < 156) := (q_nleI c31)
    refine lv_aload_n hx hb d_17_6_9 rfl (lv_at hl 1 rfl) ?_
    refine q_get (ci := 15) (j := 1) (v := .ref (q 146)) C0 V i_FR rfl rfl hO24 (by decide) w_2076 rfl d_17_6_10 ?_
    refine lv_iload_n hx hb d_17_6_13 rfl (lv_at hl 0 rfl) ?_
    refine lv_iload_n hx hb d_17_6_14 rfl (lv_at hl 0 rfl) ?_
    refine lv_bipush (v := 120) hx hb d_17_6_15 (by decide) ?_
    refine lv_icmp_ne (tgt := 24) hx hb d_17_6_17 (by decide) (fun c163 => ?_) (fun c163 => ?_)
    ·
      have b164 : q_F (lx18.toInt ≠ 120) := (q_neI c163)
      refine lv_iconst (v := 0) hx hb d_17_6_24 (by decide) ?_
      refine q_iast C0 V hO25 (q_ix (x := lx18.toInt) rfl (by have t1 : 0 ≤ lx18.toInt := i20; omega) (by have t1 : 0 ≤ lx18.toInt := i20; have t2 : lx18.toInt < 156 := b162; have e9 : (((156 : Int32).toNatClampNeg : Nat) : Int) = 156 := (by decide); omega)) d_17_6_25 (fun H locs w165 hu166 hO25 V => ?_)
      replace hI := n_ai' hI (n_r146 g q).1 hu166 hO25 (q_updB (fun _ => s_bnd) s_bnd)
      replace hO24 := (hu166 _ (by decide)).trans hO24
      replace hF := q_us hF hu166 (by simp)
      obtain ⟨f167, e168⟩ := q_nm (upd lx19 lx18.toNatClampNeg 0 : (Nat → Int32))
      rw [e168] at hO25
      obtain ⟨a169, e170⟩ := q_nm (lx18 + 1 : Int32)
      have b171 : q_F (a169.toInt = lx18.toInt + 1) := (by rw [← e170]; exact q_addI (y := 1) rfl (by decide) (by have t1 : 0 ≤ lx18.toInt := i20; have t2 : lx18.toInt ≤ 156 := i21; omega) (by have t1 : 0 ≤ lx18.toInt := i20; have t2 : lx18.toInt ≤ 156 := i21; omega))
      refine lv_iinc (v := a169) (lv' := [(2, .int a169), (0, .ref (q 145)), (1, .int x2)]) hx hb d_17_6_26 hl (k := 0) rfl (e170) (by decide) rfl (fun ls hl => ?_)
      refine lv_goto (tgt := 2) hx hb d_17_6_29 (by decide) ?_
      exact ih22 ((a169 : Int32), (f167 : (Nat → Int32))) _ _ _ _ (show (156 - a169.toInt).toNat < (156 - lx18.toInt).toNat from by have t1 : a169.toInt = lx18.toInt + 1 := b171; have t2 : lx18.toInt ≤ 156 := i21; have t3 : lx18.toInt < 156 := b162; omega) ⟨(show q_F (0 ≤ a169.toInt) from (show 0 ≤ a169.toInt from by have t1 : 0 ≤ lx18.toInt := i20; have t2 : a169.toInt = lx18.toInt + 1 := b171; omega)), (show q_F (a169.toInt ≤ 156) from (show a169.toInt ≤ 156 from by have t1 : lx18.toInt < 156 := b162; have t2 : a169.toInt = lx18.toInt + 1 := b171; omega)), V, q_lw hl (q_lw1 0 rfl (q_lw1 1 rfl (q_lw1 2 rfl q_lw0))), hI, hF, hO24, hO25, ⟨fm30, Nat.lt_of_lt_of_le (show (156 - a169.toInt).toNat < (156 - lx18.toInt).toNat from by have t1 : a169.toInt = lx18.toInt + 1 := b171; have t2 : lx18.toInt ≤ 156 := i21; have t3 : lx18.toInt < 156 := b162; omega) (Nat.le_of_lt_succ hf29), (show F_FR_setUnit_L2 x2 t0_0 t0_1 t0_2 t0_3 t0_4 t0_5 t0_6 t0_7 t0_8 t0_9 t0_10 t1_0 fm30 a169 f167 = (F_FR_setUnit x2 t0_0 t0_1 t0_2 t0_3 t0_4 t0_5 t0_6 t0_7 t0_8 t0_9 t0_10 t1_0) from Eq.trans (by rw [← e170, ← e168, F_FR_setUnit_L2.eq_2, if_neg c31, if_neg c163]) hR26)⟩⟩
    ·
      have b172 : q_F (lx18.toInt = 120) := (q_eqI c163)
      refine lv_iconst (v := 1) hx hb d_17_6_20 (by decide) ?_
      refine lv_goto (tgt := 25) hx hb d_17_6_21 (by decide) ?_
      refine q_iast C0 V hO25 (q_ix (x := lx18.toInt) rfl (by have t1 : 0 ≤ lx18.toInt := i20; omega) (by have t1 : 0 ≤ lx18.toInt := i20; have t2 : lx18.toInt < 156 := b162; have e9 : (((156 : Int32).toNatClampNeg : Nat) : Int) = 156 := (by decide); omega)) d_17_6_25 (fun H locs w173 hu174 hO25 V => ?_)
      replace hI := n_ai' hI (n_r146 g q).1 hu174 hO25 (q_updB (fun _ => s_bnd) s_bnd)
      replace hO24 := (hu174 _ (by decide)).trans hO24
      replace hF := q_us hF hu174 (by simp)
      obtain ⟨f175, e176⟩ := q_nm (upd lx19 lx18.toNatClampNeg 1 : (Nat → Int32))
      rw [e176] at hO25
      obtain ⟨a177, e178⟩ := q_nm (lx18 + 1 : Int32)
      have b179 : q_F (a177.toInt = lx18.toInt + 1) := (by rw [← e178]; exact q_addI (y := 1) rfl (by decide) (by have t1 : 0 ≤ lx18.toInt := i20; have t2 : lx18.toInt ≤ 156 := i21; omega) (by have t1 : 0 ≤ lx18.toInt := i20; have t2 : lx18.toInt ≤ 156 := i21; omega))
      refine lv_iinc (v := a177) (lv' := [(2, .int a177), (0, .ref (q 145)), (1, .int x2)]) hx hb d_17_6_26 hl (k := 0) rfl (e178) (by decide) rfl (fun ls hl => ?_)
      refine lv_goto (tgt := 2) hx hb d_17_6_29 (by decide) ?_
      exact ih22 ((a177 : Int32), (f175 : (Nat → Int32))) _ _ _ _ (show (156 - a177.toInt).toNat < (156 - lx18.toInt).toNat from by have t1 : a177.toInt = lx18.toInt + 1 := b179; have t2 : lx18.toInt ≤ 156 := i21; have t3 : lx18.toInt < 156 := b162; omega) ⟨(show q_F (0 ≤ a177.toInt) from (show 0 ≤ a177.toInt from by have t1 : 0 ≤ lx18.toInt := i20; have t2 : a177.toInt = lx18.toInt + 1 := b179; omega)), (show q_F (a177.toInt ≤ 156) from (show a177.toInt ≤ 156 from by have t1 : lx18.toInt < 156 := b162; have t2 : a177.toInt = lx18.toInt + 1 := b179; omega)), V, q_lw hl (q_lw1 0 rfl (q_lw1 1 rfl (q_lw1 2 rfl q_lw0))), hI, hF, hO24, hO25, ⟨fm30, Nat.lt_of_lt_of_le (show (156 - a177.toInt).toNat < (156 - lx18.toInt).toNat from by have t1 : a177.toInt = lx18.toInt + 1 := b179; have t2 : lx18.toInt ≤ 156 := i21; have t3 : lx18.toInt < 156 := b162; omega) (Nat.le_of_lt_succ hf29), (show F_FR_setUnit_L2 x2 t0_0 t0_1 t0_2 t0_3 t0_4 t0_5 t0_6 t0_7 t0_8 t0_9 t0_10 t1_0 fm30 a177 f175 = (F_FR_setUnit x2 t0_0 t0_1 t0_2 t0_3 t0_4 t0_5 t0_6 t0_7 t0_8 t0_9 t0_10 t1_0) from Eq.trans (by rw [← e178, ← e176, F_FR_setUnit_L2.eq_2, if_neg c31, if_pos c163]) hR26)⟩⟩
