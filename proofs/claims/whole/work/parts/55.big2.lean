/-! Big, what is left -/
theorem d_29_66_0 : decode prog_29_method_66_code 0 = .ok (.lload_n 0, 1) := by decide +kernel
theorem d_29_66_1 : decode prog_29_method_66_code 1 = .ok (.lload_n 2, 1) := by decide +kernel
theorem d_29_66_2 : decode prog_29_method_66_code 2 = .ok (.lcmp, 1) := by decide +kernel
theorem d_29_66_3 : decode prog_29_method_66_code 3 = .ok (.ifCond .lt 7, 3) := by decide +kernel
theorem d_29_66_10 : decode prog_29_method_66_code 10 = .ok (.lload_n 2, 1) := by decide +kernel
theorem d_29_66_11 : decode prog_29_method_66_code 11 = .ok (.lreturn, 1) := by decide +kernel
theorem d_29_66_6 : decode prog_29_method_66_code 6 = .ok (.lload_n 0, 1) := by decide +kernel
theorem d_29_66_7 : decode prog_29_method_66_code 7 = .ok (.goto 4, 3) := by decide +kernel
def y_jMath_max_JJJ : MethodName := ⟨"java/lang/Math", "max", "(JJ)J"⟩
set_option maxRecDepth 100000 in
set_option maxHeartbeats 4000000 in
theorem T_jMath_max_JJJ (l : Launch) (D : va_G) (g : Nat → ClassId) (q : Nat → Nat) (ws : va_W) (x1 : Int64) (x2 : Int64) (hI : q_I (nsh g q) q ws) : q_mL l y_jMath_max_JJJ prog_29_method_66_code 4 1 0 0 D g [.long x1, .long x2] ws (fun r u => ws = u ∧ (x1.toInt ≤ r.toInt) ∧ (x2.toInt ≤ r.toInt)) := by
  intro sz
  refine q_intoF (by decide +kernel) (Nat.le_of_ble_eq_true rfl) ?_
  intro p e s m below meth c ls hsz C0 V hl
  have hx := C0.1
  have hb := C0.2.1
  have hl : lv_has ls 4 [(0, .long x1), (2, .long x2)] := hl
  refine lv_lload_n hx hb d_29_66_0 rfl (lv_at hl 0 rfl) ?_
  refine lv_lload_n hx hb d_29_66_1 rfl (lv_at hl 1 rfl) ?_
  refine W.lcmp hx hb d_29_66_2 ?_
  obtain ⟨a1, e2⟩ := q_nm (lg_cmp x1 x2 : Int32)
  refine q_ti (v := a1) e2 ?_
  have b3 : q_F (-1 ≤ a1.toInt ∧ a1.toInt ≤ 1 ∧ ((a1.toInt = -1 ∧ x1.toInt < x2.toInt) ∨ (a1.toInt = 0 ∧ x1.toInt = x2.toInt) ∨ (a1.toInt = 1 ∧ x2.toInt < x1.toInt))) := (by rw [← e2]; show -1 ≤ (lg_cmp x1 x2 : Int32).toInt ∧ (lg_cmp x1 x2 : Int32).toInt ≤ 1 ∧ (((lg_cmp x1 x2 : Int32).toInt = -1 ∧ x1.toInt < x2.toInt) ∨ ((lg_cmp x1 x2 : Int32).toInt = 0 ∧ x1.toInt = x2.toInt) ∨ ((lg_cmp x1 x2 : Int32).toInt = 1 ∧ x2.toInt < x1.toInt)); exact s_lcmp)
  refine lv_if_lt (tgt := 10) hx hb d_29_66_3 (by decide) (fun c4 => ?_) (fun c4 => ?_)
  ·
    have b5 : q_F (a1.toInt < 0) := (q_ltI c4)
    refine lv_lload_n hx hb d_29_66_10 rfl (lv_at hl 1 rfl) ?_
    exact q_retl C0 V (⟨rfl, (show x1.toInt ≤ x2.toInt from (by have t1 : -1 ≤ a1.toInt ∧ a1.toInt ≤ 1 ∧ ((a1.toInt = -1 ∧ x1.toInt < x2.toInt) ∨ (a1.toInt = 0 ∧ x1.toInt = x2.toInt) ∨ (a1.toInt = 1 ∧ x2.toInt < x1.toInt)) := b3; have t2 : a1.toInt < 0 := b5; omega)), (show x2.toInt ≤ x2.toInt from (by omega))⟩) d_29_66_11
  ·
    have b6 : q_F (0 ≤ a1.toInt) := (q_nltI c4)
    refine lv_lload_n hx hb d_29_66_6 rfl (lv_at hl 0 rfl) ?_
    refine lv_goto (tgt := 11) hx hb d_29_66_7 (by decide) ?_
    exact q_retl C0 V (⟨rfl, (show x1.toInt ≤ x1.toInt from (by omega)), (show x2.toInt ≤ x1.toInt from (by have t1 : -1 ≤ a1.toInt ∧ a1.toInt ≤ 1 ∧ ((a1.toInt = -1 ∧ x1.toInt < x2.toInt) ∨ (a1.toInt = 0 ∧ x1.toInt = x2.toInt) ∨ (a1.toInt = 1 ∧ x2.toInt < x1.toInt)) := b3; have t2 : 0 ≤ a1.toInt := b6; omega))⟩) d_29_66_11
theorem d_2_31_0 : decode prog_2_method_31_code 0 = .ok (.aload_n 1, 1) := by decide +kernel
theorem d_2_31_1 : decode prog_2_method_31_code 1 = .ok (.getfield 13, 3) := by decide +kernel
theorem d_2_31_4 : decode prog_2_method_31_code 4 = .ok (.aload_n 2, 1) := by decide +kernel
theorem d_2_31_5 : decode prog_2_method_31_code 5 = .ok (.getfield 13, 3) := by decide +kernel
theorem d_2_31_8 : decode prog_2_method_31_code 8 = .ok (.iadd, 1) := by decide +kernel
theorem d_2_31_9 : decode prog_2_method_31_code 9 = .ok (.aload_n 0, 1) := by decide +kernel
theorem d_2_31_10 : decode prog_2_method_31_code 10 = .ok (.getfield 7, 3) := by decide +kernel
theorem d_2_31_13 : decode prog_2_method_31_code 13 = .ok (.arraylength, 1) := by decide +kernel
theorem d_2_31_14 : decode prog_2_method_31_code 14 = .ok (.invokestatic 39, 3) := by decide +kernel
theorem d_2_31_17 : decode prog_2_method_31_code 17 = .ok (.istore_n 3, 1) := by decide +kernel
theorem d_2_31_18 : decode prog_2_method_31_code 18 = .ok (.aload_n 0, 1) := by decide +kernel
theorem d_2_31_19 : decode prog_2_method_31_code 19 = .ok (.getfield 7, 3) := by decide +kernel
theorem d_2_31_22 : decode prog_2_method_31_code 22 = .ok (.iconst 0, 1) := by decide +kernel
theorem d_2_31_23 : decode prog_2_method_31_code 23 = .ok (.iload_n 3, 1) := by decide +kernel
theorem d_2_31_24 : decode prog_2_method_31_code 24 = .ok (.iconst 0, 1) := by decide +kernel
theorem d_2_31_25 : decode prog_2_method_31_code 25 = .ok (.invokestatic 108, 3) := by decide +kernel
set_option maxRecDepth 100000 in
theorem w_812 : (Cond.code ({ cls := "java/util/Arrays", name := "fill", desc := "([IIII)V" } : MethodName) prog_37_method_104_code (5 : Nat) (none : Option ClassFile.FieldType)) ∈ q_tbl := q_of4 92 rfl (by decide +kernel)
set_option maxRecDepth 100000 in
theorem w_810 : (Cond.methodLink "NumberHouse$Big" (108 : Nat) ({ cls := "java/util/Arrays", name := "fill", desc := "([IIII)V" } : MethodName)) ∈ q_tbl := q_of4 90 rfl (by decide +kernel)
set_option maxRecDepth 100000 in
theorem w_811 : (Cond.static ({ cls := "java/util/Arrays", name := "fill", desc := "([IIII)V" } : MethodName)) ∈ q_tbl := q_of4 91 rfl (by decide +kernel)
theorem LS_Big_108 : q_LS "NumberHouse$Big" 108 y_jArr_fill prog_37_method_104_code 5 none 4 := ⟨w_812, w_30, w_810, w_811, ⟨by decide, by decide, by decide +kernel⟩⟩
theorem d_2_31_28 : decode prog_2_method_31_code 28 = .ok (.iconst 0, 1) := by decide +kernel
theorem d_2_31_29 : decode prog_2_method_31_code 29 = .ok (.istore 4, 2) := by decide +kernel
theorem d_2_31_31 : decode prog_2_method_31_code 31 = .ok (.iload 4, 2) := by decide +kernel
theorem d_2_31_33 : decode prog_2_method_31_code 33 = .ok (.aload_n 1, 1) := by decide +kernel
theorem d_2_31_34 : decode prog_2_method_31_code 34 = .ok (.getfield 13, 3) := by decide +kernel
theorem d_2_31_37 : decode prog_2_method_31_code 37 = .ok (.if_icmp .ge 125, 3) := by decide +kernel
theorem d_2_31_162 : decode prog_2_method_31_code 162 = .ok (.aload_n 0, 1) := by decide +kernel
theorem d_2_31_163 : decode prog_2_method_31_code 163 = .ok (.iload_n 3, 1) := by decide +kernel
theorem d_2_31_164 : decode prog_2_method_31_code 164 = .ok (.putfield 13, 3) := by decide +kernel
theorem d_2_31_167 : decode prog_2_method_31_code 167 = .ok (.aload_n 0, 1) := by decide +kernel
theorem d_2_31_168 : decode prog_2_method_31_code 168 = .ok (.aload_n 1, 1) := by decide +kernel
theorem d_2_31_169 : decode prog_2_method_31_code 169 = .ok (.getfield 17, 3) := by decide +kernel
theorem d_2_31_172 : decode prog_2_method_31_code 172 = .ok (.aload_n 2, 1) := by decide +kernel
theorem d_2_31_173 : decode prog_2_method_31_code 173 = .ok (.getfield 17, 3) := by decide +kernel
theorem d_2_31_176 : decode prog_2_method_31_code 176 = .ok (.if_icmp .eq 7, 3) := by decide +kernel
theorem d_2_31_183 : decode prog_2_method_31_code 183 = .ok (.iconst 0, 1) := by decide +kernel
theorem d_2_31_184 : decode prog_2_method_31_code 184 = .ok (.putfield 17, 3) := by decide +kernel
theorem d_2_31_187 : decode prog_2_method_31_code 187 = .ok (.aload_n 0, 1) := by decide +kernel
theorem d_2_31_188 : decode prog_2_method_31_code 188 = .ok (.invokevirtual 36, 3) := by decide +kernel
theorem d_2_31_191 : decode prog_2_method_31_code 191 = .ok (.return_, 1) := by decide +kernel
theorem d_2_31_179 : decode prog_2_method_31_code 179 = .ok (.iconst 1, 1) := by decide +kernel
theorem d_2_31_180 : decode prog_2_method_31_code 180 = .ok (.goto 4, 3) := by decide +kernel
theorem d_2_31_40 : decode prog_2_method_31_code 40 = .ok (.aload_n 2, 1) := by decide +kernel
theorem d_2_31_41 : decode prog_2_method_31_code 41 = .ok (.getfield 13, 3) := by decide +kernel
theorem d_2_31_44 : decode prog_2_method_31_code 44 = .ok (.iload_n 3, 1) := by decide +kernel
theorem d_2_31_45 : decode prog_2_method_31_code 45 = .ok (.iload 4, 2) := by decide +kernel
theorem d_2_31_47 : decode prog_2_method_31_code 47 = .ok (.isub, 1) := by decide +kernel
theorem d_2_31_48 : decode prog_2_method_31_code 48 = .ok (.invokestatic 39, 3) := by decide +kernel
theorem d_2_31_51 : decode prog_2_method_31_code 51 = .ok (.istore 5, 2) := by decide +kernel
theorem d_2_31_53 : decode prog_2_method_31_code 53 = .ok (.aload_n 1, 1) := by decide +kernel
theorem d_2_31_54 : decode prog_2_method_31_code 54 = .ok (.getfield 7, 3) := by decide +kernel
theorem d_2_31_57 : decode prog_2_method_31_code 57 = .ok (.iload 4, 2) := by decide +kernel
theorem d_2_31_59 : decode prog_2_method_31_code 59 = .ok (.iaload, 1) := by decide +kernel
theorem d_2_31_60 : decode prog_2_method_31_code 60 = .ok (.i2l, 1) := by decide +kernel
theorem d_2_31_61 : decode prog_2_method_31_code 61 = .ok (.lstore 6, 2) := by decide +kernel
theorem d_2_31_63 : decode prog_2_method_31_code 63 = .ok (.lconst 0, 1) := by decide +kernel
theorem d_2_31_64 : decode prog_2_method_31_code 64 = .ok (.lstore 8, 2) := by decide +kernel
theorem d_2_31_66 : decode prog_2_method_31_code 66 = .ok (.iconst 0, 1) := by decide +kernel
theorem d_2_31_67 : decode prog_2_method_31_code 67 = .ok (.istore 10, 2) := by decide +kernel
theorem d_2_31_69 : decode prog_2_method_31_code 69 = .ok (.iload 10, 2) := by decide +kernel
theorem d_2_31_71 : decode prog_2_method_31_code 71 = .ok (.iload 5, 2) := by decide +kernel
theorem d_2_31_73 : decode prog_2_method_31_code 73 = .ok (.if_icmp .ge 61, 3) := by decide +kernel
theorem d_2_31_134 : decode prog_2_method_31_code 134 = .ok (.iload 4, 2) := by decide +kernel
theorem d_2_31_136 : decode prog_2_method_31_code 136 = .ok (.iload 5, 2) := by decide +kernel
theorem d_2_31_138 : decode prog_2_method_31_code 138 = .ok (.iadd, 1) := by decide +kernel
theorem d_2_31_139 : decode prog_2_method_31_code 139 = .ok (.iload_n 3, 1) := by decide +kernel
theorem d_2_31_140 : decode prog_2_method_31_code 140 = .ok (.if_icmp .ge 16, 3) := by decide +kernel
theorem d_2_31_156 : decode prog_2_method_31_code 156 = .ok (.iinc 4 1, 3) := by decide +kernel
theorem d_2_31_159 : decode prog_2_method_31_code 159 = .ok (.goto (-128), 3) := by decide +kernel
theorem d_2_31_143 : decode prog_2_method_31_code 143 = .ok (.aload_n 0, 1) := by decide +kernel
theorem d_2_31_144 : decode prog_2_method_31_code 144 = .ok (.getfield 7, 3) := by decide +kernel
theorem d_2_31_147 : decode prog_2_method_31_code 147 = .ok (.iload 4, 2) := by decide +kernel
theorem d_2_31_149 : decode prog_2_method_31_code 149 = .ok (.iload 5, 2) := by decide +kernel
theorem d_2_31_151 : decode prog_2_method_31_code 151 = .ok (.iadd, 1) := by decide +kernel
theorem d_2_31_152 : decode prog_2_method_31_code 152 = .ok (.lload 8, 2) := by decide +kernel
theorem d_2_31_154 : decode prog_2_method_31_code 154 = .ok (.l2i, 1) := by decide +kernel
theorem d_2_31_155 : decode prog_2_method_31_code 155 = .ok (.iastore, 1) := by decide +kernel
theorem d_2_31_76 : decode prog_2_method_31_code 76 = .ok (.lload 6, 2) := by decide +kernel
theorem d_2_31_78 : decode prog_2_method_31_code 78 = .ok (.aload_n 2, 1) := by decide +kernel
theorem d_2_31_79 : decode prog_2_method_31_code 79 = .ok (.getfield 7, 3) := by decide +kernel
theorem d_2_31_82 : decode prog_2_method_31_code 82 = .ok (.iload 10, 2) := by decide +kernel
theorem d_2_31_84 : decode prog_2_method_31_code 84 = .ok (.iaload, 1) := by decide +kernel
theorem d_2_31_85 : decode prog_2_method_31_code 85 = .ok (.i2l, 1) := by decide +kernel
theorem d_2_31_86 : decode prog_2_method_31_code 86 = .ok (.lmul, 1) := by decide +kernel
theorem d_2_31_87 : decode prog_2_method_31_code 87 = .ok (.aload_n 0, 1) := by decide +kernel
theorem d_2_31_88 : decode prog_2_method_31_code 88 = .ok (.getfield 7, 3) := by decide +kernel
theorem d_2_31_91 : decode prog_2_method_31_code 91 = .ok (.iload 4, 2) := by decide +kernel
theorem d_2_31_93 : decode prog_2_method_31_code 93 = .ok (.iload 10, 2) := by decide +kernel
theorem d_2_31_95 : decode prog_2_method_31_code 95 = .ok (.iadd, 1) := by decide +kernel
theorem d_2_31_96 : decode prog_2_method_31_code 96 = .ok (.iaload, 1) := by decide +kernel
theorem d_2_31_97 : decode prog_2_method_31_code 97 = .ok (.i2l, 1) := by decide +kernel
theorem d_2_31_98 : decode prog_2_method_31_code 98 = .ok (.ladd, 1) := by decide +kernel
theorem d_2_31_99 : decode prog_2_method_31_code 99 = .ok (.lload 8, 2) := by decide +kernel
theorem d_2_31_101 : decode prog_2_method_31_code 101 = .ok (.ladd, 1) := by decide +kernel
theorem d_2_31_102 : decode prog_2_method_31_code 102 = .ok (.lstore 11, 2) := by decide +kernel
theorem d_2_31_104 : decode prog_2_method_31_code 104 = .ok (.aload_n 0, 1) := by decide +kernel
theorem d_2_31_105 : decode prog_2_method_31_code 105 = .ok (.getfield 7, 3) := by decide +kernel
theorem d_2_31_108 : decode prog_2_method_31_code 108 = .ok (.iload 4, 2) := by decide +kernel
theorem d_2_31_110 : decode prog_2_method_31_code 110 = .ok (.iload 10, 2) := by decide +kernel
theorem d_2_31_112 : decode prog_2_method_31_code 112 = .ok (.iadd, 1) := by decide +kernel
theorem d_2_31_113 : decode prog_2_method_31_code 113 = .ok (.lload 11, 2) := by decide +kernel
theorem d_2_31_115 : decode prog_2_method_31_code 115 = .ok (.ldc2_w 30, 3) := by decide +kernel
theorem d_2_31_118 : decode prog_2_method_31_code 118 = .ok (.land, 1) := by decide +kernel
theorem d_2_31_119 : decode prog_2_method_31_code 119 = .ok (.l2i, 1) := by decide +kernel
theorem d_2_31_120 : decode prog_2_method_31_code 120 = .ok (.iastore, 1) := by decide +kernel
theorem d_2_31_121 : decode prog_2_method_31_code 121 = .ok (.lload 11, 2) := by decide +kernel
theorem d_2_31_123 : decode prog_2_method_31_code 123 = .ok (.bipush 31, 2) := by decide +kernel
theorem d_2_31_125 : decode prog_2_method_31_code 125 = .ok (.lushr, 1) := by decide +kernel
theorem d_2_31_126 : decode prog_2_method_31_code 126 = .ok (.lstore 8, 2) := by decide +kernel
theorem d_2_31_128 : decode prog_2_method_31_code 128 = .ok (.iinc 10 1, 3) := by decide +kernel
theorem d_2_31_131 : decode prog_2_method_31_code 131 = .ok (.goto (-62), 3) := by decide +kernel
def y_Big_product : MethodName := ⟨"NumberHouse$Big", "product", "(LNumberHouse$Big;LNumberHouse$Big;)V"⟩
set_option maxRecDepth 100000 in
set_option maxHeartbeats 4000000 in
theorem T_Big_product (l : Launch) (D : va_G) (g : Nat → ClassId) (q : Nat → Nat) (ws : va_W) (k1 : Nat) (R : Int32) (hB1 : q_isBig (nsh g q) g q k1 R) (zk1 : (10 ≤ k1 ∧ k1 ≤ 32) ∨ 66 ≤ k1) (k2 : Nat) (R2 : Int32) (hB2 : q_isBig (nsh g q) g q k2 R2) (zk2 : (10 ≤ k2 ∧ k2 ≤ 32) ∨ 66 ≤ k2) (k3 : Nat) (R3 : Int32) (hB3 : q_isBig (nsh g q) g q k3 R3) (zk3 : (10 ≤ k3 ∧ k3 ≤ 32) ∨ 66 ≤ k3) (hI : q_I (nsh g q) q ws) : q_mV l y_Big_product prog_2_method_31_code 13 3 0 0 D g [.ref (q k1), .ref (q k2), .ref (q k3)] ws (fun u => q_I (nsh g q) q u ∧ q_un ws u [k1, k1 + 1] ∧ True) := by
  intro sz
  refine q_into (by decide) (Nat.le_of_ble_eq_true rfl) ?_
  intro p e s m below meth c ls hsz C0 V hl
  have hx := C0.1
  have hb := C0.2.1
  have hfk10 : q_F (0 ≤ R.toInt ∧ R.toInt ≤ 220) := hB1.2.2
  have hfk20 : q_F (0 ≤ R2.toInt ∧ R2.toInt ≤ 220) := hB2.2.2
  have hfk30 : q_F (0 ≤ R3.toInt ∧ R3.toInt ≤ 220) := hB3.2.2
  have hF : q_un ws ws [k1, k1 + 1] := q_u0
  have hl : lv_has ls 13 [(0, .ref (q k1)), (1, .ref (q k2)), (2, .ref (q k3))] := hl
  refine lv_aload_n hx hb d_2_31_0 rfl (lv_at hl 1 rfl) ?_
  obtain ⟨y2, y3, hO1, b4, b5⟩ := q_bigO hI hB2
  replace b4 : q_F (0 ≤ y2.toInt ∧ y2.toInt ≤ R2.toInt) := b4
  replace b5 : q_F (0 ≤ y3.toInt ∧ y3.toInt ≤ 1) := b5
  refine q_get (ci := 2) (j := 1) (v := .int y2) C0 V i_Big rfl rfl hO1 (by decide) w_85 rfl d_2_31_1 ?_
  refine lv_aload_n hx hb d_2_31_4 rfl (lv_at hl 2 rfl) ?_
  obtain ⟨y7, y8, hO6, b9, b10⟩ := q_bigO hI hB3
  replace b9 : q_F (0 ≤ y7.toInt ∧ y7.toInt ≤ R3.toInt) := b9
  replace b10 : q_F (0 ≤ y8.toInt ∧ y8.toInt ≤ 1) := b10
  refine q_get (ci := 2) (j := 1) (v := .int y7) C0 V i_Big rfl rfl hO6 (by decide) w_85 rfl d_2_31_5 ?_
  refine lv_iadd hx hb d_2_31_8 ?_
  obtain ⟨a11, e12⟩ := q_nm (y2 + y7 : Int32)
  refine q_ti (v := a11) e12 ?_
  have b13 : q_F (a11.toInt = y2.toInt + y7.toInt) := (by rw [← e12]; show (y2 + y7 : Int32).toInt = y2.toInt + y7.toInt; exact q_addI (x := y2.toInt) (y := y7.toInt) rfl rfl (by have t1 : 0 ≤ y2.toInt ∧ y2.toInt ≤ R2.toInt := b4; have t2 : 0 ≤ y7.toInt ∧ y7.toInt ≤ R3.toInt := b9; have t3 : 0 ≤ R2.toInt ∧ R2.toInt ≤ 220 := hfk20; have t4 : 0 ≤ R3.toInt ∧ R3.toInt ≤ 220 := hfk30; omega) (by have t1 : 0 ≤ y2.toInt ∧ y2.toInt ≤ R2.toInt := b4; have t2 : 0 ≤ y7.toInt ∧ y7.toInt ≤ R3.toInt := b9; have t3 : 0 ≤ R2.toInt ∧ R2.toInt ≤ 220 := hfk20; have t4 : 0 ≤ R3.toInt ∧ R3.toInt ≤ 220 := hfk30; omega))
  refine lv_aload_n hx hb d_2_31_9 rfl (lv_at hl 0 rfl) ?_
  obtain ⟨y15, y16, hO14, b17, b18⟩ := q_bigO hI hB1
  replace b17 : q_F (0 ≤ y15.toInt ∧ y15.toInt ≤ R.toInt) := b17
  replace b18 : q_F (0 ≤ y16.toInt ∧ y16.toInt ≤ 1) := b18
  refine q_get (ci := 2) (j := 0) (v := .ref (q (k1 + 1))) C0 V i_Big rfl rfl hO14 (by decide) w_84 rfl d_2_31_10 ?_
  obtain ⟨f19, hA20, bf21⟩ := q_bigA hI hB1
  refine q_alen (t := 0) (v := R) C0 V hA20 rfl (s_len (by have t1 : 0 ≤ R.toInt ∧ R.toInt ≤ 220 := hfk10; omega)) d_2_31_13 ?_
  refine q_min C0 hl.1 rfl w_773 w_774 w_7 w_775 ⟨Nat.le_of_ble_eq_true rfl, Nat.le_of_ble_eq_true rfl⟩ ⟨Nat.le_of_ble_eq_true rfl, Nat.le_of_ble_eq_true rfl⟩ d_2_31_14 ?_
  obtain ⟨a22, e23⟩ := q_nm (if R < a11 then R else a11 : Int32)
  refine q_ti (v := a22) e23 ?_
  have b24 : q_F (a22.toInt ≤ a11.toInt ∧ a22.toInt ≤ R.toInt ∧ (a22.toInt = a11.toInt ∨ a22.toInt = R.toInt)) := (by rw [← e23]; show (if R < a11 then R else a11 : Int32).toInt ≤ a11.toInt ∧ (if R < a11 then R else a11 : Int32).toInt ≤ R.toInt ∧ ((if R < a11 then R else a11 : Int32).toInt = a11.toInt ∨ (if R < a11 then R else a11 : Int32).toInt = R.toInt); exact s_min (a := a11) (b := R))
  refine lv_istore_n (lv' := [(3, .int a22), (0, .ref (q k1)), (1, .ref (q k2)), (2, .ref (q k3))]) hx hb d_2_31_17 rfl hl (by decide) rfl (fun ls hl => ?_)
  refine lv_aload_n hx hb d_2_31_18 rfl (lv_at hl 1 rfl) ?_
  refine q_get (ci := 2) (j := 0) (v := .ref (q (k1 + 1))) C0 V i_Big rfl rfl hO14 (by decide) w_84 rfl d_2_31_19 ?_
  refine lv_iconst (v := 0) hx hb d_2_31_22 (by decide) ?_
  refine lv_iload_n hx hb d_2_31_23 rfl (lv_at hl 0 rfl) ?_
  refine lv_iconst (v := 0) hx hb d_2_31_24 (by decide) ?_
  have ne25 := q_df hA20 hO1
  have ne26 := q_df hA20 hO6
  refine q_gov V (q_runS (As := [.ref (q (k1 + 1)), .int 0, .int a22, .int 0]) (rest := []) (d := 2) (mc := 0) (ms := 0) C0 V rfl LS_Big_108 (S_Arr_fill l D g (nsh g q) q ws k1 R hB1 0 a22 0 hI  (by have y0 : (0 : Int32).toInt = 0 := rfl; have y1 : (0 : Int32).toInt = 0 := rfl; omega) (by have y0 : (0 : Int32).toInt = 0 := rfl; have y1 : (0 : Int32).toInt = 0 := rfl; have t1 : 0 ≤ R.toInt ∧ R.toInt ≤ 220 := hfk10; have t2 : 0 ≤ y2.toInt ∧ y2.toInt ≤ R2.toInt := b4; have t3 : 0 ≤ y7.toInt ∧ y7.toInt ≤ R3.toInt := b9; have t4 : a11.toInt = y2.toInt + y7.toInt := b13; have t5 : a22.toInt ≤ a11.toInt ∧ a22.toInt ≤ R.toInt ∧ (a22.toInt = a11.toInt ∨ a22.toInt = R.toInt) := b24; omega) (by have y0 : (0 : Int32).toInt = 0 := rfl; have y1 : (0 : Int32).toInt = 0 := rfl; have t1 : a22.toInt ≤ a11.toInt ∧ a22.toInt ≤ R.toInt ∧ (a22.toInt = a11.toInt ∨ a22.toInt = R.toInt) := b24; omega) _) rfl hl.1 rfl (Nat.le_of_ble_eq_true rfl) ⟨by decide, by decide⟩ ⟨Nat.le_of_ble_eq_true rfl, Nat.le_of_ble_eq_true rfl⟩ d_2_31_25) (fun u27 H locs hp28 V => ?_)
  obtain ⟨_, hI, hu29⟩ := hp28
  replace hO1 := (hu29 _ (q_nc (Ne.symm ne25) List.not_mem_nil)).trans hO1
  replace hO6 := (hu29 _ (q_nc (Ne.symm ne26) List.not_mem_nil)).trans hO6
  replace hO14 := (hu29 _ (by have z0 := zk1; simp only [List.mem_cons, List.not_mem_nil, or_false, not_or]; omega)).trans hO14
  replace hF := q_uc hF hu29 (by simp)
  refine lv_iconst (v := 0) hx hb d_2_31_28 (by decide) ?_
  refine lv_istore (lv' := [(4, .int 0), (3, .int a22), (0, .ref (q k1)), (1, .ref (q k2)), (2, .ref (q k3))]) hx hb d_2_31_29 hl (by decide) rfl (fun ls hl => ?_)
  refine q_loop (X := Int32) (fun z H locs ls w34 => q_F (0 ≤ z.toInt) ∧ q_F (z.toInt ≤ R2.toInt) ∧ q_Wd D g (va_A ws sz) s w34 H locs ∧ lv_has ls 13 [(4, .int z), (3, .int a22), (0, .ref (q k1)), (1, .ref (q k2)), (2, .ref (q k3))] ∧ q_I (nsh g q) q w34 ∧ q_un ws w34 [k1, k1 + 1]) (fun z => (220 - z.toInt).toNat) ?_ ((0 : Int32)) _ _ _ u27 ⟨(show q_F (0 ≤ 0) from (show 0 ≤ 0 from by omega)), (show q_F (0 ≤ R2.toInt) from (show 0 ≤ R2.toInt from by have t1 : 0 ≤ R2.toInt ∧ R2.toInt ≤ 220 := hfk20; omega)), V, q_lw hl (q_lw1 0 rfl (q_lw1 1 rfl (q_lw1 2 rfl (q_lw1 3 rfl (q_lw1 4 rfl q_lw0))))), hI, hF⟩
  rintro lx30 H locs ls w34 ⟨i31, i32, V, hl, hI, hF⟩ ih33
  replace i31 : q_F (0 ≤ lx30.toInt) := i31
  replace i32 : q_F (lx30.toInt ≤ R2.toInt) := i32
  replace hl : lv_has ls 13 [(4, .int lx30), (3, .int a22), (0, .ref (q k1)), (1, .ref (q k2)), (2, .ref (q k3))] := hl
  refine lv_iload hx hb d_2_31_31 (lv_at hl 0 rfl) ?_
  refine lv_aload_n hx hb d_2_31_33 rfl (lv_at hl 3 rfl) ?_
  obtain ⟨y36, y37, hO35, b38, b39⟩ := q_bigO hI hB2
  replace b38 : q_F (0 ≤ y36.toInt ∧ y36.toInt ≤ R2.toInt) := b38
  replace b39 : q_F (0 ≤ y37.toInt ∧ y37.toInt ≤ 1) := b39
  refine q_get (ci := 2) (j := 1) (v := .int y36) C0 V i_Big rfl rfl hO35 (by decide) w_85 rfl d_2_31_34 ?_
  refine lv_icmp_ge (tgt := 162) hx hb d_2_31_37 (by decide) (fun c40 => ?_) (fun c40 => ?_)
  ·
    have b41 : q_F (y36.toInt ≤ lx30.toInt) := (q_leI c40)
    refine lv_aload_n hx hb d_2_31_162 rfl (lv_at hl 2 rfl) ?_
    refine lv_iload_n hx hb d_2_31_163 rfl (lv_at hl 1 rfl) ?_
    obtain ⟨y43, y44, hO42, b45, b46⟩ := q_bigO hI hB1
    replace b45 : q_F (0 ≤ y43.toInt ∧ y43.toInt ≤ R.toInt) := b45
    replace b46 : q_F (0 ≤ y44.toInt ∧ y44.toInt ≤ 1) := b46
    refine q_put (ci := 2) (j := 1) (v := .int a22) (ty := .int) C0 V i_Big o_Big n_Big rfl rfl hO42 (by decide) w_85 rfl rfl rfl rfl (Nat.le_of_ble_eq_true rfl) d_2_31_164 (fun H locs w47 hu48 hO42 V => ?_)
    replace hO42 : w47[k1]? = (some (q k1, .inr (2, [.ref (q (k1 + 1)), .int a22, .int y44])) : Option (Nat × va_E)) := hO42
    replace hI := q_bigO' hI hB1 hu48 hO42 ⟨(by have t1 : 0 ≤ R.toInt ∧ R.toInt ≤ 220 := hfk10; have t2 : 0 ≤ y2.toInt ∧ y2.toInt ≤ R2.toInt := b4; have t3 : 0 ≤ y7.toInt ∧ y7.toInt ≤ R3.toInt := b9; have t4 : a11.toInt = y2.toInt + y7.toInt := b13; have t5 : a22.toInt ≤ a11.toInt ∧ a22.toInt ≤ R.toInt ∧ (a22.toInt = a11.toInt ∨ a22.toInt = R.toInt) := b24; omega), (by have t1 : a22.toInt ≤ a11.toInt ∧ a22.toInt ≤ R.toInt ∧ (a22.toInt = a11.toInt ∨ a22.toInt = R.toInt) := b24; omega)⟩ ⟨(by have t1 : 0 ≤ y44.toInt ∧ y44.toInt ≤ 1 := b46; omega), (by have t1 : 0 ≤ y44.toInt ∧ y44.toInt ≤ 1 := b46; omega)⟩
    replace hF := q_us hF hu48 (by simp)
    refine lv_aload_n hx hb d_2_31_167 rfl (lv_at hl 2 rfl) ?_
    refine lv_aload_n hx hb d_2_31_168 rfl (lv_at hl 3 rfl) ?_
    obtain ⟨y50, y51, hO49, b52, b53⟩ := q_bigO hI hB2
    replace b52 : q_F (0 ≤ y50.toInt ∧ y50.toInt ≤ R2.toInt) := b52
    replace b53 : q_F (0 ≤ y51.toInt ∧ y51.toInt ≤ 1) := b53
    refine q_get (ci := 2) (j := 2) (v := .int y51) C0 V i_Big rfl rfl hO49 (by decide) w_94 rfl d_2_31_169 ?_
    refine lv_aload_n hx hb d_2_31_172 rfl (lv_at hl 4 rfl) ?_
    obtain ⟨y55, y56, hO54, b57, b58⟩ := q_bigO hI hB3
    replace b57 : q_F (0 ≤ y55.toInt ∧ y55.toInt ≤ R3.toInt) := b57
    replace b58 : q_F (0 ≤ y56.toInt ∧ y56.toInt ≤ 1) := b58
    refine q_get (ci := 2) (j := 2) (v := .int y56) C0 V i_Big rfl rfl hO54 (by decide) w_94 rfl d_2_31_173 ?_
    refine lv_icmp_eq (tgt := 183) hx hb d_2_31_176 (by decide) (fun c59 => ?_) (fun c59 => ?_)
    ·
      have b60 : q_F (y51.toInt = y56.toInt) := (q_eqI c59)
      refine lv_iconst (v := 0) hx hb d_2_31_183 (by decide) ?_
      refine q_put (ci := 2) (j := 2) (v := .int 0) (ty := .boolean) C0 V i_Big o_Big n_Big rfl rfl hO42 (by decide) w_94 rfl rfl rfl rfl (Nat.le_of_ble_eq_true rfl) d_2_31_184 (fun H locs w61 hu62 hO42 V => ?_)
      replace hO42 : w61[k1]? = (some (q k1, .inr (2, [.ref (q (k1 + 1)), .int a22, .int 0])) : Option (Nat × va_E)) := hO42
      replace hI := q_bigO' hI hB1 hu62 hO42 ⟨(by have t1 : 0 ≤ R.toInt ∧ R.toInt ≤ 220 := hfk10; have t2 : 0 ≤ y2.toInt ∧ y2.toInt ≤ R2.toInt := b4; have t3 : 0 ≤ y7.toInt ∧ y7.toInt ≤ R3.toInt := b9; have t4 : a11.toInt = y2.toInt + y7.toInt := b13; have t5 : a22.toInt ≤ a11.toInt ∧ a22.toInt ≤ R.toInt ∧ (a22.toInt = a11.toInt ∨ a22.toInt = R.toInt) := b24; omega), (by have t1 : a22.toInt ≤ a11.toInt ∧ a22.toInt ≤ R.toInt ∧ (a22.toInt = a11.toInt ∨ a22.toInt = R.toInt) := b24; omega)⟩ ⟨(by have z9 : (0 : Int32).toInt = 0 := rfl; omega), (by have z9 : (0 : Int32).toInt = 0 := rfl; omega)⟩
      replace hF := q_us hF hu62 (by simp)
      refine lv_aload_n hx hb d_2_31_187 rfl (lv_at hl 2 rfl) ?_
      refine q_gov V (q_runV (As := []) (rest := []) (d := 1) (mc := 0) (ms := 0) (ci := 2) C0 V rfl LV_Big_36 (S_Big_trim l D g (nsh g q) q w61 k1 R hB1  hI   _) rfl rfl hO42 rfl hl.1 rfl (Nat.le_of_ble_eq_true rfl) ⟨by decide, by decide⟩ ⟨Nat.le_of_ble_eq_true rfl, Nat.le_of_ble_eq_true rfl⟩ d_2_31_188) (fun u63 H locs hp64 V => ?_)
      obtain ⟨_, hI, hu65⟩ := hp64
      replace hF := q_uc hF hu65 (by simp)
      exact q_retv C0 V (⟨hI, hF, trivial⟩) d_2_31_191
    ·
      have b66 : q_F (y51.toInt ≠ y56.toInt) := (q_neI c59)
      refine lv_iconst (v := 1) hx hb d_2_31_179 (by decide) ?_
      refine lv_goto (tgt := 184) hx hb d_2_31_180 (by decide) ?_
      refine q_put (ci := 2) (j := 2) (v := .int 1) (ty := .boolean) C0 V i_Big o_Big n_Big rfl rfl hO42 (by decide) w_94 rfl rfl rfl rfl (Nat.le_of_ble_eq_true rfl) d_2_31_184 (fun H locs w67 hu68 hO42 V => ?_)
      replace hO42 : w67[k1]? = (some (q k1, .inr (2, [.ref (q (k1 + 1)), .int a22, .int 1])) : Option (Nat × va_E)) := hO42
      replace hI := q_bigO' hI hB1 hu68 hO42 ⟨(by have t1 : 0 ≤ R.toInt ∧ R.toInt ≤ 220 := hfk10; have t2 : 0 ≤ y2.toInt ∧ y2.toInt ≤ R2.toInt := b4; have t3 : 0 ≤ y7.toInt ∧ y7.toInt ≤ R3.toInt := b9; have t4 : a11.toInt = y2.toInt + y7.toInt := b13; have t5 : a22.toInt ≤ a11.toInt ∧ a22.toInt ≤ R.toInt ∧ (a22.toInt = a11.toInt ∨ a22.toInt = R.toInt) := b24; omega), (by have t1 : a22.toInt ≤ a11.toInt ∧ a22.toInt ≤ R.toInt ∧ (a22.toInt = a11.toInt ∨ a22.toInt = R.toInt) := b24; omega)⟩ ⟨(by have z9 : (1 : Int32).toInt = 1 := rfl; omega), (by have z9 : (1 : Int32).toInt = 1 := rfl; omega)⟩
      replace hF := q_us hF hu68 (by simp)
      refine lv_aload_n hx hb d_2_31_187 rfl (lv_at hl 2 rfl) ?_
      refine q_gov V (q_runV (As := []) (rest := []) (d := 1) (mc := 0) (ms := 0) (ci := 2) C0 V rfl LV_Big_36 (S_Big_trim l D g (nsh g q) q w67 k1 R hB1  hI   _) rfl rfl hO42 rfl hl.1 rfl (Nat.le_of_ble_eq_true rfl) ⟨by decide, by decide⟩ ⟨Nat.le_of_ble_eq_true rfl, Nat.le_of_ble_eq_true rfl⟩ d_2_31_188) (fun u69 H locs hp70 V => ?_)
      obtain ⟨_, hI, hu71⟩ := hp70
      replace hF := q_uc hF hu71 (by simp)
      exact q_retv C0 V (⟨hI, hF, trivial⟩) d_2_31_191
  ·
    have b72 : q_F (lx30.toInt < y36.toInt) := (q_nleI c40)
    refine lv_aload_n hx hb d_2_31_40 rfl (lv_at hl 4 rfl) ?_
    obtain ⟨y74, y75, hO73, b76, b77⟩ := q_bigO hI hB3
    replace b76 : q_F (0 ≤ y74.toInt ∧ y74.toInt ≤ R3.toInt) := b76
    replace b77 : q_F (0 ≤ y75.toInt ∧ y75.toInt ≤ 1) := b77
    refine q_get (ci := 2) (j := 1) (v := .int y74) C0 V i_Big rfl rfl hO73 (by decide) w_85 rfl d_2_31_41 ?_
    refine lv_iload_n hx hb d_2_31_44 rfl (lv_at hl 1 rfl) ?_
    refine lv_iload hx hb d_2_31_45 (lv_at hl 0 rfl) ?_
    refine lv_isub hx hb d_2_31_47 ?_
    obtain ⟨a78, e79⟩ := q_nm (a22 - lx30 : Int32)
    refine q_ti (v := a78) e79 ?_
    have b80 : q_F (a78.toInt = a22.toInt - lx30.toInt) := (by rw [← e79]; show (a22 - lx30 : Int32).toInt = a22.toInt - lx30.toInt; exact q_subI (x := a22.toInt) (y := lx30.toInt) rfl rfl (by have t1 : 0 ≤ R.toInt ∧ R.toInt ≤ 220 := hfk10; have t2 : 0 ≤ R2.toInt ∧ R2.toInt ≤ 220 := hfk20; have t3 : 0 ≤ y2.toInt ∧ y2.toInt ≤ R2.toInt := b4; have t4 : 0 ≤ y7.toInt ∧ y7.toInt ≤ R3.toInt := b9; have t5 : a11.toInt = y2.toInt + y7.toInt := b13; have t6 : a22.toInt ≤ a11.toInt ∧ a22.toInt ≤ R.toInt ∧ (a22.toInt = a11.toInt ∨ a22.toInt = R.toInt) := b24; have t7 : lx30.toInt ≤ R2.toInt := i32; have t8 : 0 ≤ lx30.toInt := i31; have _ := q_lo32 (x := R); have _ := q_hi32 (x := R); omega) (by have t1 : 0 ≤ R.toInt ∧ R.toInt ≤ 220 := hfk10; have t2 : 0 ≤ R2.toInt ∧ R2.toInt ≤ 220 := hfk20; have t3 : 0 ≤ y2.toInt ∧ y2.toInt ≤ R2.toInt := b4; have t4 : 0 ≤ y7.toInt ∧ y7.toInt ≤ R3.toInt := b9; have t5 : a11.toInt = y2.toInt + y7.toInt := b13; have t6 : a22.toInt ≤ a11.toInt ∧ a22.toInt ≤ R.toInt ∧ (a22.toInt = a11.toInt ∨ a22.toInt = R.toInt) := b24; have t7 : lx30.toInt ≤ R2.toInt := i32; have t8 : 0 ≤ lx30.toInt := i31; have _ := q_lo32 (x := R); have _ := q_hi32 (x := R); omega))
    refine q_min C0 hl.1 rfl w_773 w_774 w_7 w_775 ⟨Nat.le_of_ble_eq_true rfl, Nat.le_of_ble_eq_true rfl⟩ ⟨Nat.le_of_ble_eq_true rfl, Nat.le_of_ble_eq_true rfl⟩ d_2_31_48 ?_
    obtain ⟨a81, e82⟩ := q_nm (if a78 < y74 then a78 else y74 : Int32)
    refine q_ti (v := a81) e82 ?_
    have b83 : q_F (a81.toInt ≤ y74.toInt ∧ a81.toInt ≤ a78.toInt ∧ (a81.toInt = y74.toInt ∨ a81.toInt = a78.toInt)) := (by rw [← e82]; show (if a78 < y74 then a78 else y74 : Int32).toInt ≤ y74.toInt ∧ (if a78 < y74 then a78 else y74 : Int32).toInt ≤ a78.toInt ∧ ((if a78 < y74 then a78 else y74 : Int32).toInt = y74.toInt ∨ (if a78 < y74 then a78 else y74 : Int32).toInt = a78.toInt); exact s_min (a := y74) (b := a78))
    refine lv_istore (lv' := [(5, .int a81), (4, .int lx30), (3, .int a22), (0, .ref (q k1)), (1, .ref (q k2)), (2, .ref (q k3))]) hx hb d_2_31_51 hl (by decide) rfl (fun ls hl => ?_)
    refine lv_aload_n hx hb d_2_31_53 rfl (lv_at hl 4 rfl) ?_
    refine q_get (ci := 2) (j := 0) (v := .ref (q (k2 + 1))) C0 V i_Big rfl rfl hO35 (by decide) w_84 rfl d_2_31_54 ?_
    refine lv_iload hx hb d_2_31_57 (lv_at hl 1 rfl) ?_
    obtain ⟨f84, hA85, bf86⟩ := q_bigA hI hB2
    refine q_iald C0 V hA85 (q_ix (x := lx30.toInt) rfl (by have t1 : 0 ≤ lx30.toInt := i31; omega) (by have t1 : 0 ≤ lx30.toInt := i31; have t2 : 0 ≤ y36.toInt ∧ y36.toInt ≤ R2.toInt := b38; have t3 : lx30.toInt < y36.toInt := b72; have e9 := q_clI (i := R2) rfl (by have t1 : 0 ≤ R2.toInt ∧ R2.toInt ≤ 220 := hfk20; omega); omega)) d_2_31_59 ?_
    obtain ⟨a87, e88⟩ := q_nm (f84 lx30.toNatClampNeg : Int32)
    refine q_ti (v := a87) e88 ?_
    refine lv_i2l hx hb d_2_31_60 rfl ?_
    obtain ⟨j89, e90⟩ := q_nm (a87.toInt64 : Int64)
    refine q_tl (v := j89) e90 ?_
    have b91 : q_F (j89.toInt = a87.toInt) := (by rw [← e90]; show (a87.toInt64 : Int64).toInt = a87.toInt; exact q_i2l rfl)
    refine lv_lstore (lv' := [(6, .long j89), (5, .int a81), (4, .int lx30), (3, .int a22), (0, .ref (q k1)), (1, .ref (q k2)), (2, .ref (q k3))]) hx hb d_2_31_61 hl (by decide) rfl (fun ls hl => ?_)
    refine lv_lconst (v := 0) hx hb d_2_31_63 (by decide) ?_
    refine lv_lstore (lv' := [(8, .long 0), (6, .long j89), (5, .int a81), (4, .int lx30), (3, .int a22), (0, .ref (q k1)), (1, .ref (q k2)), (2, .ref (q k3))]) hx hb d_2_31_64 hl (by decide) rfl (fun ls hl => ?_)
    refine lv_iconst (v := 0) hx hb d_2_31_66 (by decide) ?_
    refine lv_istore (lv' := [(10, .int 0), (8, .long 0), (6, .long j89), (5, .int a81), (4, .int lx30), (3, .int a22), (0, .ref (q k1)), (1, .ref (q k2)), (2, .ref (q k3))]) hx hb d_2_31_67 hl (by decide) rfl (fun ls hl => ?_)
    refine q_loop (X := Int32 × Int64) (fun z H locs ls w99 => q_F (0 ≤ z.1.toInt) ∧ q_F (0 ≤ z.2.toInt) ∧ q_F (z.1.toInt ≤ a22.toInt) ∧ q_F (z.1.toInt ≤ y74.toInt) ∧ q_Wd D g (va_A ws sz) s w99 H locs ∧ lv_has ls 13 [(10, .int z.1), (8, .long z.2), (6, .long j89), (5, .int a81), (4, .int lx30), (3, .int a22), (0, .ref (q k1)), (1, .ref (q k2)), (2, .ref (q k3))] ∧ q_I (nsh g q) q w99 ∧ q_un ws w99 [k1, k1 + 1]) (fun z => (220 - z.1.toInt).toNat) ?_ ((0 : Int32), (0 : Int64)) _ _ _ w34 ⟨(show q_F (0 ≤ 0) from (show 0 ≤ 0 from by omega)), (show q_F (0 ≤ 0) from (show 0 ≤ 0 from by omega)), (show q_F (0 ≤ a22.toInt) from (show 0 ≤ a22.toInt from by have t1 : 0 ≤ R.toInt ∧ R.toInt ≤ 220 := hfk10; have t2 : 0 ≤ y2.toInt ∧ y2.toInt ≤ R2.toInt := b4; have t3 : 0 ≤ y7.toInt ∧ y7.toInt ≤ R3.toInt := b9; have t4 : a11.toInt = y2.toInt + y7.toInt := b13; have t5 : a22.toInt ≤ a11.toInt ∧ a22.toInt ≤ R.toInt ∧ (a22.toInt = a11.toInt ∨ a22.toInt = R.toInt) := b24; omega)), (show q_F (0 ≤ y74.toInt) from (show 0 ≤ y74.toInt from by have t1 : 0 ≤ y74.toInt ∧ y74.toInt ≤ R3.toInt := b76; omega)), V, q_lw hl (q_lw1 0 rfl (q_lw1 1 rfl (q_lw1 2 rfl (q_lw1 3 rfl (q_lw1 4 rfl (q_lw1 5 rfl (q_lw1 6 rfl (q_lw1 7 rfl (q_lw1 8 rfl q_lw0))))))))), hI, hF⟩
    rintro ⟨lx92, lx93⟩ H locs ls w99 ⟨i94, i95, i96, i97, V, hl, hI, hF⟩ ih98
    replace i94 : q_F (0 ≤ lx92.toInt) := i94
    replace i95 : q_F (0 ≤ lx93.toInt) := i95
    replace i96 : q_F (lx92.toInt ≤ a22.toInt) := i96
    replace i97 : q_F (lx92.toInt ≤ y74.toInt) := i97
    replace hl : lv_has ls 13 [(10, .int lx92), (8, .long lx93), (6, .long j89), (5, .int a81), (4, .int lx30), (3, .int a22), (0, .ref (q k1)), (1, .ref (q k2)), (2, .ref (q k3))] := hl
    refine lv_iload hx hb d_2_31_69 (lv_at hl 0 rfl) ?_
    refine lv_iload hx hb d_2_31_71 (lv_at hl 3 rfl) ?_
    refine lv_icmp_ge (tgt := 134) hx hb d_2_31_73 (by decide) (fun c100 => ?_) (fun c100 => ?_)
    ·
      have b101 : q_F (a81.toInt ≤ lx92.toInt) := (q_leI c100)
      refine lv_iload hx hb d_2_31_134 (lv_at hl 4 rfl) ?_
      refine lv_iload hx hb d_2_31_136 (lv_at hl 3 rfl) ?_
      refine lv_iadd hx hb d_2_31_138 ?_
      obtain ⟨a102, e103⟩ := q_nm (lx30 + a81 : Int32)
      refine q_ti (v := a102) e103 ?_
      have b104 : q_F (a102.toInt = lx30.toInt + a81.toInt) := (by rw [← e103]; show (lx30 + a81 : Int32).toInt = lx30.toInt + a81.toInt; exact q_addI (x := lx30.toInt) (y := a81.toInt) rfl rfl (by have t1 : 0 ≤ lx30.toInt := i31; have _ := q_lo32 (x := a81); have _ := q_hi32 (x := a81); have t2 : a78.toInt = a22.toInt - lx30.toInt := b80; have t3 : a81.toInt ≤ y74.toInt ∧ a81.toInt ≤ a78.toInt ∧ (a81.toInt = y74.toInt ∨ a81.toInt = a78.toInt) := b83; have _ := q_lo32 (x := a22); have _ := q_hi32 (x := a22); omega) (by have t1 : 0 ≤ lx30.toInt := i31; have _ := q_lo32 (x := a81); have _ := q_hi32 (x := a81); have t2 : a78.toInt = a22.toInt - lx30.toInt := b80; have t3 : a81.toInt ≤ y74.toInt ∧ a81.toInt ≤ a78.toInt ∧ (a81.toInt = y74.toInt ∨ a81.toInt = a78.toInt) := b83; have _ := q_lo32 (x := a22); have _ := q_hi32 (x := a22); omega))
      refine lv_iload_n hx hb d_2_31_139 rfl (lv_at hl 5 rfl) ?_
      refine lv_icmp_ge (tgt := 156) hx hb d_2_31_140 (by decide) (fun c105 => ?_) (fun c105 => ?_)
      ·
        have b106 : q_F (a22.toInt ≤ a102.toInt) := (q_leI c105)
        obtain ⟨a107, e108⟩ := q_nm (lx30 + 1 : Int32)
        have b109 : q_F (a107.toInt = lx30.toInt + 1) := (by rw [← e108]; exact q_addI (y := 1) rfl (by decide) (by have t1 : 0 ≤ lx30.toInt := i31; have t2 : lx30.toInt < y36.toInt := b72; have _ := q_lo32 (x := y36); have _ := q_hi32 (x := y36); omega) (by have t1 : 0 ≤ lx30.toInt := i31; have t2 : lx30.toInt < y36.toInt := b72; have _ := q_lo32 (x := y36); have _ := q_hi32 (x := y36); omega))
        refine lv_iinc (v := a107) (lv' := [(4, .int a107), (10, .int lx92), (8, .long lx93), (6, .long j89), (5, .int a81), (3, .int a22), (0, .ref (q k1)), (1, .ref (q k2)), (2, .ref (q k3))]) hx hb d_2_31_156 hl (k := 4) rfl (e108) (by decide) rfl (fun ls hl => ?_)
        refine lv_goto (tgt := 31) hx hb d_2_31_159 (by decide) ?_
        exact ih33 ((a107 : Int32)) _ _ _ _ (show (220 - a107.toInt).toNat < (220 - lx30.toInt).toNat from by have t1 : a107.toInt = lx30.toInt + 1 := b109; have t2 : 0 ≤ R2.toInt ∧ R2.toInt ≤ 220 := hfk20; have t3 : lx30.toInt ≤ R2.toInt := i32; have t4 : 0 ≤ y36.toInt ∧ y36.toInt ≤ R2.toInt := b38; have t5 : lx30.toInt < y36.toInt := b72; omega) ⟨(show q_F (0 ≤ a107.toInt) from (show 0 ≤ a107.toInt from by have t1 : 0 ≤ lx30.toInt := i31; have t2 : a107.toInt = lx30.toInt + 1 := b109; omega)), (show q_F (a107.toInt ≤ R2.toInt) from (show a107.toInt ≤ R2.toInt from by have t1 : 0 ≤ y36.toInt ∧ y36.toInt ≤ R2.toInt := b38; have t2 : lx30.toInt < y36.toInt := b72; have t3 : a107.toInt = lx30.toInt + 1 := b109; omega)), V, q_lw hl (q_lw1 0 rfl (q_lw1 5 rfl (q_lw1 6 rfl (q_lw1 7 rfl (q_lw1 8 rfl q_lw0))))), hI, hF⟩
      ·
        have b110 : q_F (a102.toInt < a22.toInt) := (q_nleI c105)
        refine lv_aload_n hx hb d_2_31_143 rfl (lv_at hl 6 rfl) ?_
        obtain ⟨y112, y113, hO111, b114, b115⟩ := q_bigO hI hB1
        replace b114 : q_F (0 ≤ y112.toInt ∧ y112.toInt ≤ R.toInt) := b114
        replace b115 : q_F (0 ≤ y113.toInt ∧ y113.toInt ≤ 1) := b115
        refine q_get (ci := 2) (j := 0) (v := .ref (q (k1 + 1))) C0 V i_Big rfl rfl hO111 (by decide) w_84 rfl d_2_31_144 ?_
        refine lv_iload hx hb d_2_31_147 (lv_at hl 4 rfl) ?_
        refine lv_iload hx hb d_2_31_149 (lv_at hl 3 rfl) ?_
        refine lv_iadd hx hb d_2_31_151 ?_
        obtain ⟨a116, e117⟩ := q_nm (lx30 + a81 : Int32)
        refine q_ti (v := a116) e117 ?_
        have b118 : q_F (a116.toInt = lx30.toInt + a81.toInt) := (by rw [← e117]; show (lx30 + a81 : Int32).toInt = lx30.toInt + a81.toInt; exact q_addI (x := lx30.toInt) (y := a81.toInt) rfl rfl (by have t1 : a102.toInt = lx30.toInt + a81.toInt := b104; have _ := q_lo32 (x := a102); have _ := q_hi32 (x := a102); omega) (by have t1 : a102.toInt = lx30.toInt + a81.toInt := b104; have _ := q_lo32 (x := a102); have _ := q_hi32 (x := a102); omega))
        refine lv_lload hx hb d_2_31_152 (lv_at hl 1 rfl) ?_
        refine lv_l2i hx hb d_2_31_154 rfl ?_
        obtain ⟨a119, e120⟩ := q_nm (lx93.toInt32 : Int32)
        refine q_ti (v := a119) e120 ?_
        obtain ⟨f121, hA122, bf123⟩ := q_bigA hI hB1
        refine q_iast C0 V hA122 (q_ix (x := a116.toInt) rfl (by have t1 : 0 ≤ lx30.toInt := i31; have t2 : 0 ≤ y74.toInt ∧ y74.toInt ≤ R3.toInt := b76; have t3 : a78.toInt = a22.toInt - lx30.toInt := b80; have t4 : a81.toInt ≤ y74.toInt ∧ a81.toInt ≤ a78.toInt ∧ (a81.toInt = y74.toInt ∨ a81.toInt = a78.toInt) := b83; have t5 : 0 ≤ lx92.toInt := i94; have t6 : lx92.toInt ≤ a22.toInt := i96; have t7 : a116.toInt = lx30.toInt + a81.toInt := b118; omega) (by have t1 : 0 ≤ lx30.toInt := i31; have t2 : 0 ≤ y74.toInt ∧ y74.toInt ≤ R3.toInt := b76; have t3 : a78.toInt = a22.toInt - lx30.toInt := b80; have t4 : a81.toInt ≤ y74.toInt ∧ a81.toInt ≤ a78.toInt ∧ (a81.toInt = y74.toInt ∨ a81.toInt = a78.toInt) := b83; have t5 : 0 ≤ lx92.toInt := i94; have t6 : lx92.toInt ≤ a22.toInt := i96; have t7 : a116.toInt = lx30.toInt + a81.toInt := b118; have t8 : a22.toInt ≤ a11.toInt ∧ a22.toInt ≤ R.toInt ∧ (a22.toInt = a11.toInt ∨ a22.toInt = R.toInt) := b24; have t9 : a102.toInt = lx30.toInt + a81.toInt := b104; have t10 : a102.toInt < a22.toInt := b110; have e9 := q_clI (i := R) rfl (by have t1 : 0 ≤ R.toInt ∧ R.toInt ≤ 220 := hfk10; omega); omega)) d_2_31_155 (fun H locs w124 hu125 hA122 V => ?_)
        replace hI := q_bigA' hI hB1 hu125 hA122 (q_updB bf123 s_bnd)
        replace hO111 := (hu125 _ (by omega)).trans hO111
        replace hF := q_us hF hu125 (by simp)
        obtain ⟨a126, e127⟩ := q_nm (lx30 + 1 : Int32)
        have b128 : q_F (a126.toInt = lx30.toInt + 1) := (by rw [← e127]; exact q_addI (y := 1) rfl (by decide) (by have t1 : 0 ≤ lx30.toInt := i31; have t2 : lx30.toInt < y36.toInt := b72; have _ := q_lo32 (x := y36); have _ := q_hi32 (x := y36); omega) (by have t1 : 0 ≤ lx30.toInt := i31; have t2 : lx30.toInt < y36.toInt := b72; have _ := q_lo32 (x := y36); have _ := q_hi32 (x := y36); omega))
        refine lv_iinc (v := a126) (lv' := [(4, .int a126), (10, .int lx92), (8, .long lx93), (6, .long j89), (5, .int a81), (3, .int a22), (0, .ref (q k1)), (1, .ref (q k2)), (2, .ref (q k3))]) hx hb d_2_31_156 hl (k := 4) rfl (e127) (by decide) rfl (fun ls hl => ?_)
        refine lv_goto (tgt := 31) hx hb d_2_31_159 (by decide) ?_
        exact ih33 ((a126 : Int32)) _ _ _ _ (show (220 - a126.toInt).toNat < (220 - lx30.toInt).toNat from by have t1 : a126.toInt = lx30.toInt + 1 := b128; have t2 : 0 ≤ R2.toInt ∧ R2.toInt ≤ 220 := hfk20; have t3 : lx30.toInt ≤ R2.toInt := i32; have t4 : 0 ≤ y36.toInt ∧ y36.toInt ≤ R2.toInt := b38; have t5 : lx30.toInt < y36.toInt := b72; omega) ⟨(show q_F (0 ≤ a126.toInt) from (show 0 ≤ a126.toInt from by have t1 : 0 ≤ lx30.toInt := i31; have t2 : a126.toInt = lx30.toInt + 1 := b128; omega)), (show q_F (a126.toInt ≤ R2.toInt) from (show a126.toInt ≤ R2.toInt from by have t1 : 0 ≤ y36.toInt ∧ y36.toInt ≤ R2.toInt := b38; have t2 : lx30.toInt < y36.toInt := b72; have t3 : a126.toInt = lx30.toInt + 1 := b128; omega)), V, q_lw hl (q_lw1 0 rfl (q_lw1 5 rfl (q_lw1 6 rfl (q_lw1 7 rfl (q_lw1 8 rfl q_lw0))))), hI, hF⟩
    ·
      have b129 : q_F (lx92.toInt < a81.toInt) := (q_nleI c100)
      refine lv_lload hx hb d_2_31_76 (lv_at hl 2 rfl) ?_
      refine lv_aload_n hx hb d_2_31_78 rfl (lv_at hl 8 rfl) ?_
      obtain ⟨y131, y132, hO130, b133, b134⟩ := q_bigO hI hB3
      replace b133 : q_F (0 ≤ y131.toInt ∧ y131.toInt ≤ R3.toInt) := b133
      replace b134 : q_F (0 ≤ y132.toInt ∧ y132.toInt ≤ 1) := b134
      refine q_get (ci := 2) (j := 0) (v := .ref (q (k3 + 1))) C0 V i_Big rfl rfl hO130 (by decide) w_84 rfl d_2_31_79 ?_
      refine lv_iload hx hb d_2_31_82 (lv_at hl 0 rfl) ?_
      obtain ⟨f135, hA136, bf137⟩ := q_bigA hI hB3
      refine q_iald C0 V hA136 (q_ix (x := lx92.toInt) rfl (by have t1 : 0 ≤ lx92.toInt := i94; omega) (by have t1 : 0 ≤ lx92.toInt := i94; have t2 : 0 ≤ y74.toInt ∧ y74.toInt ≤ R3.toInt := b76; have t3 : a81.toInt ≤ y74.toInt ∧ a81.toInt ≤ a78.toInt ∧ (a81.toInt = y74.toInt ∨ a81.toInt = a78.toInt) := b83; have t4 : lx92.toInt < a81.toInt := b129; have e9 := q_clI (i := R3) rfl (by have t1 : 0 ≤ R3.toInt ∧ R3.toInt ≤ 220 := hfk30; omega); omega)) d_2_31_84 ?_
      obtain ⟨a138, e139⟩ := q_nm (f135 lx92.toNatClampNeg : Int32)
      refine q_ti (v := a138) e139 ?_
      refine lv_i2l hx hb d_2_31_85 rfl ?_
      obtain ⟨j140, e141⟩ := q_nm (a138.toInt64 : Int64)
      refine q_tl (v := j140) e141 ?_
      have b142 : q_F (j140.toInt = a138.toInt) := (by rw [← e141]; show (a138.toInt64 : Int64).toInt = a138.toInt; exact q_i2l rfl)
      refine lv_lmul hx hb d_2_31_86 ?_
      obtain ⟨j143, e144⟩ := q_nm (j89 * j140 : Int64)
      refine q_tl (v := j143) e144 ?_
      refine lv_aload_n hx hb d_2_31_87 rfl (lv_at hl 6 rfl) ?_
      obtain ⟨y146, y147, hO145, b148, b149⟩ := q_bigO hI hB1
      replace b148 : q_F (0 ≤ y146.toInt ∧ y146.toInt ≤ R.toInt) := b148
      replace b149 : q_F (0 ≤ y147.toInt ∧ y147.toInt ≤ 1) := b149
      refine q_get (ci := 2) (j := 0) (v := .ref (q (k1 + 1))) C0 V i_Big rfl rfl hO145 (by decide) w_84 rfl d_2_31_88 ?_
      refine lv_iload hx hb d_2_31_91 (lv_at hl 4 rfl) ?_
      refine lv_iload hx hb d_2_31_93 (lv_at hl 0 rfl) ?_
      refine lv_iadd hx hb d_2_31_95 ?_
      obtain ⟨a150, e151⟩ := q_nm (lx30 + lx92 : Int32)
      refine q_ti (v := a150) e151 ?_
      have b152 : q_F (a150.toInt = lx30.toInt + lx92.toInt) := (by rw [← e151]; show (lx30 + lx92 : Int32).toInt = lx30.toInt + lx92.toInt; exact q_addI (x := lx30.toInt) (y := lx92.toInt) rfl rfl (by have t1 : 0 ≤ lx30.toInt := i31; have t2 : 0 ≤ lx92.toInt := i94; have t3 : a22.toInt ≤ a11.toInt ∧ a22.toInt ≤ R.toInt ∧ (a22.toInt = a11.toInt ∨ a22.toInt = R.toInt) := b24; have t4 : a78.toInt = a22.toInt - lx30.toInt := b80; have t5 : a81.toInt ≤ y74.toInt ∧ a81.toInt ≤ a78.toInt ∧ (a81.toInt = y74.toInt ∨ a81.toInt = a78.toInt) := b83; have t6 : lx92.toInt < a81.toInt := b129; have _ := q_lo32 (x := R); have _ := q_hi32 (x := R); omega) (by have t1 : 0 ≤ lx30.toInt := i31; have t2 : 0 ≤ lx92.toInt := i94; have t3 : a22.toInt ≤ a11.toInt ∧ a22.toInt ≤ R.toInt ∧ (a22.toInt = a11.toInt ∨ a22.toInt = R.toInt) := b24; have t4 : a78.toInt = a22.toInt - lx30.toInt := b80; have t5 : a81.toInt ≤ y74.toInt ∧ a81.toInt ≤ a78.toInt ∧ (a81.toInt = y74.toInt ∨ a81.toInt = a78.toInt) := b83; have t6 : lx92.toInt < a81.toInt := b129; have _ := q_lo32 (x := R); have _ := q_hi32 (x := R); omega))
      obtain ⟨f153, hA154, bf155⟩ := q_bigA hI hB1
      refine q_iald C0 V hA154 (q_ix (x := a150.toInt) rfl (by have t1 : 0 ≤ lx30.toInt := i31; have t2 : 0 ≤ lx92.toInt := i94; have t3 : a150.toInt = lx30.toInt + lx92.toInt := b152; omega) (by have t1 : 0 ≤ lx30.toInt := i31; have t2 : 0 ≤ lx92.toInt := i94; have t3 : a150.toInt = lx30.toInt + lx92.toInt := b152; have t4 : a22.toInt ≤ a11.toInt ∧ a22.toInt ≤ R.toInt ∧ (a22.toInt = a11.toInt ∨ a22.toInt = R.toInt) := b24; have t5 : a78.toInt = a22.toInt - lx30.toInt := b80; have t6 : a81.toInt ≤ y74.toInt ∧ a81.toInt ≤ a78.toInt ∧ (a81.toInt = y74.toInt ∨ a81.toInt = a78.toInt) := b83; have t7 : lx92.toInt < a81.toInt := b129; have e9 := q_clI (i := R) rfl (by have t1 : 0 ≤ R.toInt ∧ R.toInt ≤ 220 := hfk10; omega); omega)) d_2_31_96 ?_
      obtain ⟨a156, e157⟩ := q_nm (f153 a150.toNatClampNeg : Int32)
      refine q_ti (v := a156) e157 ?_
      refine lv_i2l hx hb d_2_31_97 rfl ?_
      obtain ⟨j158, e159⟩ := q_nm (a156.toInt64 : Int64)
      refine q_tl (v := j158) e159 ?_
      have b160 : q_F (j158.toInt = a156.toInt) := (by rw [← e159]; show (a156.toInt64 : Int64).toInt = a156.toInt; exact q_i2l rfl)
      refine lv_ladd hx hb d_2_31_98 ?_
      obtain ⟨j161, e162⟩ := q_nm (j143 + j158 : Int64)
      refine q_tl (v := j161) e162 ?_
      refine lv_lload hx hb d_2_31_99 (lv_at hl 1 rfl) ?_
      refine lv_ladd hx hb d_2_31_101 ?_
      obtain ⟨j163, e164⟩ := q_nm (j161 + lx93 : Int64)
      refine q_tl (v := j163) e164 ?_
      refine lv_lstore (lv' := [(11, .long j163), (10, .int lx92), (8, .long lx93), (6, .long j89), (5, .int a81), (4, .int lx30), (3, .int a22), (0, .ref (q k1)), (1, .ref (q k2)), (2, .ref (q k3))]) hx hb d_2_31_102 hl (by decide) rfl (fun ls hl => ?_)
      refine lv_aload_n hx hb d_2_31_104 rfl (lv_at hl 7 rfl) ?_
      refine q_get (ci := 2) (j := 0) (v := .ref (q (k1 + 1))) C0 V i_Big rfl rfl hO145 (by decide) w_84 rfl d_2_31_105 ?_
      refine lv_iload hx hb d_2_31_108 (lv_at hl 5 rfl) ?_
      refine lv_iload hx hb d_2_31_110 (lv_at hl 1 rfl) ?_
      refine lv_iadd hx hb d_2_31_112 ?_
      obtain ⟨a165, e166⟩ := q_nm (lx30 + lx92 : Int32)
      refine q_ti (v := a165) e166 ?_
      have b167 : q_F (a165.toInt = lx30.toInt + lx92.toInt) := (by rw [← e166]; show (lx30 + lx92 : Int32).toInt = lx30.toInt + lx92.toInt; exact q_addI (x := lx30.toInt) (y := lx92.toInt) rfl rfl (by have t1 : 0 ≤ lx30.toInt := i31; have t2 : 0 ≤ lx92.toInt := i94; have t3 : a150.toInt = lx30.toInt + lx92.toInt := b152; have _ := q_lo32 (x := a150); have _ := q_hi32 (x := a150); omega) (by have t1 : 0 ≤ lx30.toInt := i31; have t2 : 0 ≤ lx92.toInt := i94; have t3 : a150.toInt = lx30.toInt + lx92.toInt := b152; have _ := q_lo32 (x := a150); have _ := q_hi32 (x := a150); omega))
      refine lv_lload hx hb d_2_31_113 (lv_at hl 0 rfl) ?_
      refine q_ldc2 C0 rfl w_201 d_2_31_115 ?_
      refine lv_land hx hb d_2_31_118 ?_
      obtain ⟨j168, e169⟩ := q_nm (j163 &&& 2147483647 : Int64)
      refine q_tl (v := j168) e169 ?_
      have b170 : q_F (0 ≤ j168.toInt ∧ j168.toInt ≤ 2147483647) := (by rw [← e169]; show 0 ≤ (j163 &&& 2147483647 : Int64).toInt ∧ (j163 &&& 2147483647 : Int64).toInt ≤ 2147483647; exact s_andJ (by decide))
      refine lv_l2i hx hb d_2_31_119 rfl ?_
      obtain ⟨a171, e172⟩ := q_nm (j168.toInt32 : Int32)
      refine q_ti (v := a171) e172 ?_
      have b173 : q_F (a171.toInt = j168.toInt) := (by rw [← e172]; show (j168.toInt32 : Int32).toInt = j168.toInt; exact s_l2i (by have t1 : 0 ≤ j168.toInt ∧ j168.toInt ≤ 2147483647 := b170; omega) (by have t1 : 0 ≤ j168.toInt ∧ j168.toInt ≤ 2147483647 := b170; omega))
      have ne176 := q_df hA154 hO130
      refine q_iast C0 V hA154 (q_ix (x := a165.toInt) rfl (by have t1 : 0 ≤ lx30.toInt := i31; have t2 : 0 ≤ lx92.toInt := i94; have t3 : a165.toInt = lx30.toInt + lx92.toInt := b167; omega) (by have t1 : 0 ≤ lx30.toInt := i31; have t2 : 0 ≤ lx92.toInt := i94; have t3 : a165.toInt = lx30.toInt + lx92.toInt := b167; have t4 : a22.toInt ≤ a11.toInt ∧ a22.toInt ≤ R.toInt ∧ (a22.toInt = a11.toInt ∨ a22.toInt = R.toInt) := b24; have t5 : a78.toInt = a22.toInt - lx30.toInt := b80; have t6 : a81.toInt ≤ y74.toInt ∧ a81.toInt ≤ a78.toInt ∧ (a81.toInt = y74.toInt ∨ a81.toInt = a78.toInt) := b83; have t7 : lx92.toInt < a81.toInt := b129; have e9 := q_clI (i := R) rfl (by have t1 : 0 ≤ R.toInt ∧ R.toInt ≤ 220 := hfk10; omega); omega)) d_2_31_120 (fun H locs w174 hu175 hA154 V => ?_)
      replace hI := q_bigA' hI hB1 hu175 hA154 (q_updB bf155 s_bnd)
      replace hO130 := (hu175 _ (Ne.symm ne176)).trans hO130
      replace hO145 := (hu175 _ (by omega)).trans hO145
      replace hF := q_us hF hu175 (by simp)
      refine lv_lload hx hb d_2_31_121 (lv_at hl 0 rfl) ?_
      refine lv_bipush (v := 31) hx hb d_2_31_123 (by decide) ?_
      refine lv_lushr hx hb d_2_31_125 rfl ?_
      obtain ⟨j177, e178⟩ := q_nm ((j163.toUInt64 >>> ((31 : Int32).toInt64.toUInt64 &&& Int64.toUInt64 63)).toInt64 : Int64)
      refine q_tl (v := j177) e178 ?_
      have b179 : q_F (0 ≤ j177.toInt ∧ j177.toInt ≤ 8589934591) := (by rw [← e178]; show 0 ≤ ((j163.toUInt64 >>> ((31 : Int32).toInt64.toUInt64 &&& Int64.toUInt64 63)).toInt64 : Int64).toInt ∧ ((j163.toUInt64 >>> ((31 : Int32).toInt64.toUInt64 &&& Int64.toUInt64 63)).toInt64 : Int64).toInt ≤ 8589934591; exact (by have z := s_ushrJ (x := j163) (c := 31) 31 (by decide) (by decide); omega))
      refine lv_lstore (lv' := [(8, .long j177), (11, .long j163), (10, .int lx92), (6, .long j89), (5, .int a81), (4, .int lx30), (3, .int a22), (0, .ref (q k1)), (1, .ref (q k2)), (2, .ref (q k3))]) hx hb d_2_31_126 hl (by decide) rfl (fun ls hl => ?_)
      obtain ⟨a180, e181⟩ := q_nm (lx92 + 1 : Int32)
      have b182 : q_F (a180.toInt = lx92.toInt + 1) := (by rw [← e181]; exact q_addI (y := 1) rfl (by decide) (by have t1 : 0 ≤ lx92.toInt := i94; have t2 : lx92.toInt < a81.toInt := b129; have _ := q_lo32 (x := a81); have _ := q_hi32 (x := a81); omega) (by have t1 : 0 ≤ lx92.toInt := i94; have t2 : lx92.toInt < a81.toInt := b129; have _ := q_lo32 (x := a81); have _ := q_hi32 (x := a81); omega))
      refine lv_iinc (v := a180) (lv' := [(10, .int a180), (8, .long j177), (11, .long j163), (6, .long j89), (5, .int a81), (4, .int lx30), (3, .int a22), (0, .ref (q k1)), (1, .ref (q k2)), (2, .ref (q k3))]) hx hb d_2_31_128 hl (k := 2) rfl (e181) (by decide) rfl (fun ls hl => ?_)
      refine lv_goto (tgt := 69) hx hb d_2_31_131 (by decide) ?_
      exact ih98 ((a180 : Int32), (j177 : Int64)) _ _ _ _ (show (220 - a180.toInt).toNat < (220 - lx92.toInt).toNat from by have t1 : a180.toInt = lx92.toInt + 1 := b182; have t2 : 0 ≤ R.toInt ∧ R.toInt ≤ 220 := hfk10; have t3 : a22.toInt ≤ a11.toInt ∧ a22.toInt ≤ R.toInt ∧ (a22.toInt = a11.toInt ∨ a22.toInt = R.toInt) := b24; have t4 : lx92.toInt ≤ a22.toInt := i96; have t5 : 0 ≤ R3.toInt ∧ R3.toInt ≤ 220 := hfk30; have t6 : 0 ≤ y74.toInt ∧ y74.toInt ≤ R3.toInt := b76; have t7 : a81.toInt ≤ y74.toInt ∧ a81.toInt ≤ a78.toInt ∧ (a81.toInt = y74.toInt ∨ a81.toInt = a78.toInt) := b83; have t8 : lx92.toInt < a81.toInt := b129; omega) ⟨(show q_F (0 ≤ a180.toInt) from (show 0 ≤ a180.toInt from by have t1 : 0 ≤ lx92.toInt := i94; have t2 : a180.toInt = lx92.toInt + 1 := b182; omega)), (show q_F (0 ≤ j177.toInt) from (show 0 ≤ j177.toInt from by have t1 : 0 ≤ j177.toInt ∧ j177.toInt ≤ 8589934591 := b179; omega)), (show q_F (a180.toInt ≤ a22.toInt) from (show a180.toInt ≤ a22.toInt from by have t1 : 0 ≤ lx30.toInt := i31; have t2 : a78.toInt = a22.toInt - lx30.toInt := b80; have t3 : a81.toInt ≤ y74.toInt ∧ a81.toInt ≤ a78.toInt ∧ (a81.toInt = y74.toInt ∨ a81.toInt = a78.toInt) := b83; have t4 : lx92.toInt < a81.toInt := b129; have t5 : a180.toInt = lx92.toInt + 1 := b182; omega)), (show q_F (a180.toInt ≤ y74.toInt) from (show a180.toInt ≤ y74.toInt from by have t1 : a81.toInt ≤ y74.toInt ∧ a81.toInt ≤ a78.toInt ∧ (a81.toInt = y74.toInt ∨ a81.toInt = a78.toInt) := b83; have t2 : lx92.toInt < a81.toInt := b129; have t3 : a180.toInt = lx92.toInt + 1 := b182; omega)), V, q_lw hl (q_lw1 0 rfl (q_lw1 1 rfl (q_lw1 3 rfl (q_lw1 4 rfl (q_lw1 5 rfl (q_lw1 6 rfl (q_lw1 7 rfl (q_lw1 8 rfl (q_lw1 9 rfl q_lw0))))))))), hI, hF⟩
theorem d_2_32_0 : decode prog_2_method_32_code 0 = .ok (.iload_n 1, 1) := by decide +kernel
theorem d_2_32_1 : decode prog_2_method_32_code 1 = .ok (.bipush 31, 2) := by decide +kernel
theorem d_2_32_3 : decode prog_2_method_32_code 3 = .ok (.idiv, 1) := by decide +kernel
theorem d_2_32_4 : decode prog_2_method_32_code 4 = .ok (.istore_n 2, 1) := by decide +kernel
theorem d_2_32_5 : decode prog_2_method_32_code 5 = .ok (.iload_n 1, 1) := by decide +kernel
theorem d_2_32_6 : decode prog_2_method_32_code 6 = .ok (.bipush 31, 2) := by decide +kernel
theorem d_2_32_8 : decode prog_2_method_32_code 8 = .ok (.irem, 1) := by decide +kernel
theorem d_2_32_9 : decode prog_2_method_32_code 9 = .ok (.istore_n 3, 1) := by decide +kernel
theorem d_2_32_10 : decode prog_2_method_32_code 10 = .ok (.iload_n 1, 1) := by decide +kernel
theorem d_2_32_11 : decode prog_2_method_32_code 11 = .ok (.ifCond .le 19, 3) := by decide +kernel
theorem d_2_32_30 : decode prog_2_method_32_code 30 = .ok (.return_, 1) := by decide +kernel
theorem d_2_32_14 : decode prog_2_method_32_code 14 = .ok (.aload_n 0, 1) := by decide +kernel
theorem d_2_32_15 : decode prog_2_method_32_code 15 = .ok (.getfield 13, 3) := by decide +kernel
theorem d_2_32_18 : decode prog_2_method_32_code 18 = .ok (.ifCond .eq 12, 3) := by decide +kernel
theorem d_2_32_21 : decode prog_2_method_32_code 21 = .ok (.iload_n 2, 1) := by decide +kernel
theorem d_2_32_22 : decode prog_2_method_32_code 22 = .ok (.aload_n 0, 1) := by decide +kernel
theorem d_2_32_23 : decode prog_2_method_32_code 23 = .ok (.getfield 7, 3) := by decide +kernel
theorem d_2_32_26 : decode prog_2_method_32_code 26 = .ok (.arraylength, 1) := by decide +kernel
theorem d_2_32_27 : decode prog_2_method_32_code 27 = .ok (.if_icmp .lt 4, 3) := by decide +kernel
theorem d_2_32_31 : decode prog_2_method_32_code 31 = .ok (.aload_n 0, 1) := by decide +kernel
theorem d_2_32_32 : decode prog_2_method_32_code 32 = .ok (.getfield 7, 3) := by decide +kernel
theorem d_2_32_35 : decode prog_2_method_32_code 35 = .ok (.arraylength, 1) := by decide +kernel
theorem d_2_32_36 : decode prog_2_method_32_code 36 = .ok (.aload_n 0, 1) := by decide +kernel
theorem d_2_32_37 : decode prog_2_method_32_code 37 = .ok (.getfield 13, 3) := by decide +kernel
theorem d_2_32_40 : decode prog_2_method_32_code 40 = .ok (.iload_n 2, 1) := by decide +kernel
theorem d_2_32_41 : decode prog_2_method_32_code 41 = .ok (.iadd, 1) := by decide +kernel
theorem d_2_32_42 : decode prog_2_method_32_code 42 = .ok (.iconst 1, 1) := by decide +kernel
theorem d_2_32_43 : decode prog_2_method_32_code 43 = .ok (.iadd, 1) := by decide +kernel
theorem d_2_32_44 : decode prog_2_method_32_code 44 = .ok (.invokestatic 39, 3) := by decide +kernel
theorem d_2_32_47 : decode prog_2_method_32_code 47 = .ok (.istore 4, 2) := by decide +kernel
theorem d_2_32_49 : decode prog_2_method_32_code 49 = .ok (.iload 4, 2) := by decide +kernel
theorem d_2_32_51 : decode prog_2_method_32_code 51 = .ok (.iconst 1, 1) := by decide +kernel
theorem d_2_32_52 : decode prog_2_method_32_code 52 = .ok (.isub, 1) := by decide +kernel
theorem d_2_32_53 : decode prog_2_method_32_code 53 = .ok (.istore 5, 2) := by decide +kernel
theorem d_2_32_55 : decode prog_2_method_32_code 55 = .ok (.iload 5, 2) := by decide +kernel
theorem d_2_32_57 : decode prog_2_method_32_code 57 = .ok (.iload_n 2, 1) := by decide +kernel
theorem d_2_32_58 : decode prog_2_method_32_code 58 = .ok (.if_icmp .lt 45, 3) := by decide +kernel
theorem d_2_32_103 : decode prog_2_method_32_code 103 = .ok (.aload_n 0, 1) := by decide +kernel
theorem d_2_32_104 : decode prog_2_method_32_code 104 = .ok (.getfield 7, 3) := by decide +kernel
theorem d_2_32_107 : decode prog_2_method_32_code 107 = .ok (.iconst 0, 1) := by decide +kernel
theorem d_2_32_108 : decode prog_2_method_32_code 108 = .ok (.iload_n 2, 1) := by decide +kernel
theorem d_2_32_109 : decode prog_2_method_32_code 109 = .ok (.iconst 0, 1) := by decide +kernel
theorem d_2_32_110 : decode prog_2_method_32_code 110 = .ok (.invokestatic 108, 3) := by decide +kernel
theorem d_2_32_113 : decode prog_2_method_32_code 113 = .ok (.aload_n 0, 1) := by decide +kernel
theorem d_2_32_114 : decode prog_2_method_32_code 114 = .ok (.iload 4, 2) := by decide +kernel
theorem d_2_32_116 : decode prog_2_method_32_code 116 = .ok (.putfield 13, 3) := by decide +kernel
theorem d_2_32_119 : decode prog_2_method_32_code 119 = .ok (.aload_n 0, 1) := by decide +kernel
theorem d_2_32_120 : decode prog_2_method_32_code 120 = .ok (.invokevirtual 36, 3) := by decide +kernel
theorem d_2_32_123 : decode prog_2_method_32_code 123 = .ok (.return_, 1) := by decide +kernel
theorem d_2_32_61 : decode prog_2_method_32_code 61 = .ok (.aload_n 0, 1) := by decide +kernel
theorem d_2_32_62 : decode prog_2_method_32_code 62 = .ok (.getfield 7, 3) := by decide +kernel
theorem d_2_32_65 : decode prog_2_method_32_code 65 = .ok (.iload 5, 2) := by decide +kernel
theorem d_2_32_67 : decode prog_2_method_32_code 67 = .ok (.aload_n 0, 1) := by decide +kernel
theorem d_2_32_68 : decode prog_2_method_32_code 68 = .ok (.iload 5, 2) := by decide +kernel
theorem d_2_32_70 : decode prog_2_method_32_code 70 = .ok (.iload_n 2, 1) := by decide +kernel
theorem d_2_32_71 : decode prog_2_method_32_code 71 = .ok (.isub, 1) := by decide +kernel
theorem d_2_32_72 : decode prog_2_method_32_code 72 = .ok (.invokevirtual 49, 3) := by decide +kernel
theorem d_2_32_75 : decode prog_2_method_32_code 75 = .ok (.iload_n 3, 1) := by decide +kernel
theorem d_2_32_76 : decode prog_2_method_32_code 76 = .ok (.ishl, 1) := by decide +kernel
theorem d_2_32_77 : decode prog_2_method_32_code 77 = .ok (.aload_n 0, 1) := by decide +kernel
theorem d_2_32_78 : decode prog_2_method_32_code 78 = .ok (.iload 5, 2) := by decide +kernel
theorem d_2_32_80 : decode prog_2_method_32_code 80 = .ok (.iload_n 2, 1) := by decide +kernel
theorem d_2_32_81 : decode prog_2_method_32_code 81 = .ok (.isub, 1) := by decide +kernel
theorem d_2_32_82 : decode prog_2_method_32_code 82 = .ok (.iconst 1, 1) := by decide +kernel
theorem d_2_32_83 : decode prog_2_method_32_code 83 = .ok (.isub, 1) := by decide +kernel
theorem d_2_32_84 : decode prog_2_method_32_code 84 = .ok (.invokevirtual 49, 3) := by decide +kernel
theorem d_2_32_87 : decode prog_2_method_32_code 87 = .ok (.bipush 31, 2) := by decide +kernel
theorem d_2_32_89 : decode prog_2_method_32_code 89 = .ok (.iload_n 3, 1) := by decide +kernel
theorem d_2_32_90 : decode prog_2_method_32_code 90 = .ok (.isub, 1) := by decide +kernel
theorem d_2_32_91 : decode prog_2_method_32_code 91 = .ok (.iushr, 1) := by decide +kernel
theorem d_2_32_92 : decode prog_2_method_32_code 92 = .ok (.ior, 1) := by decide +kernel
theorem d_2_32_93 : decode prog_2_method_32_code 93 = .ok (.ldc 71, 2) := by decide +kernel
theorem d_2_32_95 : decode prog_2_method_32_code 95 = .ok (.iand, 1) := by decide +kernel
theorem d_2_32_96 : decode prog_2_method_32_code 96 = .ok (.iastore, 1) := by decide +kernel
theorem d_2_32_97 : decode prog_2_method_32_code 97 = .ok (.iinc 5 (-1), 3) := by decide +kernel
theorem d_2_32_100 : decode prog_2_method_32_code 100 = .ok (.goto (-45), 3) := by decide +kernel
def y_Big_shiftLeft : MethodName := ⟨"NumberHouse$Big", "shiftLeft", "(I)V"⟩
set_option maxRecDepth 100000 in
set_option maxHeartbeats 4000000 in
theorem T_Big_shiftLeft (l : Launch) (D : va_G) (g : Nat → ClassId) (q : Nat → Nat) (ws : va_W) (k1 : Nat) (R : Int32) (hB1 : q_isBig (nsh g q) g q k1 R) (zk1 : (10 ≤ k1 ∧ k1 ≤ 32) ∨ 66 ≤ k1) (x2 : Int32) (hI : q_I (nsh g q) q ws) : q_mV l y_Big_shiftLeft prog_2_method_32_code 6 3 0 0 D g [.ref (q k1), .int x2] ws (fun u => q_I (nsh g q) q u ∧ q_un ws u [k1, k1 + 1] ∧ True) := by
  intro sz
  refine q_into (by decide) (Nat.le_of_ble_eq_true rfl) ?_
  intro p e s m below meth c ls hsz C0 V hl
  have hx := C0.1
  have hb := C0.2.1
  have hfk10 : q_F (0 ≤ R.toInt ∧ R.toInt ≤ 220) := hB1.2.2
  have hF : q_un ws ws [k1, k1 + 1] := q_u0
  have hl : lv_has ls 6 [(0, .ref (q k1)), (1, .int x2)] := hl
  refine lv_iload_n hx hb d_2_32_0 rfl (lv_at hl 1 rfl) ?_
  refine lv_bipush (v := 31) hx hb d_2_32_1 (by decide) ?_
  refine lv_idiv hx hb d_2_32_3 (by decide) ?_
  obtain ⟨a1, e2⟩ := q_nm (x2 / 31 : Int32)
  refine q_ti (v := a1) e2 ?_
  have b3 : q_F ((0 ≤ x2.toInt ∧ 31 * a1.toInt ≤ x2.toInt ∧ x2.toInt ≤ 31 * a1.toInt + (31 - 1)) ∨ (x2.toInt < 0 ∧ x2.toInt ≤ 31 * a1.toInt ∧ 31 * a1.toInt ≤ x2.toInt + (31 - 1))) := (by rw [← e2]; show (0 ≤ x2.toInt ∧ 31 * (x2 / 31 : Int32).toInt ≤ x2.toInt ∧ x2.toInt ≤ 31 * (x2 / 31 : Int32).toInt + (31 - 1)) ∨ (x2.toInt < 0 ∧ x2.toInt ≤ 31 * (x2 / 31 : Int32).toInt ∧ 31 * (x2 / 31 : Int32).toInt ≤ x2.toInt + (31 - 1)); exact n_divI (a := x2) (b := 31) (n := 31) (by decide) (by decide))
  refine lv_istore_n (lv' := [(2, .int a1), (0, .ref (q k1)), (1, .int x2)]) hx hb d_2_32_4 rfl hl (by decide) rfl (fun ls hl => ?_)
  refine lv_iload_n hx hb d_2_32_5 rfl (lv_at hl 2 rfl) ?_
  refine lv_bipush (v := 31) hx hb d_2_32_6 (by decide) ?_
  refine lv_irem hx hb d_2_32_8 (by decide) ?_
  obtain ⟨a4, e5⟩ := q_nm (x2 - x2 / 31 * 31 : Int32)
  refine q_ti (v := a4) e5 ?_
  refine lv_istore_n (lv' := [(3, .int a4), (2, .int a1), (0, .ref (q k1)), (1, .int x2)]) hx hb d_2_32_9 rfl hl (by decide) rfl (fun ls hl => ?_)
  refine lv_iload_n hx hb d_2_32_10 rfl (lv_at hl 3 rfl) ?_
  refine lv_if_le (tgt := 30) hx hb d_2_32_11 (by decide) (fun c6 => ?_) (fun c6 => ?_)
  ·
    have b7 : q_F (x2.toInt ≤ 0) := (q_leI c6)
    exact q_retv C0 V (⟨hI, hF, trivial⟩) d_2_32_30
  ·
    have b8 : q_F (0 < x2.toInt) := (q_nleI c6)
    refine lv_aload_n hx hb d_2_32_14 rfl (lv_at hl 2 rfl) ?_
    obtain ⟨y10, y11, hO9, b12, b13⟩ := q_bigO hI hB1
    replace b12 : q_F (0 ≤ y10.toInt ∧ y10.toInt ≤ R.toInt) := b12
    replace b13 : q_F (0 ≤ y11.toInt ∧ y11.toInt ≤ 1) := b13
    refine q_get (ci := 2) (j := 1) (v := .int y10) C0 V i_Big rfl rfl hO9 (by decide) w_85 rfl d_2_32_15 ?_
    refine lv_if_eq (tgt := 30) hx hb d_2_32_18 (by decide) (fun c14 => ?_) (fun c14 => ?_)
    ·
      have b15 : q_F (y10.toInt = 0) := (q_eqI c14)
      exact q_retv C0 V (⟨hI, hF, trivial⟩) d_2_32_30
    ·
      have b16 : q_F (y10.toInt ≠ 0) := (q_neI c14)
      refine lv_iload_n hx hb d_2_32_21 rfl (lv_at hl 1 rfl) ?_
      refine lv_aload_n hx hb d_2_32_22 rfl (lv_at hl 2 rfl) ?_
      refine q_get (ci := 2) (j := 0) (v := .ref (q (k1 + 1))) C0 V i_Big rfl rfl hO9 (by decide) w_84 rfl d_2_32_23 ?_
      obtain ⟨f17, hA18, bf19⟩ := q_bigA hI hB1
      refine q_alen (t := 0) (v := R) C0 V hA18 rfl (s_len (by have t1 : 0 ≤ R.toInt ∧ R.toInt ≤ 220 := hfk10; omega)) d_2_32_26 ?_
      refine lv_icmp_lt (tgt := 31) hx hb d_2_32_27 (by decide) (fun c20 => ?_) (fun c20 => ?_)
      ·
        have b21 : q_F (a1.toInt < R.toInt) := (q_ltI c20)
        refine lv_aload_n hx hb d_2_32_31 rfl (lv_at hl 2 rfl) ?_
        refine q_get (ci := 2) (j := 0) (v := .ref (q (k1 + 1))) C0 V i_Big rfl rfl hO9 (by decide) w_84 rfl d_2_32_32 ?_
        refine q_alen (t := 0) (v := R) C0 V hA18 rfl (s_len (by have t1 : 0 ≤ R.toInt ∧ R.toInt ≤ 220 := hfk10; omega)) d_2_32_35 ?_
        refine lv_aload_n hx hb d_2_32_36 rfl (lv_at hl 2 rfl) ?_
        refine q_get (ci := 2) (j := 1) (v := .int y10) C0 V i_Big rfl rfl hO9 (by decide) w_85 rfl d_2_32_37 ?_
        refine lv_iload_n hx hb d_2_32_40 rfl (lv_at hl 1 rfl) ?_
        refine lv_iadd hx hb d_2_32_41 ?_
        obtain ⟨a22, e23⟩ := q_nm (y10 + a1 : Int32)
        refine q_ti (v := a22) e23 ?_
        have b24 : q_F (a22.toInt = y10.toInt + a1.toInt) := (by rw [← e23]; show (y10 + a1 : Int32).toInt = y10.toInt + a1.toInt; exact q_addI (x := y10.toInt) (y := a1.toInt) rfl rfl (by have t1 : 0 ≤ y10.toInt ∧ y10.toInt ≤ R.toInt := b12; have _ := q_lo32 (x := a1); have _ := q_hi32 (x := a1); have t2 : 0 ≤ R.toInt ∧ R.toInt ≤ 220 := hfk10; have t3 : a1.toInt < R.toInt := b21; omega) (by have t1 : 0 ≤ y10.toInt ∧ y10.toInt ≤ R.toInt := b12; have _ := q_lo32 (x := a1); have _ := q_hi32 (x := a1); have t2 : 0 ≤ R.toInt ∧ R.toInt ≤ 220 := hfk10; have t3 : a1.toInt < R.toInt := b21; omega))
        refine lv_iconst (v := 1) hx hb d_2_32_42 (by decide) ?_
        refine lv_iadd hx hb d_2_32_43 ?_
        obtain ⟨a25, e26⟩ := q_nm (a22 + 1 : Int32)
        refine q_ti (v := a25) e26 ?_
        have b27 : q_F (a25.toInt = a22.toInt + 1) := (by rw [← e26]; show (a22 + 1 : Int32).toInt = a22.toInt + 1; exact q_addI (x := a22.toInt) (y := 1) rfl (by decide) (by have _ := q_lo32 (x := a22); have _ := q_hi32 (x := a22); have t1 : 0 ≤ R.toInt ∧ R.toInt ≤ 220 := hfk10; have t2 : 0 ≤ y10.toInt ∧ y10.toInt ≤ R.toInt := b12; have t3 : a1.toInt < R.toInt := b21; have t4 : a22.toInt = y10.toInt + a1.toInt := b24; omega) (by have _ := q_lo32 (x := a22); have _ := q_hi32 (x := a22); have t1 : 0 ≤ R.toInt ∧ R.toInt ≤ 220 := hfk10; have t2 : 0 ≤ y10.toInt ∧ y10.toInt ≤ R.toInt := b12; have t3 : a1.toInt < R.toInt := b21; have t4 : a22.toInt = y10.toInt + a1.toInt := b24; omega))
        refine q_min C0 hl.1 rfl w_773 w_774 w_7 w_775 ⟨Nat.le_of_ble_eq_true rfl, Nat.le_of_ble_eq_true rfl⟩ ⟨Nat.le_of_ble_eq_true rfl, Nat.le_of_ble_eq_true rfl⟩ d_2_32_44 ?_
        obtain ⟨a28, e29⟩ := q_nm (if a25 < R then a25 else R : Int32)
        refine q_ti (v := a28) e29 ?_
        have b30 : q_F (a28.toInt ≤ R.toInt ∧ a28.toInt ≤ a25.toInt ∧ (a28.toInt = R.toInt ∨ a28.toInt = a25.toInt)) := (by rw [← e29]; show (if a25 < R then a25 else R : Int32).toInt ≤ R.toInt ∧ (if a25 < R then a25 else R : Int32).toInt ≤ a25.toInt ∧ ((if a25 < R then a25 else R : Int32).toInt = R.toInt ∨ (if a25 < R then a25 else R : Int32).toInt = a25.toInt); exact s_min (a := R) (b := a25))
        refine lv_istore (lv' := [(4, .int a28), (3, .int a4), (2, .int a1), (0, .ref (q k1)), (1, .int x2)]) hx hb d_2_32_47 hl (by decide) rfl (fun ls hl => ?_)
        refine lv_iload hx hb d_2_32_49 (lv_at hl 0 rfl) ?_
        refine lv_iconst (v := 1) hx hb d_2_32_51 (by decide) ?_
        refine lv_isub hx hb d_2_32_52 ?_
        obtain ⟨a31, e32⟩ := q_nm (a28 - 1 : Int32)
        refine q_ti (v := a31) e32 ?_
        have b33 : q_F (a31.toInt = a28.toInt - 1) := (by rw [← e32]; show (a28 - 1 : Int32).toInt = a28.toInt - 1; exact q_subI (x := a28.toInt) (y := 1) rfl (by decide) (by have t1 : 0 ≤ R.toInt ∧ R.toInt ≤ 220 := hfk10; have t2 : a25.toInt = a22.toInt + 1 := b27; have t3 : a28.toInt ≤ R.toInt ∧ a28.toInt ≤ a25.toInt ∧ (a28.toInt = R.toInt ∨ a28.toInt = a25.toInt) := b30; have _ := q_lo32 (x := a22); have _ := q_hi32 (x := a22); have _ := q_lo32 (x := R); have _ := q_hi32 (x := R); omega) (by have t1 : 0 ≤ R.toInt ∧ R.toInt ≤ 220 := hfk10; have t2 : a25.toInt = a22.toInt + 1 := b27; have t3 : a28.toInt ≤ R.toInt ∧ a28.toInt ≤ a25.toInt ∧ (a28.toInt = R.toInt ∨ a28.toInt = a25.toInt) := b30; have _ := q_lo32 (x := a22); have _ := q_hi32 (x := a22); have _ := q_lo32 (x := R); have _ := q_hi32 (x := R); omega))
        refine lv_istore (lv' := [(5, .int a31), (4, .int a28), (3, .int a4), (2, .int a1), (0, .ref (q k1)), (1, .int x2)]) hx hb d_2_32_53 hl (by decide) rfl (fun ls hl => ?_)
        refine q_loop (X := Int32) (fun z H locs ls w38 => q_F (0 ≤ z.toInt + 1) ∧ q_F (z.toInt + 1 ≤ a28.toInt) ∧ q_Wd D g (va_A ws sz) s w38 H locs ∧ lv_has ls 6 [(5, .int z), (4, .int a28), (3, .int a4), (2, .int a1), (0, .ref (q k1))] ∧ q_I (nsh g q) q w38 ∧ q_un ws w38 [k1, k1 + 1]) (fun z => (z.toInt - ((-1))).toNat) ?_ ((a31 : Int32)) _ _ _ ws ⟨(show q_F (0 ≤ a31.toInt + 1) from (show 0 ≤ a31.toInt + 1 from by have t1 : (0 ≤ x2.toInt ∧ 31 * a1.toInt ≤ x2.toInt ∧ x2.toInt ≤ 31 * a1.toInt + (31 - 1)) ∨ (x2.toInt < 0 ∧ x2.toInt ≤ 31 * a1.toInt ∧ 31 * a1.toInt ≤ x2.toInt + (31 - 1)) := b3; have t2 : 0 < x2.toInt := b8; have t3 : 0 ≤ y10.toInt ∧ y10.toInt ≤ R.toInt := b12; have t4 : a22.toInt = y10.toInt + a1.toInt := b24; have t5 : a25.toInt = a22.toInt + 1 := b27; have t6 : a28.toInt ≤ R.toInt ∧ a28.toInt ≤ a25.toInt ∧ (a28.toInt = R.toInt ∨ a28.toInt = a25.toInt) := b30; have t7 : a31.toInt = a28.toInt - 1 := b33; omega)), (show q_F (a31.toInt + 1 ≤ a28.toInt) from (show a31.toInt + 1 ≤ a28.toInt from by have t1 : a31.toInt = a28.toInt - 1 := b33; omega)), V, q_lw hl (q_lw1 0 rfl (q_lw1 1 rfl (q_lw1 2 rfl (q_lw1 3 rfl (q_lw1 4 rfl q_lw0))))), hI, hF⟩
        rintro lx34 H locs ls w38 ⟨i35, i36, V, hl, hI, hF⟩ ih37
        replace i35 : q_F (0 ≤ lx34.toInt + 1) := i35
        replace i36 : q_F (lx34.toInt + 1 ≤ a28.toInt) := i36
        replace hl : lv_has ls 6 [(5, .int lx34), (4, .int a28), (3, .int a4), (2, .int a1), (0, .ref (q k1))] := hl
        refine lv_iload hx hb d_2_32_55 (lv_at hl 0 rfl) ?_
        refine lv_iload_n hx hb d_2_32_57 rfl (lv_at hl 3 rfl) ?_
        refine lv_icmp_lt (tgt := 103) hx hb d_2_32_58 (by decide) (fun c39 => ?_) (fun c39 => ?_)
        ·
          have b40 : q_F (lx34.toInt < a1.toInt) := (q_ltI c39)
          refine lv_aload_n hx hb d_2_32_103 rfl (lv_at hl 4 rfl) ?_
          obtain ⟨y42, y43, hO41, b44, b45⟩ := q_bigO hI hB1
          replace b44 : q_F (0 ≤ y42.toInt ∧ y42.toInt ≤ R.toInt) := b44
          replace b45 : q_F (0 ≤ y43.toInt ∧ y43.toInt ≤ 1) := b45
          refine q_get (ci := 2) (j := 0) (v := .ref (q (k1 + 1))) C0 V i_Big rfl rfl hO41 (by decide) w_84 rfl d_2_32_104 ?_
          refine lv_iconst (v := 0) hx hb d_2_32_107 (by decide) ?_
          refine lv_iload_n hx hb d_2_32_108 rfl (lv_at hl 3 rfl) ?_
          refine lv_iconst (v := 0) hx hb d_2_32_109 (by decide) ?_
          obtain ⟨f46, hA47, bf48⟩ := q_bigA hI hB1
          refine q_gov V (q_runS (As := [.ref (q (k1 + 1)), .int 0, .int a1, .int 0]) (rest := []) (d := 2) (mc := 0) (ms := 0) C0 V rfl LS_Big_108 (S_Arr_fill l D g (nsh g q) q w38 k1 R hB1 0 a1 0 hI  (by have y0 : (0 : Int32).toInt = 0 := rfl; have y1 : (0 : Int32).toInt = 0 := rfl; omega) (by have y0 : (0 : Int32).toInt = 0 := rfl; have y1 : (0 : Int32).toInt = 0 := rfl; have t1 : (0 ≤ x2.toInt ∧ 31 * a1.toInt ≤ x2.toInt ∧ x2.toInt ≤ 31 * a1.toInt + (31 - 1)) ∨ (x2.toInt < 0 ∧ x2.toInt ≤ 31 * a1.toInt ∧ 31 * a1.toInt ≤ x2.toInt + (31 - 1)) := b3; have t2 : 0 < x2.toInt := b8; omega) (by have y0 : (0 : Int32).toInt = 0 := rfl; have y1 : (0 : Int32).toInt = 0 := rfl; have t1 : a1.toInt < R.toInt := b21; omega) _) rfl hl.1 rfl (Nat.le_of_ble_eq_true rfl) ⟨by decide, by decide⟩ ⟨Nat.le_of_ble_eq_true rfl, Nat.le_of_ble_eq_true rfl⟩ d_2_32_110) (fun u49 H locs hp50 V => ?_)
          obtain ⟨_, hI, hu51⟩ := hp50
          replace hO41 := (hu51 _ (by have z0 := zk1; simp only [List.mem_cons, List.not_mem_nil, or_false, not_or]; omega)).trans hO41
          replace hF := q_uc hF hu51 (by simp)
          refine lv_aload_n hx hb d_2_32_113 rfl (lv_at hl 4 rfl) ?_
          refine lv_iload hx hb d_2_32_114 (lv_at hl 1 rfl) ?_
          refine q_put (ci := 2) (j := 1) (v := .int a28) (ty := .int) C0 V i_Big o_Big n_Big rfl rfl hO41 (by decide) w_85 rfl rfl rfl rfl (Nat.le_of_ble_eq_true rfl) d_2_32_116 (fun H locs w52 hu53 hO41 V => ?_)
          replace hO41 : w52[k1]? = (some (q k1, .inr (2, [.ref (q (k1 + 1)), .int a28, .int y43])) : Option (Nat × va_E)) := hO41
          replace hI := q_bigO' hI hB1 hu53 hO41 ⟨(by have t1 : 0 ≤ lx34.toInt + 1 := i35; have t2 : lx34.toInt + 1 ≤ a28.toInt := i36; omega), (by have t1 : a28.toInt ≤ R.toInt ∧ a28.toInt ≤ a25.toInt ∧ (a28.toInt = R.toInt ∨ a28.toInt = a25.toInt) := b30; omega)⟩ ⟨(by have t1 : 0 ≤ y43.toInt ∧ y43.toInt ≤ 1 := b45; omega), (by have t1 : 0 ≤ y43.toInt ∧ y43.toInt ≤ 1 := b45; omega)⟩
          replace hF := q_us hF hu53 (by simp)
          refine lv_aload_n hx hb d_2_32_119 rfl (lv_at hl 4 rfl) ?_
          refine q_gov V (q_runV (As := []) (rest := []) (d := 1) (mc := 0) (ms := 0) (ci := 2) C0 V rfl LV_Big_36 (S_Big_trim l D g (nsh g q) q w52 k1 R hB1  hI   _) rfl rfl hO41 rfl hl.1 rfl (Nat.le_of_ble_eq_true rfl) ⟨by decide, by decide⟩ ⟨Nat.le_of_ble_eq_true rfl, Nat.le_of_ble_eq_true rfl⟩ d_2_32_120) (fun u54 H locs hp55 V => ?_)
          obtain ⟨_, hI, hu56⟩ := hp55
          replace hF := q_uc hF hu56 (by simp)
          exact q_retv C0 V (⟨hI, hF, trivial⟩) d_2_32_123
        ·
          have b57 : q_F (a1.toInt ≤ lx34.toInt) := (q_nltI c39)
          refine lv_aload_n hx hb d_2_32_61 rfl (lv_at hl 4 rfl) ?_
          obtain ⟨y59, y60, hO58, b61, b62⟩ := q_bigO hI hB1
          replace b61 : q_F (0 ≤ y59.toInt ∧ y59.toInt ≤ R.toInt) := b61
          replace b62 : q_F (0 ≤ y60.toInt ∧ y60.toInt ≤ 1) := b62
          refine q_get (ci := 2) (j := 0) (v := .ref (q (k1 + 1))) C0 V i_Big rfl rfl hO58 (by decide) w_84 rfl d_2_32_62 ?_
          refine lv_iload hx hb d_2_32_65 (lv_at hl 0 rfl) ?_
          refine lv_aload_n hx hb d_2_32_67 rfl (lv_at hl 4 rfl) ?_
          refine lv_iload hx hb d_2_32_68 (lv_at hl 0 rfl) ?_
          refine lv_iload_n hx hb d_2_32_70 rfl (lv_at hl 3 rfl) ?_
          refine lv_isub hx hb d_2_32_71 ?_
          obtain ⟨a63, e64⟩ := q_nm (lx34 - a1 : Int32)
          refine q_ti (v := a63) e64 ?_
          have b65 : q_F (a63.toInt = lx34.toInt - a1.toInt) := (by rw [← e64]; show (lx34 - a1 : Int32).toInt = lx34.toInt - a1.toInt; exact q_subI (x := lx34.toInt) (y := a1.toInt) rfl rfl (by have t1 : a1.toInt ≤ lx34.toInt := b57; have t2 : 0 ≤ R.toInt ∧ R.toInt ≤ 220 := hfk10; have t3 : (0 ≤ x2.toInt ∧ 31 * a1.toInt ≤ x2.toInt ∧ x2.toInt ≤ 31 * a1.toInt + (31 - 1)) ∨ (x2.toInt < 0 ∧ x2.toInt ≤ 31 * a1.toInt ∧ 31 * a1.toInt ≤ x2.toInt + (31 - 1)) := b3; have t4 : 0 < x2.toInt := b8; have t5 : a28.toInt ≤ R.toInt ∧ a28.toInt ≤ a25.toInt ∧ (a28.toInt = R.toInt ∨ a28.toInt = a25.toInt) := b30; have t6 : lx34.toInt + 1 ≤ a28.toInt := i36; omega) (by have t1 : a1.toInt ≤ lx34.toInt := b57; have t2 : 0 ≤ R.toInt ∧ R.toInt ≤ 220 := hfk10; have t3 : (0 ≤ x2.toInt ∧ 31 * a1.toInt ≤ x2.toInt ∧ x2.toInt ≤ 31 * a1.toInt + (31 - 1)) ∨ (x2.toInt < 0 ∧ x2.toInt ≤ 31 * a1.toInt ∧ 31 * a1.toInt ≤ x2.toInt + (31 - 1)) := b3; have t4 : 0 < x2.toInt := b8; have t5 : a28.toInt ≤ R.toInt ∧ a28.toInt ≤ a25.toInt ∧ (a28.toInt = R.toInt ∨ a28.toInt = a25.toInt) := b30; have t6 : lx34.toInt + 1 ≤ a28.toInt := i36; omega))
          refine q_goi V (q_runV (As := [.int a63]) (rest := [.int lx34, .ref (q (k1 + 1))]) (d := 1) (mc := 0) (ms := 0) (ci := 2) C0 V rfl LV_Big_49 (S_Big_limb l D g (nsh g q) q w38 k1 R hB1 a63 hI   _) rfl rfl hO58 rfl hl.1 rfl (Nat.le_of_ble_eq_true rfl) ⟨by decide, by decide⟩ ⟨Nat.le_of_ble_eq_true rfl, Nat.le_of_ble_eq_true rfl⟩ d_2_32_72) (fun a68 u66 H locs hp67 V => ?_)
          obtain ⟨_, rfl⟩ := hp67
          refine lv_iload_n hx hb d_2_32_75 rfl (lv_at hl 2 rfl) ?_
          refine lv_ishl hx hb d_2_32_76 ?_
          obtain ⟨a69, e70⟩ := q_nm (a68 <<< (a4 &&& 31) : Int32)
          refine q_ti (v := a69) e70 ?_
          refine lv_aload_n hx hb d_2_32_77 rfl (lv_at hl 4 rfl) ?_
          refine lv_iload hx hb d_2_32_78 (lv_at hl 0 rfl) ?_
          refine lv_iload_n hx hb d_2_32_80 rfl (lv_at hl 3 rfl) ?_
          refine lv_isub hx hb d_2_32_81 ?_
          obtain ⟨a71, e72⟩ := q_nm (lx34 - a1 : Int32)
          refine q_ti (v := a71) e72 ?_
          have b73 : q_F (a71.toInt = lx34.toInt - a1.toInt) := (by rw [← e72]; show (lx34 - a1 : Int32).toInt = lx34.toInt - a1.toInt; exact q_subI (x := lx34.toInt) (y := a1.toInt) rfl rfl (by have t1 : a1.toInt ≤ lx34.toInt := b57; have t2 : a63.toInt = lx34.toInt - a1.toInt := b65; have _ := q_lo32 (x := a63); have _ := q_hi32 (x := a63); omega) (by have t1 : a1.toInt ≤ lx34.toInt := b57; have t2 : a63.toInt = lx34.toInt - a1.toInt := b65; have _ := q_lo32 (x := a63); have _ := q_hi32 (x := a63); omega))
          refine lv_iconst (v := 1) hx hb d_2_32_82 (by decide) ?_
          refine lv_isub hx hb d_2_32_83 ?_
          obtain ⟨a74, e75⟩ := q_nm (a71 - 1 : Int32)
          refine q_ti (v := a74) e75 ?_
          have b76 : q_F (a74.toInt = a71.toInt - 1) := (by rw [← e75]; show (a71 - 1 : Int32).toInt = a71.toInt - 1; exact q_subI (x := a71.toInt) (y := 1) rfl (by decide) (by have t1 : a1.toInt ≤ lx34.toInt := b57; have t2 : a71.toInt = lx34.toInt - a1.toInt := b73; have _ := q_lo32 (x := a71); have _ := q_hi32 (x := a71); omega) (by have t1 : a1.toInt ≤ lx34.toInt := b57; have t2 : a71.toInt = lx34.toInt - a1.toInt := b73; have _ := q_lo32 (x := a71); have _ := q_hi32 (x := a71); omega))
          refine q_goi V (q_runV (As := [.int a74]) (rest := [.int a69, .int lx34, .ref (q (k1 + 1))]) (d := 1) (mc := 0) (ms := 0) (ci := 2) C0 V rfl LV_Big_49 (S_Big_limb l D g (nsh g q) q w38 k1 R hB1 a74 hI   _) rfl rfl hO58 rfl hl.1 rfl (Nat.le_of_ble_eq_true rfl) ⟨by decide, by decide⟩ ⟨Nat.le_of_ble_eq_true rfl, Nat.le_of_ble_eq_true rfl⟩ d_2_32_84) (fun a79 u77 H locs hp78 V => ?_)
          obtain ⟨_, rfl⟩ := hp78
          refine lv_bipush (v := 31) hx hb d_2_32_87 (by decide) ?_
          refine lv_iload_n hx hb d_2_32_89 rfl (lv_at hl 2 rfl) ?_
          refine lv_isub hx hb d_2_32_90 ?_
          obtain ⟨a80, e81⟩ := q_nm (31 - a4 : Int32)
          refine q_ti (v := a80) e81 ?_
          refine lv_iushr hx hb d_2_32_91 rfl ?_
          obtain ⟨a82, e83⟩ := q_nm ((a79.toUInt32 >>> (a80.toUInt32 &&& Int32.toUInt32 31)).toInt32 : Int32)
          refine q_ti (v := a82) e83 ?_
          refine lv_ior hx hb d_2_32_92 ?_
          obtain ⟨a84, e85⟩ := q_nm (a69 ||| a82 : Int32)
          refine q_ti (v := a84) e85 ?_
          refine q_ldc C0 rfl w_809 d_2_32_93 ?_
          refine lv_iand hx hb d_2_32_95 ?_
          obtain ⟨a86, e87⟩ := q_nm (a84 &&& 2147483647 : Int32)
          refine q_ti (v := a86) e87 ?_
          have b88 : q_F (0 ≤ a86.toInt ∧ a86.toInt ≤ 2147483647) := (by rw [← e87]; show 0 ≤ (a84 &&& 2147483647 : Int32).toInt ∧ (a84 &&& 2147483647 : Int32).toInt ≤ 2147483647; exact s_and (by decide))
          obtain ⟨f89, hA90, bf91⟩ := q_bigA hI hB1
          refine q_iast C0 V hA90 (q_ix (x := lx34.toInt) rfl (by have t1 : (0 ≤ x2.toInt ∧ 31 * a1.toInt ≤ x2.toInt ∧ x2.toInt ≤ 31 * a1.toInt + (31 - 1)) ∨ (x2.toInt < 0 ∧ x2.toInt ≤ 31 * a1.toInt ∧ 31 * a1.toInt ≤ x2.toInt + (31 - 1)) := b3; have t2 : 0 < x2.toInt := b8; have t3 : a1.toInt ≤ lx34.toInt := b57; omega) (by have t1 : (0 ≤ x2.toInt ∧ 31 * a1.toInt ≤ x2.toInt ∧ x2.toInt ≤ 31 * a1.toInt + (31 - 1)) ∨ (x2.toInt < 0 ∧ x2.toInt ≤ 31 * a1.toInt ∧ 31 * a1.toInt ≤ x2.toInt + (31 - 1)) := b3; have t2 : 0 < x2.toInt := b8; have t3 : a1.toInt ≤ lx34.toInt := b57; have t4 : a28.toInt ≤ R.toInt ∧ a28.toInt ≤ a25.toInt ∧ (a28.toInt = R.toInt ∨ a28.toInt = a25.toInt) := b30; have t5 : lx34.toInt + 1 ≤ a28.toInt := i36; have e9 := q_clI (i := R) rfl (by have t1 : 0 ≤ R.toInt ∧ R.toInt ≤ 220 := hfk10; omega); omega)) d_2_32_96 (fun H locs w92 hu93 hA90 V => ?_)
          replace hI := q_bigA' hI hB1 hu93 hA90 (q_updB bf91 s_bnd)
          replace hO58 := (hu93 _ (by omega)).trans hO58
          replace hF := q_us hF hu93 (by simp)
          obtain ⟨a94, e95⟩ := q_nm (lx34 + (-1) : Int32)
          have b96 : q_F (a94.toInt = lx34.toInt + (-1)) := (by rw [← e95]; exact q_addI (y := (-1)) rfl (by decide) (by have t1 : 0 ≤ lx34.toInt + 1 := i35; have t2 : lx34.toInt + 1 ≤ a28.toInt := i36; have _ := q_lo32 (x := a28); have _ := q_hi32 (x := a28); omega) (by have t1 : 0 ≤ lx34.toInt + 1 := i35; have t2 : lx34.toInt + 1 ≤ a28.toInt := i36; have _ := q_lo32 (x := a28); have _ := q_hi32 (x := a28); omega))
          refine lv_iinc (v := a94) (lv' := [(5, .int a94), (4, .int a28), (3, .int a4), (2, .int a1), (0, .ref (q k1))]) hx hb d_2_32_97 hl (k := 0) rfl (e95) (by decide) rfl (fun ls hl => ?_)
          refine lv_goto (tgt := 55) hx hb d_2_32_100 (by decide) ?_
          exact ih37 ((a94 : Int32)) _ _ _ _ (show (a94.toInt - ((-1))).toNat < (lx34.toInt - ((-1))).toNat from by have t1 : a94.toInt = lx34.toInt + (-1) := b96; have t2 : 0 ≤ lx34.toInt + 1 := i35; have t3 : (0 ≤ x2.toInt ∧ 31 * a1.toInt ≤ x2.toInt ∧ x2.toInt ≤ 31 * a1.toInt + (31 - 1)) ∨ (x2.toInt < 0 ∧ x2.toInt ≤ 31 * a1.toInt ∧ 31 * a1.toInt ≤ x2.toInt + (31 - 1)) := b3; have t4 : 0 < x2.toInt := b8; have t5 : a1.toInt ≤ lx34.toInt := b57; omega) ⟨(show q_F (0 ≤ a94.toInt + 1) from (show 0 ≤ a94.toInt + 1 from by have t1 : (0 ≤ x2.toInt ∧ 31 * a1.toInt ≤ x2.toInt ∧ x2.toInt ≤ 31 * a1.toInt + (31 - 1)) ∨ (x2.toInt < 0 ∧ x2.toInt ≤ 31 * a1.toInt ∧ 31 * a1.toInt ≤ x2.toInt + (31 - 1)) := b3; have t2 : 0 < x2.toInt := b8; have t3 : a1.toInt ≤ lx34.toInt := b57; have t4 : a94.toInt = lx34.toInt + (-1) := b96; omega)), (show q_F (a94.toInt + 1 ≤ a28.toInt) from (show a94.toInt + 1 ≤ a28.toInt from by have t1 : lx34.toInt + 1 ≤ a28.toInt := i36; have t2 : a94.toInt = lx34.toInt + (-1) := b96; omega)), V, q_lw hl (q_lw1 0 rfl (q_lw1 1 rfl (q_lw1 2 rfl (q_lw1 3 rfl (q_lw1 4 rfl q_lw0))))), hI, hF⟩
      ·
        have b97 : q_F (R.toInt ≤ a1.toInt) := (q_nltI c20)
        exact q_retv C0 V (⟨hI, hF, trivial⟩) d_2_32_30
theorem d_2_33_0 : decode prog_2_method_33_code 0 = .ok (.iload_n 1, 1) := by decide +kernel
theorem d_2_33_1 : decode prog_2_method_33_code 1 = .ok (.ifCond .le 10, 3) := by decide +kernel
theorem d_2_33_11 : decode prog_2_method_33_code 11 = .ok (.iconst 0, 1) := by decide +kernel
theorem d_2_33_12 : decode prog_2_method_33_code 12 = .ok (.ireturn, 1) := by decide +kernel
theorem d_2_33_4 : decode prog_2_method_33_code 4 = .ok (.aload_n 0, 1) := by decide +kernel
theorem d_2_33_5 : decode prog_2_method_33_code 5 = .ok (.getfield 13, 3) := by decide +kernel
theorem d_2_33_8 : decode prog_2_method_33_code 8 = .ok (.ifCond .ne 5, 3) := by decide +kernel
theorem d_2_33_13 : decode prog_2_method_33_code 13 = .ok (.aload_n 0, 1) := by decide +kernel
theorem d_2_33_14 : decode prog_2_method_33_code 14 = .ok (.invokevirtual 68, 3) := by decide +kernel
theorem d_2_33_17 : decode prog_2_method_33_code 17 = .ok (.iload_n 1, 1) := by decide +kernel
theorem d_2_33_26 : decode prog_2_method_33_code 26 = .ok (.istore_n 2, 1) := by decide +kernel
theorem d_2_33_27 : decode prog_2_method_33_code 27 = .ok (.iload_n 1, 1) := by decide +kernel
theorem d_2_33_28 : decode prog_2_method_33_code 28 = .ok (.bipush 31, 2) := by decide +kernel
theorem d_2_33_30 : decode prog_2_method_33_code 30 = .ok (.idiv, 1) := by decide +kernel
theorem d_2_33_31 : decode prog_2_method_33_code 31 = .ok (.istore_n 3, 1) := by decide +kernel
theorem d_2_33_32 : decode prog_2_method_33_code 32 = .ok (.iload_n 1, 1) := by decide +kernel
theorem d_2_33_33 : decode prog_2_method_33_code 33 = .ok (.bipush 31, 2) := by decide +kernel
theorem d_2_33_35 : decode prog_2_method_33_code 35 = .ok (.irem, 1) := by decide +kernel
theorem d_2_33_36 : decode prog_2_method_33_code 36 = .ok (.istore 4, 2) := by decide +kernel
theorem d_2_33_38 : decode prog_2_method_33_code 38 = .ok (.iconst 0, 1) := by decide +kernel
theorem d_2_33_39 : decode prog_2_method_33_code 39 = .ok (.aload_n 0, 1) := by decide +kernel
theorem d_2_33_40 : decode prog_2_method_33_code 40 = .ok (.getfield 13, 3) := by decide +kernel
theorem d_2_33_43 : decode prog_2_method_33_code 43 = .ok (.iload_n 3, 1) := by decide +kernel
theorem d_2_33_44 : decode prog_2_method_33_code 44 = .ok (.isub, 1) := by decide +kernel
theorem d_2_33_45 : decode prog_2_method_33_code 45 = .ok (.invokestatic 92, 3) := by decide +kernel
theorem d_2_33_48 : decode prog_2_method_33_code 48 = .ok (.istore 5, 2) := by decide +kernel
theorem d_2_33_50 : decode prog_2_method_33_code 50 = .ok (.iconst 0, 1) := by decide +kernel
theorem d_2_33_51 : decode prog_2_method_33_code 51 = .ok (.istore 6, 2) := by decide +kernel
theorem d_2_33_53 : decode prog_2_method_33_code 53 = .ok (.iload 6, 2) := by decide +kernel
theorem d_2_33_55 : decode prog_2_method_33_code 55 = .ok (.iload 5, 2) := by decide +kernel
theorem d_2_33_57 : decode prog_2_method_33_code 57 = .ok (.if_icmp .ge 47, 3) := by decide +kernel
theorem d_2_33_104 : decode prog_2_method_33_code 104 = .ok (.aload_n 0, 1) := by decide +kernel
theorem d_2_33_105 : decode prog_2_method_33_code 105 = .ok (.iload 5, 2) := by decide +kernel
theorem d_2_33_107 : decode prog_2_method_33_code 107 = .ok (.putfield 13, 3) := by decide +kernel
theorem d_2_33_110 : decode prog_2_method_33_code 110 = .ok (.aload_n 0, 1) := by decide +kernel
theorem d_2_33_111 : decode prog_2_method_33_code 111 = .ok (.invokevirtual 36, 3) := by decide +kernel
theorem d_2_33_114 : decode prog_2_method_33_code 114 = .ok (.iload_n 2, 1) := by decide +kernel
theorem d_2_33_115 : decode prog_2_method_33_code 115 = .ok (.ireturn, 1) := by decide +kernel
theorem d_2_33_60 : decode prog_2_method_33_code 60 = .ok (.aload_n 0, 1) := by decide +kernel
theorem d_2_33_61 : decode prog_2_method_33_code 61 = .ok (.getfield 7, 3) := by decide +kernel
theorem d_2_33_64 : decode prog_2_method_33_code 64 = .ok (.iload 6, 2) := by decide +kernel
theorem d_2_33_66 : decode prog_2_method_33_code 66 = .ok (.aload_n 0, 1) := by decide +kernel
theorem d_2_33_67 : decode prog_2_method_33_code 67 = .ok (.iload 6, 2) := by decide +kernel
theorem d_2_33_69 : decode prog_2_method_33_code 69 = .ok (.iload_n 3, 1) := by decide +kernel
theorem d_2_33_70 : decode prog_2_method_33_code 70 = .ok (.iadd, 1) := by decide +kernel
theorem d_2_33_71 : decode prog_2_method_33_code 71 = .ok (.invokevirtual 49, 3) := by decide +kernel
theorem d_2_33_74 : decode prog_2_method_33_code 74 = .ok (.iload 4, 2) := by decide +kernel
theorem d_2_33_76 : decode prog_2_method_33_code 76 = .ok (.iushr, 1) := by decide +kernel
theorem d_2_33_77 : decode prog_2_method_33_code 77 = .ok (.aload_n 0, 1) := by decide +kernel
theorem d_2_33_78 : decode prog_2_method_33_code 78 = .ok (.iload 6, 2) := by decide +kernel
theorem d_2_33_80 : decode prog_2_method_33_code 80 = .ok (.iload_n 3, 1) := by decide +kernel
theorem d_2_33_81 : decode prog_2_method_33_code 81 = .ok (.iadd, 1) := by decide +kernel
theorem d_2_33_82 : decode prog_2_method_33_code 82 = .ok (.iconst 1, 1) := by decide +kernel
theorem d_2_33_83 : decode prog_2_method_33_code 83 = .ok (.iadd, 1) := by decide +kernel
theorem d_2_33_84 : decode prog_2_method_33_code 84 = .ok (.invokevirtual 49, 3) := by decide +kernel
theorem d_2_33_87 : decode prog_2_method_33_code 87 = .ok (.bipush 31, 2) := by decide +kernel
theorem d_2_33_89 : decode prog_2_method_33_code 89 = .ok (.iload 4, 2) := by decide +kernel
theorem d_2_33_91 : decode prog_2_method_33_code 91 = .ok (.isub, 1) := by decide +kernel
theorem d_2_33_92 : decode prog_2_method_33_code 92 = .ok (.ishl, 1) := by decide +kernel
theorem d_2_33_93 : decode prog_2_method_33_code 93 = .ok (.ior, 1) := by decide +kernel
theorem d_2_33_94 : decode prog_2_method_33_code 94 = .ok (.ldc 71, 2) := by decide +kernel
theorem d_2_33_96 : decode prog_2_method_33_code 96 = .ok (.iand, 1) := by decide +kernel
theorem d_2_33_97 : decode prog_2_method_33_code 97 = .ok (.iastore, 1) := by decide +kernel
theorem d_2_33_98 : decode prog_2_method_33_code 98 = .ok (.iinc 6 1, 3) := by decide +kernel
theorem d_2_33_101 : decode prog_2_method_33_code 101 = .ok (.goto (-48), 3) := by decide +kernel
theorem d_2_33_18 : decode prog_2_method_33_code 18 = .ok (.if_icmp .ge 7, 3) := by decide +kernel
theorem d_2_33_25 : decode prog_2_method_33_code 25 = .ok (.iconst 0, 1) := by decide +kernel
theorem d_2_33_21 : decode prog_2_method_33_code 21 = .ok (.iconst 1, 1) := by decide +kernel
theorem d_2_33_22 : decode prog_2_method_33_code 22 = .ok (.goto 4, 3) := by decide +kernel
def y_Big_shiftRight : MethodName := ⟨"NumberHouse$Big", "shiftRight", "(I)Z"⟩
set_option maxRecDepth 100000 in
set_option maxHeartbeats 4000000 in
theorem T_Big_shiftRight (l : Launch) (D : va_G) (g : Nat → ClassId) (q : Nat → Nat) (ws : va_W) (k1 : Nat) (R : Int32) (hB1 : q_isBig (nsh g q) g q k1 R) (zk1 : (10 ≤ k1 ∧ k1 ≤ 32) ∨ 66 ≤ k1) (x2 : Int32) (hI : q_I (nsh g q) q ws) : q_mI l y_Big_shiftRight prog_2_method_33_code 7 (.boolean) 3 0 0 D g [.ref (q k1), .int x2] ws (fun r u => q_I (nsh g q) q u ∧ q_un ws u [k1, k1 + 1] ∧ (0 ≤ r.toInt) ∧ (r.toInt ≤ 1) ∧ (r.toInt ≤ R.toInt)) := by
  intro sz
  refine q_into (by decide) (Nat.le_of_ble_eq_true rfl) ?_
  intro p e s m below meth c ls hsz C0 V hl
  have hx := C0.1
  have hb := C0.2.1
  have hfk10 : q_F (0 ≤ R.toInt ∧ R.toInt ≤ 220) := hB1.2.2
  have hF : q_un ws ws [k1, k1 + 1] := q_u0
  have hl : lv_has ls 7 [(0, .ref (q k1)), (1, .int x2)] := hl
  refine lv_iload_n hx hb d_2_33_0 rfl (lv_at hl 1 rfl) ?_
  refine lv_if_le (tgt := 11) hx hb d_2_33_1 (by decide) (fun c1 => ?_) (fun c1 => ?_)
  ·
    have b2 : q_F (x2.toInt ≤ 0) := (q_leI c1)
    refine lv_iconst (v := 0) hx hb d_2_33_11 (by decide) ?_
    exact q_retz C0 V (by decide) (⟨hI, hF, (show 0 ≤ (0 : Int32).toInt from (by have z2 : (0 : Int32).toInt = 0 := rfl; omega)), (show (0 : Int32).toInt ≤ 1 from (by have z2 : (0 : Int32).toInt = 0 := rfl; omega)), (show (0 : Int32).toInt ≤ R.toInt from (by have z2 : (0 : Int32).toInt = 0 := rfl; have t1 : 0 ≤ R.toInt ∧ R.toInt ≤ 220 := hfk10; omega))⟩) d_2_33_12
  ·
    have b3 : q_F (0 < x2.toInt) := (q_nleI c1)
    refine lv_aload_n hx hb d_2_33_4 rfl (lv_at hl 0 rfl) ?_
    obtain ⟨y5, y6, hO4, b7, b8⟩ := q_bigO hI hB1
    replace b7 : q_F (0 ≤ y5.toInt ∧ y5.toInt ≤ R.toInt) := b7
    replace b8 : q_F (0 ≤ y6.toInt ∧ y6.toInt ≤ 1) := b8
    refine q_get (ci := 2) (j := 1) (v := .int y5) C0 V i_Big rfl rfl hO4 (by decide) w_85 rfl d_2_33_5 ?_
    refine lv_if_ne (tgt := 13) hx hb d_2_33_8 (by decide) (fun c9 => ?_) (fun c9 => ?_)
    ·
      have b10 : q_F (y5.toInt ≠ 0) := (q_neI c9)
      refine lv_aload_n hx hb d_2_33_13 rfl (lv_at hl 0 rfl) ?_
      refine q_goi V (q_runV (As := []) (rest := []) (d := 2) (mc := 0) (ms := 0) (ci := 2) C0 V rfl LV_Big_68 (S_Big_lowestOne l D g (nsh g q) q ws k1 R hB1  hI   _) rfl rfl hO4 rfl hl.1 rfl (Nat.le_of_ble_eq_true rfl) ⟨by decide, by decide⟩ ⟨Nat.le_of_ble_eq_true rfl, Nat.le_of_ble_eq_true rfl⟩ d_2_33_14) (fun a13 u11 H locs hp12 V => ?_)
      obtain ⟨b14, rfl⟩ := hp12
      replace b14 : q_F (0 ≤ a13.toInt ∧ a13.toInt ≤ 6852) := b14
      refine lv_iload_n hx hb d_2_33_17 rfl (lv_at hl 1 rfl) ?_
      refine q_join (X := Int32) (fun z H locs ls _ => q_F (0 ≤ z.toInt) ∧ q_F (z.toInt ≤ 1) ∧ q_Wd D g (va_A ws sz) s ws H locs ∧ lv_has ls 7 [(0, .ref (q k1)), (1, .int x2)]) (fun z => [.int z]) 26 0 0 ?_ ?_
      ·
        rintro lx15 H locs ls _ ⟨i17, i18, V, hl⟩
        replace i17 : q_F (0 ≤ lx15.toInt) := i17
        replace i18 : q_F (lx15.toInt ≤ 1) := i18
        replace hl : lv_has ls 7 [(0, .ref (q k1)), (1, .int x2)] := hl
        refine lv_istore_n (lv' := [(2, .int lx15), (0, .ref (q k1)), (1, .int x2)]) hx hb d_2_33_26 rfl hl (by decide) rfl (fun ls hl => ?_)
        refine lv_iload_n hx hb d_2_33_27 rfl (lv_at hl 2 rfl) ?_
        refine lv_bipush (v := 31) hx hb d_2_33_28 (by decide) ?_
        refine lv_idiv hx hb d_2_33_30 (by decide) ?_
        obtain ⟨a19, e20⟩ := q_nm (x2 / 31 : Int32)
        refine q_ti (v := a19) e20 ?_
        have b21 : q_F (31 * a19.toInt ≤ x2.toInt ∧ x2.toInt ≤ 31 * a19.toInt + 30) := (by rw [← e20]; show 31 * (x2 / 31 : Int32).toInt ≤ x2.toInt ∧ x2.toInt ≤ 31 * (x2 / 31 : Int32).toInt + 30; exact (by have z := q_divI (y := 31) (rfl : x2.toInt = _) (by decide : (31 : Int32).toInt = 31) (by have t1 : 0 < x2.toInt := b3; omega) (by decide); omega))
        refine lv_istore_n (lv' := [(3, .int a19), (2, .int lx15), (0, .ref (q k1)), (1, .int x2)]) hx hb d_2_33_31 rfl hl (by decide) rfl (fun ls hl => ?_)
        refine lv_iload_n hx hb d_2_33_32 rfl (lv_at hl 3 rfl) ?_
        refine lv_bipush (v := 31) hx hb d_2_33_33 (by decide) ?_
        refine lv_irem hx hb d_2_33_35 (by decide) ?_
        obtain ⟨a22, e23⟩ := q_nm (x2 - x2 / 31 * 31 : Int32)
        refine q_ti (v := a22) e23 ?_
        have b24 : q_F (0 ≤ a22.toInt ∧ a22.toInt ≤ 30 ∧ a22.toInt ≤ x2.toInt) := (by rw [← e23]; show 0 ≤ (x2 - x2 / 31 * 31 : Int32).toInt ∧ (x2 - x2 / 31 * 31 : Int32).toInt ≤ 30 ∧ (x2 - x2 / 31 * 31 : Int32).toInt ≤ x2.toInt; exact (by have z := s_rem' (x := x2) (b := 31) (by have t1 : 0 < x2.toInt := b3; omega) (by decide); have z8 : (31 : Int32).toInt = 31 := rfl; omega))
        refine lv_istore (lv' := [(4, .int a22), (3, .int a19), (2, .int lx15), (0, .ref (q k1)), (1, .int x2)]) hx hb d_2_33_36 hl (by decide) rfl (fun ls hl => ?_)
        refine lv_iconst (v := 0) hx hb d_2_33_38 (by decide) ?_
        refine lv_aload_n hx hb d_2_33_39 rfl (lv_at hl 3 rfl) ?_
        refine q_get (ci := 2) (j := 1) (v := .int y5) C0 V i_Big rfl rfl hO4 (by decide) w_85 rfl d_2_33_40 ?_
        refine lv_iload_n hx hb d_2_33_43 rfl (lv_at hl 1 rfl) ?_
        refine lv_isub hx hb d_2_33_44 ?_
        obtain ⟨a25, e26⟩ := q_nm (y5 - a19 : Int32)
        refine q_ti (v := a25) e26 ?_
        have b27 : q_F (a25.toInt = y5.toInt - a19.toInt) := (by rw [← e26]; show (y5 - a19 : Int32).toInt = y5.toInt - a19.toInt; exact q_subI (x := y5.toInt) (y := a19.toInt) rfl rfl (by have t1 : 0 ≤ y5.toInt ∧ y5.toInt ≤ R.toInt := b7; have _ := q_lo32 (x := a19); have _ := q_hi32 (x := a19); have t2 : 0 ≤ R.toInt ∧ R.toInt ≤ 220 := hfk10; have t3 : 0 < x2.toInt := b3; have t4 : 31 * a19.toInt ≤ x2.toInt ∧ x2.toInt ≤ 31 * a19.toInt + 30 := b21; omega) (by have t1 : 0 ≤ y5.toInt ∧ y5.toInt ≤ R.toInt := b7; have _ := q_lo32 (x := a19); have _ := q_hi32 (x := a19); have t2 : 0 ≤ R.toInt ∧ R.toInt ≤ 220 := hfk10; have t3 : 0 < x2.toInt := b3; have t4 : 31 * a19.toInt ≤ x2.toInt ∧ x2.toInt ≤ 31 * a19.toInt + 30 := b21; omega))
        refine q_max C0 hl.1 rfl w_1043 w_803 w_7 w_804 ⟨Nat.le_of_ble_eq_true rfl, Nat.le_of_ble_eq_true rfl⟩ ⟨Nat.le_of_ble_eq_true rfl, Nat.le_of_ble_eq_true rfl⟩ d_2_33_45 ?_
        obtain ⟨a28, e29⟩ := q_nm (if 0 < a25 then a25 else 0 : Int32)
        refine q_ti (v := a28) e29 ?_
        have b30 : q_F (0 ≤ a28.toInt ∧ a25.toInt ≤ a28.toInt ∧ (a28.toInt = 0 ∨ a28.toInt = a25.toInt)) := (by rw [← e29]; show 0 ≤ (if 0 < a25 then a25 else 0 : Int32).toInt ∧ a25.toInt ≤ (if 0 < a25 then a25 else 0 : Int32).toInt ∧ ((if 0 < a25 then a25 else 0 : Int32).toInt = 0 ∨ (if 0 < a25 then a25 else 0 : Int32).toInt = a25.toInt); exact (by have y0 : (0 : Int32).toInt = 0 := rfl; have z := s_max (a := 0) (b := a25); omega))
        refine lv_istore (lv' := [(5, .int a28), (4, .int a22), (3, .int a19), (2, .int lx15), (0, .ref (q k1)), (1, .int x2)]) hx hb d_2_33_48 hl (by decide) rfl (fun ls hl => ?_)
        refine lv_iconst (v := 0) hx hb d_2_33_50 (by decide) ?_
        refine lv_istore (lv' := [(6, .int 0), (5, .int a28), (4, .int a22), (3, .int a19), (2, .int lx15), (0, .ref (q k1)), (1, .int x2)]) hx hb d_2_33_51 hl (by decide) rfl (fun ls hl => ?_)
        refine q_loop (X := Int32) (fun z H locs ls w35 => q_F (0 ≤ z.toInt) ∧ q_F (z.toInt ≤ a28.toInt) ∧ q_Wd D g (va_A ws sz) s w35 H locs ∧ lv_has ls 7 [(6, .int z), (5, .int a28), (4, .int a22), (3, .int a19), (2, .int lx15), (0, .ref (q k1))] ∧ q_I (nsh g q) q w35 ∧ q_un ws w35 [k1, k1 + 1]) (fun z => (220 - z.toInt).toNat) ?_ ((0 : Int32)) _ _ _ ws ⟨(show q_F (0 ≤ 0) from (show 0 ≤ 0 from by omega)), (show q_F (0 ≤ a28.toInt) from (show 0 ≤ a28.toInt from by have t1 : 0 ≤ a28.toInt ∧ a25.toInt ≤ a28.toInt ∧ (a28.toInt = 0 ∨ a28.toInt = a25.toInt) := b30; omega)), V, q_lw hl (q_lw1 0 rfl (q_lw1 1 rfl (q_lw1 2 rfl (q_lw1 3 rfl (q_lw1 4 rfl (q_lw1 5 rfl q_lw0)))))), hI, hF⟩
        rintro lx31 H locs ls w35 ⟨i32, i33, V, hl, hI, hF⟩ ih34
        replace i32 : q_F (0 ≤ lx31.toInt) := i32
        replace i33 : q_F (lx31.toInt ≤ a28.toInt) := i33
        replace hl : lv_has ls 7 [(6, .int lx31), (5, .int a28), (4, .int a22), (3, .int a19), (2, .int lx15), (0, .ref (q k1))] := hl
        refine lv_iload hx hb d_2_33_53 (lv_at hl 0 rfl) ?_
        refine lv_iload hx hb d_2_33_55 (lv_at hl 1 rfl) ?_
        refine lv_icmp_ge (tgt := 104) hx hb d_2_33_57 (by decide) (fun c36 => ?_) (fun c36 => ?_)
        ·
          have b37 : q_F (a28.toInt ≤ lx31.toInt) := (q_leI c36)
          refine lv_aload_n hx hb d_2_33_104 rfl (lv_at hl 5 rfl) ?_
          refine lv_iload hx hb d_2_33_105 (lv_at hl 1 rfl) ?_
          obtain ⟨y39, y40, hO38, b41, b42⟩ := q_bigO hI hB1
          replace b41 : q_F (0 ≤ y39.toInt ∧ y39.toInt ≤ R.toInt) := b41
          replace b42 : q_F (0 ≤ y40.toInt ∧ y40.toInt ≤ 1) := b42
          refine q_put (ci := 2) (j := 1) (v := .int a28) (ty := .int) C0 V i_Big o_Big n_Big rfl rfl hO38 (by decide) w_85 rfl rfl rfl rfl (Nat.le_of_ble_eq_true rfl) d_2_33_107 (fun H locs w43 hu44 hO38 V => ?_)
          replace hO38 : w43[k1]? = (some (q k1, .inr (2, [.ref (q (k1 + 1)), .int a28, .int y40])) : Option (Nat × va_E)) := hO38
          replace hI := q_bigO' hI hB1 hu44 hO38 ⟨(by have t1 : 0 ≤ a28.toInt ∧ a25.toInt ≤ a28.toInt ∧ (a28.toInt = 0 ∨ a28.toInt = a25.toInt) := b30; omega), (by have t1 : 0 < x2.toInt := b3; have t2 : 0 ≤ y5.toInt ∧ y5.toInt ≤ R.toInt := b7; have t3 : 31 * a19.toInt ≤ x2.toInt ∧ x2.toInt ≤ 31 * a19.toInt + 30 := b21; have t4 : a25.toInt = y5.toInt - a19.toInt := b27; have t5 : 0 ≤ a28.toInt ∧ a25.toInt ≤ a28.toInt ∧ (a28.toInt = 0 ∨ a28.toInt = a25.toInt) := b30; omega)⟩ ⟨(by have t1 : 0 ≤ y40.toInt ∧ y40.toInt ≤ 1 := b42; omega), (by have t1 : 0 ≤ y40.toInt ∧ y40.toInt ≤ 1 := b42; omega)⟩
          replace hF := q_us hF hu44 (by simp)
          refine lv_aload_n hx hb d_2_33_110 rfl (lv_at hl 5 rfl) ?_
          refine q_gov V (q_runV (As := []) (rest := []) (d := 1) (mc := 0) (ms := 0) (ci := 2) C0 V rfl LV_Big_36 (S_Big_trim l D g (nsh g q) q w43 k1 R hB1  hI   _) rfl rfl hO38 rfl hl.1 rfl (Nat.le_of_ble_eq_true rfl) ⟨by decide, by decide⟩ ⟨Nat.le_of_ble_eq_true rfl, Nat.le_of_ble_eq_true rfl⟩ d_2_33_111) (fun u45 H locs hp46 V => ?_)
          obtain ⟨_, hI, hu47⟩ := hp46
          replace hF := q_uc hF hu47 (by simp)
          refine lv_iload_n hx hb d_2_33_114 rfl (lv_at hl 4 rfl) ?_
          exact q_retz C0 V (q_nz01 (q_Ile (x := 0) (y := lx15.toInt) (by decide) rfl (by have t1 : 0 ≤ lx15.toInt := i17; omega)) (q_Ile (x := lx15.toInt) (y := 1) rfl (by decide) (by have t1 : lx15.toInt ≤ 1 := i18; omega))) (⟨hI, hF, (show 0 ≤ lx15.toInt from (by have t1 : 0 ≤ lx15.toInt := i17; omega)), (show lx15.toInt ≤ 1 from (by have t1 : lx15.toInt ≤ 1 := i18; omega)), (show lx15.toInt ≤ R.toInt from (by have t1 : 0 ≤ y5.toInt ∧ y5.toInt ≤ R.toInt := b7; have t2 : y5.toInt ≠ 0 := b10; have t3 : lx15.toInt ≤ 1 := i18; omega))⟩) d_2_33_115
        ·
          have b48 : q_F (lx31.toInt < a28.toInt) := (q_nleI c36)
          refine lv_aload_n hx hb d_2_33_60 rfl (lv_at hl 5 rfl) ?_
          obtain ⟨y50, y51, hO49, b52, b53⟩ := q_bigO hI hB1
          replace b52 : q_F (0 ≤ y50.toInt ∧ y50.toInt ≤ R.toInt) := b52
          replace b53 : q_F (0 ≤ y51.toInt ∧ y51.toInt ≤ 1) := b53
          refine q_get (ci := 2) (j := 0) (v := .ref (q (k1 + 1))) C0 V i_Big rfl rfl hO49 (by decide) w_84 rfl d_2_33_61 ?_
          refine lv_iload hx hb d_2_33_64 (lv_at hl 0 rfl) ?_
          refine lv_aload_n hx hb d_2_33_66 rfl (lv_at hl 5 rfl) ?_
          refine lv_iload hx hb d_2_33_67 (lv_at hl 0 rfl) ?_
          refine lv_iload_n hx hb d_2_33_69 rfl (lv_at hl 3 rfl) ?_
          refine lv_iadd hx hb d_2_33_70 ?_
          obtain ⟨a54, e55⟩ := q_nm (lx31 + a19 : Int32)
          refine q_ti (v := a54) e55 ?_
          have b56 : q_F (a54.toInt = lx31.toInt + a19.toInt) := (by rw [← e55]; show (lx31 + a19 : Int32).toInt = lx31.toInt + a19.toInt; exact q_addI (x := lx31.toInt) (y := a19.toInt) rfl rfl (by have t1 : 0 ≤ lx31.toInt := i32; have _ := q_lo32 (x := a19); have _ := q_hi32 (x := a19); have t2 : 0 ≤ y5.toInt ∧ y5.toInt ≤ R.toInt := b7; have t3 : a25.toInt = y5.toInt - a19.toInt := b27; have t4 : 0 ≤ a28.toInt ∧ a25.toInt ≤ a28.toInt ∧ (a28.toInt = 0 ∨ a28.toInt = a25.toInt) := b30; have t5 : lx31.toInt < a28.toInt := b48; have _ := q_lo32 (x := R); have _ := q_hi32 (x := R); omega) (by have t1 : 0 ≤ lx31.toInt := i32; have _ := q_lo32 (x := a19); have _ := q_hi32 (x := a19); have t2 : 0 ≤ y5.toInt ∧ y5.toInt ≤ R.toInt := b7; have t3 : a25.toInt = y5.toInt - a19.toInt := b27; have t4 : 0 ≤ a28.toInt ∧ a25.toInt ≤ a28.toInt ∧ (a28.toInt = 0 ∨ a28.toInt = a25.toInt) := b30; have t5 : lx31.toInt < a28.toInt := b48; have _ := q_lo32 (x := R); have _ := q_hi32 (x := R); omega))
          refine q_goi V (q_runV (As := [.int a54]) (rest := [.int lx31, .ref (q (k1 + 1))]) (d := 1) (mc := 0) (ms := 0) (ci := 2) C0 V rfl LV_Big_49 (S_Big_limb l D g (nsh g q) q w35 k1 R hB1 a54 hI   _) rfl rfl hO49 rfl hl.1 rfl (Nat.le_of_ble_eq_true rfl) ⟨by decide, by decide⟩ ⟨Nat.le_of_ble_eq_true rfl, Nat.le_of_ble_eq_true rfl⟩ d_2_33_71) (fun a59 u57 H locs hp58 V => ?_)
          obtain ⟨_, rfl⟩ := hp58
          refine lv_iload hx hb d_2_33_74 (lv_at hl 2 rfl) ?_
          refine lv_iushr hx hb d_2_33_76 rfl ?_
          obtain ⟨a60, e61⟩ := q_nm ((a59.toUInt32 >>> (a22.toUInt32 &&& Int32.toUInt32 31)).toInt32 : Int32)
          refine q_ti (v := a60) e61 ?_
          refine lv_aload_n hx hb d_2_33_77 rfl (lv_at hl 5 rfl) ?_
          refine lv_iload hx hb d_2_33_78 (lv_at hl 0 rfl) ?_
          refine lv_iload_n hx hb d_2_33_80 rfl (lv_at hl 3 rfl) ?_
          refine lv_iadd hx hb d_2_33_81 ?_
          obtain ⟨a62, e63⟩ := q_nm (lx31 + a19 : Int32)
          refine q_ti (v := a62) e63 ?_
          have b64 : q_F (a62.toInt = lx31.toInt + a19.toInt) := (by rw [← e63]; show (lx31 + a19 : Int32).toInt = lx31.toInt + a19.toInt; exact q_addI (x := lx31.toInt) (y := a19.toInt) rfl rfl (by have t1 : 0 ≤ lx31.toInt := i32; have _ := q_lo32 (x := a19); have _ := q_hi32 (x := a19); have t2 : a54.toInt = lx31.toInt + a19.toInt := b56; have _ := q_lo32 (x := a54); have _ := q_hi32 (x := a54); omega) (by have t1 : 0 ≤ lx31.toInt := i32; have _ := q_lo32 (x := a19); have _ := q_hi32 (x := a19); have t2 : a54.toInt = lx31.toInt + a19.toInt := b56; have _ := q_lo32 (x := a54); have _ := q_hi32 (x := a54); omega))
          refine lv_iconst (v := 1) hx hb d_2_33_82 (by decide) ?_
          refine lv_iadd hx hb d_2_33_83 ?_
          obtain ⟨a65, e66⟩ := q_nm (a62 + 1 : Int32)
          refine q_ti (v := a65) e66 ?_
          have b67 : q_F (a65.toInt = a62.toInt + 1) := (by rw [← e66]; show (a62 + 1 : Int32).toInt = a62.toInt + 1; exact q_addI (x := a62.toInt) (y := 1) rfl (by decide) (by have _ := q_lo32 (x := a62); have _ := q_hi32 (x := a62); have t1 : 0 ≤ y5.toInt ∧ y5.toInt ≤ R.toInt := b7; have t2 : a25.toInt = y5.toInt - a19.toInt := b27; have t3 : 0 ≤ a28.toInt ∧ a25.toInt ≤ a28.toInt ∧ (a28.toInt = 0 ∨ a28.toInt = a25.toInt) := b30; have t4 : 0 ≤ lx31.toInt := i32; have t5 : lx31.toInt < a28.toInt := b48; have t6 : a62.toInt = lx31.toInt + a19.toInt := b64; have _ := q_lo32 (x := R); have _ := q_hi32 (x := R); omega) (by have _ := q_lo32 (x := a62); have _ := q_hi32 (x := a62); have t1 : 0 ≤ y5.toInt ∧ y5.toInt ≤ R.toInt := b7; have t2 : a25.toInt = y5.toInt - a19.toInt := b27; have t3 : 0 ≤ a28.toInt ∧ a25.toInt ≤ a28.toInt ∧ (a28.toInt = 0 ∨ a28.toInt = a25.toInt) := b30; have t4 : 0 ≤ lx31.toInt := i32; have t5 : lx31.toInt < a28.toInt := b48; have t6 : a62.toInt = lx31.toInt + a19.toInt := b64; have _ := q_lo32 (x := R); have _ := q_hi32 (x := R); omega))
          refine q_goi V (q_runV (As := [.int a65]) (rest := [.int a60, .int lx31, .ref (q (k1 + 1))]) (d := 1) (mc := 0) (ms := 0) (ci := 2) C0 V rfl LV_Big_49 (S_Big_limb l D g (nsh g q) q w35 k1 R hB1 a65 hI   _) rfl rfl hO49 rfl hl.1 rfl (Nat.le_of_ble_eq_true rfl) ⟨by decide, by decide⟩ ⟨Nat.le_of_ble_eq_true rfl, Nat.le_of_ble_eq_true rfl⟩ d_2_33_84) (fun a70 u68 H locs hp69 V => ?_)
          obtain ⟨_, rfl⟩ := hp69
          refine lv_bipush (v := 31) hx hb d_2_33_87 (by decide) ?_
          refine lv_iload hx hb d_2_33_89 (lv_at hl 2 rfl) ?_
          refine lv_isub hx hb d_2_33_91 ?_
          obtain ⟨a71, e72⟩ := q_nm (31 - a22 : Int32)
          refine q_ti (v := a71) e72 ?_
          have b73 : q_F (a71.toInt = 31 - a22.toInt) := (by rw [← e72]; show (31 - a22 : Int32).toInt = 31 - a22.toInt; exact q_subI (x := 31) (y := a22.toInt) (by decide) rfl (by have t1 : 0 ≤ a22.toInt ∧ a22.toInt ≤ 30 ∧ a22.toInt ≤ x2.toInt := b24; omega) (by have t1 : 0 ≤ a22.toInt ∧ a22.toInt ≤ 30 ∧ a22.toInt ≤ x2.toInt := b24; omega))
          refine lv_ishl hx hb d_2_33_92 ?_
          obtain ⟨a74, e75⟩ := q_nm (a70 <<< (a71 &&& 31) : Int32)
          refine q_ti (v := a74) e75 ?_
          refine lv_ior hx hb d_2_33_93 ?_
          obtain ⟨a76, e77⟩ := q_nm (a60 ||| a74 : Int32)
          refine q_ti (v := a76) e77 ?_
          refine q_ldc C0 rfl w_809 d_2_33_94 ?_
          refine lv_iand hx hb d_2_33_96 ?_
          obtain ⟨a78, e79⟩ := q_nm (a76 &&& 2147483647 : Int32)
          refine q_ti (v := a78) e79 ?_
          have b80 : q_F (0 ≤ a78.toInt ∧ a78.toInt ≤ 2147483647) := (by rw [← e79]; show 0 ≤ (a76 &&& 2147483647 : Int32).toInt ∧ (a76 &&& 2147483647 : Int32).toInt ≤ 2147483647; exact s_and (by decide))
          obtain ⟨f81, hA82, bf83⟩ := q_bigA hI hB1
          refine q_iast C0 V hA82 (q_ix (x := lx31.toInt) rfl (by have t1 : 0 ≤ lx31.toInt := i32; omega) (by have t1 : 0 ≤ lx31.toInt := i32; have t2 : 0 < x2.toInt := b3; have t3 : 0 ≤ y5.toInt ∧ y5.toInt ≤ R.toInt := b7; have t4 : 31 * a19.toInt ≤ x2.toInt ∧ x2.toInt ≤ 31 * a19.toInt + 30 := b21; have t5 : a25.toInt = y5.toInt - a19.toInt := b27; have t6 : 0 ≤ a28.toInt ∧ a25.toInt ≤ a28.toInt ∧ (a28.toInt = 0 ∨ a28.toInt = a25.toInt) := b30; have t7 : lx31.toInt < a28.toInt := b48; have e9 := q_clI (i := R) rfl (by have t1 : 0 ≤ R.toInt ∧ R.toInt ≤ 220 := hfk10; omega); omega)) d_2_33_97 (fun H locs w84 hu85 hA82 V => ?_)
          replace hI := q_bigA' hI hB1 hu85 hA82 (q_updB bf83 s_bnd)
          replace hO49 := (hu85 _ (by omega)).trans hO49
          replace hF := q_us hF hu85 (by simp)
          obtain ⟨a86, e87⟩ := q_nm (lx31 + 1 : Int32)
          have b88 : q_F (a86.toInt = lx31.toInt + 1) := (by rw [← e87]; exact q_addI (y := 1) rfl (by decide) (by have t1 : 0 ≤ lx31.toInt := i32; have t2 : lx31.toInt < a28.toInt := b48; have _ := q_lo32 (x := a28); have _ := q_hi32 (x := a28); omega) (by have t1 : 0 ≤ lx31.toInt := i32; have t2 : lx31.toInt < a28.toInt := b48; have _ := q_lo32 (x := a28); have _ := q_hi32 (x := a28); omega))
          refine lv_iinc (v := a86) (lv' := [(6, .int a86), (5, .int a28), (4, .int a22), (3, .int a19), (2, .int lx15), (0, .ref (q k1))]) hx hb d_2_33_98 hl (k := 0) rfl (e87) (by decide) rfl (fun ls hl => ?_)
          refine lv_goto (tgt := 53) hx hb d_2_33_101 (by decide) ?_
          exact ih34 ((a86 : Int32)) _ _ _ _ (show (220 - a86.toInt).toNat < (220 - lx31.toInt).toNat from by have t1 : a86.toInt = lx31.toInt + 1 := b88; have t2 : 0 ≤ R.toInt ∧ R.toInt ≤ 220 := hfk10; have t3 : 0 < x2.toInt := b3; have t4 : 0 ≤ y5.toInt ∧ y5.toInt ≤ R.toInt := b7; have t5 : 31 * a19.toInt ≤ x2.toInt ∧ x2.toInt ≤ 31 * a19.toInt + 30 := b21; have t6 : a25.toInt = y5.toInt - a19.toInt := b27; have t7 : 0 ≤ a28.toInt ∧ a25.toInt ≤ a28.toInt ∧ (a28.toInt = 0 ∨ a28.toInt = a25.toInt) := b30; have t8 : lx31.toInt ≤ a28.toInt := i33; have t9 : lx31.toInt < a28.toInt := b48; omega) ⟨(show q_F (0 ≤ a86.toInt) from (show 0 ≤ a86.toInt from by have t1 : 0 ≤ lx31.toInt := i32; have t2 : a86.toInt = lx31.toInt + 1 := b88; omega)), (show q_F (a86.toInt ≤ a28.toInt) from (show a86.toInt ≤ a28.toInt from by have t1 : lx31.toInt < a28.toInt := b48; have t2 : a86.toInt = lx31.toInt + 1 := b88; omega)), V, q_lw hl (q_lw1 0 rfl (q_lw1 1 rfl (q_lw1 2 rfl (q_lw1 3 rfl (q_lw1 4 rfl (q_lw1 5 rfl q_lw0)))))), hI, hF⟩
      ·
        intro J16
        refine lv_icmp_ge (tgt := 25) hx hb d_2_33_18 (by decide) (fun c89 => ?_) (fun c89 => ?_)
        ·
          have b90 : q_F (x2.toInt ≤ a13.toInt) := (q_leI c89)
          refine lv_iconst (v := 0) hx hb d_2_33_25 (by decide) ?_
          exact J16 ((0 : Int32)) _ _ _ ws ⟨(show q_F (0 ≤ 0) from (show 0 ≤ 0 from by omega)), (show q_F (0 ≤ 1) from (show 0 ≤ 1 from by omega)), V, q_lw hl (q_lw1 0 rfl (q_lw1 1 rfl q_lw0))⟩
        ·
          have b91 : q_F (a13.toInt < x2.toInt) := (q_nleI c89)
          refine lv_iconst (v := 1) hx hb d_2_33_21 (by decide) ?_
          refine lv_goto (tgt := 26) hx hb d_2_33_22 (by decide) ?_
          exact J16 ((1 : Int32)) _ _ _ ws ⟨(show q_F (0 ≤ 1) from (show 0 ≤ 1 from by omega)), (show q_F (1 ≤ 1) from (show 1 ≤ 1 from by omega)), V, q_lw hl (q_lw1 0 rfl (q_lw1 1 rfl q_lw0))⟩
    ·
      have b92 : q_F (y5.toInt = 0) := (q_eqI c9)
      refine lv_iconst (v := 0) hx hb d_2_33_11 (by decide) ?_
      exact q_retz C0 V (by decide) (⟨hI, hF, (show 0 ≤ (0 : Int32).toInt from (by have z2 : (0 : Int32).toInt = 0 := rfl; omega)), (show (0 : Int32).toInt ≤ 1 from (by have z2 : (0 : Int32).toInt = 0 := rfl; omega)), (show (0 : Int32).toInt ≤ R.toInt from (by have z2 : (0 : Int32).toInt = 0 := rfl; have t1 : 0 ≤ R.toInt ∧ R.toInt ≤ 220 := hfk10; omega))⟩) d_2_33_12
theorem d_2_10_34 : decode prog_2_method_10_code 34 = .ok (.lload_n 1, 1) := by decide +kernel
theorem d_2_10_35 : decode prog_2_method_10_code 35 = .ok (.lneg, 1) := by decide +kernel
theorem d_2_10_36 : decode prog_2_method_10_code 36 = .ok (.goto 4, 3) := by decide +kernel
set_option maxRecDepth 100000 in
set_option maxHeartbeats 4000000 in
theorem T_Big_toLong (l : Launch) (D : va_G) (g : Nat → ClassId) (q : Nat → Nat) (ws : va_W) (k1 : Nat) (R : Int32) (hB1 : q_isBig (nsh g q) g q k1 R) (zk1 : (10 ≤ k1 ∧ k1 ≤ 32) ∨ 66 ≤ k1) (hI : q_I (nsh g q) q ws) : q_mL l y_Big_toLong prog_2_method_10_code 3 2 0 0 D g [.ref (q k1)] ws (fun r u => ws = u ∧ True) := by
  intro sz
  refine q_into (by decide) (Nat.le_of_ble_eq_true rfl) ?_
  intro p e s m below meth c ls hsz C0 V hl
  have hx := C0.1
  have hb := C0.2.1
  have hfk10 : q_F (0 ≤ R.toInt ∧ R.toInt ≤ 220) := hB1.2.2
  have hl : lv_has ls 3 [(0, .ref (q k1))] := hl
  refine lv_aload_n hx hb d_2_10_0 rfl (lv_at hl 0 rfl) ?_
  refine lv_iconst (v := 0) hx hb d_2_10_1 (by decide) ?_
  obtain ⟨y2, y3, hO1, b4, b5⟩ := q_bigO hI hB1
  replace b4 : q_F (0 ≤ y2.toInt ∧ y2.toInt ≤ R.toInt) := b4
  replace b5 : q_F (0 ≤ y3.toInt ∧ y3.toInt ≤ 1) := b5
  refine q_goi V (q_runV (As := [.int 0]) (rest := []) (d := 1) (mc := 0) (ms := 0) (ci := 2) C0 V rfl LV_Big_49 (S_Big_limb l D g (nsh g q) q ws k1 R hB1 0 hI   _) rfl rfl hO1 rfl hl.1 rfl (Nat.le_of_ble_eq_true rfl) ⟨by decide, by decide⟩ ⟨Nat.le_of_ble_eq_true rfl, Nat.le_of_ble_eq_true rfl⟩ d_2_10_2) (fun a8 u6 H locs hp7 V => ?_)
  obtain ⟨_, rfl⟩ := hp7
  refine lv_i2l hx hb d_2_10_5 rfl ?_
  obtain ⟨j9, e10⟩ := q_nm (a8.toInt64 : Int64)
  refine q_tl (v := j9) e10 ?_
  have b11 : q_F (j9.toInt = a8.toInt) := (by rw [← e10]; show (a8.toInt64 : Int64).toInt = a8.toInt; exact q_i2l rfl)
  refine lv_aload_n hx hb d_2_10_6 rfl (lv_at hl 0 rfl) ?_
  refine lv_iconst (v := 1) hx hb d_2_10_7 (by decide) ?_
  refine q_goi V (q_runV (As := [.int 1]) (rest := [.long j9]) (d := 1) (mc := 0) (ms := 0) (ci := 2) C0 V rfl LV_Big_49 (S_Big_limb l D g (nsh g q) q ws k1 R hB1 1 hI   _) rfl rfl hO1 rfl hl.1 rfl (Nat.le_of_ble_eq_true rfl) ⟨by decide, by decide⟩ ⟨Nat.le_of_ble_eq_true rfl, Nat.le_of_ble_eq_true rfl⟩ d_2_10_8) (fun a14 u12 H locs hp13 V => ?_)
  obtain ⟨_, rfl⟩ := hp13
  refine lv_i2l hx hb d_2_10_11 rfl ?_
  obtain ⟨j15, e16⟩ := q_nm (a14.toInt64 : Int64)
  refine q_tl (v := j15) e16 ?_
  have b17 : q_F (j15.toInt = a14.toInt) := (by rw [← e16]; show (a14.toInt64 : Int64).toInt = a14.toInt; exact q_i2l rfl)
  refine lv_bipush (v := 31) hx hb d_2_10_12 (by decide) ?_
  refine lv_lshl hx hb d_2_10_14 rfl ?_
  obtain ⟨j18, e19⟩ := q_nm (j15 <<< ((31 : Int32).toInt64 &&& 63) : Int64)
  refine q_tl (v := j18) e19 ?_
  refine lv_lor hx hb d_2_10_15 ?_
  obtain ⟨j20, e21⟩ := q_nm (j9 ||| j18 : Int64)
  refine q_tl (v := j20) e21 ?_
  refine lv_aload_n hx hb d_2_10_16 rfl (lv_at hl 0 rfl) ?_
  refine lv_iconst (v := 2) hx hb d_2_10_17 (by decide) ?_
  refine q_goi V (q_runV (As := [.int 2]) (rest := [.long j20]) (d := 1) (mc := 0) (ms := 0) (ci := 2) C0 V rfl LV_Big_49 (S_Big_limb l D g (nsh g q) q ws k1 R hB1 2 hI   _) rfl rfl hO1 rfl hl.1 rfl (Nat.le_of_ble_eq_true rfl) ⟨by decide, by decide⟩ ⟨Nat.le_of_ble_eq_true rfl, Nat.le_of_ble_eq_true rfl⟩ d_2_10_18) (fun a24 u22 H locs hp23 V => ?_)
  obtain ⟨_, rfl⟩ := hp23
  refine lv_i2l hx hb d_2_10_21 rfl ?_
  obtain ⟨j25, e26⟩ := q_nm (a24.toInt64 : Int64)
  refine q_tl (v := j25) e26 ?_
  have b27 : q_F (j25.toInt = a24.toInt) := (by rw [← e26]; show (a24.toInt64 : Int64).toInt = a24.toInt; exact q_i2l rfl)
  refine lv_bipush (v := 62) hx hb d_2_10_22 (by decide) ?_
  refine lv_lshl hx hb d_2_10_24 rfl ?_
  obtain ⟨j28, e29⟩ := q_nm (j25 <<< ((62 : Int32).toInt64 &&& 63) : Int64)
  refine q_tl (v := j28) e29 ?_
  refine lv_lor hx hb d_2_10_25 ?_
  obtain ⟨j30, e31⟩ := q_nm (j20 ||| j28 : Int64)
  refine q_tl (v := j30) e31 ?_
  refine lv_lstore_n (lv' := [(1, .long j30), (0, .ref (q k1))]) hx hb d_2_10_26 rfl hl (by decide) rfl (fun ls hl => ?_)
  refine lv_aload_n hx hb d_2_10_27 rfl (lv_at hl 1 rfl) ?_
  refine q_get (ci := 2) (j := 2) (v := .int y3) C0 V i_Big rfl rfl hO1 (by decide) w_94 rfl d_2_10_28 ?_
  refine lv_if_eq (tgt := 39) hx hb d_2_10_31 (by decide) (fun c32 => ?_) (fun c32 => ?_)
  ·
    have b33 : q_F (y3.toInt = 0) := (q_eqI c32)
    refine lv_lload_n hx hb d_2_10_39 rfl (lv_at hl 0 rfl) ?_
    exact q_retl C0 V (⟨rfl, trivial⟩) d_2_10_40
  ·
    have b34 : q_F (y3.toInt ≠ 0) := (q_neI c32)
    refine lv_lload_n hx hb d_2_10_34 rfl (lv_at hl 0 rfl) ?_
    refine lv_lneg hx hb d_2_10_35 ?_
    obtain ⟨j35, e36⟩ := q_nm (-j30 : Int64)
    refine q_tl (v := j35) e36 ?_
    refine lv_goto (tgt := 40) hx hb d_2_10_36 (by decide) ?_
    exact q_retl C0 V (⟨rfl, trivial⟩) d_2_10_40
theorem d_2_16_37 : decode prog_2_method_16_code 37 = .ok (.iload_n 1, 1) := by decide +kernel
theorem d_2_16_38 : decode prog_2_method_16_code 38 = .ok (.iconst 1, 1) := by decide +kernel
theorem d_2_16_39 : decode prog_2_method_16_code 39 = .ok (.isub, 1) := by decide +kernel
theorem d_2_16_40 : decode prog_2_method_16_code 40 = .ok (.aload_n 0, 1) := by decide +kernel
theorem d_2_16_41 : decode prog_2_method_16_code 41 = .ok (.invokevirtual 68, 3) := by decide +kernel
theorem d_2_16_44 : decode prog_2_method_16_code 44 = .ok (.iadd, 1) := by decide +kernel
theorem d_2_16_45 : decode prog_2_method_16_code 45 = .ok (.goto 4, 3) := by decide +kernel
theorem d_2_16_12 : decode prog_2_method_16_code 12 = .ok (.iload_n 1, 1) := by decide +kernel
theorem d_2_16_13 : decode prog_2_method_16_code 13 = .ok (.aload_n 0, 1) := by decide +kernel
theorem d_2_16_14 : decode prog_2_method_16_code 14 = .ok (.getfield 7, 3) := by decide +kernel
theorem d_2_16_17 : decode prog_2_method_16_code 17 = .ok (.iload_n 2, 1) := by decide +kernel
theorem d_2_16_18 : decode prog_2_method_16_code 18 = .ok (.iaload, 1) := by decide +kernel
theorem d_2_16_19 : decode prog_2_method_16_code 19 = .ok (.invokestatic 60, 3) := by decide +kernel
theorem d_2_16_22 : decode prog_2_method_16_code 22 = .ok (.iadd, 1) := by decide +kernel
theorem d_2_16_23 : decode prog_2_method_16_code 23 = .ok (.istore_n 1, 1) := by decide +kernel
theorem d_2_16_24 : decode prog_2_method_16_code 24 = .ok (.iinc 2 1, 3) := by decide +kernel
theorem d_2_16_27 : decode prog_2_method_16_code 27 = .ok (.goto (-23), 3) := by decide +kernel
set_option maxRecDepth 100000 in
set_option maxHeartbeats 4000000 in
theorem T_Big_otherBits (l : Launch) (D : va_G) (g : Nat → ClassId) (q : Nat → Nat) (ws : va_W) (k1 : Nat) (R : Int32) (hB1 : q_isBig (nsh g q) g q k1 R) (zk1 : (10 ≤ k1 ∧ k1 ≤ 32) ∨ 66 ≤ k1) (hI : q_I (nsh g q) q ws) : q_mI l y_Big_otherBits prog_2_method_16_code 3 (.int) 3 0 0 D g [.ref (q k1)] ws (fun r u => ws = u ∧ (0 ≤ r.toInt + 1) ∧ (r.toInt ≤ R.toInt + 20491)) := by
  intro sz
  refine q_into (by decide) (Nat.le_of_ble_eq_true rfl) ?_
  intro p e s m below meth c ls hsz C0 V hl
  have hx := C0.1
  have hb := C0.2.1
  have hfk10 : q_F (0 ≤ R.toInt ∧ R.toInt ≤ 220) := hB1.2.2
  have hl : lv_has ls 3 [(0, .ref (q k1))] := hl
  refine lv_iconst (v := 0) hx hb d_2_16_0 (by decide) ?_
  refine lv_istore_n (lv' := [(1, .int 0), (0, .ref (q k1))]) hx hb d_2_16_1 rfl hl (by decide) rfl (fun ls hl => ?_)
  refine lv_iconst (v := 0) hx hb d_2_16_2 (by decide) ?_
  refine lv_istore_n (lv' := [(2, .int 0), (1, .int 0), (0, .ref (q k1))]) hx hb d_2_16_3 rfl hl (by decide) rfl (fun ls hl => ?_)
  refine q_loop (X := Int32 × Int32) (fun z H locs ls _ => q_F (0 ≤ z.2.toInt) ∧ q_F (z.1.toInt ≤ R.toInt) ∧ q_F (z.2.toInt ≤ 63 * z.1.toInt) ∧ q_Wd D g (va_A ws sz) s ws H locs ∧ lv_has ls 3 [(2, .int z.1), (1, .int z.2), (0, .ref (q k1))]) (fun z => (220 - z.1.toInt).toNat) ?_ ((0 : Int32), (0 : Int32)) _ _ _ ws ⟨(show q_F (0 ≤ 0) from (show 0 ≤ 0 from by omega)), (show q_F (0 ≤ R.toInt) from (show 0 ≤ R.toInt from by have t1 : 0 ≤ R.toInt ∧ R.toInt ≤ 220 := hfk10; omega)), (show q_F (0 ≤ 63 * 0) from (show 0 ≤ 63 * 0 from by omega)), V, q_lw hl (q_lw1 0 rfl (q_lw1 1 rfl (q_lw1 2 rfl q_lw0)))⟩
  rintro ⟨lx5, lx6⟩ H locs ls _ ⟨i7, i8, i9, V, hl⟩ ih10
  replace i7 : q_F (0 ≤ lx6.toInt) := i7
  replace i8 : q_F (lx5.toInt ≤ R.toInt) := i8
  replace i9 : q_F (lx6.toInt ≤ 63 * lx5.toInt) := i9
  replace hl : lv_has ls 3 [(2, .int lx5), (1, .int lx6), (0, .ref (q k1))] := hl
  refine lv_iload_n hx hb d_2_16_4 rfl (lv_at hl 0 rfl) ?_
  refine lv_aload_n hx hb d_2_16_5 rfl (lv_at hl 2 rfl) ?_
  obtain ⟨y12, y13, hO11, b14, b15⟩ := q_bigO hI hB1
  replace b14 : q_F (0 ≤ y12.toInt ∧ y12.toInt ≤ R.toInt) := b14
  replace b15 : q_F (0 ≤ y13.toInt ∧ y13.toInt ≤ 1) := b15
  refine q_get (ci := 2) (j := 1) (v := .int y12) C0 V i_Big rfl rfl hO11 (by decide) w_85 rfl d_2_16_6 ?_
  refine lv_icmp_ge (tgt := 30) hx hb d_2_16_9 (by decide) (fun c16 => ?_) (fun c16 => ?_)
  ·
    have b17 : q_F (y12.toInt ≤ lx5.toInt) := (q_leI c16)
    refine lv_aload_n hx hb d_2_16_30 rfl (lv_at hl 2 rfl) ?_
    refine q_get (ci := 2) (j := 2) (v := .int y13) C0 V i_Big rfl rfl hO11 (by decide) w_94 rfl d_2_16_31 ?_
    refine lv_if_eq (tgt := 48) hx hb d_2_16_34 (by decide) (fun c18 => ?_) (fun c18 => ?_)
    ·
      have b19 : q_F (y13.toInt = 0) := (q_eqI c18)
      refine lv_iload_n hx hb d_2_16_48 rfl (lv_at hl 1 rfl) ?_
      exact q_reti C0 V (⟨rfl, (show 0 ≤ lx6.toInt + 1 from (by have t1 : 0 ≤ lx6.toInt := i7; omega)), (show lx6.toInt ≤ R.toInt + 20491 from (by have t1 : 0 ≤ R.toInt ∧ R.toInt ≤ 220 := hfk10; have t2 : lx5.toInt ≤ R.toInt := i8; have t3 : lx6.toInt ≤ 63 * lx5.toInt := i9; omega))⟩) d_2_16_49
    ·
      have b20 : q_F (y13.toInt ≠ 0) := (q_neI c18)
      refine lv_iload_n hx hb d_2_16_37 rfl (lv_at hl 1 rfl) ?_
      refine lv_iconst (v := 1) hx hb d_2_16_38 (by decide) ?_
      refine lv_isub hx hb d_2_16_39 ?_
      obtain ⟨a21, e22⟩ := q_nm (lx6 - 1 : Int32)
      refine q_ti (v := a21) e22 ?_
      have b23 : q_F (a21.toInt = lx6.toInt - 1) := (by rw [← e22]; show (lx6 - 1 : Int32).toInt = lx6.toInt - 1; exact q_subI (x := lx6.toInt) (y := 1) rfl (by decide) (by have t1 : 0 ≤ lx6.toInt := i7; have _ := q_lo32 (x := lx6); have _ := q_hi32 (x := lx6); omega) (by have t1 : 0 ≤ lx6.toInt := i7; have _ := q_lo32 (x := lx6); have _ := q_hi32 (x := lx6); omega))
      refine lv_aload_n hx hb d_2_16_40 rfl (lv_at hl 2 rfl) ?_
      refine q_goi V (q_runV (As := []) (rest := [.int a21]) (d := 2) (mc := 0) (ms := 0) (ci := 2) C0 V rfl LV_Big_68 (S_Big_lowestOne l D g (nsh g q) q ws k1 R hB1  hI   _) rfl rfl hO11 rfl hl.1 rfl (Nat.le_of_ble_eq_true rfl) ⟨by decide, by decide⟩ ⟨Nat.le_of_ble_eq_true rfl, Nat.le_of_ble_eq_true rfl⟩ d_2_16_41) (fun a26 u24 H locs hp25 V => ?_)
      obtain ⟨b27, rfl⟩ := hp25
      replace b27 : q_F (0 ≤ a26.toInt ∧ a26.toInt ≤ 6852) := b27
      refine lv_iadd hx hb d_2_16_44 ?_
      obtain ⟨a28, e29⟩ := q_nm (a21 + a26 : Int32)
      refine q_ti (v := a28) e29 ?_
      have b30 : q_F (a28.toInt = a21.toInt + a26.toInt) := (by rw [← e29]; show (a21 + a26 : Int32).toInt = a21.toInt + a26.toInt; exact q_addI (x := a21.toInt) (y := a26.toInt) rfl rfl (by have t1 : 0 ≤ a26.toInt ∧ a26.toInt ≤ 6852 := b27; have _ := q_lo32 (x := a21); have _ := q_hi32 (x := a21); have t2 : 0 ≤ R.toInt ∧ R.toInt ≤ 220 := hfk10; have t3 : lx5.toInt ≤ R.toInt := i8; have t4 : lx6.toInt ≤ 63 * lx5.toInt := i9; have t5 : a21.toInt = lx6.toInt - 1 := b23; omega) (by have t1 : 0 ≤ a26.toInt ∧ a26.toInt ≤ 6852 := b27; have _ := q_lo32 (x := a21); have _ := q_hi32 (x := a21); have t2 : 0 ≤ R.toInt ∧ R.toInt ≤ 220 := hfk10; have t3 : lx5.toInt ≤ R.toInt := i8; have t4 : lx6.toInt ≤ 63 * lx5.toInt := i9; have t5 : a21.toInt = lx6.toInt - 1 := b23; omega))
      refine lv_goto (tgt := 49) hx hb d_2_16_45 (by decide) ?_
      exact q_reti C0 V (⟨rfl, (show 0 ≤ a28.toInt + 1 from (by have t1 : 0 ≤ lx6.toInt := i7; have t2 : a21.toInt = lx6.toInt - 1 := b23; have t3 : 0 ≤ a26.toInt ∧ a26.toInt ≤ 6852 := b27; have t4 : a28.toInt = a21.toInt + a26.toInt := b30; omega)), (show a28.toInt ≤ R.toInt + 20491 from (by have t1 : 0 ≤ R.toInt ∧ R.toInt ≤ 220 := hfk10; have t2 : lx5.toInt ≤ R.toInt := i8; have t3 : lx6.toInt ≤ 63 * lx5.toInt := i9; have t4 : a21.toInt = lx6.toInt - 1 := b23; have t5 : 0 ≤ a26.toInt ∧ a26.toInt ≤ 6852 := b27; have t6 : a28.toInt = a21.toInt + a26.toInt := b30; omega))⟩) d_2_16_49
  ·
    have b31 : q_F (lx5.toInt < y12.toInt) := (q_nleI c16)
    refine lv_iload_n hx hb d_2_16_12 rfl (lv_at hl 1 rfl) ?_
    refine lv_aload_n hx hb d_2_16_13 rfl (lv_at hl 2 rfl) ?_
    refine q_get (ci := 2) (j := 0) (v := .ref (q (k1 + 1))) C0 V i_Big rfl rfl hO11 (by decide) w_84 rfl d_2_16_14 ?_
    refine lv_iload_n hx hb d_2_16_17 rfl (lv_at hl 0 rfl) ?_
    obtain ⟨f32, hA33, bf34⟩ := q_bigA hI hB1
    refine q_iald C0 V hA33 (q_ix (x := lx5.toInt) rfl (by have t1 : 0 ≤ lx6.toInt := i7; have t2 : lx6.toInt ≤ 63 * lx5.toInt := i9; omega) (by have t1 : 0 ≤ lx6.toInt := i7; have t2 : lx6.toInt ≤ 63 * lx5.toInt := i9; have t3 : 0 ≤ y12.toInt ∧ y12.toInt ≤ R.toInt := b14; have t4 : lx5.toInt < y12.toInt := b31; have e9 := q_clI (i := R) rfl (by have t1 : 0 ≤ R.toInt ∧ R.toInt ≤ 220 := hfk10; omega); omega)) d_2_16_18 ?_
    obtain ⟨a35, e36⟩ := q_nm (f32 lx5.toNatClampNeg : Int32)
    refine q_ti (v := a35) e36 ?_
    refine q_goi V (q_runS (As := [.int a35]) (rest := [.int lx6]) (d := 1) (mc := 0) (ms := 0) C0 V rfl LS_Big_60 (S_Int_bitCount l D g (nsh g q) q ws  a35 hI   _) rfl hl.1 rfl (Nat.le_of_ble_eq_true rfl) ⟨by decide, by decide⟩ ⟨Nat.le_of_ble_eq_true rfl, Nat.le_of_ble_eq_true rfl⟩ d_2_16_19) (fun a39 u37 H locs hp38 V => ?_)
    obtain ⟨b40, rfl⟩ := hp38
    replace b40 : q_F (0 ≤ a39.toInt ∧ a39.toInt ≤ 63) := b40
    refine lv_iadd hx hb d_2_16_22 ?_
    obtain ⟨a41, e42⟩ := q_nm (lx6 + a39 : Int32)
    refine q_ti (v := a41) e42 ?_
    have b43 : q_F (a41.toInt = lx6.toInt + a39.toInt) := (by rw [← e42]; show (lx6 + a39 : Int32).toInt = lx6.toInt + a39.toInt; exact q_addI (x := lx6.toInt) (y := a39.toInt) rfl rfl (by have t1 : 0 ≤ lx6.toInt := i7; have t2 : 0 ≤ a39.toInt ∧ a39.toInt ≤ 63 := b40; have t3 : 0 ≤ R.toInt ∧ R.toInt ≤ 220 := hfk10; have t4 : lx5.toInt ≤ R.toInt := i8; have t5 : lx6.toInt ≤ 63 * lx5.toInt := i9; omega) (by have t1 : 0 ≤ lx6.toInt := i7; have t2 : 0 ≤ a39.toInt ∧ a39.toInt ≤ 63 := b40; have t3 : 0 ≤ R.toInt ∧ R.toInt ≤ 220 := hfk10; have t4 : lx5.toInt ≤ R.toInt := i8; have t5 : lx6.toInt ≤ 63 * lx5.toInt := i9; omega))
    refine lv_istore_n (lv' := [(1, .int a41), (2, .int lx5), (0, .ref (q k1))]) hx hb d_2_16_23 rfl hl (by decide) rfl (fun ls hl => ?_)
    obtain ⟨a44, e45⟩ := q_nm (lx5 + 1 : Int32)
    have b46 : q_F (a44.toInt = lx5.toInt + 1) := (by rw [← e45]; exact q_addI (y := 1) rfl (by decide) (by have _ := q_lo32 (x := lx5); have _ := q_hi32 (x := lx5); have t1 : lx5.toInt < y12.toInt := b31; have _ := q_lo32 (x := y12); have _ := q_hi32 (x := y12); omega) (by have _ := q_lo32 (x := lx5); have _ := q_hi32 (x := lx5); have t1 : lx5.toInt < y12.toInt := b31; have _ := q_lo32 (x := y12); have _ := q_hi32 (x := y12); omega))
    refine lv_iinc (v := a44) (lv' := [(2, .int a44), (1, .int a41), (0, .ref (q k1))]) hx hb d_2_16_24 hl (k := 1) rfl (e45) (by decide) rfl (fun ls hl => ?_)
    refine lv_goto (tgt := 4) hx hb d_2_16_27 (by decide) ?_
    exact ih10 ((a44 : Int32), (a41 : Int32)) _ _ _ ws (show (220 - a44.toInt).toNat < (220 - lx5.toInt).toNat from by have t1 : a44.toInt = lx5.toInt + 1 := b46; have t2 : 0 ≤ R.toInt ∧ R.toInt ≤ 220 := hfk10; have t3 : lx5.toInt ≤ R.toInt := i8; have t4 : 0 ≤ y12.toInt ∧ y12.toInt ≤ R.toInt := b14; have t5 : lx5.toInt < y12.toInt := b31; omega) ⟨(show q_F (0 ≤ a41.toInt) from (show 0 ≤ a41.toInt from by have t1 : 0 ≤ lx6.toInt := i7; have t2 : 0 ≤ a39.toInt ∧ a39.toInt ≤ 63 := b40; have t3 : a41.toInt = lx6.toInt + a39.toInt := b43; omega)), (show q_F (a44.toInt ≤ R.toInt) from (show a44.toInt ≤ R.toInt from by have t1 : 0 ≤ y12.toInt ∧ y12.toInt ≤ R.toInt := b14; have t2 : lx5.toInt < y12.toInt := b31; have t3 : a44.toInt = lx5.toInt + 1 := b46; omega)), (show q_F (a41.toInt ≤ 63 * a44.toInt) from (show a41.toInt ≤ 63 * a44.toInt from by have t1 : lx6.toInt ≤ 63 * lx5.toInt := i9; have t2 : 0 ≤ a39.toInt ∧ a39.toInt ≤ 63 := b40; have t3 : a41.toInt = lx6.toInt + a39.toInt := b43; have t4 : a44.toInt = lx5.toInt + 1 := b46; omega)), V, q_lw hl (q_lw1 0 rfl (q_lw1 1 rfl (q_lw1 2 rfl q_lw0)))⟩
theorem d_2_19_0 : decode prog_2_method_19_code 0 = .ok (.aload_n 0, 1) := by decide +kernel
theorem d_2_19_1 : decode prog_2_method_19_code 1 = .ok (.getfield 17, 3) := by decide +kernel
theorem d_2_19_4 : decode prog_2_method_19_code 4 = .ok (.ifCond .ne 9, 3) := by decide +kernel
theorem d_2_19_13 : decode prog_2_method_19_code 13 = .ok (.iload_n 1, 1) := by decide +kernel
theorem d_2_19_14 : decode prog_2_method_19_code 14 = .ok (.iload_n 2, 1) := by decide +kernel
theorem d_2_19_15 : decode prog_2_method_19_code 15 = .ok (.if_icmp .ge 5, 3) := by decide +kernel
theorem d_2_19_20 : decode prog_2_method_19_code 20 = .ok (.iload_n 1, 1) := by decide +kernel
theorem d_2_19_21 : decode prog_2_method_19_code 21 = .ok (.iload_n 2, 1) := by decide +kernel
theorem d_2_19_22 : decode prog_2_method_19_code 22 = .ok (.if_icmp .ne 12, 3) := by decide +kernel
theorem d_2_19_34 : decode prog_2_method_19_code 34 = .ok (.aload_n 0, 1) := by decide +kernel
theorem d_2_19_35 : decode prog_2_method_19_code 35 = .ok (.iload_n 1, 1) := by decide +kernel
theorem d_2_19_36 : decode prog_2_method_19_code 36 = .ok (.invokevirtual 49, 3) := by decide +kernel
theorem d_2_19_39 : decode prog_2_method_19_code 39 = .ok (.iconst (-1), 1) := by decide +kernel
theorem d_2_19_40 : decode prog_2_method_19_code 40 = .ok (.ixor, 1) := by decide +kernel
theorem d_2_19_41 : decode prog_2_method_19_code 41 = .ok (.ldc 71, 2) := by decide +kernel
theorem d_2_19_43 : decode prog_2_method_19_code 43 = .ok (.iand, 1) := by decide +kernel
theorem d_2_19_44 : decode prog_2_method_19_code 44 = .ok (.ireturn, 1) := by decide +kernel
theorem d_2_19_25 : decode prog_2_method_19_code 25 = .ok (.aload_n 0, 1) := by decide +kernel
theorem d_2_19_26 : decode prog_2_method_19_code 26 = .ok (.iload_n 1, 1) := by decide +kernel
theorem d_2_19_27 : decode prog_2_method_19_code 27 = .ok (.invokevirtual 49, 3) := by decide +kernel
theorem d_2_19_30 : decode prog_2_method_19_code 30 = .ok (.ineg, 1) := by decide +kernel
theorem d_2_19_31 : decode prog_2_method_19_code 31 = .ok (.goto 10, 3) := by decide +kernel
theorem d_2_19_18 : decode prog_2_method_19_code 18 = .ok (.iconst 0, 1) := by decide +kernel
theorem d_2_19_19 : decode prog_2_method_19_code 19 = .ok (.ireturn, 1) := by decide +kernel
theorem d_2_19_7 : decode prog_2_method_19_code 7 = .ok (.aload_n 0, 1) := by decide +kernel
theorem d_2_19_8 : decode prog_2_method_19_code 8 = .ok (.iload_n 1, 1) := by decide +kernel
theorem d_2_19_9 : decode prog_2_method_19_code 9 = .ok (.invokevirtual 49, 3) := by decide +kernel
theorem d_2_19_12 : decode prog_2_method_19_code 12 = .ok (.ireturn, 1) := by decide +kernel
def y_Big_endlessLimb : MethodName := ⟨"NumberHouse$Big", "endlessLimb", "(II)I"⟩
set_option maxRecDepth 100000 in
set_option maxHeartbeats 4000000 in
theorem T_Big_endlessLimb (l : Launch) (D : va_G) (g : Nat → ClassId) (q : Nat → Nat) (ws : va_W) (k1 : Nat) (R : Int32) (hB1 : q_isBig (nsh g q) g q k1 R) (zk1 : (10 ≤ k1 ∧ k1 ≤ 32) ∨ 66 ≤ k1) (x2 : Int32) (x3 : Int32) (hI : q_I (nsh g q) q ws) : q_mI l y_Big_endlessLimb prog_2_method_19_code 3 (.int) 2 0 0 D g [.ref (q k1), .int x2, .int x3] ws (fun r u => ws = u ∧ True) := by
  intro sz
  refine q_into (by decide) (Nat.le_of_ble_eq_true rfl) ?_
  intro p e s m below meth c ls hsz C0 V hl
  have hx := C0.1
  have hb := C0.2.1
  have hfk10 : q_F (0 ≤ R.toInt ∧ R.toInt ≤ 220) := hB1.2.2
  have hl : lv_has ls 3 [(0, .ref (q k1)), (1, .int x2), (2, .int x3)] := hl
  refine lv_aload_n hx hb d_2_19_0 rfl (lv_at hl 0 rfl) ?_
  obtain ⟨y2, y3, hO1, b4, b5⟩ := q_bigO hI hB1
  replace b4 : q_F (0 ≤ y2.toInt ∧ y2.toInt ≤ R.toInt) := b4
  replace b5 : q_F (0 ≤ y3.toInt ∧ y3.toInt ≤ 1) := b5
  refine q_get (ci := 2) (j := 2) (v := .int y3) C0 V i_Big rfl rfl hO1 (by decide) w_94 rfl d_2_19_1 ?_
  refine lv_if_ne (tgt := 13) hx hb d_2_19_4 (by decide) (fun c6 => ?_) (fun c6 => ?_)
  ·
    have b7 : q_F (y3.toInt ≠ 0) := (q_neI c6)
    refine lv_iload_n hx hb d_2_19_13 rfl (lv_at hl 1 rfl) ?_
    refine lv_iload_n hx hb d_2_19_14 rfl (lv_at hl 2 rfl) ?_
    refine lv_icmp_ge (tgt := 20) hx hb d_2_19_15 (by decide) (fun c8 => ?_) (fun c8 => ?_)
    ·
      have b9 : q_F (x3.toInt ≤ x2.toInt) := (q_leI c8)
      refine lv_iload_n hx hb d_2_19_20 rfl (lv_at hl 1 rfl) ?_
      refine lv_iload_n hx hb d_2_19_21 rfl (lv_at hl 2 rfl) ?_
      refine lv_icmp_ne (tgt := 34) hx hb d_2_19_22 (by decide) (fun c10 => ?_) (fun c10 => ?_)
      ·
        have b11 : q_F (x2.toInt ≠ x3.toInt) := (q_neI c10)
        refine lv_aload_n hx hb d_2_19_34 rfl (lv_at hl 0 rfl) ?_
        refine lv_iload_n hx hb d_2_19_35 rfl (lv_at hl 1 rfl) ?_
        refine q_goi V (q_runV (As := [.int x2]) (rest := []) (d := 1) (mc := 0) (ms := 0) (ci := 2) C0 V rfl LV_Big_49 (S_Big_limb l D g (nsh g q) q ws k1 R hB1 x2 hI   _) rfl rfl hO1 rfl hl.1 rfl (Nat.le_of_ble_eq_true rfl) ⟨by decide, by decide⟩ ⟨Nat.le_of_ble_eq_true rfl, Nat.le_of_ble_eq_true rfl⟩ d_2_19_36) (fun a14 u12 H locs hp13 V => ?_)
        obtain ⟨_, rfl⟩ := hp13
        refine lv_iconst (v := (-1)) hx hb d_2_19_39 (by decide) ?_
        refine lv_ixor hx hb d_2_19_40 ?_
        obtain ⟨a15, e16⟩ := q_nm (a14 ^^^ (-1) : Int32)
        refine q_ti (v := a15) e16 ?_
        refine q_ldc C0 rfl w_809 d_2_19_41 ?_
        refine lv_iand hx hb d_2_19_43 ?_
        obtain ⟨a17, e18⟩ := q_nm (a15 &&& 2147483647 : Int32)
        refine q_ti (v := a17) e18 ?_
        have b19 : q_F (0 ≤ a17.toInt ∧ a17.toInt ≤ 2147483647) := (by rw [← e18]; show 0 ≤ (a15 &&& 2147483647 : Int32).toInt ∧ (a15 &&& 2147483647 : Int32).toInt ≤ 2147483647; exact s_and (by decide))
        exact q_reti C0 V (⟨rfl, trivial⟩) d_2_19_44
      ·
        have b20 : q_F (x2.toInt = x3.toInt) := (q_eqI c10)
        refine lv_aload_n hx hb d_2_19_25 rfl (lv_at hl 0 rfl) ?_
        refine lv_iload_n hx hb d_2_19_26 rfl (lv_at hl 1 rfl) ?_
        refine q_goi V (q_runV (As := [.int x2]) (rest := []) (d := 1) (mc := 0) (ms := 0) (ci := 2) C0 V rfl LV_Big_49 (S_Big_limb l D g (nsh g q) q ws k1 R hB1 x2 hI   _) rfl rfl hO1 rfl hl.1 rfl (Nat.le_of_ble_eq_true rfl) ⟨by decide, by decide⟩ ⟨Nat.le_of_ble_eq_true rfl, Nat.le_of_ble_eq_true rfl⟩ d_2_19_27) (fun a23 u21 H locs hp22 V => ?_)
        obtain ⟨_, rfl⟩ := hp22
        refine lv_ineg hx hb d_2_19_30 ?_
        obtain ⟨a24, e25⟩ := q_nm (-a23 : Int32)
        refine q_ti (v := a24) e25 ?_
        refine lv_goto (tgt := 41) hx hb d_2_19_31 (by decide) ?_
        refine q_ldc C0 rfl w_809 d_2_19_41 ?_
        refine lv_iand hx hb d_2_19_43 ?_
        obtain ⟨a26, e27⟩ := q_nm (a24 &&& 2147483647 : Int32)
        refine q_ti (v := a26) e27 ?_
        have b28 : q_F (0 ≤ a26.toInt ∧ a26.toInt ≤ 2147483647) := (by rw [← e27]; show 0 ≤ (a24 &&& 2147483647 : Int32).toInt ∧ (a24 &&& 2147483647 : Int32).toInt ≤ 2147483647; exact s_and (by decide))
        exact q_reti C0 V (⟨rfl, trivial⟩) d_2_19_44
    ·
      have b29 : q_F (x2.toInt < x3.toInt) := (q_nleI c8)
      refine lv_iconst (v := 0) hx hb d_2_19_18 (by decide) ?_
      exact q_reti C0 V (⟨rfl, trivial⟩) d_2_19_19
  ·
    have b30 : q_F (y3.toInt = 0) := (q_eqI c6)
    refine lv_aload_n hx hb d_2_19_7 rfl (lv_at hl 0 rfl) ?_
    refine lv_iload_n hx hb d_2_19_8 rfl (lv_at hl 1 rfl) ?_
    refine q_goi V (q_runV (As := [.int x2]) (rest := []) (d := 1) (mc := 0) (ms := 0) (ci := 2) C0 V rfl LV_Big_49 (S_Big_limb l D g (nsh g q) q ws k1 R hB1 x2 hI   _) rfl rfl hO1 rfl hl.1 rfl (Nat.le_of_ble_eq_true rfl) ⟨by decide, by decide⟩ ⟨Nat.le_of_ble_eq_true rfl, Nat.le_of_ble_eq_true rfl⟩ d_2_19_9) (fun a33 u31 H locs hp32 V => ?_)
    obtain ⟨_, rfl⟩ := hp32
    exact q_reti C0 V (⟨rfl, trivial⟩) d_2_19_12
theorem d_2_37_0 : decode prog_2_method_37_code 0 = .ok (.aload_n 2, 1) := by decide +kernel
theorem d_2_37_1 : decode prog_2_method_37_code 1 = .ok (.aload_n 2, 1) := by decide +kernel
theorem d_2_37_2 : decode prog_2_method_37_code 2 = .ok (.getfield 13, 3) := by decide +kernel
theorem d_2_37_5 : decode prog_2_method_37_code 5 = .ok (.iconst 1, 1) := by decide +kernel
theorem d_2_37_6 : decode prog_2_method_37_code 6 = .ok (.isub, 1) := by decide +kernel
theorem d_2_37_7 : decode prog_2_method_37_code 7 = .ok (.invokevirtual 49, 3) := by decide +kernel
theorem d_2_37_10 : decode prog_2_method_37_code 10 = .ok (.i2l, 1) := by decide +kernel
theorem d_2_37_11 : decode prog_2_method_37_code 11 = .ok (.lstore_n 3, 1) := by decide +kernel
theorem d_2_37_12 : decode prog_2_method_37_code 12 = .ok (.aload_n 2, 1) := by decide +kernel
theorem d_2_37_13 : decode prog_2_method_37_code 13 = .ok (.aload_n 2, 1) := by decide +kernel
theorem d_2_37_14 : decode prog_2_method_37_code 14 = .ok (.getfield 13, 3) := by decide +kernel
theorem d_2_37_17 : decode prog_2_method_37_code 17 = .ok (.iconst 2, 1) := by decide +kernel
theorem d_2_37_18 : decode prog_2_method_37_code 18 = .ok (.isub, 1) := by decide +kernel
theorem d_2_37_19 : decode prog_2_method_37_code 19 = .ok (.invokevirtual 49, 3) := by decide +kernel
theorem d_2_37_22 : decode prog_2_method_37_code 22 = .ok (.i2l, 1) := by decide +kernel
theorem d_2_37_23 : decode prog_2_method_37_code 23 = .ok (.lstore 5, 2) := by decide +kernel
theorem d_2_37_25 : decode prog_2_method_37_code 25 = .ok (.aload_n 0, 1) := by decide +kernel
theorem d_2_37_26 : decode prog_2_method_37_code 26 = .ok (.iload_n 1, 1) := by decide +kernel
theorem d_2_37_27 : decode prog_2_method_37_code 27 = .ok (.invokevirtual 49, 3) := by decide +kernel
theorem d_2_37_30 : decode prog_2_method_37_code 30 = .ok (.i2l, 1) := by decide +kernel
theorem d_2_37_31 : decode prog_2_method_37_code 31 = .ok (.bipush 31, 2) := by decide +kernel
theorem d_2_37_33 : decode prog_2_method_37_code 33 = .ok (.lshl, 1) := by decide +kernel
theorem d_2_37_34 : decode prog_2_method_37_code 34 = .ok (.aload_n 0, 1) := by decide +kernel
theorem d_2_37_35 : decode prog_2_method_37_code 35 = .ok (.iload_n 1, 1) := by decide +kernel
theorem d_2_37_36 : decode prog_2_method_37_code 36 = .ok (.iconst 1, 1) := by decide +kernel
theorem d_2_37_37 : decode prog_2_method_37_code 37 = .ok (.isub, 1) := by decide +kernel
theorem d_2_37_38 : decode prog_2_method_37_code 38 = .ok (.invokevirtual 49, 3) := by decide +kernel
theorem d_2_37_41 : decode prog_2_method_37_code 41 = .ok (.i2l, 1) := by decide +kernel
theorem d_2_37_42 : decode prog_2_method_37_code 42 = .ok (.lor, 1) := by decide +kernel
theorem d_2_37_43 : decode prog_2_method_37_code 43 = .ok (.lstore 7, 2) := by decide +kernel
theorem d_2_37_45 : decode prog_2_method_37_code 45 = .ok (.lload 7, 2) := by decide +kernel
theorem d_2_37_47 : decode prog_2_method_37_code 47 = .ok (.lload_n 3, 1) := by decide +kernel
theorem d_2_37_48 : decode prog_2_method_37_code 48 = .ok (.lconst 1, 1) := by decide +kernel
theorem d_2_37_49 : decode prog_2_method_37_code 49 = .ok (.invokestatic 143, 3) := by decide +kernel
set_option maxRecDepth 100000 in
theorem w_742 : (Cond.code ({ cls := "java/lang/Math", name := "max", desc := "(JJ)J" } : MethodName) prog_29_method_66_code (4 : Nat) (some .long)) ∈ q_tbl := q_of4 22 rfl (by decide +kernel)
set_option maxRecDepth 100000 in
theorem w_1054 : (Cond.methodLink "NumberHouse$Big" (143 : Nat) ({ cls := "java/lang/Math", name := "max", desc := "(JJ)J" } : MethodName)) ∈ q_tbl := q_of5 94 rfl (by decide +kernel)
set_option maxRecDepth 100000 in
theorem w_741 : (Cond.static ({ cls := "java/lang/Math", name := "max", desc := "(JJ)J" } : MethodName)) ∈ q_tbl := q_of4 21 rfl (by decide +kernel)
theorem LS_Big_143 : q_LS "NumberHouse$Big" 143 y_jMath_max_JJJ prog_29_method_66_code 4 (some .long) 2 := ⟨w_742, w_7, w_1054, w_741, ⟨by decide, by decide, by decide +kernel⟩⟩
theorem d_2_37_52 : decode prog_2_method_37_code 52 = .ok (.ldiv, 1) := by decide +kernel
theorem d_2_37_53 : decode prog_2_method_37_code 53 = .ok (.lstore 9, 2) := by decide +kernel
theorem d_2_37_55 : decode prog_2_method_37_code 55 = .ok (.lload 7, 2) := by decide +kernel
theorem d_2_37_57 : decode prog_2_method_37_code 57 = .ok (.lload 9, 2) := by decide +kernel
theorem d_2_37_59 : decode prog_2_method_37_code 59 = .ok (.lload_n 3, 1) := by decide +kernel
theorem d_2_37_60 : decode prog_2_method_37_code 60 = .ok (.lmul, 1) := by decide +kernel
theorem d_2_37_61 : decode prog_2_method_37_code 61 = .ok (.lsub, 1) := by decide +kernel
theorem d_2_37_62 : decode prog_2_method_37_code 62 = .ok (.lstore 11, 2) := by decide +kernel
theorem d_2_37_64 : decode prog_2_method_37_code 64 = .ok (.iconst 0, 1) := by decide +kernel
theorem d_2_37_65 : decode prog_2_method_37_code 65 = .ok (.istore 13, 2) := by decide +kernel
theorem d_2_37_67 : decode prog_2_method_37_code 67 = .ok (.iload 13, 2) := by decide +kernel
theorem d_2_37_69 : decode prog_2_method_37_code 69 = .ok (.iconst 2, 1) := by decide +kernel
theorem d_2_37_70 : decode prog_2_method_37_code 70 = .ok (.if_icmp .ge 65, 3) := by decide +kernel
theorem d_2_37_135 : decode prog_2_method_37_code 135 = .ok (.lload 9, 2) := by decide +kernel
theorem d_2_37_137 : decode prog_2_method_37_code 137 = .ok (.lreturn, 1) := by decide +kernel
theorem d_2_37_73 : decode prog_2_method_37_code 73 = .ok (.lload 11, 2) := by decide +kernel
theorem d_2_37_75 : decode prog_2_method_37_code 75 = .ok (.ldc2_w 30, 3) := by decide +kernel
theorem d_2_37_78 : decode prog_2_method_37_code 78 = .ok (.lcmp, 1) := by decide +kernel
theorem d_2_37_79 : decode prog_2_method_37_code 79 = .ok (.ifCond .gt 56, 3) := by decide +kernel
theorem d_2_37_82 : decode prog_2_method_37_code 82 = .ok (.lload 9, 2) := by decide +kernel
theorem d_2_37_84 : decode prog_2_method_37_code 84 = .ok (.ldc2_w 30, 3) := by decide +kernel
theorem d_2_37_87 : decode prog_2_method_37_code 87 = .ok (.lcmp, 1) := by decide +kernel
theorem d_2_37_88 : decode prog_2_method_37_code 88 = .ok (.ifCond .gt 29, 3) := by decide +kernel
theorem d_2_37_117 : decode prog_2_method_37_code 117 = .ok (.lload 9, 2) := by decide +kernel
theorem d_2_37_119 : decode prog_2_method_37_code 119 = .ok (.lconst 1, 1) := by decide +kernel
theorem d_2_37_120 : decode prog_2_method_37_code 120 = .ok (.lsub, 1) := by decide +kernel
theorem d_2_37_121 : decode prog_2_method_37_code 121 = .ok (.lstore 9, 2) := by decide +kernel
theorem d_2_37_123 : decode prog_2_method_37_code 123 = .ok (.lload 11, 2) := by decide +kernel
theorem d_2_37_125 : decode prog_2_method_37_code 125 = .ok (.lload_n 3, 1) := by decide +kernel
theorem d_2_37_126 : decode prog_2_method_37_code 126 = .ok (.ladd, 1) := by decide +kernel
theorem d_2_37_127 : decode prog_2_method_37_code 127 = .ok (.lstore 11, 2) := by decide +kernel
theorem d_2_37_129 : decode prog_2_method_37_code 129 = .ok (.iinc 13 1, 3) := by decide +kernel
theorem d_2_37_132 : decode prog_2_method_37_code 132 = .ok (.goto (-65), 3) := by decide +kernel
theorem d_2_37_91 : decode prog_2_method_37_code 91 = .ok (.lload 9, 2) := by decide +kernel
theorem d_2_37_93 : decode prog_2_method_37_code 93 = .ok (.lload 5, 2) := by decide +kernel
theorem d_2_37_95 : decode prog_2_method_37_code 95 = .ok (.lmul, 1) := by decide +kernel
theorem d_2_37_96 : decode prog_2_method_37_code 96 = .ok (.lload 11, 2) := by decide +kernel
theorem d_2_37_98 : decode prog_2_method_37_code 98 = .ok (.bipush 31, 2) := by decide +kernel
theorem d_2_37_100 : decode prog_2_method_37_code 100 = .ok (.lshl, 1) := by decide +kernel
theorem d_2_37_101 : decode prog_2_method_37_code 101 = .ok (.aload_n 0, 1) := by decide +kernel
theorem d_2_37_102 : decode prog_2_method_37_code 102 = .ok (.iload_n 1, 1) := by decide +kernel
theorem d_2_37_103 : decode prog_2_method_37_code 103 = .ok (.iconst 2, 1) := by decide +kernel
theorem d_2_37_104 : decode prog_2_method_37_code 104 = .ok (.isub, 1) := by decide +kernel
theorem d_2_37_105 : decode prog_2_method_37_code 105 = .ok (.invokevirtual 49, 3) := by decide +kernel
theorem d_2_37_108 : decode prog_2_method_37_code 108 = .ok (.i2l, 1) := by decide +kernel
theorem d_2_37_109 : decode prog_2_method_37_code 109 = .ok (.lor, 1) := by decide +kernel
theorem d_2_37_110 : decode prog_2_method_37_code 110 = .ok (.lcmp, 1) := by decide +kernel
theorem d_2_37_111 : decode prog_2_method_37_code 111 = .ok (.ifCond .gt 6, 3) := by decide +kernel
theorem d_2_37_114 : decode prog_2_method_37_code 114 = .ok (.goto 21, 3) := by decide +kernel
def y_Big_guess : MethodName := ⟨"NumberHouse$Big", "guess", "(ILNumberHouse$Big;)J"⟩
set_option maxRecDepth 100000 in
set_option maxHeartbeats 4000000 in
theorem T_Big_guess (l : Launch) (D : va_G) (g : Nat → ClassId) (q : Nat → Nat) (ws : va_W) (k1 : Nat) (R : Int32) (hB1 : q_isBig (nsh g q) g q k1 R) (zk1 : (10 ≤ k1 ∧ k1 ≤ 32) ∨ 66 ≤ k1) (k3 : Nat) (R2 : Int32) (hB3 : q_isBig (nsh g q) g q k3 R2) (zk3 : (10 ≤ k3 ∧ k3 ≤ 32) ∨ 66 ≤ k3) (x2 : Int32) (hI : q_I (nsh g q) q ws) : q_mL l y_Big_guess prog_2_method_37_code 14 2 0 0 D g [.ref (q k1), .int x2, .ref (q k3)] ws (fun r u => ws = u ∧ True) := by
  intro sz
  refine q_into (by decide) (Nat.le_of_ble_eq_true rfl) ?_
  intro p e s m below meth c ls hsz C0 V hl
  have hx := C0.1
  have hb := C0.2.1
  have hfk10 : q_F (0 ≤ R.toInt ∧ R.toInt ≤ 220) := hB1.2.2
  have hfk30 : q_F (0 ≤ R2.toInt ∧ R2.toInt ≤ 220) := hB3.2.2
  have hl : lv_has ls 14 [(0, .ref (q k1)), (1, .int x2), (2, .ref (q k3))] := hl
  refine lv_aload_n hx hb d_2_37_0 rfl (lv_at hl 2 rfl) ?_
  refine lv_aload_n hx hb d_2_37_1 rfl (lv_at hl 2 rfl) ?_
  obtain ⟨y2, y3, hO1, b4, b5⟩ := q_bigO hI hB3
  replace b4 : q_F (0 ≤ y2.toInt ∧ y2.toInt ≤ R2.toInt) := b4
  replace b5 : q_F (0 ≤ y3.toInt ∧ y3.toInt ≤ 1) := b5
  refine q_get (ci := 2) (j := 1) (v := .int y2) C0 V i_Big rfl rfl hO1 (by decide) w_85 rfl d_2_37_2 ?_
  refine lv_iconst (v := 1) hx hb d_2_37_5 (by decide) ?_
  refine lv_isub hx hb d_2_37_6 ?_
  obtain ⟨a6, e7⟩ := q_nm (y2 - 1 : Int32)
  refine q_ti (v := a6) e7 ?_
  have b8 : q_F (a6.toInt = y2.toInt - 1) := (by rw [← e7]; show (y2 - 1 : Int32).toInt = y2.toInt - 1; exact q_subI (x := y2.toInt) (y := 1) rfl (by decide) (by have t1 : 0 ≤ y2.toInt ∧ y2.toInt ≤ R2.toInt := b4; have _ := q_lo32 (x := R2); have _ := q_hi32 (x := R2); omega) (by have t1 : 0 ≤ y2.toInt ∧ y2.toInt ≤ R2.toInt := b4; have _ := q_lo32 (x := R2); have _ := q_hi32 (x := R2); omega))
  refine q_goi V (q_runV (As := [.int a6]) (rest := []) (d := 1) (mc := 0) (ms := 0) (ci := 2) C0 V rfl LV_Big_49 (S_Big_limb l D g (nsh g q) q ws k3 R2 hB3 a6 hI   _) rfl rfl hO1 rfl hl.1 rfl (Nat.le_of_ble_eq_true rfl) ⟨by decide, by decide⟩ ⟨Nat.le_of_ble_eq_true rfl, Nat.le_of_ble_eq_true rfl⟩ d_2_37_7) (fun a11 u9 H locs hp10 V => ?_)
  obtain ⟨_, rfl⟩ := hp10
  refine lv_i2l hx hb d_2_37_10 rfl ?_
  obtain ⟨j12, e13⟩ := q_nm (a11.toInt64 : Int64)
  refine q_tl (v := j12) e13 ?_
  have b14 : q_F (j12.toInt = a11.toInt) := (by rw [← e13]; show (a11.toInt64 : Int64).toInt = a11.toInt; exact q_i2l rfl)
  refine lv_lstore_n (lv' := [(3, .long j12), (0, .ref (q k1)), (1, .int x2), (2, .ref (q k3))]) hx hb d_2_37_11 rfl hl (by decide) rfl (fun ls hl => ?_)
  refine lv_aload_n hx hb d_2_37_12 rfl (lv_at hl 3 rfl) ?_
  refine lv_aload_n hx hb d_2_37_13 rfl (lv_at hl 3 rfl) ?_
  refine q_get (ci := 2) (j := 1) (v := .int y2) C0 V i_Big rfl rfl hO1 (by decide) w_85 rfl d_2_37_14 ?_
  refine lv_iconst (v := 2) hx hb d_2_37_17 (by decide) ?_
  refine lv_isub hx hb d_2_37_18 ?_
  obtain ⟨a15, e16⟩ := q_nm (y2 - 2 : Int32)
  refine q_ti (v := a15) e16 ?_
  have b17 : q_F (a15.toInt = y2.toInt - 2) := (by rw [← e16]; show (y2 - 2 : Int32).toInt = y2.toInt - 2; exact q_subI (x := y2.toInt) (y := 2) rfl (by decide) (by have t1 : 0 ≤ y2.toInt ∧ y2.toInt ≤ R2.toInt := b4; have _ := q_lo32 (x := R2); have _ := q_hi32 (x := R2); omega) (by have t1 : 0 ≤ y2.toInt ∧ y2.toInt ≤ R2.toInt := b4; have _ := q_lo32 (x := R2); have _ := q_hi32 (x := R2); omega))
  refine q_goi V (q_runV (As := [.int a15]) (rest := []) (d := 1) (mc := 0) (ms := 0) (ci := 2) C0 V rfl LV_Big_49 (S_Big_limb l D g (nsh g q) q ws k3 R2 hB3 a15 hI   _) rfl rfl hO1 rfl hl.1 rfl (Nat.le_of_ble_eq_true rfl) ⟨by decide, by decide⟩ ⟨Nat.le_of_ble_eq_true rfl, Nat.le_of_ble_eq_true rfl⟩ d_2_37_19) (fun a20 u18 H locs hp19 V => ?_)
  obtain ⟨_, rfl⟩ := hp19
  refine lv_i2l hx hb d_2_37_22 rfl ?_
  obtain ⟨j21, e22⟩ := q_nm (a20.toInt64 : Int64)
  refine q_tl (v := j21) e22 ?_
  have b23 : q_F (j21.toInt = a20.toInt) := (by rw [← e22]; show (a20.toInt64 : Int64).toInt = a20.toInt; exact q_i2l rfl)
  refine lv_lstore (lv' := [(5, .long j21), (3, .long j12), (0, .ref (q k1)), (1, .int x2), (2, .ref (q k3))]) hx hb d_2_37_23 hl (by decide) rfl (fun ls hl => ?_)
  refine lv_aload_n hx hb d_2_37_25 rfl (lv_at hl 2 rfl) ?_
  refine lv_iload_n hx hb d_2_37_26 rfl (lv_at hl 3 rfl) ?_
  obtain ⟨y25, y26, hO24, b27, b28⟩ := q_bigO hI hB1
  replace b27 : q_F (0 ≤ y25.toInt ∧ y25.toInt ≤ R.toInt) := b27
  replace b28 : q_F (0 ≤ y26.toInt ∧ y26.toInt ≤ 1) := b28
  refine q_goi V (q_runV (As := [.int x2]) (rest := []) (d := 1) (mc := 0) (ms := 0) (ci := 2) C0 V rfl LV_Big_49 (S_Big_limb l D g (nsh g q) q ws k1 R hB1 x2 hI   _) rfl rfl hO24 rfl hl.1 rfl (Nat.le_of_ble_eq_true rfl) ⟨by decide, by decide⟩ ⟨Nat.le_of_ble_eq_true rfl, Nat.le_of_ble_eq_true rfl⟩ d_2_37_27) (fun a31 u29 H locs hp30 V => ?_)
  obtain ⟨_, rfl⟩ := hp30
  refine lv_i2l hx hb d_2_37_30 rfl ?_
  obtain ⟨j32, e33⟩ := q_nm (a31.toInt64 : Int64)
  refine q_tl (v := j32) e33 ?_
  have b34 : q_F (j32.toInt = a31.toInt) := (by rw [← e33]; show (a31.toInt64 : Int64).toInt = a31.toInt; exact q_i2l rfl)
  refine lv_bipush (v := 31) hx hb d_2_37_31 (by decide) ?_
  refine lv_lshl hx hb d_2_37_33 rfl ?_
  obtain ⟨j35, e36⟩ := q_nm (j32 <<< ((31 : Int32).toInt64 &&& 63) : Int64)
  refine q_tl (v := j35) e36 ?_
  refine lv_aload_n hx hb d_2_37_34 rfl (lv_at hl 2 rfl) ?_
  refine lv_iload_n hx hb d_2_37_35 rfl (lv_at hl 3 rfl) ?_
  refine lv_iconst (v := 1) hx hb d_2_37_36 (by decide) ?_
  refine lv_isub hx hb d_2_37_37 ?_
  obtain ⟨a37, e38⟩ := q_nm (x2 - 1 : Int32)
  refine q_ti (v := a37) e38 ?_
  refine q_goi V (q_runV (As := [.int a37]) (rest := [.long j35]) (d := 1) (mc := 0) (ms := 0) (ci := 2) C0 V rfl LV_Big_49 (S_Big_limb l D g (nsh g q) q ws k1 R hB1 a37 hI   _) rfl rfl hO24 rfl hl.1 rfl (Nat.le_of_ble_eq_true rfl) ⟨by decide, by decide⟩ ⟨Nat.le_of_ble_eq_true rfl, Nat.le_of_ble_eq_true rfl⟩ d_2_37_38) (fun a41 u39 H locs hp40 V => ?_)
  obtain ⟨_, rfl⟩ := hp40
  refine lv_i2l hx hb d_2_37_41 rfl ?_
  obtain ⟨j42, e43⟩ := q_nm (a41.toInt64 : Int64)
  refine q_tl (v := j42) e43 ?_
  have b44 : q_F (j42.toInt = a41.toInt) := (by rw [← e43]; show (a41.toInt64 : Int64).toInt = a41.toInt; exact q_i2l rfl)
  refine lv_lor hx hb d_2_37_42 ?_
  obtain ⟨j45, e46⟩ := q_nm (j35 ||| j42 : Int64)
  refine q_tl (v := j45) e46 ?_
  refine lv_lstore (lv' := [(7, .long j45), (5, .long j21), (3, .long j12), (0, .ref (q k1)), (1, .int x2), (2, .ref (q k3))]) hx hb d_2_37_43 hl (by decide) rfl (fun ls hl => ?_)
  refine lv_lload hx hb d_2_37_45 (lv_at hl 0 rfl) ?_
  refine lv_lload_n hx hb d_2_37_47 rfl (lv_at hl 2 rfl) ?_
  refine lv_lconst (v := 1) hx hb d_2_37_48 (by decide) ?_
  refine q_gol V (q_runS (As := [.long j12, .long 1]) (rest := [.long j45]) (d := 1) (mc := 0) (ms := 0) C0 V rfl LS_Big_143 (T_jMath_max_JJJ l D g q ws  j12 1 hI   _) rfl hl.1 rfl (Nat.le_of_ble_eq_true rfl) ⟨by decide, by decide⟩ ⟨Nat.le_of_ble_eq_true rfl, Nat.le_of_ble_eq_true rfl⟩ d_2_37_49) (fun j49 u47 H locs hp48 V => ?_)
  obtain ⟨rfl, b50, b51⟩ := hp48
  replace b50 : q_F (j12.toInt ≤ j49.toInt) := b50
  replace b51 : q_F (1 ≤ j49.toInt) := b51
  refine lv_ldiv hx hb d_2_37_52 (s_nzL (by have t1 : 1 ≤ j49.toInt := b51; omega)) ?_
  obtain ⟨j52, e53⟩ := q_nm (j45 / j49 : Int64)
  refine q_tl (v := j52) e53 ?_
  refine lv_lstore (lv' := [(9, .long j52), (7, .long j45), (5, .long j21), (3, .long j12), (0, .ref (q k1)), (1, .int x2), (2, .ref (q k3))]) hx hb d_2_37_53 hl (by decide) rfl (fun ls hl => ?_)
  refine lv_lload hx hb d_2_37_55 (lv_at hl 1 rfl) ?_
  refine lv_lload hx hb d_2_37_57 (lv_at hl 0 rfl) ?_
  refine lv_lload_n hx hb d_2_37_59 rfl (lv_at hl 3 rfl) ?_
  refine lv_lmul hx hb d_2_37_60 ?_
  obtain ⟨j54, e55⟩ := q_nm (j52 * j12 : Int64)
  refine q_tl (v := j54) e55 ?_
  refine lv_lsub hx hb d_2_37_61 ?_
  obtain ⟨j56, e57⟩ := q_nm (j45 - j54 : Int64)
  refine q_tl (v := j56) e57 ?_
  refine lv_lstore (lv' := [(11, .long j56), (9, .long j52), (7, .long j45), (5, .long j21), (3, .long j12), (0, .ref (q k1)), (1, .int x2), (2, .ref (q k3))]) hx hb d_2_37_62 hl (by decide) rfl (fun ls hl => ?_)
  refine lv_iconst (v := 0) hx hb d_2_37_64 (by decide) ?_
  refine lv_istore (lv' := [(13, .int 0), (11, .long j56), (9, .long j52), (7, .long j45), (5, .long j21), (3, .long j12), (0, .ref (q k1)), (1, .int x2), (2, .ref (q k3))]) hx hb d_2_37_65 hl (by decide) rfl (fun ls hl => ?_)
  refine q_loop (X := Int32 × Int64 × Int64) (fun z H locs ls _ => q_F (0 ≤ z.1.toInt) ∧ q_F (z.1.toInt ≤ 2) ∧ q_Wd D g (va_A ws sz) s ws H locs ∧ lv_has ls 14 [(13, .int z.1), (11, .long z.2.1), (9, .long z.2.2), (5, .long j21), (3, .long j12), (0, .ref (q k1)), (1, .int x2)]) (fun z => (2 - z.1.toInt).toNat) ?_ ((0 : Int32), (j56 : Int64), (j52 : Int64)) _ _ _ ws ⟨(show q_F (0 ≤ 0) from (show 0 ≤ 0 from by omega)), (show q_F (0 ≤ 2) from (show 0 ≤ 2 from by omega)), V, q_lw hl (q_lw1 0 rfl (q_lw1 1 rfl (q_lw1 2 rfl (q_lw1 4 rfl (q_lw1 5 rfl (q_lw1 6 rfl (q_lw1 7 rfl q_lw0)))))))⟩
  rintro ⟨lx61, lx62, lx63⟩ H locs ls _ ⟨i64, i65, V, hl⟩ ih66
  replace i64 : q_F (0 ≤ lx61.toInt) := i64
  replace i65 : q_F (lx61.toInt ≤ 2) := i65
  replace hl : lv_has ls 14 [(13, .int lx61), (11, .long lx62), (9, .long lx63), (5, .long j21), (3, .long j12), (0, .ref (q k1)), (1, .int x2)] := hl
  refine lv_iload hx hb d_2_37_67 (lv_at hl 0 rfl) ?_
  refine lv_iconst (v := 2) hx hb d_2_37_69 (by decide) ?_
  refine lv_icmp_ge (tgt := 135) hx hb d_2_37_70 (by decide) (fun c67 => ?_) (fun c67 => ?_)
  ·
    have b68 : q_F (2 ≤ lx61.toInt) := (q_leI c67)
    refine lv_lload hx hb d_2_37_135 (lv_at hl 2 rfl) ?_
    exact q_retl C0 V (⟨rfl, trivial⟩) d_2_37_137
  ·
    have b69 : q_F (lx61.toInt < 2) := (q_nleI c67)
    refine lv_lload hx hb d_2_37_73 (lv_at hl 1 rfl) ?_
    refine q_ldc2 C0 rfl w_201 d_2_37_75 ?_
    refine W.lcmp hx hb d_2_37_78 ?_
    obtain ⟨a70, e71⟩ := q_nm (lg_cmp lx62 2147483647 : Int32)
    refine q_ti (v := a70) e71 ?_
    have b72 : q_F (-1 ≤ a70.toInt ∧ a70.toInt ≤ 1 ∧ ((a70.toInt = -1 ∧ lx62.toInt < 2147483647) ∨ (a70.toInt = 0 ∧ lx62.toInt = 2147483647) ∨ (a70.toInt = 1 ∧ 2147483647 < lx62.toInt))) := (by rw [← e71]; show -1 ≤ (lg_cmp lx62 2147483647 : Int32).toInt ∧ (lg_cmp lx62 2147483647 : Int32).toInt ≤ 1 ∧ (((lg_cmp lx62 2147483647 : Int32).toInt = -1 ∧ lx62.toInt < 2147483647) ∨ ((lg_cmp lx62 2147483647 : Int32).toInt = 0 ∧ lx62.toInt = 2147483647) ∨ ((lg_cmp lx62 2147483647 : Int32).toInt = 1 ∧ 2147483647 < lx62.toInt)); exact (by have y1 : (2147483647 : Int64).toInt = 2147483647 := rfl; have z := s_lcmp (a := lx62) (b := 2147483647); omega))
    refine lv_if_gt (tgt := 135) hx hb d_2_37_79 (by decide) (fun c73 => ?_) (fun c73 => ?_)
    ·
      have b74 : q_F (0 < a70.toInt) := (q_ltI c73)
      refine lv_lload hx hb d_2_37_135 (lv_at hl 2 rfl) ?_
      exact q_retl C0 V (⟨rfl, trivial⟩) d_2_37_137
    ·
      have b75 : q_F (a70.toInt ≤ 0) := (q_nltI c73)
      refine lv_lload hx hb d_2_37_82 (lv_at hl 2 rfl) ?_
      refine q_ldc2 C0 rfl w_201 d_2_37_84 ?_
      refine W.lcmp hx hb d_2_37_87 ?_
      obtain ⟨a76, e77⟩ := q_nm (lg_cmp lx63 2147483647 : Int32)
      refine q_ti (v := a76) e77 ?_
      have b78 : q_F (-1 ≤ a76.toInt ∧ a76.toInt ≤ 1 ∧ ((a76.toInt = -1 ∧ lx63.toInt < 2147483647) ∨ (a76.toInt = 0 ∧ lx63.toInt = 2147483647) ∨ (a76.toInt = 1 ∧ 2147483647 < lx63.toInt))) := (by rw [← e77]; show -1 ≤ (lg_cmp lx63 2147483647 : Int32).toInt ∧ (lg_cmp lx63 2147483647 : Int32).toInt ≤ 1 ∧ (((lg_cmp lx63 2147483647 : Int32).toInt = -1 ∧ lx63.toInt < 2147483647) ∨ ((lg_cmp lx63 2147483647 : Int32).toInt = 0 ∧ lx63.toInt = 2147483647) ∨ ((lg_cmp lx63 2147483647 : Int32).toInt = 1 ∧ 2147483647 < lx63.toInt)); exact (by have y1 : (2147483647 : Int64).toInt = 2147483647 := rfl; have z := s_lcmp (a := lx63) (b := 2147483647); omega))
      refine lv_if_gt (tgt := 117) hx hb d_2_37_88 (by decide) (fun c79 => ?_) (fun c79 => ?_)
      ·
        have b80 : q_F (0 < a76.toInt) := (q_ltI c79)
        refine lv_lload hx hb d_2_37_117 (lv_at hl 2 rfl) ?_
        refine lv_lconst (v := 1) hx hb d_2_37_119 (by decide) ?_
        refine lv_lsub hx hb d_2_37_120 ?_
        obtain ⟨j81, e82⟩ := q_nm (lx63 - 1 : Int64)
        refine q_tl (v := j81) e82 ?_
        have b83 : q_F (j81.toInt = lx63.toInt - 1) := (by rw [← e82]; show (lx63 - 1 : Int64).toInt = lx63.toInt - 1; exact q_subL (x := lx63.toInt) (y := 1) rfl (by decide) (by have t1 : -1 ≤ a76.toInt ∧ a76.toInt ≤ 1 ∧ ((a76.toInt = -1 ∧ lx63.toInt < 2147483647) ∨ (a76.toInt = 0 ∧ lx63.toInt = 2147483647) ∨ (a76.toInt = 1 ∧ 2147483647 < lx63.toInt)) := b78; have t2 : 0 < a76.toInt := b80; have _ := Int64.le_toInt lx63; have _ := Int64.toInt_lt lx63; omega) (by have t1 : -1 ≤ a76.toInt ∧ a76.toInt ≤ 1 ∧ ((a76.toInt = -1 ∧ lx63.toInt < 2147483647) ∨ (a76.toInt = 0 ∧ lx63.toInt = 2147483647) ∨ (a76.toInt = 1 ∧ 2147483647 < lx63.toInt)) := b78; have t2 : 0 < a76.toInt := b80; have _ := Int64.le_toInt lx63; have _ := Int64.toInt_lt lx63; omega))
        refine lv_lstore (lv' := [(9, .long j81), (13, .int lx61), (11, .long lx62), (5, .long j21), (3, .long j12), (0, .ref (q k1)), (1, .int x2)]) hx hb d_2_37_121 hl (by decide) rfl (fun ls hl => ?_)
        refine lv_lload hx hb d_2_37_123 (lv_at hl 2 rfl) ?_
        refine lv_lload_n hx hb d_2_37_125 rfl (lv_at hl 4 rfl) ?_
        refine lv_ladd hx hb d_2_37_126 ?_
        obtain ⟨j84, e85⟩ := q_nm (lx62 + j12 : Int64)
        refine q_tl (v := j84) e85 ?_
        refine lv_lstore (lv' := [(11, .long j84), (9, .long j81), (13, .int lx61), (5, .long j21), (3, .long j12), (0, .ref (q k1)), (1, .int x2)]) hx hb d_2_37_127 hl (by decide) rfl (fun ls hl => ?_)
        obtain ⟨a86, e87⟩ := q_nm (lx61 + 1 : Int32)
        have b88 : q_F (a86.toInt = lx61.toInt + 1) := (by rw [← e87]; exact q_addI (y := 1) rfl (by decide) (by have t1 : 0 ≤ lx61.toInt := i64; have t2 : lx61.toInt ≤ 2 := i65; omega) (by have t1 : 0 ≤ lx61.toInt := i64; have t2 : lx61.toInt ≤ 2 := i65; omega))
        refine lv_iinc (v := a86) (lv' := [(13, .int a86), (11, .long j84), (9, .long j81), (5, .long j21), (3, .long j12), (0, .ref (q k1)), (1, .int x2)]) hx hb d_2_37_129 hl (k := 2) rfl (e87) (by decide) rfl (fun ls hl => ?_)
        refine lv_goto (tgt := 67) hx hb d_2_37_132 (by decide) ?_
        exact ih66 ((a86 : Int32), (j84 : Int64), (j81 : Int64)) _ _ _ ws (show (2 - a86.toInt).toNat < (2 - lx61.toInt).toNat from by have t1 : a86.toInt = lx61.toInt + 1 := b88; have t2 : lx61.toInt ≤ 2 := i65; have t3 : lx61.toInt < 2 := b69; omega) ⟨(show q_F (0 ≤ a86.toInt) from (show 0 ≤ a86.toInt from by have t1 : 0 ≤ lx61.toInt := i64; have t2 : a86.toInt = lx61.toInt + 1 := b88; omega)), (show q_F (a86.toInt ≤ 2) from (show a86.toInt ≤ 2 from by have t1 : lx61.toInt < 2 := b69; have t2 : a86.toInt = lx61.toInt + 1 := b88; omega)), V, q_lw hl (q_lw1 0 rfl (q_lw1 1 rfl (q_lw1 2 rfl (q_lw1 3 rfl (q_lw1 4 rfl (q_lw1 5 rfl (q_lw1 6 rfl q_lw0)))))))⟩
      ·
        have b89 : q_F (a76.toInt ≤ 0) := (q_nltI c79)
        refine lv_lload hx hb d_2_37_91 (lv_at hl 2 rfl) ?_
        refine lv_lload hx hb d_2_37_93 (lv_at hl 3 rfl) ?_
        refine lv_lmul hx hb d_2_37_95 ?_
        obtain ⟨j90, e91⟩ := q_nm (lx63 * j21 : Int64)
        refine q_tl (v := j90) e91 ?_
        refine lv_lload hx hb d_2_37_96 (lv_at hl 1 rfl) ?_
        refine lv_bipush (v := 31) hx hb d_2_37_98 (by decide) ?_
        refine lv_lshl hx hb d_2_37_100 rfl ?_
        obtain ⟨j92, e93⟩ := q_nm (lx62 <<< ((31 : Int32).toInt64 &&& 63) : Int64)
        refine q_tl (v := j92) e93 ?_
        refine lv_aload_n hx hb d_2_37_101 rfl (lv_at hl 5 rfl) ?_
        refine lv_iload_n hx hb d_2_37_102 rfl (lv_at hl 6 rfl) ?_
        refine lv_iconst (v := 2) hx hb d_2_37_103 (by decide) ?_
        refine lv_isub hx hb d_2_37_104 ?_
        obtain ⟨a94, e95⟩ := q_nm (x2 - 2 : Int32)
        refine q_ti (v := a94) e95 ?_
        refine q_goi V (q_runV (As := [.int a94]) (rest := [.long j92, .long j90]) (d := 1) (mc := 0) (ms := 0) (ci := 2) C0 V rfl LV_Big_49 (S_Big_limb l D g (nsh g q) q ws k1 R hB1 a94 hI   _) rfl rfl hO24 rfl hl.1 rfl (Nat.le_of_ble_eq_true rfl) ⟨by decide, by decide⟩ ⟨Nat.le_of_ble_eq_true rfl, Nat.le_of_ble_eq_true rfl⟩ d_2_37_105) (fun a98 u96 H locs hp97 V => ?_)
        obtain ⟨_, rfl⟩ := hp97
        refine lv_i2l hx hb d_2_37_108 rfl ?_
        obtain ⟨j99, e100⟩ := q_nm (a98.toInt64 : Int64)
        refine q_tl (v := j99) e100 ?_
        have b101 : q_F (j99.toInt = a98.toInt) := (by rw [← e100]; show (a98.toInt64 : Int64).toInt = a98.toInt; exact q_i2l rfl)
        refine lv_lor hx hb d_2_37_109 ?_
        obtain ⟨j102, e103⟩ := q_nm (j92 ||| j99 : Int64)
        refine q_tl (v := j102) e103 ?_
        refine W.lcmp hx hb d_2_37_110 ?_
        obtain ⟨a104, e105⟩ := q_nm (lg_cmp j90 j102 : Int32)
        refine q_ti (v := a104) e105 ?_
        have b106 : q_F (-1 ≤ a104.toInt ∧ a104.toInt ≤ 1 ∧ ((a104.toInt = -1 ∧ j90.toInt < j102.toInt) ∨ (a104.toInt = 0 ∧ j90.toInt = j102.toInt) ∨ (a104.toInt = 1 ∧ j102.toInt < j90.toInt))) := (by rw [← e105]; show -1 ≤ (lg_cmp j90 j102 : Int32).toInt ∧ (lg_cmp j90 j102 : Int32).toInt ≤ 1 ∧ (((lg_cmp j90 j102 : Int32).toInt = -1 ∧ j90.toInt < j102.toInt) ∨ ((lg_cmp j90 j102 : Int32).toInt = 0 ∧ j90.toInt = j102.toInt) ∨ ((lg_cmp j90 j102 : Int32).toInt = 1 ∧ j102.toInt < j90.toInt)); exact s_lcmp)
        refine lv_if_gt (tgt := 117) hx hb d_2_37_111 (by decide) (fun c107 => ?_) (fun c107 => ?_)
        ·
          have b108 : q_F (0 < a104.toInt) := (q_ltI c107)
          refine lv_lload hx hb d_2_37_117 (lv_at hl 2 rfl) ?_
          refine lv_lconst (v := 1) hx hb d_2_37_119 (by decide) ?_
          refine lv_lsub hx hb d_2_37_120 ?_
          obtain ⟨j109, e110⟩ := q_nm (lx63 - 1 : Int64)
          refine q_tl (v := j109) e110 ?_
          refine lv_lstore (lv' := [(9, .long j109), (13, .int lx61), (11, .long lx62), (5, .long j21), (3, .long j12), (0, .ref (q k1)), (1, .int x2)]) hx hb d_2_37_121 hl (by decide) rfl (fun ls hl => ?_)
          refine lv_lload hx hb d_2_37_123 (lv_at hl 2 rfl) ?_
          refine lv_lload_n hx hb d_2_37_125 rfl (lv_at hl 4 rfl) ?_
          refine lv_ladd hx hb d_2_37_126 ?_
          obtain ⟨j111, e112⟩ := q_nm (lx62 + j12 : Int64)
          refine q_tl (v := j111) e112 ?_
          refine lv_lstore (lv' := [(11, .long j111), (9, .long j109), (13, .int lx61), (5, .long j21), (3, .long j12), (0, .ref (q k1)), (1, .int x2)]) hx hb d_2_37_127 hl (by decide) rfl (fun ls hl => ?_)
          obtain ⟨a113, e114⟩ := q_nm (lx61 + 1 : Int32)
          have b115 : q_F (a113.toInt = lx61.toInt + 1) := (by rw [← e114]; exact q_addI (y := 1) rfl (by decide) (by have t1 : 0 ≤ lx61.toInt := i64; have t2 : lx61.toInt ≤ 2 := i65; omega) (by have t1 : 0 ≤ lx61.toInt := i64; have t2 : lx61.toInt ≤ 2 := i65; omega))
          refine lv_iinc (v := a113) (lv' := [(13, .int a113), (11, .long j111), (9, .long j109), (5, .long j21), (3, .long j12), (0, .ref (q k1)), (1, .int x2)]) hx hb d_2_37_129 hl (k := 2) rfl (e114) (by decide) rfl (fun ls hl => ?_)
          refine lv_goto (tgt := 67) hx hb d_2_37_132 (by decide) ?_
          exact ih66 ((a113 : Int32), (j111 : Int64), (j109 : Int64)) _ _ _ ws (show (2 - a113.toInt).toNat < (2 - lx61.toInt).toNat from by have t1 : a113.toInt = lx61.toInt + 1 := b115; have t2 : lx61.toInt ≤ 2 := i65; have t3 : lx61.toInt < 2 := b69; omega) ⟨(show q_F (0 ≤ a113.toInt) from (show 0 ≤ a113.toInt from by have t1 : 0 ≤ lx61.toInt := i64; have t2 : a113.toInt = lx61.toInt + 1 := b115; omega)), (show q_F (a113.toInt ≤ 2) from (show a113.toInt ≤ 2 from by have t1 : lx61.toInt < 2 := b69; have t2 : a113.toInt = lx61.toInt + 1 := b115; omega)), V, q_lw hl (q_lw1 0 rfl (q_lw1 1 rfl (q_lw1 2 rfl (q_lw1 3 rfl (q_lw1 4 rfl (q_lw1 5 rfl (q_lw1 6 rfl q_lw0)))))))⟩
        ·
          have b116 : q_F (a104.toInt ≤ 0) := (q_nltI c107)
          refine lv_goto (tgt := 135) hx hb d_2_37_114 (by decide) ?_
          refine lv_lload hx hb d_2_37_135 (lv_at hl 2 rfl) ?_
          exact q_retl C0 V (⟨rfl, trivial⟩) d_2_37_137
theorem d_2_38_0 : decode prog_2_method_38_code 0 = .ok (.aload_n 2, 1) := by decide +kernel
theorem d_2_38_1 : decode prog_2_method_38_code 1 = .ok (.getfield 13, 3) := by decide +kernel
theorem d_2_38_4 : decode prog_2_method_38_code 4 = .ok (.istore_n 3, 1) := by decide +kernel
theorem d_2_38_5 : decode prog_2_method_38_code 5 = .ok (.iconst 0, 1) := by decide +kernel
theorem d_2_38_6 : decode prog_2_method_38_code 6 = .ok (.istore 4, 2) := by decide +kernel
theorem d_2_38_8 : decode prog_2_method_38_code 8 = .ok (.iconst 0, 1) := by decide +kernel
theorem d_2_38_9 : decode prog_2_method_38_code 9 = .ok (.istore 5, 2) := by decide +kernel
theorem d_2_38_11 : decode prog_2_method_38_code 11 = .ok (.iload 5, 2) := by decide +kernel
theorem d_2_38_13 : decode prog_2_method_38_code 13 = .ok (.iload_n 3, 1) := by decide +kernel
theorem d_2_38_14 : decode prog_2_method_38_code 14 = .ok (.if_icmp .ge 51, 3) := by decide +kernel
theorem d_2_38_65 : decode prog_2_method_38_code 65 = .ok (.iload_n 1, 1) := by decide +kernel
theorem d_2_38_66 : decode prog_2_method_38_code 66 = .ok (.iload_n 3, 1) := by decide +kernel
theorem d_2_38_67 : decode prog_2_method_38_code 67 = .ok (.iadd, 1) := by decide +kernel
theorem d_2_38_68 : decode prog_2_method_38_code 68 = .ok (.aload_n 0, 1) := by decide +kernel
theorem d_2_38_69 : decode prog_2_method_38_code 69 = .ok (.getfield 7, 3) := by decide +kernel
theorem d_2_38_72 : decode prog_2_method_38_code 72 = .ok (.arraylength, 1) := by decide +kernel
theorem d_2_38_73 : decode prog_2_method_38_code 73 = .ok (.if_icmp .ge 24, 3) := by decide +kernel
theorem d_2_38_97 : decode prog_2_method_38_code 97 = .ok (.return_, 1) := by decide +kernel
theorem d_2_38_76 : decode prog_2_method_38_code 76 = .ok (.aload_n 0, 1) := by decide +kernel
theorem d_2_38_77 : decode prog_2_method_38_code 77 = .ok (.getfield 7, 3) := by decide +kernel
theorem d_2_38_80 : decode prog_2_method_38_code 80 = .ok (.iload_n 1, 1) := by decide +kernel
theorem d_2_38_81 : decode prog_2_method_38_code 81 = .ok (.iload_n 3, 1) := by decide +kernel
theorem d_2_38_82 : decode prog_2_method_38_code 82 = .ok (.iadd, 1) := by decide +kernel
theorem d_2_38_83 : decode prog_2_method_38_code 83 = .ok (.aload_n 0, 1) := by decide +kernel
theorem d_2_38_84 : decode prog_2_method_38_code 84 = .ok (.iload_n 1, 1) := by decide +kernel
theorem d_2_38_85 : decode prog_2_method_38_code 85 = .ok (.iload_n 3, 1) := by decide +kernel
theorem d_2_38_86 : decode prog_2_method_38_code 86 = .ok (.iadd, 1) := by decide +kernel
theorem d_2_38_87 : decode prog_2_method_38_code 87 = .ok (.invokevirtual 49, 3) := by decide +kernel
theorem d_2_38_90 : decode prog_2_method_38_code 90 = .ok (.iload 4, 2) := by decide +kernel
theorem d_2_38_92 : decode prog_2_method_38_code 92 = .ok (.iadd, 1) := by decide +kernel
theorem d_2_38_93 : decode prog_2_method_38_code 93 = .ok (.ldc 71, 2) := by decide +kernel
theorem d_2_38_95 : decode prog_2_method_38_code 95 = .ok (.iand, 1) := by decide +kernel
theorem d_2_38_96 : decode prog_2_method_38_code 96 = .ok (.iastore, 1) := by decide +kernel
theorem d_2_38_17 : decode prog_2_method_38_code 17 = .ok (.aload_n 0, 1) := by decide +kernel
theorem d_2_38_18 : decode prog_2_method_38_code 18 = .ok (.iload_n 1, 1) := by decide +kernel
theorem d_2_38_19 : decode prog_2_method_38_code 19 = .ok (.iload 5, 2) := by decide +kernel
theorem d_2_38_21 : decode prog_2_method_38_code 21 = .ok (.iadd, 1) := by decide +kernel
theorem d_2_38_22 : decode prog_2_method_38_code 22 = .ok (.invokevirtual 49, 3) := by decide +kernel
theorem d_2_38_25 : decode prog_2_method_38_code 25 = .ok (.aload_n 2, 1) := by decide +kernel
theorem d_2_38_26 : decode prog_2_method_38_code 26 = .ok (.getfield 7, 3) := by decide +kernel
theorem d_2_38_29 : decode prog_2_method_38_code 29 = .ok (.iload 5, 2) := by decide +kernel
theorem d_2_38_31 : decode prog_2_method_38_code 31 = .ok (.iaload, 1) := by decide +kernel
theorem d_2_38_32 : decode prog_2_method_38_code 32 = .ok (.iadd, 1) := by decide +kernel
theorem d_2_38_33 : decode prog_2_method_38_code 33 = .ok (.iload 4, 2) := by decide +kernel
theorem d_2_38_35 : decode prog_2_method_38_code 35 = .ok (.iadd, 1) := by decide +kernel
theorem d_2_38_36 : decode prog_2_method_38_code 36 = .ok (.istore 6, 2) := by decide +kernel
theorem d_2_38_38 : decode prog_2_method_38_code 38 = .ok (.aload_n 0, 1) := by decide +kernel
theorem d_2_38_39 : decode prog_2_method_38_code 39 = .ok (.getfield 7, 3) := by decide +kernel
theorem d_2_38_42 : decode prog_2_method_38_code 42 = .ok (.iload_n 1, 1) := by decide +kernel
theorem d_2_38_43 : decode prog_2_method_38_code 43 = .ok (.iload 5, 2) := by decide +kernel
theorem d_2_38_45 : decode prog_2_method_38_code 45 = .ok (.iadd, 1) := by decide +kernel
theorem d_2_38_46 : decode prog_2_method_38_code 46 = .ok (.iload 6, 2) := by decide +kernel
theorem d_2_38_48 : decode prog_2_method_38_code 48 = .ok (.ldc 71, 2) := by decide +kernel
theorem d_2_38_50 : decode prog_2_method_38_code 50 = .ok (.iand, 1) := by decide +kernel
theorem d_2_38_51 : decode prog_2_method_38_code 51 = .ok (.iastore, 1) := by decide +kernel
theorem d_2_38_52 : decode prog_2_method_38_code 52 = .ok (.iload 6, 2) := by decide +kernel
theorem d_2_38_54 : decode prog_2_method_38_code 54 = .ok (.bipush 31, 2) := by decide +kernel
theorem d_2_38_56 : decode prog_2_method_38_code 56 = .ok (.iushr, 1) := by decide +kernel
theorem d_2_38_57 : decode prog_2_method_38_code 57 = .ok (.istore 4, 2) := by decide +kernel
theorem d_2_38_59 : decode prog_2_method_38_code 59 = .ok (.iinc 5 1, 3) := by decide +kernel
theorem d_2_38_62 : decode prog_2_method_38_code 62 = .ok (.goto (-51), 3) := by decide +kernel
def y_Big_giveBack : MethodName := ⟨"NumberHouse$Big", "giveBack", "(ILNumberHouse$Big;)V"⟩
set_option maxRecDepth 100000 in
set_option maxHeartbeats 4000000 in
theorem T_Big_giveBack (l : Launch) (D : va_G) (g : Nat → ClassId) (q : Nat → Nat) (ws : va_W) (k1 : Nat) (R : Int32) (hB1 : q_isBig (nsh g q) g q k1 R) (zk1 : (10 ≤ k1 ∧ k1 ≤ 32) ∨ 66 ≤ k1) (k3 : Nat) (R2 : Int32) (hB3 : q_isBig (nsh g q) g q k3 R2) (zk3 : (10 ≤ k3 ∧ k3 ≤ 32) ∨ 66 ≤ k3) (x2 : Int32) (hI : q_I (nsh g q) q ws) (t0_0 : Int32) (t0_1 : Int32) (hT0 : ws[k3]? = (some (q k3, .inr (2, [.ref (q (k3 + 1)), .int t0_0, .int t0_1])) : Option (Nat × va_E))) (pre0 : 0 ≤ x2.toInt) (pre1 : x2.toInt + t0_0.toInt ≤ R.toInt) : q_mV l y_Big_giveBack prog_2_method_38_code 7 2 0 0 D g [.ref (q k1), .int x2, .ref (q k3)] ws (fun u => q_I (nsh g q) q u ∧ q_un ws u [k1 + 1] ∧ True) := by
  intro sz
  refine q_into (by decide) (Nat.le_of_ble_eq_true rfl) ?_
  intro p e s m below meth c ls hsz C0 V hl
  have hx := C0.1
  have hb := C0.2.1
  have hfk10 : q_F (0 ≤ R.toInt ∧ R.toInt ≤ 220) := hB1.2.2
  have hfk30 : q_F (0 ≤ R2.toInt ∧ R2.toInt ≤ 220) := hB3.2.2
  obtain ⟨yy0_0, yy0_1, hh0, btt0_0, btt0_1⟩ := q_bigO hI hB3
  obtain ⟨rfl, rfl⟩ : t0_0 = yy0_0 ∧ t0_1 = yy0_1 := by have z := Option.some.inj (hT0.symm.trans hh0); simpa using z
  replace btt0_0 : q_F (0 ≤ t0_0.toInt ∧ t0_0.toInt ≤ R2.toInt) := btt0_0
  replace btt0_1 : q_F (0 ≤ t0_1.toInt ∧ t0_1.toInt ≤ 1) := btt0_1
  replace pre0 : q_F (0 ≤ x2.toInt) := pre0
  replace pre1 : q_F (x2.toInt + t0_0.toInt ≤ R.toInt) := pre1
  have hF : q_un ws ws [k1 + 1] := q_u0
  have hl : lv_has ls 7 [(0, .ref (q k1)), (1, .int x2), (2, .ref (q k3))] := hl
  refine lv_aload_n hx hb d_2_38_0 rfl (lv_at hl 2 rfl) ?_
  refine q_get (ci := 2) (j := 1) (v := .int t0_0) C0 V i_Big rfl rfl hT0 (by decide) w_85 rfl d_2_38_1 ?_
  refine lv_istore_n (lv' := [(3, .int t0_0), (0, .ref (q k1)), (1, .int x2), (2, .ref (q k3))]) hx hb d_2_38_4 rfl hl (by decide) rfl (fun ls hl => ?_)
  refine lv_iconst (v := 0) hx hb d_2_38_5 (by decide) ?_
  refine lv_istore (lv' := [(4, .int 0), (3, .int t0_0), (0, .ref (q k1)), (1, .int x2), (2, .ref (q k3))]) hx hb d_2_38_6 hl (by decide) rfl (fun ls hl => ?_)
  refine lv_iconst (v := 0) hx hb d_2_38_8 (by decide) ?_
  refine lv_istore (lv' := [(5, .int 0), (4, .int 0), (3, .int t0_0), (0, .ref (q k1)), (1, .int x2), (2, .ref (q k3))]) hx hb d_2_38_9 hl (by decide) rfl (fun ls hl => ?_)
  refine q_loop (X := Int32 × Int32) (fun z H locs ls w13 => q_F (0 ≤ z.2.toInt) ∧ q_F (z.2.toInt ≤ 1) ∧ q_F (z.1.toInt ≤ t0_0.toInt) ∧ q_F (z.2.toInt ≤ z.1.toInt) ∧ q_Wd D g (va_A ws sz) s w13 H locs ∧ lv_has ls 7 [(5, .int z.1), (4, .int z.2), (3, .int t0_0), (0, .ref (q k1)), (1, .int x2), (2, .ref (q k3))] ∧ q_I (nsh g q) q w13 ∧ q_un ws w13 [k1 + 1] ∧ w13[k3]? = (some (q k3, .inr (2, [.ref (q (k3 + 1)), .int t0_0, .int t0_1])) : Option (Nat × va_E))) (fun z => (220 - z.1.toInt).toNat) ?_ ((0 : Int32), (0 : Int32)) _ _ _ ws ⟨(show q_F (0 ≤ 0) from (show 0 ≤ 0 from by omega)), (show q_F (0 ≤ 1) from (show 0 ≤ 1 from by omega)), (show q_F (0 ≤ t0_0.toInt) from (show 0 ≤ t0_0.toInt from by have t1 : 0 ≤ t0_0.toInt ∧ t0_0.toInt ≤ R2.toInt := btt0_0; omega)), (show q_F (0 ≤ 0) from (show 0 ≤ 0 from by omega)), V, q_lw hl (q_lw1 0 rfl (q_lw1 1 rfl (q_lw1 2 rfl (q_lw1 3 rfl (q_lw1 4 rfl (q_lw1 5 rfl q_lw0)))))), hI, hF, hT0⟩
  rintro ⟨lx6, lx7⟩ H locs ls w13 ⟨i8, i9, i10, i11, V, hl, hI, hF, hO14⟩ ih12
  replace i8 : q_F (0 ≤ lx7.toInt) := i8
  replace i9 : q_F (lx7.toInt ≤ 1) := i9
  replace i10 : q_F (lx6.toInt ≤ t0_0.toInt) := i10
  replace i11 : q_F (lx7.toInt ≤ lx6.toInt) := i11
  replace hl : lv_has ls 7 [(5, .int lx6), (4, .int lx7), (3, .int t0_0), (0, .ref (q k1)), (1, .int x2), (2, .ref (q k3))] := hl
  replace hO14 : w13[k3]? = (some (q k3, .inr (2, [.ref (q (k3 + 1)), .int t0_0, .int t0_1])) : Option (Nat × va_E)) := hO14
  refine lv_iload hx hb d_2_38_11 (lv_at hl 0 rfl) ?_
  refine lv_iload_n hx hb d_2_38_13 rfl (lv_at hl 2 rfl) ?_
  refine lv_icmp_ge (tgt := 65) hx hb d_2_38_14 (by decide) (fun c15 => ?_) (fun c15 => ?_)
  ·
    have b16 : q_F (t0_0.toInt ≤ lx6.toInt) := (q_leI c15)
    refine lv_iload_n hx hb d_2_38_65 rfl (lv_at hl 4 rfl) ?_
    refine lv_iload_n hx hb d_2_38_66 rfl (lv_at hl 2 rfl) ?_
    refine lv_iadd hx hb d_2_38_67 ?_
    obtain ⟨a17, e18⟩ := q_nm (x2 + t0_0 : Int32)
    refine q_ti (v := a17) e18 ?_
    have b19 : q_F (a17.toInt = x2.toInt + t0_0.toInt) := (by rw [← e18]; show (x2 + t0_0 : Int32).toInt = x2.toInt + t0_0.toInt; exact q_addI (x := x2.toInt) (y := t0_0.toInt) rfl rfl (by have t1 : 0 ≤ t0_0.toInt ∧ t0_0.toInt ≤ R2.toInt := btt0_0; have t2 : 0 ≤ x2.toInt := pre0; have t3 : x2.toInt + t0_0.toInt ≤ R.toInt := pre1; have _ := q_lo32 (x := R); have _ := q_hi32 (x := R); omega) (by have t1 : 0 ≤ t0_0.toInt ∧ t0_0.toInt ≤ R2.toInt := btt0_0; have t2 : 0 ≤ x2.toInt := pre0; have t3 : x2.toInt + t0_0.toInt ≤ R.toInt := pre1; have _ := q_lo32 (x := R); have _ := q_hi32 (x := R); omega))
    refine lv_aload_n hx hb d_2_38_68 rfl (lv_at hl 3 rfl) ?_
    obtain ⟨y21, y22, hO20, b23, b24⟩ := q_bigO hI hB1
    replace b23 : q_F (0 ≤ y21.toInt ∧ y21.toInt ≤ R.toInt) := b23
    replace b24 : q_F (0 ≤ y22.toInt ∧ y22.toInt ≤ 1) := b24
    refine q_get (ci := 2) (j := 0) (v := .ref (q (k1 + 1))) C0 V i_Big rfl rfl hO20 (by decide) w_84 rfl d_2_38_69 ?_
    obtain ⟨f25, hA26, bf27⟩ := q_bigA hI hB1
    refine q_alen (t := 0) (v := R) C0 V hA26 rfl (s_len (by have t1 : 0 ≤ R.toInt ∧ R.toInt ≤ 220 := hfk10; omega)) d_2_38_72 ?_
    refine lv_icmp_ge (tgt := 97) hx hb d_2_38_73 (by decide) (fun c28 => ?_) (fun c28 => ?_)
    ·
      have b29 : q_F (R.toInt ≤ a17.toInt) := (q_leI c28)
      exact q_retv C0 V (⟨hI, hF, trivial⟩) d_2_38_97
    ·
      have b30 : q_F (a17.toInt < R.toInt) := (q_nleI c28)
      refine lv_aload_n hx hb d_2_38_76 rfl (lv_at hl 3 rfl) ?_
      refine q_get (ci := 2) (j := 0) (v := .ref (q (k1 + 1))) C0 V i_Big rfl rfl hO20 (by decide) w_84 rfl d_2_38_77 ?_
      refine lv_iload_n hx hb d_2_38_80 rfl (lv_at hl 4 rfl) ?_
      refine lv_iload_n hx hb d_2_38_81 rfl (lv_at hl 2 rfl) ?_
      refine lv_iadd hx hb d_2_38_82 ?_
      obtain ⟨a31, e32⟩ := q_nm (x2 + t0_0 : Int32)
      refine q_ti (v := a31) e32 ?_
      have b33 : q_F (a31.toInt = x2.toInt + t0_0.toInt) := (by rw [← e32]; show (x2 + t0_0 : Int32).toInt = x2.toInt + t0_0.toInt; exact q_addI (x := x2.toInt) (y := t0_0.toInt) rfl rfl (by have t1 : 0 ≤ t0_0.toInt ∧ t0_0.toInt ≤ R2.toInt := btt0_0; have t2 : 0 ≤ x2.toInt := pre0; have t3 : x2.toInt + t0_0.toInt ≤ R.toInt := pre1; have _ := q_lo32 (x := R); have _ := q_hi32 (x := R); omega) (by have t1 : 0 ≤ t0_0.toInt ∧ t0_0.toInt ≤ R2.toInt := btt0_0; have t2 : 0 ≤ x2.toInt := pre0; have t3 : x2.toInt + t0_0.toInt ≤ R.toInt := pre1; have _ := q_lo32 (x := R); have _ := q_hi32 (x := R); omega))
      refine lv_aload_n hx hb d_2_38_83 rfl (lv_at hl 3 rfl) ?_
      refine lv_iload_n hx hb d_2_38_84 rfl (lv_at hl 4 rfl) ?_
      refine lv_iload_n hx hb d_2_38_85 rfl (lv_at hl 2 rfl) ?_
      refine lv_iadd hx hb d_2_38_86 ?_
      obtain ⟨a34, e35⟩ := q_nm (x2 + t0_0 : Int32)
      refine q_ti (v := a34) e35 ?_
      have b36 : q_F (a34.toInt = x2.toInt + t0_0.toInt) := (by rw [← e35]; show (x2 + t0_0 : Int32).toInt = x2.toInt + t0_0.toInt; exact q_addI (x := x2.toInt) (y := t0_0.toInt) rfl rfl (by have t1 : 0 ≤ t0_0.toInt ∧ t0_0.toInt ≤ R2.toInt := btt0_0; have t2 : 0 ≤ x2.toInt := pre0; have t3 : x2.toInt + t0_0.toInt ≤ R.toInt := pre1; have _ := q_lo32 (x := R); have _ := q_hi32 (x := R); omega) (by have t1 : 0 ≤ t0_0.toInt ∧ t0_0.toInt ≤ R2.toInt := btt0_0; have t2 : 0 ≤ x2.toInt := pre0; have t3 : x2.toInt + t0_0.toInt ≤ R.toInt := pre1; have _ := q_lo32 (x := R); have _ := q_hi32 (x := R); omega))
      refine q_goi V (q_runV (As := [.int a34]) (rest := [.int a31, .ref (q (k1 + 1))]) (d := 1) (mc := 0) (ms := 0) (ci := 2) C0 V rfl LV_Big_49 (S_Big_limb l D g (nsh g q) q w13 k1 R hB1 a34 hI   _) rfl rfl hO20 rfl hl.1 rfl (Nat.le_of_ble_eq_true rfl) ⟨by decide, by decide⟩ ⟨Nat.le_of_ble_eq_true rfl, Nat.le_of_ble_eq_true rfl⟩ d_2_38_87) (fun a39 u37 H locs hp38 V => ?_)
      obtain ⟨_, rfl⟩ := hp38
      refine lv_iload hx hb d_2_38_90 (lv_at hl 1 rfl) ?_
      refine lv_iadd hx hb d_2_38_92 ?_
      obtain ⟨a40, e41⟩ := q_nm (a39 + lx7 : Int32)
      refine q_ti (v := a40) e41 ?_
      refine q_ldc C0 rfl w_809 d_2_38_93 ?_
      refine lv_iand hx hb d_2_38_95 ?_
      obtain ⟨a42, e43⟩ := q_nm (a40 &&& 2147483647 : Int32)
      refine q_ti (v := a42) e43 ?_
      have b44 : q_F (0 ≤ a42.toInt ∧ a42.toInt ≤ 2147483647) := (by rw [← e43]; show 0 ≤ (a40 &&& 2147483647 : Int32).toInt ∧ (a40 &&& 2147483647 : Int32).toInt ≤ 2147483647; exact s_and (by decide))
      have ne47 := q_df hA26 hO14
      refine q_iast C0 V hA26 (q_ix (x := a31.toInt) rfl (by have t1 : 0 ≤ t0_0.toInt ∧ t0_0.toInt ≤ R2.toInt := btt0_0; have t2 : 0 ≤ x2.toInt := pre0; have t3 : a31.toInt = x2.toInt + t0_0.toInt := b33; omega) (by have t1 : 0 ≤ t0_0.toInt ∧ t0_0.toInt ≤ R2.toInt := btt0_0; have t2 : 0 ≤ x2.toInt := pre0; have t3 : a31.toInt = x2.toInt + t0_0.toInt := b33; have t4 : a17.toInt = x2.toInt + t0_0.toInt := b19; have t5 : a17.toInt < R.toInt := b30; have e9 := q_clI (i := R) rfl (by have t1 : 0 ≤ R.toInt ∧ R.toInt ≤ 220 := hfk10; omega); omega)) d_2_38_96 (fun H locs w45 hu46 hA26 V => ?_)
      replace hI := q_bigA' hI hB1 hu46 hA26 (q_updB bf27 s_bnd)
      replace hO14 := (hu46 _ (Ne.symm ne47)).trans hO14
      replace hO20 := (hu46 _ (by omega)).trans hO20
      replace hF := q_us hF hu46 (by simp)
      exact q_retv C0 V (⟨hI, hF, trivial⟩) d_2_38_97
  ·
    have b48 : q_F (lx6.toInt < t0_0.toInt) := (q_nleI c15)
    refine lv_aload_n hx hb d_2_38_17 rfl (lv_at hl 3 rfl) ?_
    refine lv_iload_n hx hb d_2_38_18 rfl (lv_at hl 4 rfl) ?_
    refine lv_iload hx hb d_2_38_19 (lv_at hl 0 rfl) ?_
    refine lv_iadd hx hb d_2_38_21 ?_
    obtain ⟨a49, e50⟩ := q_nm (x2 + lx6 : Int32)
    refine q_ti (v := a49) e50 ?_
    have b51 : q_F (a49.toInt = x2.toInt + lx6.toInt) := (by rw [← e50]; show (x2 + lx6 : Int32).toInt = x2.toInt + lx6.toInt; exact q_addI (x := x2.toInt) (y := lx6.toInt) rfl rfl (by have t1 : 0 ≤ x2.toInt := pre0; have _ := q_lo32 (x := lx6); have _ := q_hi32 (x := lx6); have t2 : x2.toInt + t0_0.toInt ≤ R.toInt := pre1; have t3 : lx6.toInt ≤ t0_0.toInt := i10; have _ := q_lo32 (x := R); have _ := q_hi32 (x := R); omega) (by have t1 : 0 ≤ x2.toInt := pre0; have _ := q_lo32 (x := lx6); have _ := q_hi32 (x := lx6); have t2 : x2.toInt + t0_0.toInt ≤ R.toInt := pre1; have t3 : lx6.toInt ≤ t0_0.toInt := i10; have _ := q_lo32 (x := R); have _ := q_hi32 (x := R); omega))
    obtain ⟨y53, y54, hO52, b55, b56⟩ := q_bigO hI hB1
    replace b55 : q_F (0 ≤ y53.toInt ∧ y53.toInt ≤ R.toInt) := b55
    replace b56 : q_F (0 ≤ y54.toInt ∧ y54.toInt ≤ 1) := b56
    refine q_goi V (q_runV (As := [.int a49]) (rest := []) (d := 1) (mc := 0) (ms := 0) (ci := 2) C0 V rfl LV_Big_49 (S_Big_limb l D g (nsh g q) q w13 k1 R hB1 a49 hI   _) rfl rfl hO52 rfl hl.1 rfl (Nat.le_of_ble_eq_true rfl) ⟨by decide, by decide⟩ ⟨Nat.le_of_ble_eq_true rfl, Nat.le_of_ble_eq_true rfl⟩ d_2_38_22) (fun a59 u57 H locs hp58 V => ?_)
    obtain ⟨_, rfl⟩ := hp58
    refine lv_aload_n hx hb d_2_38_25 rfl (lv_at hl 5 rfl) ?_
    refine q_get (ci := 2) (j := 0) (v := .ref (q (k3 + 1))) C0 V i_Big rfl rfl hO14 (by decide) w_84 rfl d_2_38_26 ?_
    refine lv_iload hx hb d_2_38_29 (lv_at hl 0 rfl) ?_
    obtain ⟨f60, hA61, bf62⟩ := q_bigA hI hB3
    refine q_iald C0 V hA61 (q_ix (x := lx6.toInt) rfl (by have t1 : 0 ≤ lx7.toInt := i8; have t2 : lx7.toInt ≤ lx6.toInt := i11; omega) (by have t1 : 0 ≤ lx7.toInt := i8; have t2 : lx7.toInt ≤ lx6.toInt := i11; have t3 : 0 ≤ t0_0.toInt ∧ t0_0.toInt ≤ R2.toInt := btt0_0; have t4 : lx6.toInt < t0_0.toInt := b48; have e9 := q_clI (i := R2) rfl (by have t1 : 0 ≤ R2.toInt ∧ R2.toInt ≤ 220 := hfk30; omega); omega)) d_2_38_31 ?_
    obtain ⟨a63, e64⟩ := q_nm (f60 lx6.toNatClampNeg : Int32)
    refine q_ti (v := a63) e64 ?_
    refine lv_iadd hx hb d_2_38_32 ?_
    obtain ⟨a65, e66⟩ := q_nm (a59 + a63 : Int32)
    refine q_ti (v := a65) e66 ?_
    refine lv_iload hx hb d_2_38_33 (lv_at hl 1 rfl) ?_
    refine lv_iadd hx hb d_2_38_35 ?_
    obtain ⟨a67, e68⟩ := q_nm (a65 + lx7 : Int32)
    refine q_ti (v := a67) e68 ?_
    refine lv_istore (lv' := [(6, .int a67), (5, .int lx6), (4, .int lx7), (3, .int t0_0), (0, .ref (q k1)), (1, .int x2), (2, .ref (q k3))]) hx hb d_2_38_36 hl (by decide) rfl (fun ls hl => ?_)
    refine lv_aload_n hx hb d_2_38_38 rfl (lv_at hl 4 rfl) ?_
    refine q_get (ci := 2) (j := 0) (v := .ref (q (k1 + 1))) C0 V i_Big rfl rfl hO52 (by decide) w_84 rfl d_2_38_39 ?_
    refine lv_iload_n hx hb d_2_38_42 rfl (lv_at hl 5 rfl) ?_
    refine lv_iload hx hb d_2_38_43 (lv_at hl 1 rfl) ?_
    refine lv_iadd hx hb d_2_38_45 ?_
    obtain ⟨a69, e70⟩ := q_nm (x2 + lx6 : Int32)
    refine q_ti (v := a69) e70 ?_
    have b71 : q_F (a69.toInt = x2.toInt + lx6.toInt) := (by rw [← e70]; show (x2 + lx6 : Int32).toInt = x2.toInt + lx6.toInt; exact q_addI (x := x2.toInt) (y := lx6.toInt) rfl rfl (by have t1 : a49.toInt = x2.toInt + lx6.toInt := b51; have _ := q_lo32 (x := a49); have _ := q_hi32 (x := a49); have t2 : x2.toInt + t0_0.toInt ≤ R.toInt := pre1; have t3 : lx6.toInt ≤ t0_0.toInt := i10; have _ := q_lo32 (x := R); have _ := q_hi32 (x := R); omega) (by have t1 : a49.toInt = x2.toInt + lx6.toInt := b51; have _ := q_lo32 (x := a49); have _ := q_hi32 (x := a49); have t2 : x2.toInt + t0_0.toInt ≤ R.toInt := pre1; have t3 : lx6.toInt ≤ t0_0.toInt := i10; have _ := q_lo32 (x := R); have _ := q_hi32 (x := R); omega))
    refine lv_iload hx hb d_2_38_46 (lv_at hl 0 rfl) ?_
    refine q_ldc C0 rfl w_809 d_2_38_48 ?_
    refine lv_iand hx hb d_2_38_50 ?_
    obtain ⟨a72, e73⟩ := q_nm (a67 &&& 2147483647 : Int32)
    refine q_ti (v := a72) e73 ?_
    have b74 : q_F (0 ≤ a72.toInt ∧ a72.toInt ≤ 2147483647) := (by rw [← e73]; show 0 ≤ (a67 &&& 2147483647 : Int32).toInt ∧ (a67 &&& 2147483647 : Int32).toInt ≤ 2147483647; exact s_and (by decide))
    obtain ⟨f75, hA76, bf77⟩ := q_bigA hI hB1
    have ne80 := q_df hA76 hO14
    refine q_iast C0 V hA76 (q_ix (x := a69.toInt) rfl (by have t1 : 0 ≤ x2.toInt := pre0; have t2 : 0 ≤ lx7.toInt := i8; have t3 : lx7.toInt ≤ lx6.toInt := i11; have t4 : a69.toInt = x2.toInt + lx6.toInt := b71; omega) (by have t1 : 0 ≤ x2.toInt := pre0; have t2 : 0 ≤ lx7.toInt := i8; have t3 : lx7.toInt ≤ lx6.toInt := i11; have t4 : a69.toInt = x2.toInt + lx6.toInt := b71; have t5 : x2.toInt + t0_0.toInt ≤ R.toInt := pre1; have t6 : lx6.toInt < t0_0.toInt := b48; have e9 := q_clI (i := R) rfl (by have t1 : 0 ≤ R.toInt ∧ R.toInt ≤ 220 := hfk10; omega); omega)) d_2_38_51 (fun H locs w78 hu79 hA76 V => ?_)
    replace hI := q_bigA' hI hB1 hu79 hA76 (q_updB bf77 s_bnd)
    replace hO14 := (hu79 _ (Ne.symm ne80)).trans hO14
    replace hO52 := (hu79 _ (by omega)).trans hO52
    replace hF := q_us hF hu79 (by simp)
    refine lv_iload hx hb d_2_38_52 (lv_at hl 0 rfl) ?_
    refine lv_bipush (v := 31) hx hb d_2_38_54 (by decide) ?_
    refine lv_iushr hx hb d_2_38_56 rfl ?_
    obtain ⟨a81, e82⟩ := q_nm ((a67.toUInt32 >>> ((31 : Int32).toUInt32 &&& Int32.toUInt32 31)).toInt32 : Int32)
    refine q_ti (v := a81) e82 ?_
    have b83 : q_F (0 ≤ a81.toInt ∧ a81.toInt ≤ 1) := (by rw [← e82]; show 0 ≤ ((a67.toUInt32 >>> ((31 : Int32).toUInt32 &&& Int32.toUInt32 31)).toInt32 : Int32).toInt ∧ ((a67.toUInt32 >>> ((31 : Int32).toUInt32 &&& Int32.toUInt32 31)).toInt32 : Int32).toInt ≤ 1; exact (by have z := s_ushr (x := a67) (c := 31) 31 (by decide) (by decide); omega))
    refine lv_istore (lv' := [(4, .int a81), (6, .int a67), (5, .int lx6), (3, .int t0_0), (0, .ref (q k1)), (1, .int x2), (2, .ref (q k3))]) hx hb d_2_38_57 hl (by decide) rfl (fun ls hl => ?_)
    obtain ⟨a84, e85⟩ := q_nm (lx6 + 1 : Int32)
    have b86 : q_F (a84.toInt = lx6.toInt + 1) := (by rw [← e85]; exact q_addI (y := 1) rfl (by decide) (by have _ := q_lo32 (x := lx6); have _ := q_hi32 (x := lx6); have t1 : lx6.toInt < t0_0.toInt := b48; have _ := q_lo32 (x := t0_0); have _ := q_hi32 (x := t0_0); omega) (by have _ := q_lo32 (x := lx6); have _ := q_hi32 (x := lx6); have t1 : lx6.toInt < t0_0.toInt := b48; have _ := q_lo32 (x := t0_0); have _ := q_hi32 (x := t0_0); omega))
    refine lv_iinc (v := a84) (lv' := [(5, .int a84), (4, .int a81), (6, .int a67), (3, .int t0_0), (0, .ref (q k1)), (1, .int x2), (2, .ref (q k3))]) hx hb d_2_38_59 hl (k := 2) rfl (e85) (by decide) rfl (fun ls hl => ?_)
    refine lv_goto (tgt := 11) hx hb d_2_38_62 (by decide) ?_
    exact ih12 ((a84 : Int32), (a81 : Int32)) _ _ _ _ (show (220 - a84.toInt).toNat < (220 - lx6.toInt).toNat from by have t1 : a84.toInt = lx6.toInt + 1 := b86; have t2 : 0 ≤ R2.toInt ∧ R2.toInt ≤ 220 := hfk30; have t3 : 0 ≤ t0_0.toInt ∧ t0_0.toInt ≤ R2.toInt := btt0_0; have t4 : lx6.toInt ≤ t0_0.toInt := i10; have t5 : lx6.toInt < t0_0.toInt := b48; omega) ⟨(show q_F (0 ≤ a81.toInt) from (show 0 ≤ a81.toInt from by have t1 : 0 ≤ a81.toInt ∧ a81.toInt ≤ 1 := b83; omega)), (show q_F (a81.toInt ≤ 1) from (show a81.toInt ≤ 1 from by have t1 : 0 ≤ a81.toInt ∧ a81.toInt ≤ 1 := b83; omega)), (show q_F (a84.toInt ≤ t0_0.toInt) from (show a84.toInt ≤ t0_0.toInt from by have t1 : lx6.toInt < t0_0.toInt := b48; have t2 : a84.toInt = lx6.toInt + 1 := b86; omega)), (show q_F (a81.toInt ≤ a84.toInt) from (show a81.toInt ≤ a84.toInt from by have t1 : 0 ≤ lx7.toInt := i8; have t2 : lx7.toInt ≤ lx6.toInt := i11; have t3 : 0 ≤ a81.toInt ∧ a81.toInt ≤ 1 := b83; have t4 : a84.toInt = lx6.toInt + 1 := b86; omega)), V, q_lw hl (q_lw1 0 rfl (q_lw1 1 rfl (q_lw1 3 rfl (q_lw1 4 rfl (q_lw1 5 rfl (q_lw1 6 rfl q_lw0)))))), hI, hF, hO14⟩
theorem d_2_36_0 : decode prog_2_method_36_code 0 = .ok (.aload_n 2, 1) := by decide +kernel
theorem d_2_36_1 : decode prog_2_method_36_code 1 = .ok (.getfield 13, 3) := by decide +kernel
theorem d_2_36_4 : decode prog_2_method_36_code 4 = .ok (.istore_n 3, 1) := by decide +kernel
theorem d_2_36_5 : decode prog_2_method_36_code 5 = .ok (.aload_n 0, 1) := by decide +kernel
theorem d_2_36_6 : decode prog_2_method_36_code 6 = .ok (.iload_n 1, 1) := by decide +kernel
theorem d_2_36_7 : decode prog_2_method_36_code 7 = .ok (.iload_n 3, 1) := by decide +kernel
theorem d_2_36_8 : decode prog_2_method_36_code 8 = .ok (.iadd, 1) := by decide +kernel
theorem d_2_36_9 : decode prog_2_method_36_code 9 = .ok (.aload_n 2, 1) := by decide +kernel
theorem d_2_36_10 : decode prog_2_method_36_code 10 = .ok (.invokevirtual 136, 3) := by decide +kernel
set_option maxRecDepth 100000 in
theorem w_1053 : (Cond.code ({ cls := "NumberHouse$Big", name := "guess", desc := "(ILNumberHouse$Big;)J" } : MethodName) prog_2_method_37_code (14 : Nat) (some .long)) ∈ q_tbl := q_of5 93 rfl (by decide +kernel)
set_option maxRecDepth 100000 in
theorem w_1050 : (Cond.methodLink "NumberHouse$Big" (136 : Nat) ({ cls := "NumberHouse$Big", name := "guess", desc := "(ILNumberHouse$Big;)J" } : MethodName)) ∈ q_tbl := q_of5 90 rfl (by decide +kernel)
set_option maxRecDepth 100000 in
theorem w_1052 : (Cond.instanceMethod ({ cls := "NumberHouse$Big", name := "guess", desc := "(ILNumberHouse$Big;)J" } : MethodName)) ∈ q_tbl := q_of5 92 rfl (by decide +kernel)
theorem ws_17 : Cond.selects "NumberHouse$Big" (⟨"NumberHouse$Big", "guess", "(ILNumberHouse$Big;)J"⟩ : MethodName) (⟨"NumberHouse$Big", "guess", "(ILNumberHouse$Big;)J"⟩ : MethodName) ∈ q_tbl := q_ofs 17 (by decide +kernel) (by decide +kernel)
theorem LV_Big_136 : q_LV "NumberHouse$Big" 136 y_Big_guess prog_2_method_37_code 14 (some .long) 2 := ⟨w_1053, w_4, w_1050, w_1052, ws_17, ⟨by decide, by decide, by decide +kernel⟩⟩
theorem d_2_36_13 : decode prog_2_method_36_code 13 = .ok (.lstore 4, 2) := by decide +kernel
theorem d_2_36_15 : decode prog_2_method_36_code 15 = .ok (.lconst 0, 1) := by decide +kernel
theorem d_2_36_16 : decode prog_2_method_36_code 16 = .ok (.lstore 6, 2) := by decide +kernel
theorem d_2_36_18 : decode prog_2_method_36_code 18 = .ok (.iconst 0, 1) := by decide +kernel
theorem d_2_36_19 : decode prog_2_method_36_code 19 = .ok (.istore 8, 2) := by decide +kernel
theorem d_2_36_21 : decode prog_2_method_36_code 21 = .ok (.iload 8, 2) := by decide +kernel
theorem d_2_36_23 : decode prog_2_method_36_code 23 = .ok (.iload_n 3, 1) := by decide +kernel
theorem d_2_36_24 : decode prog_2_method_36_code 24 = .ok (.if_icmp .ge 80, 3) := by decide +kernel
theorem d_2_36_104 : decode prog_2_method_36_code 104 = .ok (.aload_n 0, 1) := by decide +kernel
theorem d_2_36_105 : decode prog_2_method_36_code 105 = .ok (.iload_n 1, 1) := by decide +kernel
theorem d_2_36_106 : decode prog_2_method_36_code 106 = .ok (.iload_n 3, 1) := by decide +kernel
theorem d_2_36_107 : decode prog_2_method_36_code 107 = .ok (.iadd, 1) := by decide +kernel
theorem d_2_36_108 : decode prog_2_method_36_code 108 = .ok (.invokevirtual 49, 3) := by decide +kernel
theorem d_2_36_111 : decode prog_2_method_36_code 111 = .ok (.i2l, 1) := by decide +kernel
theorem d_2_36_112 : decode prog_2_method_36_code 112 = .ok (.lload 6, 2) := by decide +kernel
theorem d_2_36_114 : decode prog_2_method_36_code 114 = .ok (.lsub, 1) := by decide +kernel
theorem d_2_36_115 : decode prog_2_method_36_code 115 = .ok (.lstore 8, 2) := by decide +kernel
theorem d_2_36_117 : decode prog_2_method_36_code 117 = .ok (.iload_n 1, 1) := by decide +kernel
theorem d_2_36_118 : decode prog_2_method_36_code 118 = .ok (.iload_n 3, 1) := by decide +kernel
theorem d_2_36_119 : decode prog_2_method_36_code 119 = .ok (.iadd, 1) := by decide +kernel
theorem d_2_36_120 : decode prog_2_method_36_code 120 = .ok (.aload_n 0, 1) := by decide +kernel
theorem d_2_36_121 : decode prog_2_method_36_code 121 = .ok (.getfield 7, 3) := by decide +kernel
theorem d_2_36_124 : decode prog_2_method_36_code 124 = .ok (.arraylength, 1) := by decide +kernel
theorem d_2_36_143 : decode prog_2_method_36_code 143 = .ok (.lload 8, 2) := by decide +kernel
theorem d_2_36_145 : decode prog_2_method_36_code 145 = .ok (.lconst 0, 1) := by decide +kernel
theorem d_2_36_146 : decode prog_2_method_36_code 146 = .ok (.lcmp, 1) := by decide +kernel
theorem d_2_36_147 : decode prog_2_method_36_code 147 = .ok (.ifCond .lt 7, 3) := by decide +kernel
theorem d_2_36_154 : decode prog_2_method_36_code 154 = .ok (.aload_n 0, 1) := by decide +kernel
theorem d_2_36_155 : decode prog_2_method_36_code 155 = .ok (.iload_n 1, 1) := by decide +kernel
theorem d_2_36_156 : decode prog_2_method_36_code 156 = .ok (.aload_n 2, 1) := by decide +kernel
theorem d_2_36_157 : decode prog_2_method_36_code 157 = .ok (.invokevirtual 140, 3) := by decide +kernel
set_option maxRecDepth 100000 in
theorem w_1058 : (Cond.code ({ cls := "NumberHouse$Big", name := "giveBack", desc := "(ILNumberHouse$Big;)V" } : MethodName) prog_2_method_38_code (7 : Nat) (none : Option ClassFile.FieldType)) ∈ q_tbl := q_of5 98 rfl (by decide +kernel)
set_option maxRecDepth 100000 in
theorem w_1055 : (Cond.methodLink "NumberHouse$Big" (140 : Nat) ({ cls := "NumberHouse$Big", name := "giveBack", desc := "(ILNumberHouse$Big;)V" } : MethodName)) ∈ q_tbl := q_of5 95 rfl (by decide +kernel)
set_option maxRecDepth 100000 in
theorem w_1057 : (Cond.instanceMethod ({ cls := "NumberHouse$Big", name := "giveBack", desc := "(ILNumberHouse$Big;)V" } : MethodName)) ∈ q_tbl := q_of5 97 rfl (by decide +kernel)
theorem ws_18 : Cond.selects "NumberHouse$Big" (⟨"NumberHouse$Big", "giveBack", "(ILNumberHouse$Big;)V"⟩ : MethodName) (⟨"NumberHouse$Big", "giveBack", "(ILNumberHouse$Big;)V"⟩ : MethodName) ∈ q_tbl := q_ofs 18 (by decide +kernel) (by decide +kernel)
theorem LV_Big_140 : q_LV "NumberHouse$Big" 140 y_Big_giveBack prog_2_method_38_code 7 none 2 := ⟨w_1058, w_4, w_1055, w_1057, ws_18, ⟨by decide, by decide, by decide +kernel⟩⟩
theorem d_2_36_160 : decode prog_2_method_36_code 160 = .ok (.lload 4, 2) := by decide +kernel
theorem d_2_36_162 : decode prog_2_method_36_code 162 = .ok (.l2i, 1) := by decide +kernel
theorem d_2_36_163 : decode prog_2_method_36_code 163 = .ok (.iconst 1, 1) := by decide +kernel
theorem d_2_36_164 : decode prog_2_method_36_code 164 = .ok (.isub, 1) := by decide +kernel
theorem d_2_36_165 : decode prog_2_method_36_code 165 = .ok (.ireturn, 1) := by decide +kernel
theorem d_2_36_150 : decode prog_2_method_36_code 150 = .ok (.lload 4, 2) := by decide +kernel
theorem d_2_36_152 : decode prog_2_method_36_code 152 = .ok (.l2i, 1) := by decide +kernel
theorem d_2_36_153 : decode prog_2_method_36_code 153 = .ok (.ireturn, 1) := by decide +kernel
theorem d_2_36_125 : decode prog_2_method_36_code 125 = .ok (.if_icmp .ge 18, 3) := by decide +kernel
theorem d_2_36_128 : decode prog_2_method_36_code 128 = .ok (.aload_n 0, 1) := by decide +kernel
theorem d_2_36_129 : decode prog_2_method_36_code 129 = .ok (.getfield 7, 3) := by decide +kernel
theorem d_2_36_132 : decode prog_2_method_36_code 132 = .ok (.iload_n 1, 1) := by decide +kernel
theorem d_2_36_133 : decode prog_2_method_36_code 133 = .ok (.iload_n 3, 1) := by decide +kernel
theorem d_2_36_134 : decode prog_2_method_36_code 134 = .ok (.iadd, 1) := by decide +kernel
theorem d_2_36_135 : decode prog_2_method_36_code 135 = .ok (.lload 8, 2) := by decide +kernel
theorem d_2_36_137 : decode prog_2_method_36_code 137 = .ok (.ldc2_w 30, 3) := by decide +kernel
theorem d_2_36_140 : decode prog_2_method_36_code 140 = .ok (.land, 1) := by decide +kernel
theorem d_2_36_141 : decode prog_2_method_36_code 141 = .ok (.l2i, 1) := by decide +kernel
theorem d_2_36_142 : decode prog_2_method_36_code 142 = .ok (.iastore, 1) := by decide +kernel
theorem d_2_36_27 : decode prog_2_method_36_code 27 = .ok (.lload 6, 2) := by decide +kernel
theorem d_2_36_29 : decode prog_2_method_36_code 29 = .ok (.lload 4, 2) := by decide +kernel
theorem d_2_36_31 : decode prog_2_method_36_code 31 = .ok (.aload_n 2, 1) := by decide +kernel
theorem d_2_36_32 : decode prog_2_method_36_code 32 = .ok (.getfield 7, 3) := by decide +kernel
theorem d_2_36_35 : decode prog_2_method_36_code 35 = .ok (.iload 8, 2) := by decide +kernel
theorem d_2_36_37 : decode prog_2_method_36_code 37 = .ok (.iaload, 1) := by decide +kernel
theorem d_2_36_38 : decode prog_2_method_36_code 38 = .ok (.i2l, 1) := by decide +kernel
theorem d_2_36_39 : decode prog_2_method_36_code 39 = .ok (.lmul, 1) := by decide +kernel
theorem d_2_36_40 : decode prog_2_method_36_code 40 = .ok (.ladd, 1) := by decide +kernel
theorem d_2_36_41 : decode prog_2_method_36_code 41 = .ok (.lstore 6, 2) := by decide +kernel
theorem d_2_36_43 : decode prog_2_method_36_code 43 = .ok (.aload_n 0, 1) := by decide +kernel
theorem d_2_36_44 : decode prog_2_method_36_code 44 = .ok (.iload_n 1, 1) := by decide +kernel
theorem d_2_36_45 : decode prog_2_method_36_code 45 = .ok (.iload 8, 2) := by decide +kernel
theorem d_2_36_47 : decode prog_2_method_36_code 47 = .ok (.iadd, 1) := by decide +kernel
theorem d_2_36_48 : decode prog_2_method_36_code 48 = .ok (.invokevirtual 49, 3) := by decide +kernel
theorem d_2_36_51 : decode prog_2_method_36_code 51 = .ok (.i2l, 1) := by decide +kernel
theorem d_2_36_52 : decode prog_2_method_36_code 52 = .ok (.lload 6, 2) := by decide +kernel
theorem d_2_36_54 : decode prog_2_method_36_code 54 = .ok (.ldc2_w 30, 3) := by decide +kernel
theorem d_2_36_57 : decode prog_2_method_36_code 57 = .ok (.land, 1) := by decide +kernel
theorem d_2_36_58 : decode prog_2_method_36_code 58 = .ok (.lsub, 1) := by decide +kernel
theorem d_2_36_59 : decode prog_2_method_36_code 59 = .ok (.lstore 9, 2) := by decide +kernel
theorem d_2_36_61 : decode prog_2_method_36_code 61 = .ok (.lload 6, 2) := by decide +kernel
theorem d_2_36_63 : decode prog_2_method_36_code 63 = .ok (.bipush 31, 2) := by decide +kernel
theorem d_2_36_65 : decode prog_2_method_36_code 65 = .ok (.lushr, 1) := by decide +kernel
theorem d_2_36_66 : decode prog_2_method_36_code 66 = .ok (.lload 9, 2) := by decide +kernel
theorem d_2_36_68 : decode prog_2_method_36_code 68 = .ok (.lconst 0, 1) := by decide +kernel
theorem d_2_36_69 : decode prog_2_method_36_code 69 = .ok (.lcmp, 1) := by decide +kernel
theorem d_2_36_78 : decode prog_2_method_36_code 78 = .ok (.i2l, 1) := by decide +kernel
theorem d_2_36_79 : decode prog_2_method_36_code 79 = .ok (.ladd, 1) := by decide +kernel
theorem d_2_36_80 : decode prog_2_method_36_code 80 = .ok (.lstore 6, 2) := by decide +kernel
theorem d_2_36_82 : decode prog_2_method_36_code 82 = .ok (.aload_n 0, 1) := by decide +kernel
theorem d_2_36_83 : decode prog_2_method_36_code 83 = .ok (.getfield 7, 3) := by decide +kernel
theorem d_2_36_86 : decode prog_2_method_36_code 86 = .ok (.iload_n 1, 1) := by decide +kernel
theorem d_2_36_87 : decode prog_2_method_36_code 87 = .ok (.iload 8, 2) := by decide +kernel
theorem d_2_36_89 : decode prog_2_method_36_code 89 = .ok (.iadd, 1) := by decide +kernel
theorem d_2_36_90 : decode prog_2_method_36_code 90 = .ok (.lload 9, 2) := by decide +kernel
theorem d_2_36_92 : decode prog_2_method_36_code 92 = .ok (.ldc2_w 30, 3) := by decide +kernel
theorem d_2_36_95 : decode prog_2_method_36_code 95 = .ok (.land, 1) := by decide +kernel
theorem d_2_36_96 : decode prog_2_method_36_code 96 = .ok (.l2i, 1) := by decide +kernel
theorem d_2_36_97 : decode prog_2_method_36_code 97 = .ok (.iastore, 1) := by decide +kernel
theorem d_2_36_98 : decode prog_2_method_36_code 98 = .ok (.iinc 8 1, 3) := by decide +kernel
theorem d_2_36_101 : decode prog_2_method_36_code 101 = .ok (.goto (-80), 3) := by decide +kernel
theorem d_2_36_70 : decode prog_2_method_36_code 70 = .ok (.ifCond .ge 7, 3) := by decide +kernel
theorem d_2_36_77 : decode prog_2_method_36_code 77 = .ok (.iconst 0, 1) := by decide +kernel
theorem d_2_36_73 : decode prog_2_method_36_code 73 = .ok (.iconst 1, 1) := by decide +kernel
theorem d_2_36_74 : decode prog_2_method_36_code 74 = .ok (.goto 4, 3) := by decide +kernel
def y_Big_takeTimes : MethodName := ⟨"NumberHouse$Big", "takeTimes", "(ILNumberHouse$Big;)I"⟩
set_option maxRecDepth 100000 in
set_option maxHeartbeats 4000000 in
theorem T_Big_takeTimes (l : Launch) (D : va_G) (g : Nat → ClassId) (q : Nat → Nat) (ws : va_W) (k1 : Nat) (R : Int32) (hB1 : q_isBig (nsh g q) g q k1 R) (zk1 : (10 ≤ k1 ∧ k1 ≤ 32) ∨ 66 ≤ k1) (k3 : Nat) (R2 : Int32) (hB3 : q_isBig (nsh g q) g q k3 R2) (zk3 : (10 ≤ k3 ∧ k3 ≤ 32) ∨ 66 ≤ k3) (x2 : Int32) (hI : q_I (nsh g q) q ws) (t0_0 : Int32) (t0_1 : Int32) (hT0 : ws[k3]? = (some (q k3, .inr (2, [.ref (q (k3 + 1)), .int t0_0, .int t0_1])) : Option (Nat × va_E))) (pre0 : 0 ≤ x2.toInt) (pre1 : x2.toInt + t0_0.toInt ≤ R.toInt) : q_mI l y_Big_takeTimes prog_2_method_36_code 11 (.int) 3 0 0 D g [.ref (q k1), .int x2, .ref (q k3)] ws (fun r u => q_I (nsh g q) q u ∧ q_un ws u [k1 + 1] ∧ True) := by
  intro sz
  refine q_into (by decide) (Nat.le_of_ble_eq_true rfl) ?_
  intro p e s m below meth c ls hsz C0 V hl
  have hx := C0.1
  have hb := C0.2.1
  have hfk10 : q_F (0 ≤ R.toInt ∧ R.toInt ≤ 220) := hB1.2.2
  have hfk30 : q_F (0 ≤ R2.toInt ∧ R2.toInt ≤ 220) := hB3.2.2
  obtain ⟨yy0_0, yy0_1, hh0, btt0_0, btt0_1⟩ := q_bigO hI hB3
  obtain ⟨rfl, rfl⟩ : t0_0 = yy0_0 ∧ t0_1 = yy0_1 := by have z := Option.some.inj (hT0.symm.trans hh0); simpa using z
  replace btt0_0 : q_F (0 ≤ t0_0.toInt ∧ t0_0.toInt ≤ R2.toInt) := btt0_0
  replace btt0_1 : q_F (0 ≤ t0_1.toInt ∧ t0_1.toInt ≤ 1) := btt0_1
  replace pre0 : q_F (0 ≤ x2.toInt) := pre0
  replace pre1 : q_F (x2.toInt + t0_0.toInt ≤ R.toInt) := pre1
  have hF : q_un ws ws [k1 + 1] := q_u0
  have hl : lv_has ls 11 [(0, .ref (q k1)), (1, .int x2), (2, .ref (q k3))] := hl
  refine lv_aload_n hx hb d_2_36_0 rfl (lv_at hl 2 rfl) ?_
  refine q_get (ci := 2) (j := 1) (v := .int t0_0) C0 V i_Big rfl rfl hT0 (by decide) w_85 rfl d_2_36_1 ?_
  refine lv_istore_n (lv' := [(3, .int t0_0), (0, .ref (q k1)), (1, .int x2), (2, .ref (q k3))]) hx hb d_2_36_4 rfl hl (by decide) rfl (fun ls hl => ?_)
  refine lv_aload_n hx hb d_2_36_5 rfl (lv_at hl 1 rfl) ?_
  refine lv_iload_n hx hb d_2_36_6 rfl (lv_at hl 2 rfl) ?_
  refine lv_iload_n hx hb d_2_36_7 rfl (lv_at hl 0 rfl) ?_
  refine lv_iadd hx hb d_2_36_8 ?_
  obtain ⟨a6, e7⟩ := q_nm (x2 + t0_0 : Int32)
  refine q_ti (v := a6) e7 ?_
  have b8 : q_F (a6.toInt = x2.toInt + t0_0.toInt) := (by rw [← e7]; show (x2 + t0_0 : Int32).toInt = x2.toInt + t0_0.toInt; exact q_addI (x := x2.toInt) (y := t0_0.toInt) rfl rfl (by have t1 : 0 ≤ t0_0.toInt ∧ t0_0.toInt ≤ R2.toInt := btt0_0; have t2 : 0 ≤ x2.toInt := pre0; have t3 : x2.toInt + t0_0.toInt ≤ R.toInt := pre1; have _ := q_lo32 (x := R); have _ := q_hi32 (x := R); omega) (by have t1 : 0 ≤ t0_0.toInt ∧ t0_0.toInt ≤ R2.toInt := btt0_0; have t2 : 0 ≤ x2.toInt := pre0; have t3 : x2.toInt + t0_0.toInt ≤ R.toInt := pre1; have _ := q_lo32 (x := R); have _ := q_hi32 (x := R); omega))
  refine lv_aload_n hx hb d_2_36_9 rfl (lv_at hl 3 rfl) ?_
  obtain ⟨y10, y11, hO9, b12, b13⟩ := q_bigO hI hB1
  replace b12 : q_F (0 ≤ y10.toInt ∧ y10.toInt ≤ R.toInt) := b12
  replace b13 : q_F (0 ≤ y11.toInt ∧ y11.toInt ≤ 1) := b13
  refine q_gol V (q_runV (As := [.int a6, .ref (q k3)]) (rest := []) (d := 2) (mc := 0) (ms := 0) (ci := 2) C0 V rfl LV_Big_136 (T_Big_guess l D g q ws k1 R hB1 zk1 k3 R2 hB3 zk3 a6 hI   _) rfl rfl hO9 rfl hl.1 rfl (Nat.le_of_ble_eq_true rfl) ⟨by decide, by decide⟩ ⟨Nat.le_of_ble_eq_true rfl, Nat.le_of_ble_eq_true rfl⟩ d_2_36_10) (fun j16 u14 H locs hp15 V => ?_)
  obtain ⟨rfl, -⟩ := hp15
  refine lv_lstore (lv' := [(4, .long j16), (3, .int t0_0), (0, .ref (q k1)), (1, .int x2), (2, .ref (q k3))]) hx hb d_2_36_13 hl (by decide) rfl (fun ls hl => ?_)
  refine lv_lconst (v := 0) hx hb d_2_36_15 (by decide) ?_
  refine lv_lstore (lv' := [(6, .long 0), (4, .long j16), (3, .int t0_0), (0, .ref (q k1)), (1, .int x2), (2, .ref (q k3))]) hx hb d_2_36_16 hl (by decide) rfl (fun ls hl => ?_)
  refine lv_iconst (v := 0) hx hb d_2_36_18 (by decide) ?_
  refine lv_istore (lv' := [(8, .int 0), (6, .long 0), (4, .long j16), (3, .int t0_0), (0, .ref (q k1)), (1, .int x2), (2, .ref (q k3))]) hx hb d_2_36_19 hl (by decide) rfl (fun ls hl => ?_)
  refine q_loop (X := Int32 × Int64) (fun z H locs ls w23 => q_F (0 ≤ z.1.toInt) ∧ q_F (0 ≤ z.2.toInt) ∧ q_F (z.1.toInt ≤ t0_0.toInt) ∧ q_Wd D g (va_A ws sz) s w23 H locs ∧ lv_has ls 11 [(8, .int z.1), (6, .long z.2), (4, .long j16), (3, .int t0_0), (0, .ref (q k1)), (1, .int x2), (2, .ref (q k3))] ∧ q_I (nsh g q) q w23 ∧ q_un ws w23 [k1 + 1] ∧ w23[k3]? = (some (q k3, .inr (2, [.ref (q (k3 + 1)), .int t0_0, .int t0_1])) : Option (Nat × va_E))) (fun z => (220 - z.1.toInt).toNat) ?_ ((0 : Int32), (0 : Int64)) _ _ _ ws ⟨(show q_F (0 ≤ 0) from (show 0 ≤ 0 from by omega)), (show q_F (0 ≤ 0) from (show 0 ≤ 0 from by omega)), (show q_F (0 ≤ t0_0.toInt) from (show 0 ≤ t0_0.toInt from by have t1 : 0 ≤ t0_0.toInt ∧ t0_0.toInt ≤ R2.toInt := btt0_0; omega)), V, q_lw hl (q_lw1 0 rfl (q_lw1 1 rfl (q_lw1 2 rfl (q_lw1 3 rfl (q_lw1 4 rfl (q_lw1 5 rfl (q_lw1 6 rfl q_lw0))))))), hI, hF, hT0⟩
  rintro ⟨lx17, lx18⟩ H locs ls w23 ⟨i19, i20, i21, V, hl, hI, hF, hO24⟩ ih22
  replace i19 : q_F (0 ≤ lx17.toInt) := i19
  replace i20 : q_F (0 ≤ lx18.toInt) := i20
  replace i21 : q_F (lx17.toInt ≤ t0_0.toInt) := i21
  replace hl : lv_has ls 11 [(8, .int lx17), (6, .long lx18), (4, .long j16), (3, .int t0_0), (0, .ref (q k1)), (1, .int x2), (2, .ref (q k3))] := hl
  replace hO24 : w23[k3]? = (some (q k3, .inr (2, [.ref (q (k3 + 1)), .int t0_0, .int t0_1])) : Option (Nat × va_E)) := hO24
  refine lv_iload hx hb d_2_36_21 (lv_at hl 0 rfl) ?_
  refine lv_iload_n hx hb d_2_36_23 rfl (lv_at hl 3 rfl) ?_
  refine lv_icmp_ge (tgt := 104) hx hb d_2_36_24 (by decide) (fun c25 => ?_) (fun c25 => ?_)
  ·
    have b26 : q_F (t0_0.toInt ≤ lx17.toInt) := (q_leI c25)
    refine lv_aload_n hx hb d_2_36_104 rfl (lv_at hl 4 rfl) ?_
    refine lv_iload_n hx hb d_2_36_105 rfl (lv_at hl 5 rfl) ?_
    refine lv_iload_n hx hb d_2_36_106 rfl (lv_at hl 3 rfl) ?_
    refine lv_iadd hx hb d_2_36_107 ?_
    obtain ⟨a27, e28⟩ := q_nm (x2 + t0_0 : Int32)
    refine q_ti (v := a27) e28 ?_
    have b29 : q_F (a27.toInt = x2.toInt + t0_0.toInt) := (by rw [← e28]; show (x2 + t0_0 : Int32).toInt = x2.toInt + t0_0.toInt; exact q_addI (x := x2.toInt) (y := t0_0.toInt) rfl rfl (by have t1 : 0 ≤ t0_0.toInt ∧ t0_0.toInt ≤ R2.toInt := btt0_0; have t2 : 0 ≤ x2.toInt := pre0; have t3 : x2.toInt + t0_0.toInt ≤ R.toInt := pre1; have _ := q_lo32 (x := R); have _ := q_hi32 (x := R); omega) (by have t1 : 0 ≤ t0_0.toInt ∧ t0_0.toInt ≤ R2.toInt := btt0_0; have t2 : 0 ≤ x2.toInt := pre0; have t3 : x2.toInt + t0_0.toInt ≤ R.toInt := pre1; have _ := q_lo32 (x := R); have _ := q_hi32 (x := R); omega))
    obtain ⟨y31, y32, hO30, b33, b34⟩ := q_bigO hI hB1
    replace b33 : q_F (0 ≤ y31.toInt ∧ y31.toInt ≤ R.toInt) := b33
    replace b34 : q_F (0 ≤ y32.toInt ∧ y32.toInt ≤ 1) := b34
    refine q_goi V (q_runV (As := [.int a27]) (rest := []) (d := 1) (mc := 0) (ms := 0) (ci := 2) C0 V rfl LV_Big_49 (S_Big_limb l D g (nsh g q) q w23 k1 R hB1 a27 hI   _) rfl rfl hO30 rfl hl.1 rfl (Nat.le_of_ble_eq_true rfl) ⟨by decide, by decide⟩ ⟨Nat.le_of_ble_eq_true rfl, Nat.le_of_ble_eq_true rfl⟩ d_2_36_108) (fun a37 u35 H locs hp36 V => ?_)
    obtain ⟨_, rfl⟩ := hp36
    refine lv_i2l hx hb d_2_36_111 rfl ?_
    obtain ⟨j38, e39⟩ := q_nm (a37.toInt64 : Int64)
    refine q_tl (v := j38) e39 ?_
    have b40 : q_F (j38.toInt = a37.toInt) := (by rw [← e39]; show (a37.toInt64 : Int64).toInt = a37.toInt; exact q_i2l rfl)
    refine lv_lload hx hb d_2_36_112 (lv_at hl 1 rfl) ?_
    refine lv_lsub hx hb d_2_36_114 ?_
    obtain ⟨j41, e42⟩ := q_nm (j38 - lx18 : Int64)
    refine q_tl (v := j41) e42 ?_
    refine lv_lstore (lv' := [(8, .long j41), (6, .long lx18), (4, .long j16), (3, .int t0_0), (0, .ref (q k1)), (1, .int x2), (2, .ref (q k3))]) hx hb d_2_36_115 hl (by decide) rfl (fun ls hl => ?_)
    refine lv_iload_n hx hb d_2_36_117 rfl (lv_at hl 5 rfl) ?_
    refine lv_iload_n hx hb d_2_36_118 rfl (lv_at hl 3 rfl) ?_
    refine lv_iadd hx hb d_2_36_119 ?_
    obtain ⟨a43, e44⟩ := q_nm (x2 + t0_0 : Int32)
    refine q_ti (v := a43) e44 ?_
    have b45 : q_F (a43.toInt = x2.toInt + t0_0.toInt) := (by rw [← e44]; show (x2 + t0_0 : Int32).toInt = x2.toInt + t0_0.toInt; exact q_addI (x := x2.toInt) (y := t0_0.toInt) rfl rfl (by have t1 : 0 ≤ t0_0.toInt ∧ t0_0.toInt ≤ R2.toInt := btt0_0; have t2 : 0 ≤ x2.toInt := pre0; have t3 : x2.toInt + t0_0.toInt ≤ R.toInt := pre1; have _ := q_lo32 (x := R); have _ := q_hi32 (x := R); omega) (by have t1 : 0 ≤ t0_0.toInt ∧ t0_0.toInt ≤ R2.toInt := btt0_0; have t2 : 0 ≤ x2.toInt := pre0; have t3 : x2.toInt + t0_0.toInt ≤ R.toInt := pre1; have _ := q_lo32 (x := R); have _ := q_hi32 (x := R); omega))
    refine lv_aload_n hx hb d_2_36_120 rfl (lv_at hl 4 rfl) ?_
    refine q_get (ci := 2) (j := 0) (v := .ref (q (k1 + 1))) C0 V i_Big rfl rfl hO30 (by decide) w_84 rfl d_2_36_121 ?_
    obtain ⟨f46, hA47, bf48⟩ := q_bigA hI hB1
    refine q_alen (t := 0) (v := R) C0 V hA47 rfl (s_len (by have t1 : 0 ≤ R.toInt ∧ R.toInt ≤ 220 := hfk10; omega)) d_2_36_124 ?_
    refine q_join (X := Unit) (fun z H locs ls w51 => q_Wd D g (va_A ws sz) s w51 H locs ∧ lv_has ls 11 [(8, .long j41), (4, .long j16), (0, .ref (q k1)), (1, .int x2), (2, .ref (q k3))] ∧ q_I (nsh g q) q w51 ∧ q_un ws w51 [k1 + 1] ∧ w51[k3]? = (some (q k3, .inr (2, [.ref (q (k3 + 1)), .int t0_0, .int t0_1])) : Option (Nat × va_E))) (fun z => []) 143 0 0 ?_ ?_
    ·
      rintro _ H locs ls w51 ⟨V, hl, hI, hF, hO49⟩
      replace hl : lv_has ls 11 [(8, .long j41), (4, .long j16), (0, .ref (q k1)), (1, .int x2), (2, .ref (q k3))] := hl
      replace hO49 : w51[k3]? = (some (q k3, .inr (2, [.ref (q (k3 + 1)), .int t0_0, .int t0_1])) : Option (Nat × va_E)) := hO49
      refine lv_lload hx hb d_2_36_143 (lv_at hl 0 rfl) ?_
      refine lv_lconst (v := 0) hx hb d_2_36_145 (by decide) ?_
      refine W.lcmp hx hb d_2_36_146 ?_
      obtain ⟨a52, e53⟩ := q_nm (lg_cmp j41 0 : Int32)
      refine q_ti (v := a52) e53 ?_
      have b54 : q_F (-1 ≤ a52.toInt ∧ a52.toInt ≤ 1 ∧ ((a52.toInt = -1 ∧ j41.toInt < 0) ∨ (a52.toInt = 0 ∧ j41.toInt = 0) ∨ (a52.toInt = 1 ∧ 0 < j41.toInt))) := (by rw [← e53]; show -1 ≤ (lg_cmp j41 0 : Int32).toInt ∧ (lg_cmp j41 0 : Int32).toInt ≤ 1 ∧ (((lg_cmp j41 0 : Int32).toInt = -1 ∧ j41.toInt < 0) ∨ ((lg_cmp j41 0 : Int32).toInt = 0 ∧ j41.toInt = 0) ∨ ((lg_cmp j41 0 : Int32).toInt = 1 ∧ 0 < j41.toInt)); exact (by have y1 : (0 : Int64).toInt = 0 := rfl; have z := s_lcmp (a := j41) (b := 0); omega))
      refine lv_if_lt (tgt := 154) hx hb d_2_36_147 (by decide) (fun c55 => ?_) (fun c55 => ?_)
      ·
        have b56 : q_F (a52.toInt < 0) := (q_ltI c55)
        refine lv_aload_n hx hb d_2_36_154 rfl (lv_at hl 2 rfl) ?_
        refine lv_iload_n hx hb d_2_36_155 rfl (lv_at hl 3 rfl) ?_
        refine lv_aload_n hx hb d_2_36_156 rfl (lv_at hl 4 rfl) ?_
        obtain ⟨y58, y59, hO57, b60, b61⟩ := q_bigO hI hB1
        replace b60 : q_F (0 ≤ y58.toInt ∧ y58.toInt ≤ R.toInt) := b60
        replace b61 : q_F (0 ≤ y59.toInt ∧ y59.toInt ≤ 1) := b61
        obtain ⟨f62, hA63, bf64⟩ := q_bigA hI hB1
        have ne65 := q_df hA63 hO49
        refine q_gov V (q_runV (As := [.int x2, .ref (q k3)]) (rest := []) (d := 2) (mc := 0) (ms := 0) (ci := 2) C0 V rfl LV_Big_140 (T_Big_giveBack l D g q w51 k1 R hB1 zk1 k3 R2 hB3 zk3 x2 hI t0_0 t0_1 hO49 (by have t1 : 0 ≤ x2.toInt := pre0; omega) (by have t1 : x2.toInt + t0_0.toInt ≤ R.toInt := pre1; omega) _) rfl rfl hO57 rfl hl.1 rfl (Nat.le_of_ble_eq_true rfl) ⟨by decide, by decide⟩ ⟨Nat.le_of_ble_eq_true rfl, Nat.le_of_ble_eq_true rfl⟩ d_2_36_157) (fun u66 H locs hp67 V => ?_)
        obtain ⟨hI, hu68, -⟩ := hp67
        replace hO49 := (hu68 _ (q_nc (Ne.symm ne65) List.not_mem_nil)).trans hO49
        replace hO57 := (hu68 _ (by have z0 := zk1; simp only [List.mem_cons, List.not_mem_nil, or_false, not_or]; omega)).trans hO57
        replace hF := q_uc hF hu68 (by simp)
        refine lv_lload hx hb d_2_36_160 (lv_at hl 1 rfl) ?_
        refine lv_l2i hx hb d_2_36_162 rfl ?_
        obtain ⟨a69, e70⟩ := q_nm (j16.toInt32 : Int32)
        refine q_ti (v := a69) e70 ?_
        refine lv_iconst (v := 1) hx hb d_2_36_163 (by decide) ?_
        refine lv_isub hx hb d_2_36_164 ?_
        obtain ⟨a71, e72⟩ := q_nm (a69 - 1 : Int32)
        refine q_ti (v := a71) e72 ?_
        exact q_reti C0 V (⟨hI, hF, trivial⟩) d_2_36_165
      ·
        have b73 : q_F (0 ≤ a52.toInt) := (q_nltI c55)
        refine lv_lload hx hb d_2_36_150 (lv_at hl 1 rfl) ?_
        refine lv_l2i hx hb d_2_36_152 rfl ?_
        obtain ⟨a74, e75⟩ := q_nm (j16.toInt32 : Int32)
        refine q_ti (v := a74) e75 ?_
        exact q_reti C0 V (⟨hI, hF, trivial⟩) d_2_36_153
    ·
      intro J50
      refine lv_icmp_ge (tgt := 143) hx hb d_2_36_125 (by decide) (fun c76 => ?_) (fun c76 => ?_)
      ·
        have b77 : q_F (R.toInt ≤ a43.toInt) := (q_leI c76)
        exact J50 (()) _ _ _ _ ⟨V, q_lw hl (q_lw1 0 rfl (q_lw1 2 rfl (q_lw1 4 rfl (q_lw1 5 rfl (q_lw1 6 rfl q_lw0))))), hI, hF, hO24⟩
      ·
        have b78 : q_F (a43.toInt < R.toInt) := (q_nleI c76)
        refine lv_aload_n hx hb d_2_36_128 rfl (lv_at hl 4 rfl) ?_
        refine q_get (ci := 2) (j := 0) (v := .ref (q (k1 + 1))) C0 V i_Big rfl rfl hO30 (by decide) w_84 rfl d_2_36_129 ?_
        refine lv_iload_n hx hb d_2_36_132 rfl (lv_at hl 5 rfl) ?_
        refine lv_iload_n hx hb d_2_36_133 rfl (lv_at hl 3 rfl) ?_
        refine lv_iadd hx hb d_2_36_134 ?_
        obtain ⟨a79, e80⟩ := q_nm (x2 + t0_0 : Int32)
        refine q_ti (v := a79) e80 ?_
        have b81 : q_F (a79.toInt = x2.toInt + t0_0.toInt) := (by rw [← e80]; show (x2 + t0_0 : Int32).toInt = x2.toInt + t0_0.toInt; exact q_addI (x := x2.toInt) (y := t0_0.toInt) rfl rfl (by have t1 : 0 ≤ t0_0.toInt ∧ t0_0.toInt ≤ R2.toInt := btt0_0; have t2 : 0 ≤ x2.toInt := pre0; have t3 : x2.toInt + t0_0.toInt ≤ R.toInt := pre1; have _ := q_lo32 (x := R); have _ := q_hi32 (x := R); omega) (by have t1 : 0 ≤ t0_0.toInt ∧ t0_0.toInt ≤ R2.toInt := btt0_0; have t2 : 0 ≤ x2.toInt := pre0; have t3 : x2.toInt + t0_0.toInt ≤ R.toInt := pre1; have _ := q_lo32 (x := R); have _ := q_hi32 (x := R); omega))
        refine lv_lload hx hb d_2_36_135 (lv_at hl 0 rfl) ?_
        refine q_ldc2 C0 rfl w_201 d_2_36_137 ?_
        refine lv_land hx hb d_2_36_140 ?_
        obtain ⟨j82, e83⟩ := q_nm (j41 &&& 2147483647 : Int64)
        refine q_tl (v := j82) e83 ?_
        have b84 : q_F (0 ≤ j82.toInt ∧ j82.toInt ≤ 2147483647) := (by rw [← e83]; show 0 ≤ (j41 &&& 2147483647 : Int64).toInt ∧ (j41 &&& 2147483647 : Int64).toInt ≤ 2147483647; exact s_andJ (by decide))
        refine lv_l2i hx hb d_2_36_141 rfl ?_
        obtain ⟨a85, e86⟩ := q_nm (j82.toInt32 : Int32)
        refine q_ti (v := a85) e86 ?_
        have b87 : q_F (a85.toInt = j82.toInt) := (by rw [← e86]; show (j82.toInt32 : Int32).toInt = j82.toInt; exact s_l2i (by have t1 : 0 ≤ j82.toInt ∧ j82.toInt ≤ 2147483647 := b84; omega) (by have t1 : 0 ≤ j82.toInt ∧ j82.toInt ≤ 2147483647 := b84; omega))
        have ne90 := q_df hA47 hO24
        refine q_iast C0 V hA47 (q_ix (x := a79.toInt) rfl (by have t1 : 0 ≤ t0_0.toInt ∧ t0_0.toInt ≤ R2.toInt := btt0_0; have t2 : 0 ≤ x2.toInt := pre0; have t3 : a79.toInt = x2.toInt + t0_0.toInt := b81; omega) (by have t1 : 0 ≤ t0_0.toInt ∧ t0_0.toInt ≤ R2.toInt := btt0_0; have t2 : 0 ≤ x2.toInt := pre0; have t3 : a79.toInt = x2.toInt + t0_0.toInt := b81; have t4 : a43.toInt = x2.toInt + t0_0.toInt := b45; have t5 : a43.toInt < R.toInt := b78; have e9 := q_clI (i := R) rfl (by have t1 : 0 ≤ R.toInt ∧ R.toInt ≤ 220 := hfk10; omega); omega)) d_2_36_142 (fun H locs w88 hu89 hA47 V => ?_)
        replace hI := q_bigA' hI hB1 hu89 hA47 (q_updB bf48 s_bnd)
        replace hO24 := (hu89 _ (Ne.symm ne90)).trans hO24
        replace hO30 := (hu89 _ (by omega)).trans hO30
        replace hF := q_us hF hu89 (by simp)
        exact J50 (()) _ _ _ _ ⟨V, q_lw hl (q_lw1 0 rfl (q_lw1 2 rfl (q_lw1 4 rfl (q_lw1 5 rfl (q_lw1 6 rfl q_lw0))))), hI, hF, hO24⟩
  ·
    have b91 : q_F (lx17.toInt < t0_0.toInt) := (q_nleI c25)
    refine lv_lload hx hb d_2_36_27 (lv_at hl 1 rfl) ?_
    refine lv_lload hx hb d_2_36_29 (lv_at hl 2 rfl) ?_
    refine lv_aload_n hx hb d_2_36_31 rfl (lv_at hl 6 rfl) ?_
    refine q_get (ci := 2) (j := 0) (v := .ref (q (k3 + 1))) C0 V i_Big rfl rfl hO24 (by decide) w_84 rfl d_2_36_32 ?_
    refine lv_iload hx hb d_2_36_35 (lv_at hl 0 rfl) ?_
    obtain ⟨f92, hA93, bf94⟩ := q_bigA hI hB3
    refine q_iald C0 V hA93 (q_ix (x := lx17.toInt) rfl (by have t1 : 0 ≤ lx17.toInt := i19; omega) (by have t1 : 0 ≤ lx17.toInt := i19; have t2 : 0 ≤ t0_0.toInt ∧ t0_0.toInt ≤ R2.toInt := btt0_0; have t3 : lx17.toInt < t0_0.toInt := b91; have e9 := q_clI (i := R2) rfl (by have t1 : 0 ≤ R2.toInt ∧ R2.toInt ≤ 220 := hfk30; omega); omega)) d_2_36_37 ?_
    obtain ⟨a95, e96⟩ := q_nm (f92 lx17.toNatClampNeg : Int32)
    refine q_ti (v := a95) e96 ?_
    refine lv_i2l hx hb d_2_36_38 rfl ?_
    obtain ⟨j97, e98⟩ := q_nm (a95.toInt64 : Int64)
    refine q_tl (v := j97) e98 ?_
    have b99 : q_F (j97.toInt = a95.toInt) := (by rw [← e98]; show (a95.toInt64 : Int64).toInt = a95.toInt; exact q_i2l rfl)
    refine lv_lmul hx hb d_2_36_39 ?_
    obtain ⟨j100, e101⟩ := q_nm (j16 * j97 : Int64)
    refine q_tl (v := j100) e101 ?_
    refine lv_ladd hx hb d_2_36_40 ?_
    obtain ⟨j102, e103⟩ := q_nm (lx18 + j100 : Int64)
    refine q_tl (v := j102) e103 ?_
    refine lv_lstore (lv' := [(6, .long j102), (8, .int lx17), (4, .long j16), (3, .int t0_0), (0, .ref (q k1)), (1, .int x2), (2, .ref (q k3))]) hx hb d_2_36_41 hl (by decide) rfl (fun ls hl => ?_)
    refine lv_aload_n hx hb d_2_36_43 rfl (lv_at hl 4 rfl) ?_
    refine lv_iload_n hx hb d_2_36_44 rfl (lv_at hl 5 rfl) ?_
    refine lv_iload hx hb d_2_36_45 (lv_at hl 1 rfl) ?_
    refine lv_iadd hx hb d_2_36_47 ?_
    obtain ⟨a104, e105⟩ := q_nm (x2 + lx17 : Int32)
    refine q_ti (v := a104) e105 ?_
    have b106 : q_F (a104.toInt = x2.toInt + lx17.toInt) := (by rw [← e105]; show (x2 + lx17 : Int32).toInt = x2.toInt + lx17.toInt; exact q_addI (x := x2.toInt) (y := lx17.toInt) rfl rfl (by have t1 : 0 ≤ x2.toInt := pre0; have t2 : 0 ≤ lx17.toInt := i19; have t3 : x2.toInt + t0_0.toInt ≤ R.toInt := pre1; have t4 : lx17.toInt ≤ t0_0.toInt := i21; have _ := q_lo32 (x := R); have _ := q_hi32 (x := R); omega) (by have t1 : 0 ≤ x2.toInt := pre0; have t2 : 0 ≤ lx17.toInt := i19; have t3 : x2.toInt + t0_0.toInt ≤ R.toInt := pre1; have t4 : lx17.toInt ≤ t0_0.toInt := i21; have _ := q_lo32 (x := R); have _ := q_hi32 (x := R); omega))
    obtain ⟨y108, y109, hO107, b110, b111⟩ := q_bigO hI hB1
    replace b110 : q_F (0 ≤ y108.toInt ∧ y108.toInt ≤ R.toInt) := b110
    replace b111 : q_F (0 ≤ y109.toInt ∧ y109.toInt ≤ 1) := b111
    refine q_goi V (q_runV (As := [.int a104]) (rest := []) (d := 1) (mc := 0) (ms := 0) (ci := 2) C0 V rfl LV_Big_49 (S_Big_limb l D g (nsh g q) q w23 k1 R hB1 a104 hI   _) rfl rfl hO107 rfl hl.1 rfl (Nat.le_of_ble_eq_true rfl) ⟨by decide, by decide⟩ ⟨Nat.le_of_ble_eq_true rfl, Nat.le_of_ble_eq_true rfl⟩ d_2_36_48) (fun a114 u112 H locs hp113 V => ?_)
    obtain ⟨_, rfl⟩ := hp113
    refine lv_i2l hx hb d_2_36_51 rfl ?_
    obtain ⟨j115, e116⟩ := q_nm (a114.toInt64 : Int64)
    refine q_tl (v := j115) e116 ?_
    have b117 : q_F (j115.toInt = a114.toInt) := (by rw [← e116]; show (a114.toInt64 : Int64).toInt = a114.toInt; exact q_i2l rfl)
    refine lv_lload hx hb d_2_36_52 (lv_at hl 0 rfl) ?_
    refine q_ldc2 C0 rfl w_201 d_2_36_54 ?_
    refine lv_land hx hb d_2_36_57 ?_
    obtain ⟨j118, e119⟩ := q_nm (j102 &&& 2147483647 : Int64)
    refine q_tl (v := j118) e119 ?_
    have b120 : q_F (0 ≤ j118.toInt ∧ j118.toInt ≤ 2147483647) := (by rw [← e119]; show 0 ≤ (j102 &&& 2147483647 : Int64).toInt ∧ (j102 &&& 2147483647 : Int64).toInt ≤ 2147483647; exact s_andJ (by decide))
    refine lv_lsub hx hb d_2_36_58 ?_
    obtain ⟨j121, e122⟩ := q_nm (j115 - j118 : Int64)
    refine q_tl (v := j121) e122 ?_
    have b123 : q_F (j121.toInt = j115.toInt - j118.toInt) := (by rw [← e122]; show (j115 - j118 : Int64).toInt = j115.toInt - j118.toInt; exact q_subL (x := j115.toInt) (y := j118.toInt) rfl rfl (by have t1 : j115.toInt = a114.toInt := b117; have t2 : 0 ≤ j118.toInt ∧ j118.toInt ≤ 2147483647 := b120; have _ := q_lo32 (x := a114); have _ := q_hi32 (x := a114); omega) (by have t1 : j115.toInt = a114.toInt := b117; have t2 : 0 ≤ j118.toInt ∧ j118.toInt ≤ 2147483647 := b120; have _ := q_lo32 (x := a114); have _ := q_hi32 (x := a114); omega))
    refine lv_lstore (lv' := [(9, .long j121), (6, .long j102), (8, .int lx17), (4, .long j16), (3, .int t0_0), (0, .ref (q k1)), (1, .int x2), (2, .ref (q k3))]) hx hb d_2_36_59 hl (by decide) rfl (fun ls hl => ?_)
    refine lv_lload hx hb d_2_36_61 (lv_at hl 1 rfl) ?_
    refine lv_bipush (v := 31) hx hb d_2_36_63 (by decide) ?_
    refine lv_lushr hx hb d_2_36_65 rfl ?_
    obtain ⟨j124, e125⟩ := q_nm ((j102.toUInt64 >>> ((31 : Int32).toInt64.toUInt64 &&& Int64.toUInt64 63)).toInt64 : Int64)
    refine q_tl (v := j124) e125 ?_
    have b126 : q_F (0 ≤ j124.toInt ∧ j124.toInt ≤ 8589934591) := (by rw [← e125]; show 0 ≤ ((j102.toUInt64 >>> ((31 : Int32).toInt64.toUInt64 &&& Int64.toUInt64 63)).toInt64 : Int64).toInt ∧ ((j102.toUInt64 >>> ((31 : Int32).toInt64.toUInt64 &&& Int64.toUInt64 63)).toInt64 : Int64).toInt ≤ 8589934591; exact (by have z := s_ushrJ (x := j102) (c := 31) 31 (by decide) (by decide); omega))
    refine lv_lload hx hb d_2_36_66 (lv_at hl 0 rfl) ?_
    refine lv_lconst (v := 0) hx hb d_2_36_68 (by decide) ?_
    refine W.lcmp hx hb d_2_36_69 ?_
    obtain ⟨a127, e128⟩ := q_nm (lg_cmp j121 0 : Int32)
    refine q_ti (v := a127) e128 ?_
    have b129 : q_F (-1 ≤ a127.toInt ∧ a127.toInt ≤ 1 ∧ ((a127.toInt = -1 ∧ j121.toInt < 0) ∨ (a127.toInt = 0 ∧ j121.toInt = 0) ∨ (a127.toInt = 1 ∧ 0 < j121.toInt))) := (by rw [← e128]; show -1 ≤ (lg_cmp j121 0 : Int32).toInt ∧ (lg_cmp j121 0 : Int32).toInt ≤ 1 ∧ (((lg_cmp j121 0 : Int32).toInt = -1 ∧ j121.toInt < 0) ∨ ((lg_cmp j121 0 : Int32).toInt = 0 ∧ j121.toInt = 0) ∨ ((lg_cmp j121 0 : Int32).toInt = 1 ∧ 0 < j121.toInt)); exact (by have y1 : (0 : Int64).toInt = 0 := rfl; have z := s_lcmp (a := j121) (b := 0); omega))
    refine q_join (X := Int32) (fun z H locs ls _ => q_F (0 ≤ z.toInt) ∧ q_F (z.toInt ≤ 1) ∧ q_Wd D g (va_A ws sz) s w23 H locs ∧ lv_has ls 11 [(9, .long j121), (8, .int lx17), (4, .long j16), (3, .int t0_0), (0, .ref (q k1)), (1, .int x2), (2, .ref (q k3))]) (fun z => [.int z, .long j124]) 78 0 0 ?_ ?_
    ·
      rintro lx130 H locs ls _ ⟨i133, i134, V, hl⟩
      replace i133 : q_F (0 ≤ lx130.toInt) := i133
      replace i134 : q_F (lx130.toInt ≤ 1) := i134
      replace hl : lv_has ls 11 [(9, .long j121), (8, .int lx17), (4, .long j16), (3, .int t0_0), (0, .ref (q k1)), (1, .int x2), (2, .ref (q k3))] := hl
      refine lv_i2l hx hb d_2_36_78 rfl ?_
      obtain ⟨j135, e136⟩ := q_nm (lx130.toInt64 : Int64)
      refine q_tl (v := j135) e136 ?_
      have b137 : q_F (j135.toInt = lx130.toInt) := (by rw [← e136]; show (lx130.toInt64 : Int64).toInt = lx130.toInt; exact q_i2l rfl)
      refine lv_ladd hx hb d_2_36_79 ?_
      obtain ⟨j138, e139⟩ := q_nm (j124 + j135 : Int64)
      refine q_tl (v := j138) e139 ?_
      have b140 : q_F (j138.toInt = j124.toInt + j135.toInt) := (by rw [← e139]; show (j124 + j135 : Int64).toInt = j124.toInt + j135.toInt; exact q_addL (x := j124.toInt) (y := j135.toInt) rfl rfl (by have t1 : 0 ≤ j124.toInt ∧ j124.toInt ≤ 8589934591 := b126; have _ := Int64.le_toInt j135; have _ := Int64.toInt_lt j135; have t2 : j135.toInt = lx130.toInt := b137; have _ := q_lo32 (x := lx130); have _ := q_hi32 (x := lx130); omega) (by have t1 : 0 ≤ j124.toInt ∧ j124.toInt ≤ 8589934591 := b126; have _ := Int64.le_toInt j135; have _ := Int64.toInt_lt j135; have t2 : j135.toInt = lx130.toInt := b137; have _ := q_lo32 (x := lx130); have _ := q_hi32 (x := lx130); omega))
      refine lv_lstore (lv' := [(6, .long j138), (9, .long j121), (8, .int lx17), (4, .long j16), (3, .int t0_0), (0, .ref (q k1)), (1, .int x2), (2, .ref (q k3))]) hx hb d_2_36_80 hl (by decide) rfl (fun ls hl => ?_)
      refine lv_aload_n hx hb d_2_36_82 rfl (lv_at hl 5 rfl) ?_
      refine q_get (ci := 2) (j := 0) (v := .ref (q (k1 + 1))) C0 V i_Big rfl rfl hO107 (by decide) w_84 rfl d_2_36_83 ?_
      refine lv_iload_n hx hb d_2_36_86 rfl (lv_at hl 6 rfl) ?_
      refine lv_iload hx hb d_2_36_87 (lv_at hl 2 rfl) ?_
      refine lv_iadd hx hb d_2_36_89 ?_
      obtain ⟨a141, e142⟩ := q_nm (x2 + lx17 : Int32)
      refine q_ti (v := a141) e142 ?_
      have b143 : q_F (a141.toInt = x2.toInt + lx17.toInt) := (by rw [← e142]; show (x2 + lx17 : Int32).toInt = x2.toInt + lx17.toInt; exact q_addI (x := x2.toInt) (y := lx17.toInt) rfl rfl (by have t1 : 0 ≤ x2.toInt := pre0; have t2 : 0 ≤ lx17.toInt := i19; have t3 : x2.toInt + t0_0.toInt ≤ R.toInt := pre1; have t4 : lx17.toInt ≤ t0_0.toInt := i21; have _ := q_lo32 (x := R); have _ := q_hi32 (x := R); omega) (by have t1 : 0 ≤ x2.toInt := pre0; have t2 : 0 ≤ lx17.toInt := i19; have t3 : x2.toInt + t0_0.toInt ≤ R.toInt := pre1; have t4 : lx17.toInt ≤ t0_0.toInt := i21; have _ := q_lo32 (x := R); have _ := q_hi32 (x := R); omega))
      refine lv_lload hx hb d_2_36_90 (lv_at hl 1 rfl) ?_
      refine q_ldc2 C0 rfl w_201 d_2_36_92 ?_
      refine lv_land hx hb d_2_36_95 ?_
      obtain ⟨j144, e145⟩ := q_nm (j121 &&& 2147483647 : Int64)
      refine q_tl (v := j144) e145 ?_
      have b146 : q_F (0 ≤ j144.toInt ∧ j144.toInt ≤ 2147483647) := (by rw [← e145]; show 0 ≤ (j121 &&& 2147483647 : Int64).toInt ∧ (j121 &&& 2147483647 : Int64).toInt ≤ 2147483647; exact s_andJ (by decide))
      refine lv_l2i hx hb d_2_36_96 rfl ?_
      obtain ⟨a147, e148⟩ := q_nm (j144.toInt32 : Int32)
      refine q_ti (v := a147) e148 ?_
      have b149 : q_F (a147.toInt = j144.toInt) := (by rw [← e148]; show (j144.toInt32 : Int32).toInt = j144.toInt; exact s_l2i (by have t1 : 0 ≤ j144.toInt ∧ j144.toInt ≤ 2147483647 := b146; omega) (by have t1 : 0 ≤ j144.toInt ∧ j144.toInt ≤ 2147483647 := b146; omega))
      obtain ⟨f150, hA151, bf152⟩ := q_bigA hI hB1
      have ne155 := q_df hA151 hO24
      refine q_iast C0 V hA151 (q_ix (x := a141.toInt) rfl (by have t1 : 0 ≤ x2.toInt := pre0; have t2 : 0 ≤ lx17.toInt := i19; have t3 : a141.toInt = x2.toInt + lx17.toInt := b143; omega) (by have t1 : 0 ≤ x2.toInt := pre0; have t2 : 0 ≤ lx17.toInt := i19; have t3 : a141.toInt = x2.toInt + lx17.toInt := b143; have t4 : x2.toInt + t0_0.toInt ≤ R.toInt := pre1; have t5 : lx17.toInt < t0_0.toInt := b91; have e9 := q_clI (i := R) rfl (by have t1 : 0 ≤ R.toInt ∧ R.toInt ≤ 220 := hfk10; omega); omega)) d_2_36_97 (fun H locs w153 hu154 hA151 V => ?_)
      replace hI := q_bigA' hI hB1 hu154 hA151 (q_updB bf152 s_bnd)
      replace hO24 := (hu154 _ (Ne.symm ne155)).trans hO24
      replace hO107 := (hu154 _ (by omega)).trans hO107
      replace hF := q_us hF hu154 (by simp)
      obtain ⟨a156, e157⟩ := q_nm (lx17 + 1 : Int32)
      have b158 : q_F (a156.toInt = lx17.toInt + 1) := (by rw [← e157]; exact q_addI (y := 1) rfl (by decide) (by have t1 : 0 ≤ lx17.toInt := i19; have t2 : lx17.toInt < t0_0.toInt := b91; have _ := q_lo32 (x := t0_0); have _ := q_hi32 (x := t0_0); omega) (by have t1 : 0 ≤ lx17.toInt := i19; have t2 : lx17.toInt < t0_0.toInt := b91; have _ := q_lo32 (x := t0_0); have _ := q_hi32 (x := t0_0); omega))
      refine lv_iinc (v := a156) (lv' := [(8, .int a156), (6, .long j138), (9, .long j121), (4, .long j16), (3, .int t0_0), (0, .ref (q k1)), (1, .int x2), (2, .ref (q k3))]) hx hb d_2_36_98 hl (k := 2) rfl (e157) (by decide) rfl (fun ls hl => ?_)
      refine lv_goto (tgt := 21) hx hb d_2_36_101 (by decide) ?_
      exact ih22 ((a156 : Int32), (j138 : Int64)) _ _ _ _ (show (220 - a156.toInt).toNat < (220 - lx17.toInt).toNat from by have t1 : a156.toInt = lx17.toInt + 1 := b158; have t2 : 0 ≤ R2.toInt ∧ R2.toInt ≤ 220 := hfk30; have t3 : 0 ≤ t0_0.toInt ∧ t0_0.toInt ≤ R2.toInt := btt0_0; have t4 : lx17.toInt ≤ t0_0.toInt := i21; have t5 : lx17.toInt < t0_0.toInt := b91; omega) ⟨(show q_F (0 ≤ a156.toInt) from (show 0 ≤ a156.toInt from by have t1 : 0 ≤ lx17.toInt := i19; have t2 : a156.toInt = lx17.toInt + 1 := b158; omega)), (show q_F (0 ≤ j138.toInt) from (show 0 ≤ j138.toInt from by have t1 : 0 ≤ j124.toInt ∧ j124.toInt ≤ 8589934591 := b126; have t2 : 0 ≤ lx130.toInt := i133; have t3 : j135.toInt = lx130.toInt := b137; have t4 : j138.toInt = j124.toInt + j135.toInt := b140; omega)), (show q_F (a156.toInt ≤ t0_0.toInt) from (show a156.toInt ≤ t0_0.toInt from by have t1 : lx17.toInt < t0_0.toInt := b91; have t2 : a156.toInt = lx17.toInt + 1 := b158; omega)), V, q_lw hl (q_lw1 0 rfl (q_lw1 1 rfl (q_lw1 3 rfl (q_lw1 4 rfl (q_lw1 5 rfl (q_lw1 6 rfl (q_lw1 7 rfl q_lw0))))))), hI, hF, hO24⟩
    ·
      intro J132
      refine lv_if_ge (tgt := 77) hx hb d_2_36_70 (by decide) (fun c159 => ?_) (fun c159 => ?_)
      ·
        have b160 : q_F (0 ≤ a127.toInt) := (q_leI c159)
        refine lv_iconst (v := 0) hx hb d_2_36_77 (by decide) ?_
        exact J132 ((0 : Int32)) _ _ _ w23 ⟨(show q_F (0 ≤ 0) from (show 0 ≤ 0 from by omega)), (show q_F (0 ≤ 1) from (show 0 ≤ 1 from by omega)), V, q_lw hl (q_lw1 0 rfl (q_lw1 2 rfl (q_lw1 3 rfl (q_lw1 4 rfl (q_lw1 5 rfl (q_lw1 6 rfl (q_lw1 7 rfl q_lw0)))))))⟩
      ·
        have b161 : q_F (a127.toInt < 0) := (q_nleI c159)
        refine lv_iconst (v := 1) hx hb d_2_36_73 (by decide) ?_
        refine lv_goto (tgt := 78) hx hb d_2_36_74 (by decide) ?_
        exact J132 ((1 : Int32)) _ _ _ w23 ⟨(show q_F (0 ≤ 1) from (show 0 ≤ 1 from by omega)), (show q_F (1 ≤ 1) from (show 1 ≤ 1 from by omega)), V, q_lw hl (q_lw1 0 rfl (q_lw1 2 rfl (q_lw1 3 rfl (q_lw1 4 rfl (q_lw1 5 rfl (q_lw1 6 rfl (q_lw1 7 rfl q_lw0)))))))⟩
theorem d_2_35_0 : decode prog_2_method_35_code 0 = .ok (.aload_n 0, 1) := by decide +kernel
theorem d_2_35_1 : decode prog_2_method_35_code 1 = .ok (.getfield 17, 3) := by decide +kernel
theorem d_2_35_4 : decode prog_2_method_35_code 4 = .ok (.istore_n 3, 1) := by decide +kernel
theorem d_2_35_5 : decode prog_2_method_35_code 5 = .ok (.aload_n 2, 1) := by decide +kernel
theorem d_2_35_6 : decode prog_2_method_35_code 6 = .ok (.aload_n 0, 1) := by decide +kernel
theorem d_2_35_7 : decode prog_2_method_35_code 7 = .ok (.invokevirtual 129, 3) := by decide +kernel
set_option maxRecDepth 100000 in
theorem w_790 : (Cond.code ({ cls := "NumberHouse$Big", name := "copy", desc := "(LNumberHouse$Big;)V" } : MethodName) prog_2_method_4_code (2 : Nat) (none : Option ClassFile.FieldType)) ∈ q_tbl := q_of4 70 rfl (by decide +kernel)
set_option maxRecDepth 100000 in
theorem w_1038 : (Cond.methodLink "NumberHouse$Big" (129 : Nat) ({ cls := "NumberHouse$Big", name := "copy", desc := "(LNumberHouse$Big;)V" } : MethodName)) ∈ q_tbl := q_of5 78 rfl (by decide +kernel)
set_option maxRecDepth 100000 in
theorem w_788 : (Cond.instanceMethod ({ cls := "NumberHouse$Big", name := "copy", desc := "(LNumberHouse$Big;)V" } : MethodName)) ∈ q_tbl := q_of4 68 rfl (by decide +kernel)
set_option maxRecDepth 100000 in
theorem w_789 : (Cond.selects "NumberHouse$Big" ({ cls := "NumberHouse$Big", name := "copy", desc := "(LNumberHouse$Big;)V" } : MethodName) ({ cls := "NumberHouse$Big", name := "copy", desc := "(LNumberHouse$Big;)V" } : MethodName)) ∈ q_tbl := q_of4 69 rfl (by decide +kernel)
theorem LV_Big_129 : q_LV "NumberHouse$Big" 129 y_Big_copy prog_2_method_4_code 2 none 1 := ⟨w_790, w_4, w_1038, w_788, w_789, ⟨by decide, by decide, by decide +kernel⟩⟩
theorem d_2_35_10 : decode prog_2_method_35_code 10 = .ok (.aload_n 2, 1) := by decide +kernel
theorem d_2_35_11 : decode prog_2_method_35_code 11 = .ok (.iconst 0, 1) := by decide +kernel
theorem d_2_35_12 : decode prog_2_method_35_code 12 = .ok (.putfield 17, 3) := by decide +kernel
theorem d_2_35_15 : decode prog_2_method_35_code 15 = .ok (.aload_n 2, 1) := by decide +kernel
theorem d_2_35_16 : decode prog_2_method_35_code 16 = .ok (.iload_n 1, 1) := by decide +kernel
theorem d_2_35_17 : decode prog_2_method_35_code 17 = .ok (.invokevirtual 105, 3) := by decide +kernel
theorem d_2_35_20 : decode prog_2_method_35_code 20 = .ok (.istore 4, 2) := by decide +kernel
theorem d_2_35_22 : decode prog_2_method_35_code 22 = .ok (.aload_n 0, 1) := by decide +kernel
theorem d_2_35_23 : decode prog_2_method_35_code 23 = .ok (.iload 4, 2) := by decide +kernel
theorem d_2_35_25 : decode prog_2_method_35_code 25 = .ok (.i2l, 1) := by decide +kernel
theorem d_2_35_26 : decode prog_2_method_35_code 26 = .ok (.invokevirtual 132, 3) := by decide +kernel
set_option maxRecDepth 100000 in
theorem w_1044 : (Cond.methodLink "NumberHouse$Big" (132 : Nat) ({ cls := "NumberHouse$Big", name := "setLong", desc := "(J)V" } : MethodName)) ∈ q_tbl := q_of5 84 rfl (by decide +kernel)
theorem LV_Big_132 : q_LV "NumberHouse$Big" 132 y_Big_setLong prog_2_method_3_code 6 none 1 := ⟨w_193, w_4, w_1044, w_191, w_192, ⟨by decide, by decide, by decide +kernel⟩⟩
theorem d_2_35_29 : decode prog_2_method_35_code 29 = .ok (.aload_n 0, 1) := by decide +kernel
theorem d_2_35_30 : decode prog_2_method_35_code 30 = .ok (.iload_n 3, 1) := by decide +kernel
theorem d_2_35_31 : decode prog_2_method_35_code 31 = .ok (.ifCond .eq 12, 3) := by decide +kernel
theorem d_2_35_43 : decode prog_2_method_35_code 43 = .ok (.iconst 0, 1) := by decide +kernel
theorem d_2_35_44 : decode prog_2_method_35_code 44 = .ok (.putfield 17, 3) := by decide +kernel
theorem d_2_35_47 : decode prog_2_method_35_code 47 = .ok (.return_, 1) := by decide +kernel
theorem d_2_35_34 : decode prog_2_method_35_code 34 = .ok (.iload 4, 2) := by decide +kernel
theorem d_2_35_36 : decode prog_2_method_35_code 36 = .ok (.ifCond .eq 7, 3) := by decide +kernel
theorem d_2_35_39 : decode prog_2_method_35_code 39 = .ok (.iconst 1, 1) := by decide +kernel
theorem d_2_35_40 : decode prog_2_method_35_code 40 = .ok (.goto 4, 3) := by decide +kernel
def y_Big_divideByLimb : MethodName := ⟨"NumberHouse$Big", "divideByLimb", "(ILNumberHouse$Big;)V"⟩
set_option maxRecDepth 100000 in
set_option maxHeartbeats 4000000 in
theorem T_Big_divideByLimb (l : Launch) (D : va_G) (g : Nat → ClassId) (q : Nat → Nat) (ws : va_W) (k1 : Nat) (R : Int32) (hB1 : q_isBig (nsh g q) g q k1 R) (zk1 : (10 ≤ k1 ∧ k1 ≤ 32) ∨ 66 ≤ k1) (k3 : Nat) (R2 : Int32) (hB3 : q_isBig (nsh g q) g q k3 R2) (zk3 : (10 ≤ k3 ∧ k3 ≤ 32) ∨ 66 ≤ k3) (x2 : Int32) (hI : q_I (nsh g q) q ws) : q_mV l y_Big_divideByLimb prog_2_method_35_code 5 3 0 0 D g [.ref (q k1), .int x2, .ref (q k3)] ws (fun u => q_I (nsh g q) q u ∧ q_un ws u [k1, k1 + 1, k3, k3 + 1] ∧ True) := by
  intro sz
  refine q_into (by decide) (Nat.le_of_ble_eq_true rfl) ?_
  intro p e s m below meth c ls hsz C0 V hl
  have hx := C0.1
  have hb := C0.2.1
  have hfk10 : q_F (0 ≤ R.toInt ∧ R.toInt ≤ 220) := hB1.2.2
  have hfk30 : q_F (0 ≤ R2.toInt ∧ R2.toInt ≤ 220) := hB3.2.2
  have hF : q_un ws ws [k1, k1 + 1, k3, k3 + 1] := q_u0
  have hl : lv_has ls 5 [(0, .ref (q k1)), (1, .int x2), (2, .ref (q k3))] := hl
  refine lv_aload_n hx hb d_2_35_0 rfl (lv_at hl 0 rfl) ?_
  obtain ⟨y2, y3, hO1, b4, b5⟩ := q_bigO hI hB1
  replace b4 : q_F (0 ≤ y2.toInt ∧ y2.toInt ≤ R.toInt) := b4
  replace b5 : q_F (0 ≤ y3.toInt ∧ y3.toInt ≤ 1) := b5
  refine q_get (ci := 2) (j := 2) (v := .int y3) C0 V i_Big rfl rfl hO1 (by decide) w_94 rfl d_2_35_1 ?_
  refine lv_istore_n (lv' := [(3, .int y3), (0, .ref (q k1)), (1, .int x2), (2, .ref (q k3))]) hx hb d_2_35_4 rfl hl (by decide) rfl (fun ls hl => ?_)
  refine lv_aload_n hx hb d_2_35_5 rfl (lv_at hl 3 rfl) ?_
  refine lv_aload_n hx hb d_2_35_6 rfl (lv_at hl 1 rfl) ?_
  obtain ⟨y7, y8, hO6, b9, b10⟩ := q_bigO hI hB3
  replace b9 : q_F (0 ≤ y7.toInt ∧ y7.toInt ≤ R2.toInt) := b9
  replace b10 : q_F (0 ≤ y8.toInt ∧ y8.toInt ≤ 1) := b10
  obtain ⟨f11, hA12, bf13⟩ := q_bigA hI hB3
  have ne14 := q_df hA12 hO1
  refine q_gov V (q_runV (As := [.ref (q k1)]) (rest := []) (d := 2) (mc := 0) (ms := 0) (ci := 2) C0 V rfl LV_Big_129 (S_Big_copy l D g (nsh g q) q ws k3 R2 hB3 k1 R hB1  hI   _) rfl rfl hO6 rfl hl.1 rfl (Nat.le_of_ble_eq_true rfl) ⟨by decide, by decide⟩ ⟨Nat.le_of_ble_eq_true rfl, Nat.le_of_ble_eq_true rfl⟩ d_2_35_7) (fun u15 H locs hp16 V => ?_)
  obtain ⟨_, hI, hu17⟩ := hp16
  replace hF := q_uc hF hu17 (by simp)
  refine lv_aload_n hx hb d_2_35_10 rfl (lv_at hl 3 rfl) ?_
  refine lv_iconst (v := 0) hx hb d_2_35_11 (by decide) ?_
  obtain ⟨y19, y20, hO18, b21, b22⟩ := q_bigO hI hB3
  replace b21 : q_F (0 ≤ y19.toInt ∧ y19.toInt ≤ R2.toInt) := b21
  replace b22 : q_F (0 ≤ y20.toInt ∧ y20.toInt ≤ 1) := b22
  refine q_put (ci := 2) (j := 2) (v := .int 0) (ty := .boolean) C0 V i_Big o_Big n_Big rfl rfl hO18 (by decide) w_94 rfl rfl rfl rfl (Nat.le_of_ble_eq_true rfl) d_2_35_12 (fun H locs w23 hu24 hO18 V => ?_)
  replace hO18 : w23[k3]? = (some (q k3, .inr (2, [.ref (q (k3 + 1)), .int y19, .int 0])) : Option (Nat × va_E)) := hO18
  replace hI := q_bigO' hI hB3 hu24 hO18 ⟨(by have t1 : 0 ≤ y19.toInt ∧ y19.toInt ≤ R2.toInt := b21; omega), (by have t1 : 0 ≤ y19.toInt ∧ y19.toInt ≤ R2.toInt := b21; omega)⟩ ⟨(by have z9 : (0 : Int32).toInt = 0 := rfl; omega), (by have z9 : (0 : Int32).toInt = 0 := rfl; omega)⟩
  replace hF := q_us hF hu24 (by simp)
  refine lv_aload_n hx hb d_2_35_15 rfl (lv_at hl 3 rfl) ?_
  refine lv_iload_n hx hb d_2_35_16 rfl (lv_at hl 2 rfl) ?_
  refine q_goi V (q_runV (As := [.int x2]) (rest := []) (d := 2) (mc := 0) (ms := 0) (ci := 2) C0 V rfl LV_Big_105 (S_Big_divideSmall l D g (nsh g q) q w23 k3 R2 hB3 x2 hI   _) rfl rfl hO18 rfl hl.1 rfl (Nat.le_of_ble_eq_true rfl) ⟨by decide, by decide⟩ ⟨Nat.le_of_ble_eq_true rfl, Nat.le_of_ble_eq_true rfl⟩ d_2_35_17) (fun a27 u25 H locs hp26 V => ?_)
  obtain ⟨_, hI, hu28⟩ := hp26
  replace hF := q_uc hF hu28 (by simp)
  refine lv_istore (lv' := [(4, .int a27), (3, .int y3), (0, .ref (q k1)), (1, .int x2), (2, .ref (q k3))]) hx hb d_2_35_20 hl (by decide) rfl (fun ls hl => ?_)
  refine lv_aload_n hx hb d_2_35_22 rfl (lv_at hl 2 rfl) ?_
  refine lv_iload hx hb d_2_35_23 (lv_at hl 0 rfl) ?_
  refine lv_i2l hx hb d_2_35_25 rfl ?_
  obtain ⟨j29, e30⟩ := q_nm (a27.toInt64 : Int64)
  refine q_tl (v := j29) e30 ?_
  have b31 : q_F (j29.toInt = a27.toInt) := (by rw [← e30]; show (a27.toInt64 : Int64).toInt = a27.toInt; exact q_i2l rfl)
  obtain ⟨y33, y34, hO32, b35, b36⟩ := q_bigO hI hB1
  replace b35 : q_F (0 ≤ y33.toInt ∧ y33.toInt ≤ R.toInt) := b35
  replace b36 : q_F (0 ≤ y34.toInt ∧ y34.toInt ≤ 1) := b36
  refine q_gov V (q_runV (As := [.long j29]) (rest := []) (d := 2) (mc := 0) (ms := 0) (ci := 2) C0 V rfl LV_Big_132 (S_Big_setLong l D g (nsh g q) q u25 k1 R hB1 j29 hI   _) rfl rfl hO32 rfl hl.1 rfl (Nat.le_of_ble_eq_true rfl) ⟨by decide, by decide⟩ ⟨Nat.le_of_ble_eq_true rfl, Nat.le_of_ble_eq_true rfl⟩ d_2_35_26) (fun u37 H locs hp38 V => ?_)
  obtain ⟨_, hI, hu39⟩ := hp38
  replace hF := q_uc hF hu39 (by simp)
  refine lv_aload_n hx hb d_2_35_29 rfl (lv_at hl 2 rfl) ?_
  refine lv_iload_n hx hb d_2_35_30 rfl (lv_at hl 1 rfl) ?_
  refine lv_if_eq (tgt := 43) hx hb d_2_35_31 (by decide) (fun c40 => ?_) (fun c40 => ?_)
  ·
    have b41 : q_F (y3.toInt = 0) := (q_eqI c40)
    refine lv_iconst (v := 0) hx hb d_2_35_43 (by decide) ?_
    obtain ⟨y43, y44, hO42, b45, b46⟩ := q_bigO hI hB1
    replace b45 : q_F (0 ≤ y43.toInt ∧ y43.toInt ≤ R.toInt) := b45
    replace b46 : q_F (0 ≤ y44.toInt ∧ y44.toInt ≤ 1) := b46
    refine q_put (ci := 2) (j := 2) (v := .int 0) (ty := .boolean) C0 V i_Big o_Big n_Big rfl rfl hO42 (by decide) w_94 rfl rfl rfl rfl (Nat.le_of_ble_eq_true rfl) d_2_35_44 (fun H locs w47 hu48 hO42 V => ?_)
    replace hO42 : w47[k1]? = (some (q k1, .inr (2, [.ref (q (k1 + 1)), .int y43, .int 0])) : Option (Nat × va_E)) := hO42
    replace hI := q_bigO' hI hB1 hu48 hO42 ⟨(by have t1 : 0 ≤ y43.toInt ∧ y43.toInt ≤ R.toInt := b45; omega), (by have t1 : 0 ≤ y43.toInt ∧ y43.toInt ≤ R.toInt := b45; omega)⟩ ⟨(by have z9 : (0 : Int32).toInt = 0 := rfl; omega), (by have z9 : (0 : Int32).toInt = 0 := rfl; omega)⟩
    replace hF := q_us hF hu48 (by simp)
    exact q_retv C0 V (⟨hI, hF, trivial⟩) d_2_35_47
  ·
    have b49 : q_F (y3.toInt ≠ 0) := (q_neI c40)
    refine lv_iload hx hb d_2_35_34 (lv_at hl 0 rfl) ?_
    refine lv_if_eq (tgt := 43) hx hb d_2_35_36 (by decide) (fun c50 => ?_) (fun c50 => ?_)
    ·
      have b51 : q_F (a27.toInt = 0) := (q_eqI c50)
      refine lv_iconst (v := 0) hx hb d_2_35_43 (by decide) ?_
      obtain ⟨y53, y54, hO52, b55, b56⟩ := q_bigO hI hB1
      replace b55 : q_F (0 ≤ y53.toInt ∧ y53.toInt ≤ R.toInt) := b55
      replace b56 : q_F (0 ≤ y54.toInt ∧ y54.toInt ≤ 1) := b56
      refine q_put (ci := 2) (j := 2) (v := .int 0) (ty := .boolean) C0 V i_Big o_Big n_Big rfl rfl hO52 (by decide) w_94 rfl rfl rfl rfl (Nat.le_of_ble_eq_true rfl) d_2_35_44 (fun H locs w57 hu58 hO52 V => ?_)
      replace hO52 : w57[k1]? = (some (q k1, .inr (2, [.ref (q (k1 + 1)), .int y53, .int 0])) : Option (Nat × va_E)) := hO52
      replace hI := q_bigO' hI hB1 hu58 hO52 ⟨(by have t1 : 0 ≤ y53.toInt ∧ y53.toInt ≤ R.toInt := b55; omega), (by have t1 : 0 ≤ y53.toInt ∧ y53.toInt ≤ R.toInt := b55; omega)⟩ ⟨(by have z9 : (0 : Int32).toInt = 0 := rfl; omega), (by have z9 : (0 : Int32).toInt = 0 := rfl; omega)⟩
      replace hF := q_us hF hu58 (by simp)
      exact q_retv C0 V (⟨hI, hF, trivial⟩) d_2_35_47
    ·
      have b59 : q_F (a27.toInt ≠ 0) := (q_neI c50)
      refine lv_iconst (v := 1) hx hb d_2_35_39 (by decide) ?_
      refine lv_goto (tgt := 44) hx hb d_2_35_40 (by decide) ?_
      obtain ⟨y61, y62, hO60, b63, b64⟩ := q_bigO hI hB1
      replace b63 : q_F (0 ≤ y61.toInt ∧ y61.toInt ≤ R.toInt) := b63
      replace b64 : q_F (0 ≤ y62.toInt ∧ y62.toInt ≤ 1) := b64
      refine q_put (ci := 2) (j := 2) (v := .int 1) (ty := .boolean) C0 V i_Big o_Big n_Big rfl rfl hO60 (by decide) w_94 rfl rfl rfl rfl (Nat.le_of_ble_eq_true rfl) d_2_35_44 (fun H locs w65 hu66 hO60 V => ?_)
      replace hO60 : w65[k1]? = (some (q k1, .inr (2, [.ref (q (k1 + 1)), .int y61, .int 1])) : Option (Nat × va_E)) := hO60
      replace hI := q_bigO' hI hB1 hu66 hO60 ⟨(by have t1 : 0 ≤ y61.toInt ∧ y61.toInt ≤ R.toInt := b63; omega), (by have t1 : 0 ≤ y61.toInt ∧ y61.toInt ≤ R.toInt := b63; omega)⟩ ⟨(by have z9 : (1 : Int32).toInt = 1 := rfl; omega), (by have z9 : (1 : Int32).toInt = 1 := rfl; omega)⟩
      replace hF := q_us hF hu66 (by simp)
      exact q_retv C0 V (⟨hI, hF, trivial⟩) d_2_35_47
