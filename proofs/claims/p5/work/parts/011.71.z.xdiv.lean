/-! Big, exactly: the division and what it owes -/
theorem q_s2 {A B : Prop} (h : True ∧ (A ∧ B)) : True ∧ B := ⟨trivial, h.2.2⟩
theorem d_2_34_0 : decode prog_2_method_34_code 0 = .ok (.aload_n 2, 1) := by decide +kernel
theorem d_2_34_1 : decode prog_2_method_34_code 1 = .ok (.invokevirtual 21, 3) := by decide +kernel
theorem d_2_34_4 : decode prog_2_method_34_code 4 = .ok (.aload_n 1, 1) := by decide +kernel
theorem d_2_34_5 : decode prog_2_method_34_code 5 = .ok (.getfield 13, 3) := by decide +kernel
theorem d_2_34_8 : decode prog_2_method_34_code 8 = .ok (.ifCond .eq 11, 3) := by decide +kernel
theorem d_2_34_19 : decode prog_2_method_34_code 19 = .ok (.return_, 1) := by decide +kernel
theorem d_2_34_11 : decode prog_2_method_34_code 11 = .ok (.aload_n 0, 1) := by decide +kernel
theorem d_2_34_12 : decode prog_2_method_34_code 12 = .ok (.aload_n 1, 1) := by decide +kernel
theorem d_2_34_13 : decode prog_2_method_34_code 13 = .ok (.invokevirtual 78, 3) := by decide +kernel
theorem d_2_34_16 : decode prog_2_method_34_code 16 = .ok (.ifCond .ge 4, 3) := by decide +kernel
theorem d_2_34_20 : decode prog_2_method_34_code 20 = .ok (.aload_n 1, 1) := by decide +kernel
theorem d_2_34_21 : decode prog_2_method_34_code 21 = .ok (.getfield 13, 3) := by decide +kernel
theorem d_2_34_24 : decode prog_2_method_34_code 24 = .ok (.iconst 1, 1) := by decide +kernel
theorem d_2_34_25 : decode prog_2_method_34_code 25 = .ok (.if_icmp .ne 15, 3) := by decide +kernel
theorem d_2_34_40 : decode prog_2_method_34_code 40 = .ok (.bipush 31, 2) := by decide +kernel
theorem d_2_34_42 : decode prog_2_method_34_code 42 = .ok (.aload_n 1, 1) := by decide +kernel
theorem d_2_34_43 : decode prog_2_method_34_code 43 = .ok (.getfield 7, 3) := by decide +kernel
theorem d_2_34_46 : decode prog_2_method_34_code 46 = .ok (.aload_n 1, 1) := by decide +kernel
theorem d_2_34_47 : decode prog_2_method_34_code 47 = .ok (.getfield 13, 3) := by decide +kernel
theorem d_2_34_50 : decode prog_2_method_34_code 50 = .ok (.iconst 1, 1) := by decide +kernel
theorem d_2_34_51 : decode prog_2_method_34_code 51 = .ok (.isub, 1) := by decide +kernel
theorem d_2_34_52 : decode prog_2_method_34_code 52 = .ok (.iaload, 1) := by decide +kernel
theorem d_2_34_53 : decode prog_2_method_34_code 53 = .ok (.invokestatic 57, 3) := by decide +kernel
theorem d_2_34_56 : decode prog_2_method_34_code 56 = .ok (.isub, 1) := by decide +kernel
theorem d_2_34_57 : decode prog_2_method_34_code 57 = .ok (.istore_n 3, 1) := by decide +kernel
theorem d_2_34_58 : decode prog_2_method_34_code 58 = .ok (.aload_n 1, 1) := by decide +kernel
theorem d_2_34_59 : decode prog_2_method_34_code 59 = .ok (.iload_n 3, 1) := by decide +kernel
theorem d_2_34_60 : decode prog_2_method_34_code 60 = .ok (.invokevirtual 118, 3) := by decide +kernel
set_option maxRecDepth 100000 in
theorem w_1045 : (Cond.methodLink "NumberHouse$Big" (118 : Nat) ({ cls := "NumberHouse$Big", name := "shiftLeft", desc := "(I)V" } : MethodName)) ∈ q_tbl := q_of5 85 rfl (by decide +kernel)
theorem LV_Big_118 : q_LV "NumberHouse$Big" 118 y_Big_shiftLeft prog_2_method_32_code 6 none 1 := ⟨w_808, w_4, w_1045, w_806, w_807, ⟨by decide, by decide, by decide +kernel⟩⟩
theorem d_2_34_63 : decode prog_2_method_34_code 63 = .ok (.aload_n 0, 1) := by decide +kernel
theorem d_2_34_64 : decode prog_2_method_34_code 64 = .ok (.iload_n 3, 1) := by decide +kernel
theorem d_2_34_65 : decode prog_2_method_34_code 65 = .ok (.invokevirtual 118, 3) := by decide +kernel
theorem d_2_34_68 : decode prog_2_method_34_code 68 = .ok (.aload_n 0, 1) := by decide +kernel
theorem d_2_34_69 : decode prog_2_method_34_code 69 = .ok (.getfield 13, 3) := by decide +kernel
theorem d_2_34_72 : decode prog_2_method_34_code 72 = .ok (.aload_n 1, 1) := by decide +kernel
theorem d_2_34_73 : decode prog_2_method_34_code 73 = .ok (.getfield 13, 3) := by decide +kernel
theorem d_2_34_76 : decode prog_2_method_34_code 76 = .ok (.isub, 1) := by decide +kernel
theorem d_2_34_77 : decode prog_2_method_34_code 77 = .ok (.iconst 1, 1) := by decide +kernel
theorem d_2_34_78 : decode prog_2_method_34_code 78 = .ok (.iadd, 1) := by decide +kernel
theorem d_2_34_79 : decode prog_2_method_34_code 79 = .ok (.istore 4, 2) := by decide +kernel
theorem d_2_34_81 : decode prog_2_method_34_code 81 = .ok (.aload_n 0, 1) := by decide +kernel
theorem d_2_34_82 : decode prog_2_method_34_code 82 = .ok (.iconst 0, 1) := by decide +kernel
theorem d_2_34_83 : decode prog_2_method_34_code 83 = .ok (.invokevirtual 32, 3) := by decide +kernel
theorem d_2_34_86 : decode prog_2_method_34_code 86 = .ok (.iload 4, 2) := by decide +kernel
theorem d_2_34_88 : decode prog_2_method_34_code 88 = .ok (.iconst 1, 1) := by decide +kernel
theorem d_2_34_89 : decode prog_2_method_34_code 89 = .ok (.isub, 1) := by decide +kernel
theorem d_2_34_90 : decode prog_2_method_34_code 90 = .ok (.istore 5, 2) := by decide +kernel
theorem d_2_34_92 : decode prog_2_method_34_code 92 = .ok (.iload 5, 2) := by decide +kernel
theorem d_2_34_94 : decode prog_2_method_34_code 94 = .ok (.ifCond .lt 37, 3) := by decide +kernel
theorem d_2_34_131 : decode prog_2_method_34_code 131 = .ok (.aload_n 2, 1) := by decide +kernel
theorem d_2_34_132 : decode prog_2_method_34_code 132 = .ok (.iload 4, 2) := by decide +kernel
theorem d_2_34_134 : decode prog_2_method_34_code 134 = .ok (.aload_n 2, 1) := by decide +kernel
theorem d_2_34_135 : decode prog_2_method_34_code 135 = .ok (.getfield 7, 3) := by decide +kernel
theorem d_2_34_138 : decode prog_2_method_34_code 138 = .ok (.arraylength, 1) := by decide +kernel
theorem d_2_34_139 : decode prog_2_method_34_code 139 = .ok (.invokestatic 39, 3) := by decide +kernel
theorem d_2_34_142 : decode prog_2_method_34_code 142 = .ok (.putfield 13, 3) := by decide +kernel
theorem d_2_34_145 : decode prog_2_method_34_code 145 = .ok (.aload_n 2, 1) := by decide +kernel
theorem d_2_34_146 : decode prog_2_method_34_code 146 = .ok (.invokevirtual 36, 3) := by decide +kernel
theorem d_2_34_149 : decode prog_2_method_34_code 149 = .ok (.aload_n 0, 1) := by decide +kernel
theorem d_2_34_150 : decode prog_2_method_34_code 150 = .ok (.invokevirtual 36, 3) := by decide +kernel
theorem d_2_34_153 : decode prog_2_method_34_code 153 = .ok (.aload_n 0, 1) := by decide +kernel
theorem d_2_34_154 : decode prog_2_method_34_code 154 = .ok (.iload_n 3, 1) := by decide +kernel
theorem d_2_34_155 : decode prog_2_method_34_code 155 = .ok (.invokevirtual 125, 3) := by decide +kernel
set_option maxRecDepth 100000 in
theorem w_1059 : (Cond.methodLink "NumberHouse$Big" (125 : Nat) ({ cls := "NumberHouse$Big", name := "shiftRight", desc := "(I)Z" } : MethodName)) ∈ q_tbl := q_of5 99 rfl (by decide +kernel)
theorem LV_Big_125 : q_LV "NumberHouse$Big" 125 y_Big_shiftRight prog_2_method_33_code 7 (some .boolean) 1 := ⟨w_1062, w_4, w_1059, w_1060, w_1061, ⟨by decide, by decide, by decide +kernel⟩⟩
theorem d_2_34_158 : decode prog_2_method_34_code 158 = .ok (.pop, 1) := by decide +kernel
theorem d_2_34_159 : decode prog_2_method_34_code 159 = .ok (.aload_n 1, 1) := by decide +kernel
theorem d_2_34_160 : decode prog_2_method_34_code 160 = .ok (.iload_n 3, 1) := by decide +kernel
theorem d_2_34_161 : decode prog_2_method_34_code 161 = .ok (.invokevirtual 125, 3) := by decide +kernel
theorem d_2_34_164 : decode prog_2_method_34_code 164 = .ok (.pop, 1) := by decide +kernel
theorem d_2_34_165 : decode prog_2_method_34_code 165 = .ok (.return_, 1) := by decide +kernel
theorem d_2_34_97 : decode prog_2_method_34_code 97 = .ok (.aload_n 0, 1) := by decide +kernel
theorem d_2_34_98 : decode prog_2_method_34_code 98 = .ok (.iload 5, 2) := by decide +kernel
theorem d_2_34_100 : decode prog_2_method_34_code 100 = .ok (.aload_n 1, 1) := by decide +kernel
theorem d_2_34_101 : decode prog_2_method_34_code 101 = .ok (.invokevirtual 121, 3) := by decide +kernel
set_option maxRecDepth 100000 in
theorem w_1049 : (Cond.code ({ cls := "NumberHouse$Big", name := "takeTimes", desc := "(ILNumberHouse$Big;)I" } : MethodName) prog_2_method_36_code (11 : Nat) (some .int)) ∈ q_tbl := q_of5 89 rfl (by decide +kernel)
set_option maxRecDepth 100000 in
theorem w_1046 : (Cond.methodLink "NumberHouse$Big" (121 : Nat) ({ cls := "NumberHouse$Big", name := "takeTimes", desc := "(ILNumberHouse$Big;)I" } : MethodName)) ∈ q_tbl := q_of5 86 rfl (by decide +kernel)
set_option maxRecDepth 100000 in
theorem w_1048 : (Cond.instanceMethod ({ cls := "NumberHouse$Big", name := "takeTimes", desc := "(ILNumberHouse$Big;)I" } : MethodName)) ∈ q_tbl := q_of5 88 rfl (by decide +kernel)
theorem ws_16 : Cond.selects "NumberHouse$Big" (⟨"NumberHouse$Big", "takeTimes", "(ILNumberHouse$Big;)I"⟩ : MethodName) (⟨"NumberHouse$Big", "takeTimes", "(ILNumberHouse$Big;)I"⟩ : MethodName) ∈ q_tbl := q_ofs 16 (by decide +kernel) (by decide +kernel)
theorem LV_Big_121 : q_LV "NumberHouse$Big" 121 y_Big_takeTimes prog_2_method_36_code 11 (some .int) 2 := ⟨w_1049, w_4, w_1046, w_1048, ws_16, ⟨by decide, by decide, by decide +kernel⟩⟩
theorem d_2_34_104 : decode prog_2_method_34_code 104 = .ok (.istore 6, 2) := by decide +kernel
theorem d_2_34_106 : decode prog_2_method_34_code 106 = .ok (.iload 5, 2) := by decide +kernel
theorem d_2_34_108 : decode prog_2_method_34_code 108 = .ok (.aload_n 2, 1) := by decide +kernel
theorem d_2_34_109 : decode prog_2_method_34_code 109 = .ok (.getfield 7, 3) := by decide +kernel
theorem d_2_34_112 : decode prog_2_method_34_code 112 = .ok (.arraylength, 1) := by decide +kernel
theorem d_2_34_113 : decode prog_2_method_34_code 113 = .ok (.if_icmp .ge 12, 3) := by decide +kernel
theorem d_2_34_125 : decode prog_2_method_34_code 125 = .ok (.iinc 5 (-1), 3) := by decide +kernel
theorem d_2_34_128 : decode prog_2_method_34_code 128 = .ok (.goto (-36), 3) := by decide +kernel
theorem d_2_34_116 : decode prog_2_method_34_code 116 = .ok (.aload_n 2, 1) := by decide +kernel
theorem d_2_34_117 : decode prog_2_method_34_code 117 = .ok (.getfield 7, 3) := by decide +kernel
theorem d_2_34_120 : decode prog_2_method_34_code 120 = .ok (.iload 5, 2) := by decide +kernel
theorem d_2_34_122 : decode prog_2_method_34_code 122 = .ok (.iload 6, 2) := by decide +kernel
theorem d_2_34_124 : decode prog_2_method_34_code 124 = .ok (.iastore, 1) := by decide +kernel
theorem d_2_34_28 : decode prog_2_method_34_code 28 = .ok (.aload_n 0, 1) := by decide +kernel
theorem d_2_34_29 : decode prog_2_method_34_code 29 = .ok (.aload_n 1, 1) := by decide +kernel
theorem d_2_34_30 : decode prog_2_method_34_code 30 = .ok (.getfield 7, 3) := by decide +kernel
theorem d_2_34_33 : decode prog_2_method_34_code 33 = .ok (.iconst 0, 1) := by decide +kernel
theorem d_2_34_34 : decode prog_2_method_34_code 34 = .ok (.iaload, 1) := by decide +kernel
theorem d_2_34_35 : decode prog_2_method_34_code 35 = .ok (.aload_n 2, 1) := by decide +kernel
theorem d_2_34_36 : decode prog_2_method_34_code 36 = .ok (.invokevirtual 114, 3) := by decide +kernel
set_option maxRecDepth 100000 in
theorem w_1037 : (Cond.code ({ cls := "NumberHouse$Big", name := "divideByLimb", desc := "(ILNumberHouse$Big;)V" } : MethodName) prog_2_method_35_code (5 : Nat) (none : Option ClassFile.FieldType)) ∈ q_tbl := q_of5 77 rfl (by decide +kernel)
set_option maxRecDepth 100000 in
theorem w_1034 : (Cond.methodLink "NumberHouse$Big" (114 : Nat) ({ cls := "NumberHouse$Big", name := "divideByLimb", desc := "(ILNumberHouse$Big;)V" } : MethodName)) ∈ q_tbl := q_of5 74 rfl (by decide +kernel)
set_option maxRecDepth 100000 in
theorem w_1036 : (Cond.instanceMethod ({ cls := "NumberHouse$Big", name := "divideByLimb", desc := "(ILNumberHouse$Big;)V" } : MethodName)) ∈ q_tbl := q_of5 76 rfl (by decide +kernel)
theorem ws_15 : Cond.selects "NumberHouse$Big" (⟨"NumberHouse$Big", "divideByLimb", "(ILNumberHouse$Big;)V"⟩ : MethodName) (⟨"NumberHouse$Big", "divideByLimb", "(ILNumberHouse$Big;)V"⟩ : MethodName) ∈ q_tbl := q_ofs 15 (by decide +kernel) (by decide +kernel)
theorem LV_Big_114 : q_LV "NumberHouse$Big" 114 y_Big_divideByLimb prog_2_method_35_code 5 none 2 := ⟨w_1037, w_4, w_1034, w_1036, ws_15, ⟨by decide, by decide, by decide +kernel⟩⟩
theorem d_2_34_39 : decode prog_2_method_34_code 39 = .ok (.return_, 1) := by decide +kernel
def y_Big_divideBy : MethodName := ⟨"NumberHouse$Big", "divideBy", "(LNumberHouse$Big;LNumberHouse$Big;)V"⟩
def F_Big_divideBy_L92 (R : Int32) (R2 : Int32) (R3 : Int32) (t0_0 : Int32) (t0_1 : Int32) (t1_0 : (Nat → Int32)) (t2_0 : Int32) (t2_1 : Int32) (t3_0 : (Nat → Int32)) (t4_0 : Int32) (t4_1 : Int32) (t5_0 : (Nat → Int32)) (a114 : Int32) (a66 : Int32) (y124 : Int32) (y125 : Int32) (y76 : Int32) (y77 : Int32) (f78 : (Nat → Int32)) (y30 : Int32) (y31 : Int32) : Nat → Int32 → (Nat → Int32) → (Nat → Int32) → (Int32 × Int32 × (Nat → Int32) × Int32 × Int32 × (Nat → Int32) × Int32 × Int32 × (Nat → Int32))
  | 0, _, _, _ => default
  | fm + 1, lx143, lx144, lx145 => if lx143 < (0 : Int32) then ((((F_Big_shiftRight R a66 ((F_Big_trim R y124 y125 lx144).1 : Int32) ((F_Big_trim R y124 y125 lx144).2 : Int32) lx144).2.1 : Int32), ((F_Big_shiftRight R a66 ((F_Big_trim R y124 y125 lx144).1 : Int32) ((F_Big_trim R y124 y125 lx144).2 : Int32) lx144).2.2.1 : Int32), ((F_Big_shiftRight R a66 ((F_Big_trim R y124 y125 lx144).1 : Int32) ((F_Big_trim R y124 y125 lx144).2 : Int32) lx144).2.2.2 : (Nat → Int32)), ((F_Big_shiftRight R2 a66 y76 y77 f78).2.1 : Int32), ((F_Big_shiftRight R2 a66 y76 y77 f78).2.2.1 : Int32), ((F_Big_shiftRight R2 a66 y76 y77 f78).2.2.2 : (Nat → Int32)), ((F_Big_trim R3 (if R3 < a114 then R3 else a114 : Int32) y31 lx145).1 : Int32), ((F_Big_trim R3 (if R3 < a114 then R3 else a114 : Int32) y31 lx145).2 : Int32), lx145)) else (if R3 ≤ lx143 then (F_Big_divideBy_L92 R R2 R3 t0_0 t0_1 t1_0 t2_0 t2_1 t3_0 t4_0 t4_1 t5_0 a114 a66 y124 y125 y76 y77 f78 y30 y31 fm (lx143 + (-1) : Int32) ((F_Big_takeTimes R lx143 R2 y124 y125 lx144 y76 y77 f78).2 : (Nat → Int32)) lx145) else (F_Big_divideBy_L92 R R2 R3 t0_0 t0_1 t1_0 t2_0 t2_1 t3_0 t4_0 t4_1 t5_0 a114 a66 y124 y125 y76 y77 f78 y30 y31 fm (lx143 + (-1) : Int32) ((F_Big_takeTimes R lx143 R2 y124 y125 lx144 y76 y77 f78).2 : (Nat → Int32)) (upd lx145 lx143.toNatClampNeg ((F_Big_takeTimes R lx143 R2 y124 y125 lx144 y76 y77 f78).1 : Int32) : (Nat → Int32))))
def F_Big_divideBy (R : Int32) (R2 : Int32) (R3 : Int32) (t0_0 : Int32) (t0_1 : Int32) (t1_0 : (Nat → Int32)) (t2_0 : Int32) (t2_1 : Int32) (t3_0 : (Nat → Int32)) (t4_0 : Int32) (t4_1 : Int32) (t5_0 : (Nat → Int32)) : Int32 × Int32 × (Nat → Int32) × Int32 × Int32 × (Nat → Int32) × Int32 × Int32 × (Nat → Int32) := if t2_0 = (0 : Int32) then ((t0_0, t0_1, t1_0, t2_0, t2_1, t3_0, ((F_Big_clear R3 t4_0 t4_1).1 : Int32), ((F_Big_clear R3 t4_0 t4_1).2 : Int32), t5_0)) else (if (0 : Int32) ≤ ((F_Big_compareSize R R2 t0_0 t0_1 t1_0 t2_0 t2_1 t3_0) : Int32) then (if t2_0 = (1 : Int32) then ((((F_Big_divideByLimb R (t3_0 (0 : Int32).toNatClampNeg : Int32) R3 t0_0 t0_1 t1_0 ((F_Big_clear R3 t4_0 t4_1).1 : Int32) ((F_Big_clear R3 t4_0 t4_1).2 : Int32) t5_0).1 : Int32), ((F_Big_divideByLimb R (t3_0 (0 : Int32).toNatClampNeg : Int32) R3 t0_0 t0_1 t1_0 ((F_Big_clear R3 t4_0 t4_1).1 : Int32) ((F_Big_clear R3 t4_0 t4_1).2 : Int32) t5_0).2.1 : Int32), ((F_Big_divideByLimb R (t3_0 (0 : Int32).toNatClampNeg : Int32) R3 t0_0 t0_1 t1_0 ((F_Big_clear R3 t4_0 t4_1).1 : Int32) ((F_Big_clear R3 t4_0 t4_1).2 : Int32) t5_0).2.2.1 : (Nat → Int32)), t2_0, t2_1, t3_0, ((F_Big_divideByLimb R (t3_0 (0 : Int32).toNatClampNeg : Int32) R3 t0_0 t0_1 t1_0 ((F_Big_clear R3 t4_0 t4_1).1 : Int32) ((F_Big_clear R3 t4_0 t4_1).2 : Int32) t5_0).2.2.2.1 : Int32), ((F_Big_divideByLimb R (t3_0 (0 : Int32).toNatClampNeg : Int32) R3 t0_0 t0_1 t1_0 ((F_Big_clear R3 t4_0 t4_1).1 : Int32) ((F_Big_clear R3 t4_0 t4_1).2 : Int32) t5_0).2.2.2.2.1 : Int32), ((F_Big_divideByLimb R (t3_0 (0 : Int32).toNatClampNeg : Int32) R3 t0_0 t0_1 t1_0 ((F_Big_clear R3 t4_0 t4_1).1 : Int32) ((F_Big_clear R3 t4_0 t4_1).2 : Int32) t5_0).2.2.2.2.2 : (Nat → Int32)))) else (F_Big_divideBy_L92 R R2 R3 t0_0 t0_1 t1_0 t2_0 t2_1 t3_0 t4_0 t4_1 t5_0 ((((F_Big_shiftLeft R (31 - ((F_Big_bitsOf (t3_0 (t2_0 - 1 : Int32).toNatClampNeg : Int32)) : Int32) : Int32) t0_0 t0_1 t1_0).1 : Int32) - ((F_Big_shiftLeft R2 (31 - ((F_Big_bitsOf (t3_0 (t2_0 - 1 : Int32).toNatClampNeg : Int32)) : Int32) : Int32) t2_0 t2_1 t3_0).1 : Int32) : Int32) + 1 : Int32) (31 - ((F_Big_bitsOf (t3_0 (t2_0 - 1 : Int32).toNatClampNeg : Int32)) : Int32) : Int32) ((F_Big_push R (0 : Int32) ((F_Big_shiftLeft R (31 - ((F_Big_bitsOf (t3_0 (t2_0 - 1 : Int32).toNatClampNeg : Int32)) : Int32) : Int32) t0_0 t0_1 t1_0).1 : Int32) ((F_Big_shiftLeft R (31 - ((F_Big_bitsOf (t3_0 (t2_0 - 1 : Int32).toNatClampNeg : Int32)) : Int32) : Int32) t0_0 t0_1 t1_0).2.1 : Int32) ((F_Big_shiftLeft R (31 - ((F_Big_bitsOf (t3_0 (t2_0 - 1 : Int32).toNatClampNeg : Int32)) : Int32) : Int32) t0_0 t0_1 t1_0).2.2 : (Nat → Int32))).1 : Int32) ((F_Big_push R (0 : Int32) ((F_Big_shiftLeft R (31 - ((F_Big_bitsOf (t3_0 (t2_0 - 1 : Int32).toNatClampNeg : Int32)) : Int32) : Int32) t0_0 t0_1 t1_0).1 : Int32) ((F_Big_shiftLeft R (31 - ((F_Big_bitsOf (t3_0 (t2_0 - 1 : Int32).toNatClampNeg : Int32)) : Int32) : Int32) t0_0 t0_1 t1_0).2.1 : Int32) ((F_Big_shiftLeft R (31 - ((F_Big_bitsOf (t3_0 (t2_0 - 1 : Int32).toNatClampNeg : Int32)) : Int32) : Int32) t0_0 t0_1 t1_0).2.2 : (Nat → Int32))).2.1 : Int32) ((F_Big_shiftLeft R2 (31 - ((F_Big_bitsOf (t3_0 (t2_0 - 1 : Int32).toNatClampNeg : Int32)) : Int32) : Int32) t2_0 t2_1 t3_0).1 : Int32) ((F_Big_shiftLeft R2 (31 - ((F_Big_bitsOf (t3_0 (t2_0 - 1 : Int32).toNatClampNeg : Int32)) : Int32) : Int32) t2_0 t2_1 t3_0).2.1 : Int32) ((F_Big_shiftLeft R2 (31 - ((F_Big_bitsOf (t3_0 (t2_0 - 1 : Int32).toNatClampNeg : Int32)) : Int32) : Int32) t2_0 t2_1 t3_0).2.2 : (Nat → Int32)) ((F_Big_clear R3 t4_0 t4_1).1 : Int32) ((F_Big_clear R3 t4_0 t4_1).2 : Int32) (((((((F_Big_shiftLeft R (31 - ((F_Big_bitsOf (t3_0 (t2_0 - 1 : Int32).toNatClampNeg : Int32)) : Int32) : Int32) t0_0 t0_1 t1_0).1 : Int32) - ((F_Big_shiftLeft R2 (31 - ((F_Big_bitsOf (t3_0 (t2_0 - 1 : Int32).toNatClampNeg : Int32)) : Int32) : Int32) t2_0 t2_1 t3_0).1 : Int32) : Int32) + 1 : Int32) - 1 : Int32).toInt - ((-220))).toNat + 1) (((((F_Big_shiftLeft R (31 - ((F_Big_bitsOf (t3_0 (t2_0 - 1 : Int32).toNatClampNeg : Int32)) : Int32) : Int32) t0_0 t0_1 t1_0).1 : Int32) - ((F_Big_shiftLeft R2 (31 - ((F_Big_bitsOf (t3_0 (t2_0 - 1 : Int32).toNatClampNeg : Int32)) : Int32) : Int32) t2_0 t2_1 t3_0).1 : Int32) : Int32) + 1 : Int32) - 1 : Int32) ((F_Big_push R (0 : Int32) ((F_Big_shiftLeft R (31 - ((F_Big_bitsOf (t3_0 (t2_0 - 1 : Int32).toNatClampNeg : Int32)) : Int32) : Int32) t0_0 t0_1 t1_0).1 : Int32) ((F_Big_shiftLeft R (31 - ((F_Big_bitsOf (t3_0 (t2_0 - 1 : Int32).toNatClampNeg : Int32)) : Int32) : Int32) t0_0 t0_1 t1_0).2.1 : Int32) ((F_Big_shiftLeft R (31 - ((F_Big_bitsOf (t3_0 (t2_0 - 1 : Int32).toNatClampNeg : Int32)) : Int32) : Int32) t0_0 t0_1 t1_0).2.2 : (Nat → Int32))).2.2 : (Nat → Int32)) t5_0)) else ((t0_0, t0_1, t1_0, t2_0, t2_1, t3_0, ((F_Big_clear R3 t4_0 t4_1).1 : Int32), ((F_Big_clear R3 t4_0 t4_1).2 : Int32), t5_0)))
def S_Big_divideBy_L92 (R : Int32) (R2 : Int32) (R3 : Int32) (t0_0 : Int32) (t0_1 : Int32) (t1_0 : (Nat → Int32)) (t2_0 : Int32) (t2_1 : Int32) (t3_0 : (Nat → Int32)) (t4_0 : Int32) (t4_1 : Int32) (t5_0 : (Nat → Int32)) (a114 : Int32) (a66 : Int32) (y124 : Int32) (y125 : Int32) (y76 : Int32) (y77 : Int32) (f78 : (Nat → Int32)) (y30 : Int32) (y31 : Int32) : Nat → Int32 → (Nat → Int32) → (Nat → Int32) → Prop
  | 0, _, _, _ => False
  | fm + 1, lx143, lx144, lx145 => if lx143 < (0 : Int32) then ((0 ≤ (if R3 < a114 then R3 else a114 : Int32).toInt) ∧ (True)) else (if R3 ≤ lx143 then (S_Big_divideBy_L92 R R2 R3 t0_0 t0_1 t1_0 t2_0 t2_1 t3_0 t4_0 t4_1 t5_0 a114 a66 y124 y125 y76 y77 f78 y30 y31 fm (lx143 + (-1) : Int32) ((F_Big_takeTimes R lx143 R2 y124 y125 lx144 y76 y77 f78).2 : (Nat → Int32)) lx145) else (S_Big_divideBy_L92 R R2 R3 t0_0 t0_1 t1_0 t2_0 t2_1 t3_0 t4_0 t4_1 t5_0 a114 a66 y124 y125 y76 y77 f78 y30 y31 fm (lx143 + (-1) : Int32) ((F_Big_takeTimes R lx143 R2 y124 y125 lx144 y76 y77 f78).2 : (Nat → Int32)) (upd lx145 lx143.toNatClampNeg ((F_Big_takeTimes R lx143 R2 y124 y125 lx144 y76 y77 f78).1 : Int32) : (Nat → Int32))))
def S_Big_divideBy (R : Int32) (R2 : Int32) (R3 : Int32) (t0_0 : Int32) (t0_1 : Int32) (t1_0 : (Nat → Int32)) (t2_0 : Int32) (t2_1 : Int32) (t3_0 : (Nat → Int32)) (t4_0 : Int32) (t4_1 : Int32) (t5_0 : (Nat → Int32)) : Prop := if t2_0 = (0 : Int32) then (True) else (if (0 : Int32) ≤ ((F_Big_compareSize R R2 t0_0 t0_1 t1_0 t2_0 t2_1 t3_0) : Int32) then (if t2_0 = (1 : Int32) then (True) else (S_Big_divideBy_L92 R R2 R3 t0_0 t0_1 t1_0 t2_0 t2_1 t3_0 t4_0 t4_1 t5_0 ((((F_Big_shiftLeft R (31 - ((F_Big_bitsOf (t3_0 (t2_0 - 1 : Int32).toNatClampNeg : Int32)) : Int32) : Int32) t0_0 t0_1 t1_0).1 : Int32) - ((F_Big_shiftLeft R2 (31 - ((F_Big_bitsOf (t3_0 (t2_0 - 1 : Int32).toNatClampNeg : Int32)) : Int32) : Int32) t2_0 t2_1 t3_0).1 : Int32) : Int32) + 1 : Int32) (31 - ((F_Big_bitsOf (t3_0 (t2_0 - 1 : Int32).toNatClampNeg : Int32)) : Int32) : Int32) ((F_Big_push R (0 : Int32) ((F_Big_shiftLeft R (31 - ((F_Big_bitsOf (t3_0 (t2_0 - 1 : Int32).toNatClampNeg : Int32)) : Int32) : Int32) t0_0 t0_1 t1_0).1 : Int32) ((F_Big_shiftLeft R (31 - ((F_Big_bitsOf (t3_0 (t2_0 - 1 : Int32).toNatClampNeg : Int32)) : Int32) : Int32) t0_0 t0_1 t1_0).2.1 : Int32) ((F_Big_shiftLeft R (31 - ((F_Big_bitsOf (t3_0 (t2_0 - 1 : Int32).toNatClampNeg : Int32)) : Int32) : Int32) t0_0 t0_1 t1_0).2.2 : (Nat → Int32))).1 : Int32) ((F_Big_push R (0 : Int32) ((F_Big_shiftLeft R (31 - ((F_Big_bitsOf (t3_0 (t2_0 - 1 : Int32).toNatClampNeg : Int32)) : Int32) : Int32) t0_0 t0_1 t1_0).1 : Int32) ((F_Big_shiftLeft R (31 - ((F_Big_bitsOf (t3_0 (t2_0 - 1 : Int32).toNatClampNeg : Int32)) : Int32) : Int32) t0_0 t0_1 t1_0).2.1 : Int32) ((F_Big_shiftLeft R (31 - ((F_Big_bitsOf (t3_0 (t2_0 - 1 : Int32).toNatClampNeg : Int32)) : Int32) : Int32) t0_0 t0_1 t1_0).2.2 : (Nat → Int32))).2.1 : Int32) ((F_Big_shiftLeft R2 (31 - ((F_Big_bitsOf (t3_0 (t2_0 - 1 : Int32).toNatClampNeg : Int32)) : Int32) : Int32) t2_0 t2_1 t3_0).1 : Int32) ((F_Big_shiftLeft R2 (31 - ((F_Big_bitsOf (t3_0 (t2_0 - 1 : Int32).toNatClampNeg : Int32)) : Int32) : Int32) t2_0 t2_1 t3_0).2.1 : Int32) ((F_Big_shiftLeft R2 (31 - ((F_Big_bitsOf (t3_0 (t2_0 - 1 : Int32).toNatClampNeg : Int32)) : Int32) : Int32) t2_0 t2_1 t3_0).2.2 : (Nat → Int32)) ((F_Big_clear R3 t4_0 t4_1).1 : Int32) ((F_Big_clear R3 t4_0 t4_1).2 : Int32) (((((((F_Big_shiftLeft R (31 - ((F_Big_bitsOf (t3_0 (t2_0 - 1 : Int32).toNatClampNeg : Int32)) : Int32) : Int32) t0_0 t0_1 t1_0).1 : Int32) - ((F_Big_shiftLeft R2 (31 - ((F_Big_bitsOf (t3_0 (t2_0 - 1 : Int32).toNatClampNeg : Int32)) : Int32) : Int32) t2_0 t2_1 t3_0).1 : Int32) : Int32) + 1 : Int32) - 1 : Int32).toInt - ((-220))).toNat + 1) (((((F_Big_shiftLeft R (31 - ((F_Big_bitsOf (t3_0 (t2_0 - 1 : Int32).toNatClampNeg : Int32)) : Int32) : Int32) t0_0 t0_1 t1_0).1 : Int32) - ((F_Big_shiftLeft R2 (31 - ((F_Big_bitsOf (t3_0 (t2_0 - 1 : Int32).toNatClampNeg : Int32)) : Int32) : Int32) t2_0 t2_1 t3_0).1 : Int32) : Int32) + 1 : Int32) - 1 : Int32) ((F_Big_push R (0 : Int32) ((F_Big_shiftLeft R (31 - ((F_Big_bitsOf (t3_0 (t2_0 - 1 : Int32).toNatClampNeg : Int32)) : Int32) : Int32) t0_0 t0_1 t1_0).1 : Int32) ((F_Big_shiftLeft R (31 - ((F_Big_bitsOf (t3_0 (t2_0 - 1 : Int32).toNatClampNeg : Int32)) : Int32) : Int32) t0_0 t0_1 t1_0).2.1 : Int32) ((F_Big_shiftLeft R (31 - ((F_Big_bitsOf (t3_0 (t2_0 - 1 : Int32).toNatClampNeg : Int32)) : Int32) : Int32) t0_0 t0_1 t1_0).2.2 : (Nat → Int32))).2.2 : (Nat → Int32)) t5_0)) else (True))
set_option maxRecDepth 100000 in
set_option maxHeartbeats 4000000 in
theorem X_Big_divideBy (l : Launch) (D : va_G) (g : Nat → ClassId) (q : Nat → Nat) (ws : va_W) (k1 : Nat) (R : Int32) (hB1 : q_isBig (nsh g q) g q k1 R) (zk1 : (10 ≤ k1 ∧ k1 ≤ 32) ∨ 66 ≤ k1) (k2 : Nat) (R2 : Int32) (hB2 : q_isBig (nsh g q) g q k2 R2) (zk2 : (10 ≤ k2 ∧ k2 ≤ 32) ∨ 66 ≤ k2) (k3 : Nat) (R3 : Int32) (hB3 : q_isBig (nsh g q) g q k3 R3) (zk3 : (10 ≤ k3 ∧ k3 ≤ 32) ∨ 66 ≤ k3) (ne_k1_k2 : k1 ≠ k2) (ne_k1_k3 : k1 ≠ k3) (ne_k2_k3 : k2 ≠ k3) (hI : q_I (nsh g q) q ws) (t0_0 : Int32) (t0_1 : Int32) (hT0 : ws[k1]? = (some (q k1, .inr (2, [.ref (q (k1 + 1)), .int t0_0, .int t0_1])) : Option (Nat × va_E))) (t1_0 : (Nat → Int32)) (hT1 : ws[k1 + 1]? = (some (q (k1 + 1), .inl (g 0, R.toNatClampNeg, .inl t1_0)) : Option (Nat × va_E))) (t2_0 : Int32) (t2_1 : Int32) (hT2 : ws[k2]? = (some (q k2, .inr (2, [.ref (q (k2 + 1)), .int t2_0, .int t2_1])) : Option (Nat × va_E))) (t3_0 : (Nat → Int32)) (hT3 : ws[k2 + 1]? = (some (q (k2 + 1), .inl (g 0, R2.toNatClampNeg, .inl t3_0)) : Option (Nat × va_E))) (t4_0 : Int32) (t4_1 : Int32) (hT4 : ws[k3]? = (some (q k3, .inr (2, [.ref (q (k3 + 1)), .int t4_0, .int t4_1])) : Option (Nat × va_E))) (t5_0 : (Nat → Int32)) (hT5 : ws[k3 + 1]? = (some (q (k3 + 1), .inl (g 0, R3.toNatClampNeg, .inl t5_0)) : Option (Nat × va_E))) (hS : True ∧ S_Big_divideBy R R2 R3 t0_0 t0_1 t1_0 t2_0 t2_1 t3_0 t4_0 t4_1 t5_0) : q_mV l y_Big_divideBy prog_2_method_34_code 7 4 0 0 D g [.ref (q k1), .ref (q k2), .ref (q k3)] ws (fun u => q_I (nsh g q) q u ∧ q_un ws u [k1, k1 + 1, k2, k2 + 1, k3, k3 + 1] ∧ ∃ (u0_0 : Int32) (u0_1 : Int32) (u1_0 : (Nat → Int32)) (u2_0 : Int32) (u2_1 : Int32) (u3_0 : (Nat → Int32)) (u4_0 : Int32) (u4_1 : Int32) (u5_0 : (Nat → Int32)), u[k1]? = (some (q k1, .inr (2, [.ref (q (k1 + 1)), .int u0_0, .int u0_1])) : Option (Nat × va_E)) ∧ u[k1 + 1]? = (some (q (k1 + 1), .inl (g 0, R.toNatClampNeg, .inl u1_0)) : Option (Nat × va_E)) ∧ u[k2]? = (some (q k2, .inr (2, [.ref (q (k2 + 1)), .int u2_0, .int u2_1])) : Option (Nat × va_E)) ∧ u[k2 + 1]? = (some (q (k2 + 1), .inl (g 0, R2.toNatClampNeg, .inl u3_0)) : Option (Nat × va_E)) ∧ u[k3]? = (some (q k3, .inr (2, [.ref (q (k3 + 1)), .int u4_0, .int u4_1])) : Option (Nat × va_E)) ∧ u[k3 + 1]? = (some (q (k3 + 1), .inl (g 0, R3.toNatClampNeg, .inl u5_0)) : Option (Nat × va_E)) ∧ (0 ≤ u4_1.toInt) ∧ (u4_1.toInt ≤ 0) ∧ (u0_0.toInt ≤ R.toInt) ∧ (u0_1.toInt ≤ t0_1.toInt) ∧ (u2_0.toInt ≤ t2_0.toInt + 218) ∧ (u2_0.toInt ≤ R2.toInt) ∧ (u2_1.toInt ≤ t2_1.toInt) ∧ (u4_0.toInt ≤ t2_0.toInt + 219) ∧ (u4_0.toInt ≤ R.toInt + 1) ∧ (u4_0.toInt ≤ R3.toInt) ∧ (u4_1.toInt ≤ u0_0.toInt) ∧ (u4_1.toInt ≤ u0_1.toInt) ∧ (u4_1.toInt ≤ u2_0.toInt) ∧ (u4_1.toInt ≤ u2_1.toInt) ∧ (u4_1.toInt ≤ u4_0.toInt) ∧ (u0_0, u0_1, u1_0, u2_0, u2_1, u3_0, u4_0, u4_1, u5_0) = (F_Big_divideBy R R2 R3 t0_0 t0_1 t1_0 t2_0 t2_1 t3_0 t4_0 t4_1 t5_0)) := by
  intro sz
  refine q_into (by decide) (Nat.le_of_ble_eq_true rfl) ?_
  intro p e s m below meth c ls hsz C0 V hl
  have hx := C0.1
  have hb := C0.2.1
  have hfk10 : q_F (0 ≤ R.toInt ∧ R.toInt ≤ 220) := hB1.2.2
  have hfk20 : q_F (0 ≤ R2.toInt ∧ R2.toInt ≤ 220) := hB2.2.2
  have hfk30 : q_F (0 ≤ R3.toInt ∧ R3.toInt ≤ 220) := hB3.2.2
  obtain ⟨btt0_0, btt0_1⟩ := q_bigW hI hB1 hT0
  replace btt0_0 : q_F (0 ≤ t0_0.toInt ∧ t0_0.toInt ≤ R.toInt) := btt0_0
  replace btt0_1 : q_F (0 ≤ t0_1.toInt ∧ t0_1.toInt ≤ 1) := btt0_1
  obtain ⟨btt2_0, btt2_1⟩ := q_bigW hI hB2 hT2
  replace btt2_0 : q_F (0 ≤ t2_0.toInt ∧ t2_0.toInt ≤ R2.toInt) := btt2_0
  replace btt2_1 : q_F (0 ≤ t2_1.toInt ∧ t2_1.toInt ≤ 1) := btt2_1
  have btt4_1 := (q_bigW hI hB3 hT4).2
  clear btt4_1
  have hF : q_un ws ws [k1, k1 + 1, k2, k2 + 1, k3, k3 + 1] := q_u0
  have hl : lv_has ls 7 [(0, .ref (q k1)), (1, .ref (q k2)), (2, .ref (q k3))] := hl
  refine lv_aload_n hx hb d_2_34_0 rfl (lv_at hl 2 rfl) ?_
  have ne25 := q_df hT1 hT4
  have ne26 := q_df hT3 hT4
  refine q_gov V (q_runV (As := []) (rest := []) (d := 1) (mc := 0) (ms := 0) (ci := 2) C0 V rfl LV_Big_21 (X_Big_clear l D g q ws k3 R3 hB3 zk3  hI t4_0 t4_1 hT4  _) rfl rfl hT4 rfl hl.1 rfl (Nat.le_of_ble_eq_true rfl) ⟨by decide, by decide⟩ ⟨Nat.le_of_ble_eq_true rfl, Nat.le_of_ble_eq_true rfl⟩ d_2_34_1) (fun u27 H locs hp28 V => ?_)
  obtain ⟨hI, hZ9⟩ := hp28
  obtain ⟨hu37, hZ9⟩ := hZ9
  obtain ⟨y30, hZ9⟩ := hZ9
  obtain ⟨y31, hZ9⟩ := hZ9
  obtain ⟨hO29, hZ9⟩ := hZ9
  obtain ⟨b32, hZ9⟩ := hZ9
  obtain ⟨b33, hZ9⟩ := hZ9
  obtain ⟨b34, hZ9⟩ := hZ9
  obtain ⟨b35, hE36⟩ := hZ9
  replace hO29 : u27[k3]? = (some (q k3, .inr (2, [.ref (q (k3 + 1)), .int y30, .int y31])) : Option (Nat × va_E)) := hO29
  have e38 : y30 = (F_Big_clear R3 t4_0 t4_1).1 := congrArg (fun z => z.1) hE36
  have e39 : y31 = (F_Big_clear R3 t4_0 t4_1).2 := congrArg (fun z => z.2) hE36
  replace b32 : q_F (0 ≤ y31.toInt) := b32
  replace b33 : q_F (y31.toInt ≤ 0) := b33
  replace b34 : q_F (y31.toInt ≤ y30.toInt) := b34
  replace b35 : q_F (y30.toInt ≤ y31.toInt) := b35
  replace hT0 := (hu37 _ (q_nc (by have z := ne_k1_k3; omega) List.not_mem_nil)).trans hT0
  replace hT1 := (hu37 _ (q_nc ne25 List.not_mem_nil)).trans hT1
  replace hT2 := (hu37 _ (q_nc (by have z := ne_k2_k3; omega) List.not_mem_nil)).trans hT2
  replace hT3 := (hu37 _ (q_nc ne26 List.not_mem_nil)).trans hT3
  replace hT5 := (hu37 _ (by have z0 := zk3; simp only [List.mem_cons, List.not_mem_nil, or_false, not_or]; omega)).trans hT5
  replace hF := q_uc hF hu37 (by simp)
  refine lv_aload_n hx hb d_2_34_4 rfl (lv_at hl 1 rfl) ?_
  refine q_get (ci := 2) (j := 1) (v := .int t2_0) C0 V i_Big rfl rfl hT2 (by decide) w_85 rfl d_2_34_5 ?_
  refine lv_if_eq (tgt := 19) hx hb d_2_34_8 (by decide) (fun c40 => ?_) (fun c40 => ?_)
  ·
    exact q_retv C0 V (⟨hI, hF, t0_0, t0_1, t1_0, t2_0, t2_1, t3_0, y30, y31, t5_0, hT0, hT1, hT2, hT3, hO29, hT5, (show 0 ≤ y31.toInt from (by first | with_reducible exact q_fe b32 | (have t1 : 0 ≤ y31.toInt := b32; omega))), (show y31.toInt ≤ 0 from (by first | with_reducible exact q_fe b33 | (have t1 : y31.toInt ≤ 0 := b33; omega))), (show t0_0.toInt ≤ R.toInt from (by first | with_reducible exact (q_fe btt0_0).2 | with_reducible exact (q_fe btt0_0).1 | (have t1 : 0 ≤ t0_0.toInt ∧ t0_0.toInt ≤ R.toInt := btt0_0; omega))), (show t0_1.toInt ≤ t0_1.toInt from (by omega)), (show t2_0.toInt ≤ t2_0.toInt + 218 from (by omega)), (show t2_0.toInt ≤ R2.toInt from (by first | with_reducible exact (q_fe btt2_0).2 | with_reducible exact (q_fe btt2_0).1 | (have t1 : 0 ≤ t2_0.toInt ∧ t2_0.toInt ≤ R2.toInt := btt2_0; omega))), (show t2_1.toInt ≤ t2_1.toInt from (by omega)), (show y30.toInt ≤ t2_0.toInt + 219 from (by have t1 : 0 ≤ t2_0.toInt ∧ t2_0.toInt ≤ R2.toInt := btt2_0; have t2 : y31.toInt ≤ 0 := b33; have t3 : y30.toInt ≤ y31.toInt := b35; omega)), (show y30.toInt ≤ R.toInt + 1 from (by have t1 : 0 ≤ R.toInt ∧ R.toInt ≤ 220 := hfk10; have t2 : y31.toInt ≤ 0 := b33; have t3 : y30.toInt ≤ y31.toInt := b35; omega)), (show y30.toInt ≤ R3.toInt from (by have t1 : 0 ≤ R3.toInt ∧ R3.toInt ≤ 220 := hfk30; have t2 : y31.toInt ≤ 0 := b33; have t3 : y30.toInt ≤ y31.toInt := b35; omega)), (show y31.toInt ≤ t0_0.toInt from (by have t1 : 0 ≤ t0_0.toInt ∧ t0_0.toInt ≤ R.toInt := btt0_0; have t2 : y31.toInt ≤ 0 := b33; omega)), (show y31.toInt ≤ t0_1.toInt from (by have t1 : 0 ≤ t0_1.toInt ∧ t0_1.toInt ≤ 1 := btt0_1; have t2 : y31.toInt ≤ 0 := b33; omega)), (show y31.toInt ≤ t2_0.toInt from (by have t1 : 0 ≤ t2_0.toInt ∧ t2_0.toInt ≤ R2.toInt := btt2_0; have t2 : y31.toInt ≤ 0 := b33; omega)), (show y31.toInt ≤ t2_1.toInt from (by have t1 : 0 ≤ t2_1.toInt ∧ t2_1.toInt ≤ 1 := btt2_1; have t2 : y31.toInt ≤ 0 := b33; omega)), (show y31.toInt ≤ y30.toInt from (by first | with_reducible exact q_fe b34 | (have t1 : y31.toInt ≤ y30.toInt := b34; omega))), (show (t0_0, t0_1, t1_0, t2_0, t2_1, t3_0, y30, y31, t5_0) = (F_Big_divideBy R R2 R3 t0_0 t0_1 t1_0 t2_0 t2_1 t3_0 t4_0 t4_1 t5_0) from (by rw [e39, e38, F_Big_divideBy.eq_1, if_pos c40]))⟩) d_2_34_19
  ·
    have b42 : q_F (t2_0.toInt ≠ 0) := (q_neI c40)
    refine lv_aload_n hx hb d_2_34_11 rfl (lv_at hl 0 rfl) ?_
    refine lv_aload_n hx hb d_2_34_12 rfl (lv_at hl 1 rfl) ?_
    refine q_goi V (q_runV (As := [.ref (q k2)]) (rest := []) (d := 2) (mc := 0) (ms := 0) (ci := 2) C0 V rfl LV_Big_78 (X_Big_compareSize l D g q u27 k1 R hB1 zk1 k2 R2 hB2 zk2  hI t0_0 t0_1 hT0 t1_0 hT1 t2_0 t2_1 hT2 t3_0 hT3  _) rfl rfl hT0 rfl hl.1 rfl (Nat.le_of_ble_eq_true rfl) ⟨by decide, by decide⟩ ⟨Nat.le_of_ble_eq_true rfl, Nat.le_of_ble_eq_true rfl⟩ d_2_34_13) (fun a45 u43 H locs hp44 V => ?_)
    obtain ⟨rfl, b46, b47, hE48⟩ := hp44
    have e49 : a45 = (F_Big_compareSize R R2 t0_0 t0_1 t1_0 t2_0 t2_1 t3_0) := hE48
    clear b46
    clear b47
    refine lv_if_ge (tgt := 20) hx hb d_2_34_16 (by decide) (fun c50 => ?_) (fun c50 => ?_)
    ·
      refine lv_aload_n hx hb d_2_34_20 rfl (lv_at hl 1 rfl) ?_
      refine q_get (ci := 2) (j := 1) (v := .int t2_0) C0 V i_Big rfl rfl hT2 (by decide) w_85 rfl d_2_34_21 ?_
      refine lv_iconst (v := 1) hx hb d_2_34_24 (by decide) ?_
      refine lv_icmp_ne (tgt := 40) hx hb d_2_34_25 (by decide) (fun c52 => ?_) (fun c52 => ?_)
      ·
        have b53 : q_F (t2_0.toInt ≠ 1) := (q_neI c52)
        refine lv_bipush (v := 31) hx hb d_2_34_40 (by decide) ?_
        refine lv_aload_n hx hb d_2_34_42 rfl (lv_at hl 1 rfl) ?_
        refine q_get (ci := 2) (j := 0) (v := .ref (q (k2 + 1))) C0 V i_Big rfl rfl hT2 (by decide) w_84 rfl d_2_34_43 ?_
        refine lv_aload_n hx hb d_2_34_46 rfl (lv_at hl 1 rfl) ?_
        refine q_get (ci := 2) (j := 1) (v := .int t2_0) C0 V i_Big rfl rfl hT2 (by decide) w_85 rfl d_2_34_47 ?_
        refine lv_iconst (v := 1) hx hb d_2_34_50 (by decide) ?_
        refine lv_isub hx hb d_2_34_51 ?_
        obtain ⟨a54, e55⟩ := q_nm (t2_0 - 1 : Int32)
        refine q_ti (v := a54) e55 ?_
        have b56 : q_F (a54.toInt = t2_0.toInt - 1) := (by rw [← e55]; show (t2_0 - 1 : Int32).toInt = t2_0.toInt - 1; exact q_subI (x := t2_0.toInt) (y := 1) rfl (by decide) (by have t1 : 0 ≤ t2_0.toInt ∧ t2_0.toInt ≤ R2.toInt := btt2_0; have _ := q_lo32 (x := R2); have _ := q_hi32 (x := R2); omega) (by have t1 : 0 ≤ t2_0.toInt ∧ t2_0.toInt ≤ R2.toInt := btt2_0; have _ := q_lo32 (x := R2); have _ := q_hi32 (x := R2); omega))
        refine q_iald C0 V hT3 (q_ix (x := a54.toInt) rfl (by have t1 : 0 ≤ t2_0.toInt ∧ t2_0.toInt ≤ R2.toInt := btt2_0; have t2 : t2_0.toInt ≠ 0 := b42; have t3 : a54.toInt = t2_0.toInt - 1 := b56; omega) (by have t1 : 0 ≤ t2_0.toInt ∧ t2_0.toInt ≤ R2.toInt := btt2_0; have t2 : t2_0.toInt ≠ 0 := b42; have t3 : a54.toInt = t2_0.toInt - 1 := b56; have e9 := q_clI (i := R2) rfl (by first | with_reducible exact (q_fe hfk20).2 | with_reducible exact (q_fe hfk20).1 | (have t1 : 0 ≤ R2.toInt ∧ R2.toInt ≤ 220 := hfk20; omega)); omega)) d_2_34_52 ?_
        obtain ⟨a57, e58⟩ := q_nm (t3_0 a54.toNatClampNeg : Int32)
        refine q_ti (v := a57) e58 ?_
        refine q_goi V (q_runS (As := [.int a57]) (rest := [.int 31]) (d := 2) (mc := 0) (ms := 0) C0 V rfl LS_Big_57 (X_Big_bitsOf l D g q u27  a57 hI   _) rfl hl.1 rfl (Nat.le_of_ble_eq_true rfl) ⟨by decide, by decide⟩ ⟨Nat.le_of_ble_eq_true rfl, Nat.le_of_ble_eq_true rfl⟩ d_2_34_53) (fun a61 u59 H locs hp60 V => ?_)
        obtain ⟨rfl, b62, b63, hE64⟩ := hp60
        have e65 : a61 = (F_Big_bitsOf a57) := hE64
        clear b62
        clear b63
        refine lv_isub hx hb d_2_34_56 ?_
        obtain ⟨a66, e67⟩ := q_nm (31 - a61 : Int32)
        refine q_ti (v := a66) e67 ?_
        refine lv_istore_n (lv' := [(3, .int a66), (0, .ref (q k1)), (1, .ref (q k2)), (2, .ref (q k3))]) hx hb d_2_34_57 rfl hl (by decide) rfl (fun ls hl => ?_)
        refine lv_aload_n hx hb d_2_34_58 rfl (lv_at hl 2 rfl) ?_
        refine lv_iload_n hx hb d_2_34_59 rfl (lv_at hl 0 rfl) ?_
        have ne69 := q_df hT1 hT2
        have ne70 := q_df hT5 hT2
        have ne71 := q_df hT3 hT0
        have ne72 := q_df hT3 hO29
        refine q_gov V (q_runV (As := [.int a66]) (rest := []) (d := 3) (mc := 0) (ms := 0) (ci := 2) C0 V rfl LV_Big_118 (X_Big_shiftLeft l D g q u27 k2 R2 hB2 zk2 a66 hI t2_0 t2_1 hT2 t3_0 hT3  _) rfl rfl hT2 rfl hl.1 rfl (Nat.le_of_ble_eq_true rfl) ⟨by decide, by decide⟩ ⟨Nat.le_of_ble_eq_true rfl, Nat.le_of_ble_eq_true rfl⟩ d_2_34_60) (fun u73 H locs hp74 V => ?_)
        obtain ⟨hI, hZ9⟩ := hp74
        obtain ⟨hu86, hZ9⟩ := hZ9
        obtain ⟨y76, hZ9⟩ := hZ9
        obtain ⟨y77, hZ9⟩ := hZ9
        obtain ⟨f78, hZ9⟩ := hZ9
        obtain ⟨hO75, hZ9⟩ := hZ9
        obtain ⟨hA79, hZ9⟩ := hZ9
        obtain ⟨b80, hZ9⟩ := hZ9
        replace hZ9 := hZ9.2.2
        obtain ⟨b83, hZ9⟩ := hZ9
        obtain ⟨b84, hE85⟩ := hZ9
        replace hO75 : u73[k2]? = (some (q k2, .inr (2, [.ref (q (k2 + 1)), .int y76, .int y77])) : Option (Nat × va_E)) := hO75
        replace hA79 : u73[k2 + 1]? = (some (q (k2 + 1), .inl (g 0, R2.toNatClampNeg, .inl f78)) : Option (Nat × va_E)) := hA79
        have e87 : y76 = (F_Big_shiftLeft R2 a66 t2_0 t2_1 t3_0).1 := congrArg (fun z => z.1) hE85
        have e88 : y77 = (F_Big_shiftLeft R2 a66 t2_0 t2_1 t3_0).2.1 := congrArg (fun z => z.2.1) hE85
        have e89 : f78 = (F_Big_shiftLeft R2 a66 t2_0 t2_1 t3_0).2.2 := congrArg (fun z => z.2.2) hE85
        replace b80 : q_F (0 ≤ y76.toInt) := b80
        replace b83 : q_F (y76.toInt ≤ R2.toInt) := b83
        replace b84 : q_F (y77.toInt ≤ t2_1.toInt) := b84
        replace hT0 := (hu86 _ (q_nc (by have z := ne_k1_k2; omega) (q_nc (Ne.symm ne71) List.not_mem_nil))).trans hT0
        replace hT1 := (hu86 _ (q_nc ne69 (q_nc (by have z := ne_k1_k2; omega) List.not_mem_nil))).trans hT1
        replace hO29 := (hu86 _ (q_nc (by have z := ne_k2_k3; omega) (q_nc (Ne.symm ne72) List.not_mem_nil))).trans hO29
        replace hT5 := (hu86 _ (q_nc ne70 (q_nc (by have z := ne_k2_k3; omega) List.not_mem_nil))).trans hT5
        replace hF := q_uc hF hu86 (by simp)
        refine lv_aload_n hx hb d_2_34_63 rfl (lv_at hl 1 rfl) ?_
        refine lv_iload_n hx hb d_2_34_64 rfl (lv_at hl 0 rfl) ?_
        have ne90 := q_df hA79 hT0
        have ne91 := q_df hT5 hT0
        have ne92 := q_df hT1 hO75
        have ne93 := q_df hT1 hO29
        refine q_gov V (q_runV (As := [.int a66]) (rest := []) (d := 3) (mc := 0) (ms := 0) (ci := 2) C0 V rfl LV_Big_118 (X_Big_shiftLeft l D g q u73 k1 R hB1 zk1 a66 hI t0_0 t0_1 hT0 t1_0 hT1  _) rfl rfl hT0 rfl hl.1 rfl (Nat.le_of_ble_eq_true rfl) ⟨by decide, by decide⟩ ⟨Nat.le_of_ble_eq_true rfl, Nat.le_of_ble_eq_true rfl⟩ d_2_34_65) (fun u94 H locs hp95 V => ?_)
        obtain ⟨hI, hZ9⟩ := hp95
        obtain ⟨hu107, hZ9⟩ := hZ9
        obtain ⟨y97, hZ9⟩ := hZ9
        obtain ⟨y98, hZ9⟩ := hZ9
        obtain ⟨f99, hZ9⟩ := hZ9
        obtain ⟨hO96, hZ9⟩ := hZ9
        obtain ⟨hA100, hZ9⟩ := hZ9
        obtain ⟨b101, hZ9⟩ := hZ9
        replace hZ9 := hZ9.2
        obtain ⟨b103, hZ9⟩ := hZ9
        obtain ⟨b104, hZ9⟩ := hZ9
        obtain ⟨b105, hE106⟩ := hZ9
        replace hO96 : u94[k1]? = (some (q k1, .inr (2, [.ref (q (k1 + 1)), .int y97, .int y98])) : Option (Nat × va_E)) := hO96
        replace hA100 : u94[k1 + 1]? = (some (q (k1 + 1), .inl (g 0, R.toNatClampNeg, .inl f99)) : Option (Nat × va_E)) := hA100
        have e108 : y97 = (F_Big_shiftLeft R a66 t0_0 t0_1 t1_0).1 := congrArg (fun z => z.1) hE106
        have e109 : y98 = (F_Big_shiftLeft R a66 t0_0 t0_1 t1_0).2.1 := congrArg (fun z => z.2.1) hE106
        have e110 : f99 = (F_Big_shiftLeft R a66 t0_0 t0_1 t1_0).2.2 := congrArg (fun z => z.2.2) hE106
        replace b101 : q_F (0 ≤ y97.toInt) := b101
        replace b103 : q_F (y97.toInt ≤ t0_0.toInt + 219) := b103
        replace b104 : q_F (y97.toInt ≤ R.toInt) := b104
        replace b105 : q_F (y98.toInt ≤ t0_1.toInt) := b105
        replace hO75 := (hu107 _ (q_nc (by have z := ne_k1_k2; omega) (q_nc (Ne.symm ne92) List.not_mem_nil))).trans hO75
        replace hA79 := (hu107 _ (q_nc ne90 (q_nc (by have z := ne_k1_k2; omega) List.not_mem_nil))).trans hA79
        replace hO29 := (hu107 _ (q_nc (by have z := ne_k1_k3; omega) (q_nc (Ne.symm ne93) List.not_mem_nil))).trans hO29
        replace hT5 := (hu107 _ (q_nc ne91 (q_nc (by have z := ne_k1_k3; omega) List.not_mem_nil))).trans hT5
        replace hF := q_uc hF hu107 (by simp)
        refine lv_aload_n hx hb d_2_34_68 rfl (lv_at hl 1 rfl) ?_
        refine q_get (ci := 2) (j := 1) (v := .int y97) C0 V i_Big rfl rfl hO96 (by decide) w_85 rfl d_2_34_69 ?_
        refine lv_aload_n hx hb d_2_34_72 rfl (lv_at hl 2 rfl) ?_
        refine q_get (ci := 2) (j := 1) (v := .int y76) C0 V i_Big rfl rfl hO75 (by decide) w_85 rfl d_2_34_73 ?_
        refine lv_isub hx hb d_2_34_76 ?_
        obtain ⟨a111, e112⟩ := q_nm (y97 - y76 : Int32)
        refine q_ti (v := a111) e112 ?_
        have b113 : q_F (a111.toInt = y97.toInt - y76.toInt) := (by rw [← e112]; show (y97 - y76 : Int32).toInt = y97.toInt - y76.toInt; exact q_subI (x := y97.toInt) (y := y76.toInt) rfl rfl (by have t1 : y76.toInt ≤ R2.toInt := b83; have t2 : 0 ≤ y97.toInt := b101; have _ := q_lo32 (x := R2); have _ := q_hi32 (x := R2); have t3 : 0 ≤ y76.toInt := b80; have t4 : y97.toInt ≤ R.toInt := b104; have _ := q_lo32 (x := R); have _ := q_hi32 (x := R); omega) (by have t1 : y76.toInt ≤ R2.toInt := b83; have t2 : 0 ≤ y97.toInt := b101; have _ := q_lo32 (x := R2); have _ := q_hi32 (x := R2); have t3 : 0 ≤ y76.toInt := b80; have t4 : y97.toInt ≤ R.toInt := b104; have _ := q_lo32 (x := R); have _ := q_hi32 (x := R); omega))
        refine lv_iconst (v := 1) hx hb d_2_34_77 (by decide) ?_
        refine lv_iadd hx hb d_2_34_78 ?_
        obtain ⟨a114, e115⟩ := q_nm (a111 + 1 : Int32)
        refine q_ti (v := a114) e115 ?_
        have b116 : q_F (a114.toInt = a111.toInt + 1) := (by rw [← e115]; show (a111 + 1 : Int32).toInt = a111.toInt + 1; exact q_addI (x := a111.toInt) (y := 1) rfl (by decide) (by have _ := q_lo32 (x := a111); have _ := q_hi32 (x := a111); have t1 : 0 ≤ R.toInt ∧ R.toInt ≤ 220 := hfk10; have t2 : 0 ≤ t0_0.toInt ∧ t0_0.toInt ≤ R.toInt := btt0_0; have t3 : 0 ≤ y76.toInt := b80; have t4 : y97.toInt ≤ t0_0.toInt + 219 := b103; have t5 : a111.toInt = y97.toInt - y76.toInt := b113; omega) (by have _ := q_lo32 (x := a111); have _ := q_hi32 (x := a111); have t1 : 0 ≤ R.toInt ∧ R.toInt ≤ 220 := hfk10; have t2 : 0 ≤ t0_0.toInt ∧ t0_0.toInt ≤ R.toInt := btt0_0; have t3 : 0 ≤ y76.toInt := b80; have t4 : y97.toInt ≤ t0_0.toInt + 219 := b103; have t5 : a111.toInt = y97.toInt - y76.toInt := b113; omega))
        refine lv_istore (lv' := [(4, .int a114), (3, .int a66), (0, .ref (q k1)), (1, .ref (q k2)), (2, .ref (q k3))]) hx hb d_2_34_79 hl (by decide) rfl (fun ls hl => ?_)
        refine lv_aload_n hx hb d_2_34_81 rfl (lv_at hl 2 rfl) ?_
        refine lv_iconst (v := 0) hx hb d_2_34_82 (by decide) ?_
        have ne117 := q_df hA79 hO96
        have ne118 := q_df hT5 hO96
        have ne119 := q_df hA100 hO75
        have ne120 := q_df hA100 hO29
        refine q_gov V (q_runV (As := [.int 0]) (rest := []) (d := 1) (mc := 0) (ms := 0) (ci := 2) C0 V rfl LV_Big_32 (X_Big_push l D g q u94 k1 R hB1 zk1 0 hI y97 y98 hO96 f99 hA100  _) rfl rfl hO96 rfl hl.1 rfl (Nat.le_of_ble_eq_true rfl) ⟨by decide, by decide⟩ ⟨Nat.le_of_ble_eq_true rfl, Nat.le_of_ble_eq_true rfl⟩ d_2_34_83) (fun u121 H locs hp122 V => ?_)
        obtain ⟨hI, hZ9⟩ := hp122
        obtain ⟨hu135, hZ9⟩ := hZ9
        obtain ⟨y124, hZ9⟩ := hZ9
        obtain ⟨y125, hZ9⟩ := hZ9
        obtain ⟨f126, hZ9⟩ := hZ9
        obtain ⟨hO123, hZ9⟩ := hZ9
        obtain ⟨hA127, hZ9⟩ := hZ9
        replace hZ9 := hZ9.2.2.2
        obtain ⟨b131, hZ9⟩ := hZ9
        replace hZ9 := hZ9.2
        obtain ⟨b133, hE134⟩ := hZ9
        replace hO123 : u121[k1]? = (some (q k1, .inr (2, [.ref (q (k1 + 1)), .int y124, .int y125])) : Option (Nat × va_E)) := hO123
        replace hA127 : u121[k1 + 1]? = (some (q (k1 + 1), .inl (g 0, R.toNatClampNeg, .inl f126)) : Option (Nat × va_E)) := hA127
        have e136 : y124 = (F_Big_push R (0 : Int32) y97 y98 f99).1 := congrArg (fun z => z.1) hE134
        have e137 : y125 = (F_Big_push R (0 : Int32) y97 y98 f99).2.1 := congrArg (fun z => z.2.1) hE134
        have e138 : f126 = (F_Big_push R (0 : Int32) y97 y98 f99).2.2 := congrArg (fun z => z.2.2) hE134
        replace b131 : q_F (y124.toInt ≤ R.toInt) := b131
        replace b133 : q_F (y125.toInt ≤ y98.toInt) := b133
        replace hO75 := (hu135 _ (q_nc (by have z := ne_k1_k2; omega) (q_nc (Ne.symm ne119) List.not_mem_nil))).trans hO75
        replace hA79 := (hu135 _ (q_nc ne117 (q_nc (by have z := ne_k1_k2; omega) List.not_mem_nil))).trans hA79
        replace hO29 := (hu135 _ (q_nc (by have z := ne_k1_k3; omega) (q_nc (Ne.symm ne120) List.not_mem_nil))).trans hO29
        replace hT5 := (hu135 _ (q_nc ne118 (q_nc (by have z := ne_k1_k3; omega) List.not_mem_nil))).trans hT5
        replace hF := q_uc hF hu135 (by simp)
        refine lv_iload hx hb d_2_34_86 (lv_at hl 0 rfl) ?_
        refine lv_iconst (v := 1) hx hb d_2_34_88 (by decide) ?_
        refine lv_isub hx hb d_2_34_89 ?_
        obtain ⟨a139, e140⟩ := q_nm (a114 - 1 : Int32)
        refine q_ti (v := a139) e140 ?_
        have b141 : q_F (a139.toInt = a114.toInt - 1) := (by rw [← e140]; show (a114 - 1 : Int32).toInt = a114.toInt - 1; exact q_subI (x := a114.toInt) (y := 1) rfl (by decide) (by have t1 : a114.toInt = a111.toInt + 1 := b116; have _ := q_lo32 (x := a111); have _ := q_hi32 (x := a111); omega) (by have t1 : a114.toInt = a111.toInt + 1 := b116; have _ := q_lo32 (x := a111); have _ := q_hi32 (x := a111); omega))
        refine lv_istore (lv' := [(5, .int a139), (4, .int a114), (3, .int a66), (0, .ref (q k1)), (1, .ref (q k2)), (2, .ref (q k3))]) hx hb d_2_34_90 hl (by decide) rfl (fun ls hl => ?_)
        refine q_loop (X := Int32 × (Nat → Int32) × (Nat → Int32)) (fun z H locs ls w149 => q_F (z.1.toInt + 1 ≤ a114.toInt) ∧ q_F (R2.toInt ≤ z.1.toInt + 440) ∧ q_Wd D g (va_A ws sz) s w149 H locs ∧ lv_has ls 7 [(5, .int z.1), (4, .int a114), (3, .int a66), (0, .ref (q k1)), (1, .ref (q k2)), (2, .ref (q k3))] ∧ q_I (nsh g q) q w149 ∧ q_un ws w149 [k1, k1 + 1, k2, k2 + 1, k3, k3 + 1] ∧ w149[k1]? = (some (q k1, .inr (2, [.ref (q (k1 + 1)), .int y124, .int y125])) : Option (Nat × va_E)) ∧ w149[k1 + 1]? = (some (q (k1 + 1), .inl (g 0, R.toNatClampNeg, .inl z.2.1)) : Option (Nat × va_E)) ∧ w149[k2]? = (some (q k2, .inr (2, [.ref (q (k2 + 1)), .int y76, .int y77])) : Option (Nat × va_E)) ∧ w149[k2 + 1]? = (some (q (k2 + 1), .inl (g 0, R2.toNatClampNeg, .inl f78)) : Option (Nat × va_E)) ∧ w149[k3]? = (some (q k3, .inr (2, [.ref (q (k3 + 1)), .int y30, .int y31])) : Option (Nat × va_E)) ∧ w149[k3 + 1]? = (some (q (k3 + 1), .inl (g 0, R3.toNatClampNeg, .inl z.2.2)) : Option (Nat × va_E)) ∧ (∃ n, (z.1.toInt - ((-220))).toNat < n ∧ F_Big_divideBy_L92 R R2 R3 t0_0 t0_1 t1_0 t2_0 t2_1 t3_0 t4_0 t4_1 t5_0 a114 a66 y124 y125 y76 y77 f78 y30 y31 n z.1 z.2.1 z.2.2 = (F_Big_divideBy R R2 R3 t0_0 t0_1 t1_0 t2_0 t2_1 t3_0 t4_0 t4_1 t5_0) ∧ True ∧ S_Big_divideBy_L92 R R2 R3 t0_0 t0_1 t1_0 t2_0 t2_1 t3_0 t4_0 t4_1 t5_0 a114 a66 y124 y125 y76 y77 f78 y30 y31 n z.1 z.2.1 z.2.2)) (fun z => (z.1.toInt - ((-220))).toNat) ?_ ((a139 : Int32), (f126 : (Nat → Int32)), (t5_0 : (Nat → Int32))) _ _ _ u121 ⟨(show q_F (a139.toInt + 1 ≤ a114.toInt) from (show a139.toInt + 1 ≤ a114.toInt from by have t1 : a139.toInt = a114.toInt - 1 := b141; omega)), (show q_F (R2.toInt ≤ a139.toInt + 440) from (show R2.toInt ≤ a139.toInt + 440 from by have t1 : 0 ≤ R2.toInt ∧ R2.toInt ≤ 220 := hfk20; have t2 : y76.toInt ≤ R2.toInt := b83; have t3 : 0 ≤ y97.toInt := b101; have t4 : a111.toInt = y97.toInt - y76.toInt := b113; have t5 : a114.toInt = a111.toInt + 1 := b116; have t6 : a139.toInt = a114.toInt - 1 := b141; omega)), V, q_lw hl (q_lw1 0 rfl (q_lw1 1 rfl (q_lw1 2 rfl (q_lw1 3 rfl (q_lw1 4 rfl (q_lw1 5 rfl q_lw0)))))), hI, hF, hO123, hA127, hO75, hA79, hO29, hT5, ⟨((a139.toInt - ((-220))).toNat + 1), Nat.lt_succ_self _, (show F_Big_divideBy_L92 R R2 R3 t0_0 t0_1 t1_0 t2_0 t2_1 t3_0 t4_0 t4_1 t5_0 a114 a66 y124 y125 y76 y77 f78 y30 y31 ((a139.toInt - ((-220))).toNat + 1) a139 f126 t5_0 = (F_Big_divideBy R R2 R3 t0_0 t0_1 t1_0 t2_0 t2_1 t3_0 t4_0 t4_1 t5_0) from (by have c50x := c50; rw [e49] at c50x; rw [← e140, e138, e137, e136, ← e115, ← e112, e110, e109, e108, e89, e88, e87, ← e67, e65, ← e58, ← e55, e39, e38, F_Big_divideBy.eq_1, if_neg c40, if_pos c50x, if_neg c52])), (show True ∧ S_Big_divideBy_L92 R R2 R3 t0_0 t0_1 t1_0 t2_0 t2_1 t3_0 t4_0 t4_1 t5_0 a114 a66 y124 y125 y76 y77 f78 y30 y31 ((a139.toInt - ((-220))).toNat + 1) a139 f126 t5_0 from (by rw [← e140, e138, e137, e136, ← e115, ← e112, e110, e109, e108, e89, e88, e87, ← e67, e65, ← e58, ← e55, e39, e38]; have h := hS; rw [S_Big_divideBy.eq_1] at h; rw [if_neg c40] at h; have c50x := c50; rw [e49] at c50x; rw [if_pos c50x] at h; rw [if_neg c52] at h; with_reducible exact h))⟩⟩
        rintro ⟨lx143, lx144, lx145⟩ H locs ls w149 ⟨i146, i147, V, hl, hI, hF, hO150, hO151, hO152, hO153, hO154, hO155, ⟨fu158, hf159, hR156, hS157⟩⟩ ih148
        obtain ⟨fm160, rfl⟩ : ∃ m, fu158 = m + 1 := ⟨fu158 - 1, by omega⟩
        replace i146 : q_F (lx143.toInt + 1 ≤ a114.toInt) := i146
        clear i147
        replace hl : lv_has ls 7 [(5, .int lx143), (4, .int a114), (3, .int a66), (0, .ref (q k1)), (1, .ref (q k2)), (2, .ref (q k3))] := hl
        replace hO150 : w149[k1]? = (some (q k1, .inr (2, [.ref (q (k1 + 1)), .int y124, .int y125])) : Option (Nat × va_E)) := hO150
        replace hO151 : w149[k1 + 1]? = (some (q (k1 + 1), .inl (g 0, R.toNatClampNeg, .inl lx144)) : Option (Nat × va_E)) := hO151
        replace hO152 : w149[k2]? = (some (q k2, .inr (2, [.ref (q (k2 + 1)), .int y76, .int y77])) : Option (Nat × va_E)) := hO152
        replace hO153 : w149[k2 + 1]? = (some (q (k2 + 1), .inl (g 0, R2.toNatClampNeg, .inl f78)) : Option (Nat × va_E)) := hO153
        replace hO154 : w149[k3]? = (some (q k3, .inr (2, [.ref (q (k3 + 1)), .int y30, .int y31])) : Option (Nat × va_E)) := hO154
        replace hO155 : w149[k3 + 1]? = (some (q (k3 + 1), .inl (g 0, R3.toNatClampNeg, .inl lx145)) : Option (Nat × va_E)) := hO155
        refine lv_iload hx hb d_2_34_92 (lv_at hl 0 rfl) ?_
        refine lv_if_lt (tgt := 131) hx hb d_2_34_94 (by decide) (fun c161 => ?_) (fun c161 => ?_)
        ·
          refine lv_aload_n hx hb d_2_34_131 rfl (lv_at hl 5 rfl) ?_
          refine lv_iload hx hb d_2_34_132 (lv_at hl 1 rfl) ?_
          refine lv_aload_n hx hb d_2_34_134 rfl (lv_at hl 5 rfl) ?_
          refine q_get (ci := 2) (j := 0) (v := .ref (q (k3 + 1))) C0 V i_Big rfl rfl hO154 (by decide) w_84 rfl d_2_34_135 ?_
          refine q_alen (t := 0) (v := R3) C0 V hO155 rfl (s_len (by first | with_reducible exact (q_fe hfk30).2 | with_reducible exact (q_fe hfk30).1 | (have t1 : 0 ≤ R3.toInt ∧ R3.toInt ≤ 220 := hfk30; omega))) d_2_34_138 ?_
          refine q_min C0 hl.1 rfl w_773 w_774 w_7 w_775 ⟨Nat.le_of_ble_eq_true rfl, Nat.le_of_ble_eq_true rfl⟩ ⟨Nat.le_of_ble_eq_true rfl, Nat.le_of_ble_eq_true rfl⟩ d_2_34_139 ?_
          obtain ⟨a163, e164⟩ := q_nm (if R3 < a114 then R3 else a114 : Int32)
          refine q_ti (v := a163) e164 ?_
          have b165 : q_F (a163.toInt ≤ a114.toInt ∧ a163.toInt ≤ R3.toInt ∧ (a163.toInt = a114.toInt ∨ a163.toInt = R3.toInt)) := (by rw [← e164]; show (if R3 < a114 then R3 else a114 : Int32).toInt ≤ a114.toInt ∧ (if R3 < a114 then R3 else a114 : Int32).toInt ≤ R3.toInt ∧ ((if R3 < a114 then R3 else a114 : Int32).toInt = a114.toInt ∨ (if R3 < a114 then R3 else a114 : Int32).toInt = R3.toInt); exact s_min (a := a114) (b := R3))
          have ne168 := q_df hO151 hO154
          have ne169 := q_df hO153 hO154
          refine q_put (ci := 2) (j := 1) (v := .int a163) (ty := .int) C0 V i_Big o_Big n_Big rfl rfl hO154 (by decide) w_85 rfl rfl rfl rfl (Nat.le_of_ble_eq_true rfl) d_2_34_142 (fun H locs w166 hu167 hO154 V => ?_)
          replace hO154 : w166[k3]? = (some (q k3, .inr (2, [.ref (q (k3 + 1)), .int a163, .int y31])) : Option (Nat × va_E)) := hO154
          have ob170 : q_F (0 ≤ a163.toInt) := (by rw [← e164]; have h := hS157; rw [S_Big_divideBy_L92.eq_2] at h; rw [if_pos c161] at h; exact h.2.1)
          replace hI := q_bigO' hI hB3 hu167 hO154 ⟨(by first | with_reducible exact q_fe ob170 | (have t1 : 0 ≤ a163.toInt := ob170; omega)), (by have t1 : a163.toInt ≤ a114.toInt ∧ a163.toInt ≤ R3.toInt ∧ (a163.toInt = a114.toInt ∨ a163.toInt = R3.toInt) := b165; omega)⟩ ⟨(by first | with_reducible exact q_fe b32 | (have t1 : 0 ≤ y31.toInt := b32; omega)), (by first | with_reducible exact q_fe b33 | (have t1 : y31.toInt ≤ 0 := b33; omega))⟩
          replace hO150 := (hu167 _ (by have z := ne_k1_k3; omega)).trans hO150
          replace hO151 := (hu167 _ ne168).trans hO151
          replace hO152 := (hu167 _ (by have z := ne_k2_k3; omega)).trans hO152
          replace hO153 := (hu167 _ ne169).trans hO153
          replace hO155 := (hu167 _ (by omega)).trans hO155
          replace hF := q_us hF hu167 (by simp)
          refine lv_aload_n hx hb d_2_34_145 rfl (lv_at hl 5 rfl) ?_
          have ne171 := q_df hO151 hO154
          have ne172 := q_df hO153 hO154
          refine q_gov V (q_runV (As := []) (rest := []) (d := 1) (mc := 0) (ms := 0) (ci := 2) C0 V rfl LV_Big_36 (X_Big_trim l D g q w166 k3 R3 hB3 zk3  hI a163 y31 hO154 lx145 hO155  _) rfl rfl hO154 rfl hl.1 rfl (Nat.le_of_ble_eq_true rfl) ⟨by decide, by decide⟩ ⟨Nat.le_of_ble_eq_true rfl, Nat.le_of_ble_eq_true rfl⟩ d_2_34_146) (fun u173 H locs hp174 V => ?_)
          obtain ⟨hI, hZ9⟩ := hp174
          obtain ⟨hu183, hZ9⟩ := hZ9
          obtain ⟨y176, hZ9⟩ := hZ9
          obtain ⟨y177, hZ9⟩ := hZ9
          obtain ⟨hO175, hZ9⟩ := hZ9
          obtain ⟨b178, hZ9⟩ := hZ9
          obtain ⟨b179, hZ9⟩ := hZ9
          obtain ⟨b180, hZ9⟩ := hZ9
          obtain ⟨b181, hE182⟩ := hZ9
          replace hO175 : u173[k3]? = (some (q k3, .inr (2, [.ref (q (k3 + 1)), .int y176, .int y177])) : Option (Nat × va_E)) := hO175
          have e184 : y176 = (F_Big_trim R3 a163 y31 lx145).1 := congrArg (fun z => z.1) hE182
          have e185 : y177 = (F_Big_trim R3 a163 y31 lx145).2 := congrArg (fun z => z.2) hE182
          replace b178 : q_F (0 ≤ y177.toInt) := b178
          replace b179 : q_F (y176.toInt ≤ a163.toInt) := b179
          replace b180 : q_F (y177.toInt ≤ y31.toInt) := b180
          replace b181 : q_F (y177.toInt ≤ y176.toInt) := b181
          replace hO150 := (hu183 _ (q_nc (by have z := ne_k1_k3; omega) List.not_mem_nil)).trans hO150
          replace hO151 := (hu183 _ (q_nc ne171 List.not_mem_nil)).trans hO151
          replace hO152 := (hu183 _ (q_nc (by have z := ne_k2_k3; omega) List.not_mem_nil)).trans hO152
          replace hO153 := (hu183 _ (q_nc ne172 List.not_mem_nil)).trans hO153
          replace hO155 := (hu183 _ (by have z0 := zk3; simp only [List.mem_cons, List.not_mem_nil, or_false, not_or]; omega)).trans hO155
          replace hF := q_uc hF hu183 (by simp)
          refine lv_aload_n hx hb d_2_34_149 rfl (lv_at hl 3 rfl) ?_
          have ne186 := q_df hO153 hO150
          have ne187 := q_df hO155 hO150
          refine q_gov V (q_runV (As := []) (rest := []) (d := 1) (mc := 0) (ms := 0) (ci := 2) C0 V rfl LV_Big_36 (X_Big_trim l D g q u173 k1 R hB1 zk1  hI y124 y125 hO150 lx144 hO151  _) rfl rfl hO150 rfl hl.1 rfl (Nat.le_of_ble_eq_true rfl) ⟨by decide, by decide⟩ ⟨Nat.le_of_ble_eq_true rfl, Nat.le_of_ble_eq_true rfl⟩ d_2_34_150) (fun u188 H locs hp189 V => ?_)
          obtain ⟨hI, hZ9⟩ := hp189
          obtain ⟨hu198, hZ9⟩ := hZ9
          obtain ⟨y191, hZ9⟩ := hZ9
          obtain ⟨y192, hZ9⟩ := hZ9
          obtain ⟨hO190, hZ9⟩ := hZ9
          replace hZ9 := hZ9.2
          obtain ⟨b194, hZ9⟩ := hZ9
          obtain ⟨b195, hZ9⟩ := hZ9
          obtain ⟨-, hE197⟩ := hZ9
          replace hO190 : u188[k1]? = (some (q k1, .inr (2, [.ref (q (k1 + 1)), .int y191, .int y192])) : Option (Nat × va_E)) := hO190
          have e199 : y191 = (F_Big_trim R y124 y125 lx144).1 := congrArg (fun z => z.1) hE197
          have e200 : y192 = (F_Big_trim R y124 y125 lx144).2 := congrArg (fun z => z.2) hE197
          replace b194 : q_F (y191.toInt ≤ y124.toInt) := b194
          replace b195 : q_F (y192.toInt ≤ y125.toInt) := b195
          replace hO151 := (hu198 _ (by have z0 := zk1; simp only [List.mem_cons, List.not_mem_nil, or_false, not_or]; omega)).trans hO151
          replace hO152 := (hu198 _ (q_nc (by have z := ne_k1_k2; omega) List.not_mem_nil)).trans hO152
          replace hO153 := (hu198 _ (q_nc ne186 List.not_mem_nil)).trans hO153
          replace hO175 := (hu198 _ (q_nc (by have z := ne_k1_k3; omega) List.not_mem_nil)).trans hO175
          replace hO155 := (hu198 _ (q_nc ne187 List.not_mem_nil)).trans hO155
          replace hF := q_uc hF hu198 (by simp)
          refine lv_aload_n hx hb d_2_34_153 rfl (lv_at hl 3 rfl) ?_
          refine lv_iload_n hx hb d_2_34_154 rfl (lv_at hl 2 rfl) ?_
          have ne201 := q_df hO153 hO190
          have ne202 := q_df hO155 hO190
          have ne203 := q_df hO151 hO152
          have ne204 := q_df hO151 hO175
          refine q_goi V (q_runV (As := [.int a66]) (rest := []) (d := 3) (mc := 0) (ms := 0) (ci := 2) C0 V rfl LV_Big_125 (X_Big_shiftRight l D g q u188 k1 R hB1 zk1 a66 hI y191 y192 hO190 lx144 hO151  _) rfl rfl hO190 rfl hl.1 rfl (Nat.le_of_ble_eq_true rfl) ⟨by decide, by decide⟩ ⟨Nat.le_of_ble_eq_true rfl, Nat.le_of_ble_eq_true rfl⟩ d_2_34_155) (fun a207 u205 H locs hp206 V => ?_)
          obtain ⟨hI, hZ9⟩ := hp206
          obtain ⟨hu221, hZ9⟩ := hZ9
          obtain ⟨y209, hZ9⟩ := hZ9
          obtain ⟨y210, hZ9⟩ := hZ9
          obtain ⟨f211, hZ9⟩ := hZ9
          obtain ⟨hO208, hZ9⟩ := hZ9
          obtain ⟨hA212, hZ9⟩ := hZ9
          replace hZ9 := hZ9.2.2
          obtain ⟨b215, hZ9⟩ := hZ9
          obtain ⟨b216, hZ9⟩ := hZ9
          replace hZ9 := hZ9.2
          obtain ⟨b218, hZ9⟩ := hZ9
          obtain ⟨b219, hE220⟩ := hZ9
          replace hO208 : u205[k1]? = (some (q k1, .inr (2, [.ref (q (k1 + 1)), .int y209, .int y210])) : Option (Nat × va_E)) := hO208
          replace hA212 : u205[k1 + 1]? = (some (q (k1 + 1), .inl (g 0, R.toNatClampNeg, .inl f211)) : Option (Nat × va_E)) := hA212
          have e222 : a207 = (F_Big_shiftRight R a66 y191 y192 lx144).1 := congrArg (fun z => z.1) hE220
          have e223 : y209 = (F_Big_shiftRight R a66 y191 y192 lx144).2.1 := congrArg (fun z => z.2.1) hE220
          have e224 : y210 = (F_Big_shiftRight R a66 y191 y192 lx144).2.2.1 := congrArg (fun z => z.2.2.1) hE220
          have e225 : f211 = (F_Big_shiftRight R a66 y191 y192 lx144).2.2.2 := congrArg (fun z => z.2.2.2) hE220
          replace b215 : q_F (0 ≤ y209.toInt) := b215
          replace b216 : q_F (0 ≤ y210.toInt) := b216
          replace b218 : q_F (y209.toInt ≤ y191.toInt) := b218
          replace b219 : q_F (y210.toInt ≤ y192.toInt) := b219
          replace hO152 := (hu221 _ (q_nc (by have z := ne_k1_k2; omega) (q_nc (Ne.symm ne203) List.not_mem_nil))).trans hO152
          replace hO153 := (hu221 _ (q_nc ne201 (q_nc (by have z := ne_k1_k2; omega) List.not_mem_nil))).trans hO153
          replace hO175 := (hu221 _ (q_nc (by have z := ne_k1_k3; omega) (q_nc (Ne.symm ne204) List.not_mem_nil))).trans hO175
          replace hO155 := (hu221 _ (q_nc ne202 (q_nc (by have z := ne_k1_k3; omega) List.not_mem_nil))).trans hO155
          replace hF := q_uc hF hu221 (by simp)
          refine lv_pop hx hb d_2_34_158 rfl ?_
          refine lv_aload_n hx hb d_2_34_159 rfl (lv_at hl 4 rfl) ?_
          refine lv_iload_n hx hb d_2_34_160 rfl (lv_at hl 2 rfl) ?_
          have ne226 := q_df hA212 hO152
          have ne227 := q_df hO155 hO152
          have ne228 := q_df hO153 hO208
          have ne229 := q_df hO153 hO175
          refine q_goi V (q_runV (As := [.int a66]) (rest := []) (d := 3) (mc := 0) (ms := 0) (ci := 2) C0 V rfl LV_Big_125 (X_Big_shiftRight l D g q u205 k2 R2 hB2 zk2 a66 hI y76 y77 hO152 f78 hO153  _) rfl rfl hO152 rfl hl.1 rfl (Nat.le_of_ble_eq_true rfl) ⟨by decide, by decide⟩ ⟨Nat.le_of_ble_eq_true rfl, Nat.le_of_ble_eq_true rfl⟩ d_2_34_161) (fun a232 u230 H locs hp231 V => ?_)
          obtain ⟨hI, hZ9⟩ := hp231
          obtain ⟨hu246, hZ9⟩ := hZ9
          obtain ⟨y234, hZ9⟩ := hZ9
          obtain ⟨y235, hZ9⟩ := hZ9
          obtain ⟨f236, hZ9⟩ := hZ9
          obtain ⟨hO233, hZ9⟩ := hZ9
          obtain ⟨hA237, hZ9⟩ := hZ9
          replace hZ9 := hZ9.2.2
          obtain ⟨b240, hZ9⟩ := hZ9
          obtain ⟨b241, hZ9⟩ := hZ9
          replace hZ9 := hZ9.2
          obtain ⟨b243, hZ9⟩ := hZ9
          obtain ⟨b244, hE245⟩ := hZ9
          replace hO233 : u230[k2]? = (some (q k2, .inr (2, [.ref (q (k2 + 1)), .int y234, .int y235])) : Option (Nat × va_E)) := hO233
          replace hA237 : u230[k2 + 1]? = (some (q (k2 + 1), .inl (g 0, R2.toNatClampNeg, .inl f236)) : Option (Nat × va_E)) := hA237
          have e247 : a232 = (F_Big_shiftRight R2 a66 y76 y77 f78).1 := congrArg (fun z => z.1) hE245
          have e248 : y234 = (F_Big_shiftRight R2 a66 y76 y77 f78).2.1 := congrArg (fun z => z.2.1) hE245
          have e249 : y235 = (F_Big_shiftRight R2 a66 y76 y77 f78).2.2.1 := congrArg (fun z => z.2.2.1) hE245
          have e250 : f236 = (F_Big_shiftRight R2 a66 y76 y77 f78).2.2.2 := congrArg (fun z => z.2.2.2) hE245
          replace b240 : q_F (0 ≤ y234.toInt) := b240
          replace b241 : q_F (0 ≤ y235.toInt) := b241
          replace b243 : q_F (y234.toInt ≤ y76.toInt) := b243
          replace b244 : q_F (y235.toInt ≤ y77.toInt) := b244
          replace hO208 := (hu246 _ (q_nc (by have z := ne_k1_k2; omega) (q_nc (Ne.symm ne228) List.not_mem_nil))).trans hO208
          replace hA212 := (hu246 _ (q_nc ne226 (q_nc (by have z := ne_k1_k2; omega) List.not_mem_nil))).trans hA212
          replace hO175 := (hu246 _ (q_nc (by have z := ne_k2_k3; omega) (q_nc (Ne.symm ne229) List.not_mem_nil))).trans hO175
          replace hO155 := (hu246 _ (q_nc ne227 (q_nc (by have z := ne_k2_k3; omega) List.not_mem_nil))).trans hO155
          replace hF := q_uc hF hu246 (by simp)
          refine lv_pop hx hb d_2_34_164 rfl ?_
          exact q_retv C0 V (⟨hI, hF, y209, y210, f211, y234, y235, f236, y176, y177, lx145, hO208, hA212, hO233, hA237, hO175, hO155, (show 0 ≤ y177.toInt from (by first | with_reducible exact q_fe b178 | (have t1 : 0 ≤ y177.toInt := b178; omega))), (show y177.toInt ≤ 0 from (by have t1 : y31.toInt ≤ 0 := b33; have t2 : y177.toInt ≤ y31.toInt := b180; omega)), (show y209.toInt ≤ R.toInt from (by have t1 : y124.toInt ≤ R.toInt := b131; have t2 : y191.toInt ≤ y124.toInt := b194; have t3 : y209.toInt ≤ y191.toInt := b218; omega)), (show y210.toInt ≤ t0_1.toInt from (by have t1 : y98.toInt ≤ t0_1.toInt := b105; have t2 : y125.toInt ≤ y98.toInt := b133; have t3 : y192.toInt ≤ y125.toInt := b195; have t4 : y210.toInt ≤ y192.toInt := b219; omega)), (show y234.toInt ≤ t2_0.toInt + 218 from (by have t1 : 0 ≤ R2.toInt ∧ R2.toInt ≤ 220 := hfk20; have t2 : 0 ≤ t2_0.toInt ∧ t2_0.toInt ≤ R2.toInt := btt2_0; have t3 : t2_0.toInt ≠ 0 := b42; have t4 : t2_0.toInt ≠ 1 := b53; have t5 : y76.toInt ≤ R2.toInt := b83; have t6 : y234.toInt ≤ y76.toInt := b243; omega)), (show y234.toInt ≤ R2.toInt from (by have t1 : y76.toInt ≤ R2.toInt := b83; have t2 : y234.toInt ≤ y76.toInt := b243; omega)), (show y235.toInt ≤ t2_1.toInt from (by have t1 : y77.toInt ≤ t2_1.toInt := b84; have t2 : y235.toInt ≤ y77.toInt := b244; omega)), (show y176.toInt ≤ t2_0.toInt + 219 from (by have t1 : 0 ≤ R3.toInt ∧ R3.toInt ≤ 220 := hfk30; have t2 : 0 ≤ t2_0.toInt ∧ t2_0.toInt ≤ R2.toInt := btt2_0; have t3 : t2_0.toInt ≠ 0 := b42; have t4 : a163.toInt ≤ a114.toInt ∧ a163.toInt ≤ R3.toInt ∧ (a163.toInt = a114.toInt ∨ a163.toInt = R3.toInt) := b165; have t5 : y176.toInt ≤ a163.toInt := b179; omega)), (show y176.toInt ≤ R.toInt + 1 from (by have t1 : 0 ≤ y76.toInt := b80; have t2 : y97.toInt ≤ R.toInt := b104; have t3 : a111.toInt = y97.toInt - y76.toInt := b113; have t4 : a114.toInt = a111.toInt + 1 := b116; have t5 : a163.toInt ≤ a114.toInt ∧ a163.toInt ≤ R3.toInt ∧ (a163.toInt = a114.toInt ∨ a163.toInt = R3.toInt) := b165; have t6 : y176.toInt ≤ a163.toInt := b179; omega)), (show y176.toInt ≤ R3.toInt from (by have t1 : a163.toInt ≤ a114.toInt ∧ a163.toInt ≤ R3.toInt ∧ (a163.toInt = a114.toInt ∨ a163.toInt = R3.toInt) := b165; have t2 : y176.toInt ≤ a163.toInt := b179; omega)), (show y177.toInt ≤ y209.toInt from (by have t1 : y31.toInt ≤ 0 := b33; have t2 : y177.toInt ≤ y31.toInt := b180; have t3 : 0 ≤ y209.toInt := b215; omega)), (show y177.toInt ≤ y210.toInt from (by have t1 : y31.toInt ≤ 0 := b33; have t2 : y177.toInt ≤ y31.toInt := b180; have t3 : 0 ≤ y210.toInt := b216; omega)), (show y177.toInt ≤ y234.toInt from (by have t1 : y31.toInt ≤ 0 := b33; have t2 : y177.toInt ≤ y31.toInt := b180; have t3 : 0 ≤ y234.toInt := b240; omega)), (show y177.toInt ≤ y235.toInt from (by have t1 : y31.toInt ≤ 0 := b33; have t2 : y177.toInt ≤ y31.toInt := b180; have t3 : 0 ≤ y235.toInt := b241; omega)), (show y177.toInt ≤ y176.toInt from (by first | with_reducible exact q_fe b181 | (have t1 : y177.toInt ≤ y176.toInt := b181; omega))), (show (y209, y210, f211, y234, y235, f236, y176, y177, lx145) = (F_Big_divideBy R R2 R3 t0_0 t0_1 t1_0 t2_0 t2_1 t3_0 t4_0 t4_1 t5_0) from Eq.trans (by rw [e250, e249, e248, e225, e224, e223, e200, e199, e185, e184, ← e164, F_Big_divideBy_L92.eq_2, if_pos c161]) hR156)⟩) d_2_34_165
        ·
          have b251 : q_F (0 ≤ lx143.toInt) := (q_nltI c161)
          refine lv_aload_n hx hb d_2_34_97 rfl (lv_at hl 3 rfl) ?_
          refine lv_iload hx hb d_2_34_98 (lv_at hl 0 rfl) ?_
          refine lv_aload_n hx hb d_2_34_100 rfl (lv_at hl 4 rfl) ?_
          have ne252 := q_df hO151 hO152
          have ne253 := q_df hO151 hO154
          refine q_goi V (q_runV (As := [.int lx143, .ref (q k2)]) (rest := []) (d := 3) (mc := 0) (ms := 0) (ci := 2) C0 V rfl LV_Big_121 (X_Big_takeTimes l D g q w149 k1 R hB1 zk1 k2 R2 hB2 zk2 lx143 (by have z := ne_k1_k2; omega) hI y124 y125 hO150 lx144 hO151 y76 y77 hO152 f78 hO153 (by first | with_reducible exact q_fe b251 | (have t1 : 0 ≤ lx143.toInt := b251; omega)) (by have t1 : y97.toInt ≤ R.toInt := b104; have t2 : a111.toInt = y97.toInt - y76.toInt := b113; have t3 : a114.toInt = a111.toInt + 1 := b116; have t4 : lx143.toInt + 1 ≤ a114.toInt := i146; omega) _) rfl rfl hO150 rfl hl.1 rfl (Nat.le_of_ble_eq_true rfl) ⟨by decide, by decide⟩ ⟨Nat.le_of_ble_eq_true rfl, Nat.le_of_ble_eq_true rfl⟩ d_2_34_101) (fun a256 u254 H locs hp255 V => ?_)
          obtain ⟨hI, hu260, f257, hA258, hE259⟩ := hp255
          replace hA258 : u254[k1 + 1]? = (some (q (k1 + 1), .inl (g 0, R.toNatClampNeg, .inl f257)) : Option (Nat × va_E)) := hA258
          have e261 : a256 = (F_Big_takeTimes R lx143 R2 y124 y125 lx144 y76 y77 f78).1 := congrArg (fun z => z.1) hE259
          have e262 : f257 = (F_Big_takeTimes R lx143 R2 y124 y125 lx144 y76 y77 f78).2 := congrArg (fun z => z.2) hE259
          replace hO150 := (hu260 _ (by have z0 := zk1; simp only [List.mem_cons, List.not_mem_nil, or_false, not_or]; omega)).trans hO150
          replace hO152 := (hu260 _ (q_nc (Ne.symm ne252) List.not_mem_nil)).trans hO152
          replace hO153 := (hu260 _ (q_nc (by have z := ne_k1_k2; omega) List.not_mem_nil)).trans hO153
          replace hO154 := (hu260 _ (q_nc (Ne.symm ne253) List.not_mem_nil)).trans hO154
          replace hO155 := (hu260 _ (q_nc (by have z := ne_k1_k3; omega) List.not_mem_nil)).trans hO155
          replace hF := q_uc hF hu260 (by simp)
          refine lv_istore (lv' := [(6, .int a256), (5, .int lx143), (4, .int a114), (3, .int a66), (0, .ref (q k1)), (1, .ref (q k2)), (2, .ref (q k3))]) hx hb d_2_34_104 hl (by decide) rfl (fun ls hl => ?_)
          refine lv_iload hx hb d_2_34_106 (lv_at hl 1 rfl) ?_
          refine lv_aload_n hx hb d_2_34_108 rfl (lv_at hl 6 rfl) ?_
          refine q_get (ci := 2) (j := 0) (v := .ref (q (k3 + 1))) C0 V i_Big rfl rfl hO154 (by decide) w_84 rfl d_2_34_109 ?_
          refine q_alen (t := 0) (v := R3) C0 V hO155 rfl (s_len (by first | with_reducible exact (q_fe hfk30).2 | with_reducible exact (q_fe hfk30).1 | (have t1 : 0 ≤ R3.toInt ∧ R3.toInt ≤ 220 := hfk30; omega))) d_2_34_112 ?_
          refine lv_icmp_ge (tgt := 125) hx hb d_2_34_113 (by decide) (fun c263 => ?_) (fun c263 => ?_)
          ·
            obtain ⟨a265, e266⟩ := q_nm (lx143 + (-1) : Int32)
            have b267 : q_F (a265.toInt = lx143.toInt + (-1)) := (by rw [← e266]; exact q_addI (y := (-1)) rfl (by decide) (by have t1 : 0 ≤ lx143.toInt := b251; have t2 : lx143.toInt + 1 ≤ a114.toInt := i146; have _ := q_lo32 (x := a114); have _ := q_hi32 (x := a114); omega) (by have t1 : 0 ≤ lx143.toInt := b251; have t2 : lx143.toInt + 1 ≤ a114.toInt := i146; have _ := q_lo32 (x := a114); have _ := q_hi32 (x := a114); omega))
            refine lv_iinc (v := a265) (lv' := [(5, .int a265), (6, .int a256), (4, .int a114), (3, .int a66), (0, .ref (q k1)), (1, .ref (q k2)), (2, .ref (q k3))]) hx hb d_2_34_125 hl (k := 1) rfl (e266) (by decide) rfl (fun ls hl => ?_)
            refine lv_goto (tgt := 92) hx hb d_2_34_128 (by decide) ?_
            exact ih148 ((a265 : Int32), (f257 : (Nat → Int32)), (lx145 : (Nat → Int32))) _ _ _ _ (show (a265.toInt - ((-220))).toNat < (lx143.toInt - ((-220))).toNat from by have t1 : a265.toInt = lx143.toInt + (-1) := b267; have t2 : 0 ≤ lx143.toInt := b251; omega) ⟨(show q_F (a265.toInt + 1 ≤ a114.toInt) from (show a265.toInt + 1 ≤ a114.toInt from by have t1 : lx143.toInt + 1 ≤ a114.toInt := i146; have t2 : a265.toInt = lx143.toInt + (-1) := b267; omega)), (show q_F (R2.toInt ≤ a265.toInt + 440) from (show R2.toInt ≤ a265.toInt + 440 from by have t1 : 0 ≤ R2.toInt ∧ R2.toInt ≤ 220 := hfk20; have t2 : 0 ≤ lx143.toInt := b251; have t3 : a265.toInt = lx143.toInt + (-1) := b267; omega)), V, q_lw hl (q_lw1 0 rfl (q_lw1 2 rfl (q_lw1 3 rfl (q_lw1 4 rfl (q_lw1 5 rfl (q_lw1 6 rfl q_lw0)))))), hI, hF, hO150, hA258, hO152, hO153, hO154, hO155, ⟨fm160, Nat.lt_of_lt_of_le (show (a265.toInt - ((-220))).toNat < (lx143.toInt - ((-220))).toNat from by have t1 : a265.toInt = lx143.toInt + (-1) := b267; have t2 : 0 ≤ lx143.toInt := b251; omega) (Nat.le_of_lt_succ hf159), (show F_Big_divideBy_L92 R R2 R3 t0_0 t0_1 t1_0 t2_0 t2_1 t3_0 t4_0 t4_1 t5_0 a114 a66 y124 y125 y76 y77 f78 y30 y31 fm160 a265 f257 lx145 = (F_Big_divideBy R R2 R3 t0_0 t0_1 t1_0 t2_0 t2_1 t3_0 t4_0 t4_1 t5_0) from Eq.trans (by rw [← e266, e262, F_Big_divideBy_L92.eq_2, if_neg c161, if_pos c263]) hR156), (show True ∧ S_Big_divideBy_L92 R R2 R3 t0_0 t0_1 t1_0 t2_0 t2_1 t3_0 t4_0 t4_1 t5_0 a114 a66 y124 y125 y76 y77 f78 y30 y31 fm160 a265 f257 lx145 from (by rw [← e266, e262]; have h := hS157; rw [S_Big_divideBy_L92.eq_2] at h; rw [if_neg c161] at h; rw [if_pos c263] at h; with_reducible exact h))⟩⟩
          ·
            have b268 : q_F (lx143.toInt < R3.toInt) := (q_nleI c263)
            refine lv_aload_n hx hb d_2_34_116 rfl (lv_at hl 6 rfl) ?_
            refine q_get (ci := 2) (j := 0) (v := .ref (q (k3 + 1))) C0 V i_Big rfl rfl hO154 (by decide) w_84 rfl d_2_34_117 ?_
            refine lv_iload hx hb d_2_34_120 (lv_at hl 1 rfl) ?_
            refine lv_iload hx hb d_2_34_122 (lv_at hl 0 rfl) ?_
            have ne271 := q_df hO155 hO150
            have ne272 := q_df hO155 hO152
            refine q_iast C0 V hO155 (q_ix (x := lx143.toInt) rfl (by first | with_reducible exact q_fe b251 | (have t1 : 0 ≤ lx143.toInt := b251; omega)) (by have t1 : 0 ≤ lx143.toInt := b251; have t2 : lx143.toInt < R3.toInt := b268; have e9 := q_clI (i := R3) rfl (by first | with_reducible exact (q_fe hfk30).2 | with_reducible exact (q_fe hfk30).1 | (have t1 : 0 ≤ R3.toInt ∧ R3.toInt ≤ 220 := hfk30; omega)); omega)) d_2_34_124 (fun H locs w269 hu270 hO155 V => ?_)
            replace hI := q_bigA' hI hB3 hu270 hO155 (q_updB (fun _ => s_bnd) s_bnd)
            replace hO150 := (hu270 _ (Ne.symm ne271)).trans hO150
            replace hA258 := (hu270 _ (by have z := ne_k1_k3; omega)).trans hA258
            replace hO152 := (hu270 _ (Ne.symm ne272)).trans hO152
            replace hO153 := (hu270 _ (by have z := ne_k2_k3; omega)).trans hO153
            replace hO154 := (hu270 _ (by omega)).trans hO154
            replace hF := q_us hF hu270 (by simp)
            obtain ⟨f273, e274⟩ := q_nm (upd lx145 lx143.toNatClampNeg a256 : (Nat → Int32))
            rw [e274] at hO155
            obtain ⟨a275, e276⟩ := q_nm (lx143 + (-1) : Int32)
            have b277 : q_F (a275.toInt = lx143.toInt + (-1)) := (by rw [← e276]; exact q_addI (y := (-1)) rfl (by decide) (by have t1 : 0 ≤ lx143.toInt := b251; have t2 : lx143.toInt < R3.toInt := b268; have _ := q_lo32 (x := R3); have _ := q_hi32 (x := R3); omega) (by have t1 : 0 ≤ lx143.toInt := b251; have t2 : lx143.toInt < R3.toInt := b268; have _ := q_lo32 (x := R3); have _ := q_hi32 (x := R3); omega))
            refine lv_iinc (v := a275) (lv' := [(5, .int a275), (6, .int a256), (4, .int a114), (3, .int a66), (0, .ref (q k1)), (1, .ref (q k2)), (2, .ref (q k3))]) hx hb d_2_34_125 hl (k := 1) rfl (e276) (by decide) rfl (fun ls hl => ?_)
            refine lv_goto (tgt := 92) hx hb d_2_34_128 (by decide) ?_
            exact ih148 ((a275 : Int32), (f257 : (Nat → Int32)), (f273 : (Nat → Int32))) _ _ _ _ (show (a275.toInt - ((-220))).toNat < (lx143.toInt - ((-220))).toNat from by have t1 : a275.toInt = lx143.toInt + (-1) := b277; have t2 : 0 ≤ lx143.toInt := b251; omega) ⟨(show q_F (a275.toInt + 1 ≤ a114.toInt) from (show a275.toInt + 1 ≤ a114.toInt from by have t1 : lx143.toInt + 1 ≤ a114.toInt := i146; have t2 : a275.toInt = lx143.toInt + (-1) := b277; omega)), (show q_F (R2.toInt ≤ a275.toInt + 440) from (show R2.toInt ≤ a275.toInt + 440 from by have t1 : 0 ≤ R2.toInt ∧ R2.toInt ≤ 220 := hfk20; have t2 : 0 ≤ lx143.toInt := b251; have t3 : a275.toInt = lx143.toInt + (-1) := b277; omega)), V, q_lw hl (q_lw1 0 rfl (q_lw1 2 rfl (q_lw1 3 rfl (q_lw1 4 rfl (q_lw1 5 rfl (q_lw1 6 rfl q_lw0)))))), hI, hF, hO150, hA258, hO152, hO153, hO154, hO155, ⟨fm160, Nat.lt_of_lt_of_le (show (a275.toInt - ((-220))).toNat < (lx143.toInt - ((-220))).toNat from by have t1 : a275.toInt = lx143.toInt + (-1) := b277; have t2 : 0 ≤ lx143.toInt := b251; omega) (Nat.le_of_lt_succ hf159), (show F_Big_divideBy_L92 R R2 R3 t0_0 t0_1 t1_0 t2_0 t2_1 t3_0 t4_0 t4_1 t5_0 a114 a66 y124 y125 y76 y77 f78 y30 y31 fm160 a275 f257 f273 = (F_Big_divideBy R R2 R3 t0_0 t0_1 t1_0 t2_0 t2_1 t3_0 t4_0 t4_1 t5_0) from Eq.trans (by rw [← e276, ← e274, e262, e261, F_Big_divideBy_L92.eq_2, if_neg c161, if_neg c263]) hR156), (show True ∧ S_Big_divideBy_L92 R R2 R3 t0_0 t0_1 t1_0 t2_0 t2_1 t3_0 t4_0 t4_1 t5_0 a114 a66 y124 y125 y76 y77 f78 y30 y31 fm160 a275 f257 f273 from (by rw [← e276, ← e274, e262, e261]; have h := hS157; rw [S_Big_divideBy_L92.eq_2] at h; rw [if_neg c161] at h; rw [if_neg c263] at h; with_reducible exact h))⟩⟩
      ·
        refine lv_aload_n hx hb d_2_34_28 rfl (lv_at hl 0 rfl) ?_
        refine lv_aload_n hx hb d_2_34_29 rfl (lv_at hl 1 rfl) ?_
        refine q_get (ci := 2) (j := 0) (v := .ref (q (k2 + 1))) C0 V i_Big rfl rfl hT2 (by decide) w_84 rfl d_2_34_30 ?_
        refine lv_iconst (v := 0) hx hb d_2_34_33 (by decide) ?_
        refine q_iald C0 V hT3 (q_ix (x := 0) (by decide) (by omega) (by have t1 : 0 ≤ t2_0.toInt ∧ t2_0.toInt ≤ R2.toInt := btt2_0; have t2 : t2_0.toInt ≠ 0 := b42; have e9 := q_clI (i := R2) rfl (by first | with_reducible exact (q_fe hfk20).2 | with_reducible exact (q_fe hfk20).1 | (have t1 : 0 ≤ R2.toInt ∧ R2.toInt ≤ 220 := hfk20; omega)); omega)) d_2_34_34 ?_
        obtain ⟨a279, e280⟩ := q_nm (t3_0 (0 : Int32).toNatClampNeg : Int32)
        refine q_ti (v := a279) e280 ?_
        refine lv_aload_n hx hb d_2_34_35 rfl (lv_at hl 2 rfl) ?_
        have ne281 := q_df hT3 hT0
        have ne282 := q_df hT5 hT0
        have ne283 := q_df hT1 hT2
        have ne284 := q_df hT1 hO29
        have ne285 := q_df hT1 hO29
        have ne286 := q_df hT3 hO29
        have ne287 := q_df hT5 hT0
        have ne288 := q_df hT5 hT2
        refine q_gov V (q_runV (As := [.int a279, .ref (q k3)]) (rest := []) (d := 3) (mc := 0) (ms := 0) (ci := 2) C0 V rfl LV_Big_114 (X_Big_divideByLimb l D g q u27 k1 R hB1 zk1 k3 R3 hB3 zk3 a279 (by have z := ne_k1_k3; omega) hI t0_0 t0_1 hT0 t1_0 hT1 y30 y31 hO29 t5_0 hT5  _) rfl rfl hT0 rfl hl.1 rfl (Nat.le_of_ble_eq_true rfl) ⟨by decide, by decide⟩ ⟨Nat.le_of_ble_eq_true rfl, Nat.le_of_ble_eq_true rfl⟩ d_2_34_36) (fun u289 H locs hp290 V => ?_)
        obtain ⟨hI, hZ9⟩ := hp290
        obtain ⟨hu312, hZ9⟩ := hZ9
        obtain ⟨y292, hZ9⟩ := hZ9
        obtain ⟨y293, hZ9⟩ := hZ9
        obtain ⟨f294, hZ9⟩ := hZ9
        obtain ⟨y297, hZ9⟩ := hZ9
        obtain ⟨y298, hZ9⟩ := hZ9
        obtain ⟨f299, hZ9⟩ := hZ9
        obtain ⟨hO291, hZ9⟩ := hZ9
        obtain ⟨hA295, hZ9⟩ := hZ9
        obtain ⟨hO296, hZ9⟩ := hZ9
        obtain ⟨hA300, hZ9⟩ := hZ9
        obtain ⟨b301, hZ9⟩ := hZ9
        obtain ⟨b302, hZ9⟩ := hZ9
        obtain ⟨b303, hZ9⟩ := hZ9
        obtain ⟨b304, hZ9⟩ := hZ9
        obtain ⟨b305, hZ9⟩ := hZ9
        obtain ⟨b306, hZ9⟩ := hZ9
        obtain ⟨b307, hZ9⟩ := hZ9
        replace hZ9 := hZ9.2
        obtain ⟨b309, hZ9⟩ := hZ9
        obtain ⟨b310, hE311⟩ := hZ9
        replace hO291 : u289[k1]? = (some (q k1, .inr (2, [.ref (q (k1 + 1)), .int y292, .int y293])) : Option (Nat × va_E)) := hO291
        replace hA295 : u289[k1 + 1]? = (some (q (k1 + 1), .inl (g 0, R.toNatClampNeg, .inl f294)) : Option (Nat × va_E)) := hA295
        replace hO296 : u289[k3]? = (some (q k3, .inr (2, [.ref (q (k3 + 1)), .int y297, .int y298])) : Option (Nat × va_E)) := hO296
        replace hA300 : u289[k3 + 1]? = (some (q (k3 + 1), .inl (g 0, R3.toNatClampNeg, .inl f299)) : Option (Nat × va_E)) := hA300
        have e313 : y292 = (F_Big_divideByLimb R a279 R3 t0_0 t0_1 t1_0 y30 y31 t5_0).1 := congrArg (fun z => z.1) hE311
        have e314 : y293 = (F_Big_divideByLimb R a279 R3 t0_0 t0_1 t1_0 y30 y31 t5_0).2.1 := congrArg (fun z => z.2.1) hE311
        have e315 : f294 = (F_Big_divideByLimb R a279 R3 t0_0 t0_1 t1_0 y30 y31 t5_0).2.2.1 := congrArg (fun z => z.2.2.1) hE311
        have e316 : y297 = (F_Big_divideByLimb R a279 R3 t0_0 t0_1 t1_0 y30 y31 t5_0).2.2.2.1 := congrArg (fun z => z.2.2.2.1) hE311
        have e317 : y298 = (F_Big_divideByLimb R a279 R3 t0_0 t0_1 t1_0 y30 y31 t5_0).2.2.2.2.1 := congrArg (fun z => z.2.2.2.2.1) hE311
        have e318 : f299 = (F_Big_divideByLimb R a279 R3 t0_0 t0_1 t1_0 y30 y31 t5_0).2.2.2.2.2 := congrArg (fun z => z.2.2.2.2.2) hE311
        replace b301 : q_F (0 ≤ y298.toInt) := b301
        replace b302 : q_F (y298.toInt ≤ 0) := b302
        replace b303 : q_F (y292.toInt ≤ R.toInt) := b303
        replace b304 : q_F (y293.toInt ≤ t0_1.toInt) := b304
        replace b305 : q_F (y297.toInt ≤ t0_0.toInt) := b305
        replace b306 : q_F (y297.toInt ≤ R3.toInt) := b306
        replace b307 : q_F (y298.toInt ≤ y292.toInt) := b307
        replace b309 : q_F (y298.toInt ≤ y293.toInt) := b309
        replace b310 : q_F (y298.toInt ≤ y297.toInt) := b310
        replace hT2 := (hu312 _ (q_nc (by have z := ne_k1_k2; omega) (q_nc (Ne.symm ne283) (q_nc (by have z := ne_k2_k3; omega) (q_nc (Ne.symm ne288) List.not_mem_nil))))).trans hT2
        replace hT3 := (hu312 _ (q_nc ne281 (q_nc (by have z := ne_k1_k2; omega) (q_nc ne286 (q_nc (by have z := ne_k2_k3; omega) List.not_mem_nil))))).trans hT3
        replace hF := q_uc hF hu312 (by simp)
        exact q_retv C0 V (⟨hI, hF, y292, y293, f294, t2_0, t2_1, t3_0, y297, y298, f299, hO291, hA295, hT2, hT3, hO296, hA300, (show 0 ≤ y298.toInt from (by first | with_reducible exact q_fe b301 | (have t1 : 0 ≤ y298.toInt := b301; omega))), (show y298.toInt ≤ 0 from (by first | with_reducible exact q_fe b302 | (have t1 : y298.toInt ≤ 0 := b302; omega))), (show y292.toInt ≤ R.toInt from (by first | with_reducible exact q_fe b303 | (have t1 : y292.toInt ≤ R.toInt := b303; omega))), (show y293.toInt ≤ t0_1.toInt from (by first | with_reducible exact q_fe b304 | (have t1 : y293.toInt ≤ t0_1.toInt := b304; omega))), (show t2_0.toInt ≤ t2_0.toInt + 218 from (by omega)), (show t2_0.toInt ≤ R2.toInt from (by first | with_reducible exact (q_fe btt2_0).2 | with_reducible exact (q_fe btt2_0).1 | (have t1 : 0 ≤ t2_0.toInt ∧ t2_0.toInt ≤ R2.toInt := btt2_0; omega))), (show t2_1.toInt ≤ t2_1.toInt from (by omega)), (show y297.toInt ≤ t2_0.toInt + 219 from (by have t1 : 0 ≤ R3.toInt ∧ R3.toInt ≤ 220 := hfk30; have t2 : 0 ≤ t2_0.toInt ∧ t2_0.toInt ≤ R2.toInt := btt2_0; have t3 : t2_0.toInt ≠ 0 := b42; have t4 : y297.toInt ≤ R3.toInt := b306; omega)), (show y297.toInt ≤ R.toInt + 1 from (by have t1 : 0 ≤ t0_0.toInt ∧ t0_0.toInt ≤ R.toInt := btt0_0; have t2 : y297.toInt ≤ t0_0.toInt := b305; omega)), (show y297.toInt ≤ R3.toInt from (by first | with_reducible exact q_fe b306 | (have t1 : y297.toInt ≤ R3.toInt := b306; omega))), (show y298.toInt ≤ y292.toInt from (by first | with_reducible exact q_fe b307 | (have t1 : y298.toInt ≤ y292.toInt := b307; omega))), (show y298.toInt ≤ y293.toInt from (by first | with_reducible exact q_fe b309 | (have t1 : y298.toInt ≤ y293.toInt := b309; omega))), (show y298.toInt ≤ t2_0.toInt from (by have t1 : 0 ≤ t2_0.toInt ∧ t2_0.toInt ≤ R2.toInt := btt2_0; have t2 : y298.toInt ≤ 0 := b302; omega)), (show y298.toInt ≤ t2_1.toInt from (by have t1 : 0 ≤ t2_1.toInt ∧ t2_1.toInt ≤ 1 := btt2_1; have t2 : y298.toInt ≤ 0 := b302; omega)), (show y298.toInt ≤ y297.toInt from (by first | with_reducible exact q_fe b310 | (have t1 : y298.toInt ≤ y297.toInt := b310; omega))), (show (y292, y293, f294, t2_0, t2_1, t3_0, y297, y298, f299) = (F_Big_divideBy R R2 R3 t0_0 t0_1 t1_0 t2_0 t2_1 t3_0 t4_0 t4_1 t5_0) from (by have c50x := c50; rw [e49] at c50x; rw [e318, e317, e316, e315, e314, e313, ← e280, e39, e38, F_Big_divideBy.eq_1, if_neg c40, if_pos c50x, if_pos c52]))⟩) d_2_34_39
    ·
      exact q_retv C0 V (⟨hI, hF, t0_0, t0_1, t1_0, t2_0, t2_1, t3_0, y30, y31, t5_0, hT0, hT1, hT2, hT3, hO29, hT5, (show 0 ≤ y31.toInt from (by first | with_reducible exact q_fe b32 | (have t1 : 0 ≤ y31.toInt := b32; omega))), (show y31.toInt ≤ 0 from (by first | with_reducible exact q_fe b33 | (have t1 : y31.toInt ≤ 0 := b33; omega))), (show t0_0.toInt ≤ R.toInt from (by first | with_reducible exact (q_fe btt0_0).2 | with_reducible exact (q_fe btt0_0).1 | (have t1 : 0 ≤ t0_0.toInt ∧ t0_0.toInt ≤ R.toInt := btt0_0; omega))), (show t0_1.toInt ≤ t0_1.toInt from (by omega)), (show t2_0.toInt ≤ t2_0.toInt + 218 from (by omega)), (show t2_0.toInt ≤ R2.toInt from (by first | with_reducible exact (q_fe btt2_0).2 | with_reducible exact (q_fe btt2_0).1 | (have t1 : 0 ≤ t2_0.toInt ∧ t2_0.toInt ≤ R2.toInt := btt2_0; omega))), (show t2_1.toInt ≤ t2_1.toInt from (by omega)), (show y30.toInt ≤ t2_0.toInt + 219 from (by have t1 : 0 ≤ t2_0.toInt ∧ t2_0.toInt ≤ R2.toInt := btt2_0; have t2 : y31.toInt ≤ 0 := b33; have t3 : y30.toInt ≤ y31.toInt := b35; omega)), (show y30.toInt ≤ R.toInt + 1 from (by have t1 : 0 ≤ R.toInt ∧ R.toInt ≤ 220 := hfk10; have t2 : y31.toInt ≤ 0 := b33; have t3 : y30.toInt ≤ y31.toInt := b35; omega)), (show y30.toInt ≤ R3.toInt from (by have t1 : 0 ≤ R3.toInt ∧ R3.toInt ≤ 220 := hfk30; have t2 : y31.toInt ≤ 0 := b33; have t3 : y30.toInt ≤ y31.toInt := b35; omega)), (show y31.toInt ≤ t0_0.toInt from (by have t1 : 0 ≤ t0_0.toInt ∧ t0_0.toInt ≤ R.toInt := btt0_0; have t2 : y31.toInt ≤ 0 := b33; omega)), (show y31.toInt ≤ t0_1.toInt from (by have t1 : 0 ≤ t0_1.toInt ∧ t0_1.toInt ≤ 1 := btt0_1; have t2 : y31.toInt ≤ 0 := b33; omega)), (show y31.toInt ≤ t2_0.toInt from (by have t1 : 0 ≤ t2_0.toInt ∧ t2_0.toInt ≤ R2.toInt := btt2_0; have t2 : y31.toInt ≤ 0 := b33; omega)), (show y31.toInt ≤ t2_1.toInt from (by have t1 : 0 ≤ t2_1.toInt ∧ t2_1.toInt ≤ 1 := btt2_1; have t2 : y31.toInt ≤ 0 := b33; omega)), (show y31.toInt ≤ y30.toInt from (by first | with_reducible exact q_fe b34 | (have t1 : y31.toInt ≤ y30.toInt := b34; omega))), (show (t0_0, t0_1, t1_0, t2_0, t2_1, t3_0, y30, y31, t5_0) = (F_Big_divideBy R R2 R3 t0_0 t0_1 t1_0 t2_0 t2_1 t3_0 t4_0 t4_1 t5_0) from (by have c50x := c50; rw [e49] at c50x; rw [e39, e38, F_Big_divideBy.eq_1, if_neg c40, if_neg c50x]))⟩) d_2_34_19

/-! Mill, exactly -/
def F_Mil_addOrMultiply_c40 (x2 : Int32) (R : Int32) (R2 : Int32) (t0_0 : Int32) (t0_1 : Int32) (t1_0 : (Nat → Int32)) (t2_0 : Int32) (t2_1 : Int32) (t3_0 : (Nat → Int32)) (t4_0 : Int32) (t4_1 : Int32) (t5_0 : (Nat → Int32)) (p42 : (Int32 × Int32 × (Nat → Int32))) (p67 : (Int32 × Int32 × (Nat → Int32))) : Int32 × Int32 × (Nat → Int32) := ((p67.1 : Int32), (p67.2.1 : Int32), (p67.2.2 : (Nat → Int32)))
def F_Mil_addOrMultiply_c40_3 (x2 : Int32) (R : Int32) (R2 : Int32) (t0_0 : Int32) (t0_1 : Int32) (t1_0 : (Nat → Int32)) (t2_0 : Int32) (t2_1 : Int32) (t3_0 : (Nat → Int32)) (t4_0 : Int32) (t4_1 : Int32) (t5_0 : (Nat → Int32)) (p42 : (Int32 × Int32 × (Nat → Int32))) (p91 : (Int32 × Int32 × (Nat → Int32))) : Int32 × Int32 × (Nat → Int32) := ((p91.1 : Int32), (p91.2.1 : Int32), (p91.2.2 : (Nat → Int32)))
def F_Mil_addOrMultiply_c22 (x2 : Int32) (R : Int32) (R2 : Int32) (t0_0 : Int32) (t0_1 : Int32) (t1_0 : (Nat → Int32)) (t2_0 : Int32) (t2_1 : Int32) (t3_0 : (Nat → Int32)) (t4_0 : Int32) (t4_1 : Int32) (t5_0 : (Nat → Int32)) (p42 : (Int32 × Int32 × (Nat → Int32))) : Int32 × Int32 × (Nat → Int32) := if x2 = (1 : Int32) then (F_Mil_addOrMultiply_c40_3 x2 R R2 t0_0 t0_1 t1_0 t2_0 t2_1 t3_0 t4_0 t4_1 t5_0 p42 ((F_Big_addSigned (220 : Int32) R2 (1 : Int32) (p42.1 : Int32) (p42.2.1 : Int32) (p42.2.2 : (Nat → Int32)) t4_0 t4_1 t5_0) : (Int32 × Int32 × (Nat → Int32)))) else (F_Mil_addOrMultiply_c40 x2 R R2 t0_0 t0_1 t1_0 t2_0 t2_1 t3_0 t4_0 t4_1 t5_0 p42 ((F_Big_addSigned (220 : Int32) R2 (0 : Int32) (p42.1 : Int32) (p42.2.1 : Int32) (p42.2.2 : (Nat → Int32)) t4_0 t4_1 t5_0) : (Int32 × Int32 × (Nat → Int32))))
def F_Mil_addOrMultiply_c11 (x2 : Int32) (R : Int32) (R2 : Int32) (t0_0 : Int32) (t0_1 : Int32) (t1_0 : (Nat → Int32)) (t2_0 : Int32) (t2_1 : Int32) (t3_0 : (Nat → Int32)) (t4_0 : Int32) (t4_1 : Int32) (t5_0 : (Nat → Int32)) (p116 : (Int32 × Int32 × (Nat → Int32))) : Int32 × Int32 × (Nat → Int32) := ((p116.1 : Int32), (p116.2.1 : Int32), (p116.2.2 : (Nat → Int32)))
def F_Mil_addOrMultiply (x2 : Int32) (R : Int32) (R2 : Int32) (t0_0 : Int32) (t0_1 : Int32) (t1_0 : (Nat → Int32)) (t2_0 : Int32) (t2_1 : Int32) (t3_0 : (Nat → Int32)) (t4_0 : Int32) (t4_1 : Int32) (t5_0 : (Nat → Int32)) : Int32 × Int32 × (Nat → Int32) := if x2 = (2 : Int32) then (F_Mil_addOrMultiply_c11 x2 R R2 t0_0 t0_1 t1_0 t2_0 t2_1 t3_0 t4_0 t4_1 t5_0 ((F_Big_product (220 : Int32) R R2 t0_0 t0_1 t1_0 t2_0 t2_1 t3_0 t4_0 t4_1 t5_0) : (Int32 × Int32 × (Nat → Int32)))) else (F_Mil_addOrMultiply_c22 x2 R R2 t0_0 t0_1 t1_0 t2_0 t2_1 t3_0 t4_0 t4_1 t5_0 ((F_Big_copy (220 : Int32) R t0_0 t0_1 t1_0 t2_0 t2_1 t3_0) : (Int32 × Int32 × (Nat → Int32))))
set_option maxRecDepth 100000 in
set_option maxHeartbeats 4000000 in
theorem X_Mil_addOrMultiply (l : Launch) (D : va_G) (g : Nat → ClassId) (q : Nat → Nat) (ws : va_W) (k3 : Nat) (R : Int32) (hB3 : q_isBig (nsh g q) g q k3 R) (zk3 : (10 ≤ k3 ∧ k3 ≤ 32) ∨ 66 ≤ k3) (k4 : Nat) (R2 : Int32) (hB4 : q_isBig (nsh g q) g q k4 R2) (zk4 : (10 ≤ k4 ∧ k4 ≤ 32) ∨ 66 ≤ k4) (x2 : Int32) (ne_k3_10 : k3 ≠ 10) (ne_k3_11 : k3 ≠ 11) (ne_k3_9 : k3 ≠ 9) (ne_k4_10 : k4 ≠ 10) (ne_k4_11 : k4 ≠ 11) (ne_k4_9 : k4 ≠ 9) (hI : q_I (nsh g q) q ws) (t0_0 : Int32) (t0_1 : Int32) (hT0 : ws[10]? = (some (q 10, .inr (2, [.ref (q 11), .int t0_0, .int t0_1])) : Option (Nat × va_E))) (t1_0 : (Nat → Int32)) (hT1 : ws[11]? = (some (q 11, .inl (g 0, (220 : Int32).toNatClampNeg, .inl t1_0)) : Option (Nat × va_E))) (t2_0 : Int32) (t2_1 : Int32) (hT2 : ws[k3]? = (some (q k3, .inr (2, [.ref (q (k3 + 1)), .int t2_0, .int t2_1])) : Option (Nat × va_E))) (t3_0 : (Nat → Int32)) (hT3 : ws[k3 + 1]? = (some (q (k3 + 1), .inl (g 0, R.toNatClampNeg, .inl t3_0)) : Option (Nat × va_E))) (t4_0 : Int32) (t4_1 : Int32) (hT4 : ws[k4]? = (some (q k4, .inr (2, [.ref (q (k4 + 1)), .int t4_0, .int t4_1])) : Option (Nat × va_E))) (t5_0 : (Nat → Int32)) (hT5 : ws[k4 + 1]? = (some (q (k4 + 1), .inl (g 0, R2.toNatClampNeg, .inl t5_0)) : Option (Nat × va_E))) : q_mV l y_Mil_addOrMultiply prog_8_method_2_code 4 4 0 0 D g [.ref (q 9), .int x2, .ref (q k3), .ref (q k4)] ws (fun u => q_I (nsh g q) q u ∧ q_un ws u [10, 11] ∧ ∃ (u0_0 : Int32) (u0_1 : Int32) (u1_0 : (Nat → Int32)), u[10]? = (some (q 10, .inr (2, [.ref (q 11), .int u0_0, .int u0_1])) : Option (Nat × va_E)) ∧ u[11]? = (some (q 11, .inl (g 0, (220 : Int32).toNatClampNeg, .inl u1_0)) : Option (Nat × va_E)) ∧ (0 ≤ u0_0.toInt) ∧ (u0_0.toInt ≤ 220) ∧ (0 ≤ u0_1.toInt) ∧ (u0_1.toInt ≤ 1) ∧ (u0_0, u0_1, u1_0) = (F_Mil_addOrMultiply x2 R R2 t0_0 t0_1 t1_0 t2_0 t2_1 t3_0 t4_0 t4_1 t5_0)) := by
  intro sz
  refine q_into (by decide) (Nat.le_of_ble_eq_true rfl) ?_
  intro p e s m below meth c ls hsz C0 V hl
  have hx := C0.1
  have hb := C0.2.1
  have btt0_1 := (q_bigW hI (n_b10 g q) hT0).2
  clear btt0_1
  have btt2_1 := (q_bigW hI hB3 hT2).2
  clear btt2_1
  have btt4_1 := (q_bigW hI hB4 hT4).2
  clear btt4_1
  have hF : q_un ws ws [10, 11] := q_u0
  have hl : lv_has ls 4 [(0, .ref (q 9)), (1, .int x2), (2, .ref (q k3)), (3, .ref (q k4))] := hl
  refine lv_iload_n hx hb d_8_2_0 rfl (lv_at hl 1 rfl) ?_
  refine lv_iconst (v := 2) hx hb d_8_2_1 (by decide) ?_
  refine lv_icmp_ne (tgt := 17) hx hb d_8_2_2 (by decide) (fun c25 => ?_) (fun c25 => ?_)
  ·
    refine lv_aload_n hx hb d_8_2_17 rfl (lv_at hl 0 rfl) ?_
    have hO27 := n_o9 hI
    refine q_get (ci := 4) (j := 0) (v := .ref (q 10)) C0 V i_Mil rfl rfl hO27 (by decide) w_108 rfl d_8_2_18 ?_
    refine lv_aload_n hx hb d_8_2_21 rfl (lv_at hl 2 rfl) ?_
    refine q_gov V (q_runV (As := [.ref (q k3)]) (rest := []) (d := 2) (mc := 0) (ms := 0) (ci := 2) C0 V rfl LV_Mil_51 (X_Big_copy l D g q ws 10 220 (n_b10 g q) (by decide) k3 R hB3 zk3  (by have z := ne_k3_10; omega) hI t0_0 t0_1 hT0 t1_0 hT1 t2_0 t2_1 hT2 t3_0 hT3  _) rfl rfl hT0 rfl hl.1 rfl (Nat.le_of_ble_eq_true rfl) ⟨by decide, by decide⟩ ⟨Nat.le_of_ble_eq_true rfl, Nat.le_of_ble_eq_true rfl⟩ d_8_2_22) (fun u28 H locs hp29 V => ?_)
    obtain ⟨hI, hZ9⟩ := hp29
    obtain ⟨hu41, hZ9⟩ := hZ9
    obtain ⟨y31, hZ9⟩ := hZ9
    obtain ⟨y32, hZ9⟩ := hZ9
    obtain ⟨f33, hZ9⟩ := hZ9
    obtain ⟨hO30, hZ9⟩ := hZ9
    obtain ⟨hA34, hZ9⟩ := hZ9
    replace hZ9 := hZ9.2.2.2.2
    obtain ⟨-, hE40⟩ := hZ9
    replace hO30 : u28[10]? = (some (q 10, .inr (2, [.ref (q 11), .int y31, .int y32])) : Option (Nat × va_E)) := hO30
    replace hA34 : u28[11]? = (some (q 11, .inl (g 0, (220 : Int32).toNatClampNeg, .inl f33)) : Option (Nat × va_E)) := hA34
    obtain ⟨p42, e43⟩ : ∃ z, z = (F_Big_copy (220 : Int32) R t0_0 t0_1 t1_0 t2_0 t2_1 t3_0) := ⟨_, rfl⟩
    have e44 : y31 = p42.1 := congrArg (fun z => z.1) (hE40.trans e43.symm)
    have e45 : y32 = p42.2.1 := congrArg (fun z => z.2.1) (hE40.trans e43.symm)
    have e46 : f33 = p42.2.2 := congrArg (fun z => z.2.2) (hE40.trans e43.symm)
    replace hT4 := (hu41 _ (by first | exact (q_nc ne_k4_10 (q_nc ne_k4_11 List.not_mem_nil)) | (have z0 := zk4; simp only [List.mem_cons, List.not_mem_nil, or_false, not_or]; omega))).trans hT4
    replace hT5 := (hu41 _ (by first | exact (q_nc (q_nt1 ne_k4_9) (q_nc (q_nt1 ne_k4_10) List.not_mem_nil)) | (have z0 := zk4; simp only [List.mem_cons, List.not_mem_nil, or_false, not_or]; omega))).trans hT5
    replace hO27 := (hu41 _ (by decide)).trans hO27
    replace hF := q_uc hF hu41 (by first | exact (q_sk (q_mi 0 rfl) (q_sk (q_mi 1 rfl) q_s0)) | simp)
    have hR47 := (show F_Mil_addOrMultiply_c22 x2 R R2 t0_0 t0_1 t1_0 t2_0 t2_1 t3_0 t4_0 t4_1 t5_0 p42 = (F_Mil_addOrMultiply x2 R R2 t0_0 t0_1 t1_0 t2_0 t2_1 t3_0 t4_0 t4_1 t5_0) from (by rw [e43, F_Mil_addOrMultiply.eq_1, if_neg c25]))
    refine lv_aload_n hx hb d_8_2_25 rfl (lv_at hl 0 rfl) ?_
    refine q_get (ci := 4) (j := 0) (v := .ref (q 10)) C0 V i_Mil rfl rfl hO27 (by decide) w_108 rfl d_8_2_26 ?_
    refine lv_aload_n hx hb d_8_2_29 rfl (lv_at hl 3 rfl) ?_
    refine lv_iload_n hx hb d_8_2_30 rfl (lv_at hl 1 rfl) ?_
    refine lv_iconst (v := 1) hx hb d_8_2_31 (by decide) ?_
    refine lv_icmp_ne (tgt := 39) hx hb d_8_2_32 (by decide) (fun c52 => ?_) (fun c52 => ?_)
    ·
      refine lv_iconst (v := 0) hx hb d_8_2_39 (by decide) ?_
      refine q_gov V (q_runV (As := [.ref (q k4), .int 0]) (rest := []) (d := 3) (mc := 0) (ms := 0) (ci := 2) C0 V rfl LV_Mil_55 (X_Big_addSigned l D g q u28 10 220 (n_b10 g q) (by decide) k4 R2 hB4 zk4 0 (by have z := ne_k4_10; omega) hI y31 y32 hO30 f33 hA34 t4_0 t4_1 hT4 t5_0 hT5 ⟨(by have y0 : (220 : Int32).toInt = 220 := rfl; have y1 : (0 : Int32).toInt = 0 := rfl; omega), (by have y0 : (220 : Int32).toInt = 220 := rfl; have y1 : (0 : Int32).toInt = 0 := rfl; omega)⟩ _) rfl rfl hO30 rfl hl.1 rfl (Nat.le_of_ble_eq_true rfl) ⟨by decide, by decide⟩ ⟨Nat.le_of_ble_eq_true rfl, Nat.le_of_ble_eq_true rfl⟩ d_8_2_40) (fun u54 H locs hp55 V => ?_)
      obtain ⟨hI, hZ9⟩ := hp55
      obtain ⟨hu66, hZ9⟩ := hZ9
      obtain ⟨y57, hZ9⟩ := hZ9
      obtain ⟨y58, hZ9⟩ := hZ9
      obtain ⟨f59, hZ9⟩ := hZ9
      obtain ⟨hO56, hZ9⟩ := hZ9
      obtain ⟨hA60, hZ9⟩ := hZ9
      obtain ⟨b61, hZ9⟩ := hZ9
      obtain ⟨b62, hZ9⟩ := hZ9
      obtain ⟨b63, hZ9⟩ := hZ9
      obtain ⟨b64, hE65⟩ := hZ9
      replace hO56 : u54[10]? = (some (q 10, .inr (2, [.ref (q 11), .int y57, .int y58])) : Option (Nat × va_E)) := hO56
      replace hA60 : u54[11]? = (some (q 11, .inl (g 0, (220 : Int32).toNatClampNeg, .inl f59)) : Option (Nat × va_E)) := hA60
      obtain ⟨p67, e68⟩ : ∃ z, z = (F_Big_addSigned (220 : Int32) R2 (0 : Int32) y31 y32 f33 t4_0 t4_1 t5_0) := ⟨_, rfl⟩
      have e69 : y57 = p67.1 := congrArg (fun z => z.1) (hE65.trans e68.symm)
      have e70 : y58 = p67.2.1 := congrArg (fun z => z.2.1) (hE65.trans e68.symm)
      have e71 : f59 = p67.2.2 := congrArg (fun z => z.2.2) (hE65.trans e68.symm)
      replace b61 : q_F (0 ≤ y57.toInt) := b61
      replace b62 : q_F (0 ≤ y58.toInt) := b62
      replace b63 : q_F (y58.toInt ≤ 1) := b63
      replace b64 : q_F (y57.toInt ≤ 220) := b64
      replace hF := q_uc hF hu66 (by first | exact (q_sk (q_mi 0 rfl) (q_sk (q_mi 1 rfl) q_s0)) | simp)
      have hR72 := (show F_Mil_addOrMultiply_c40 x2 R R2 t0_0 t0_1 t1_0 t2_0 t2_1 t3_0 t4_0 t4_1 t5_0 p42 p67 = (F_Mil_addOrMultiply x2 R R2 t0_0 t0_1 t1_0 t2_0 t2_1 t3_0 t4_0 t4_1 t5_0) from Eq.trans (by rw [e68, e46, e45, e44, F_Mil_addOrMultiply_c22.eq_1, if_neg c52]) hR47)
      exact q_retv C0 V (⟨hI, hF, y57, y58, f59, hO56, hA60, (show 0 ≤ y57.toInt from (by first | with_reducible exact q_fe b61 | (have t1 : 0 ≤ y57.toInt := b61; omega))), (show y57.toInt ≤ 220 from (by first | with_reducible exact q_fe b64 | (have t1 : y57.toInt ≤ 220 := b64; omega))), (show 0 ≤ y58.toInt from (by first | with_reducible exact q_fe b62 | (have t1 : 0 ≤ y58.toInt := b62; omega))), (show y58.toInt ≤ 1 from (by first | with_reducible exact q_fe b63 | (have t1 : y58.toInt ≤ 1 := b63; omega))), (show (y57, y58, f59) = (F_Mil_addOrMultiply x2 R R2 t0_0 t0_1 t1_0 t2_0 t2_1 t3_0 t4_0 t4_1 t5_0) from Eq.trans (by rw [e71, e70, e69, F_Mil_addOrMultiply_c40.eq_1]) hR72)⟩) d_8_2_43
    ·
      refine lv_iconst (v := 1) hx hb d_8_2_35 (by decide) ?_
      refine lv_goto (tgt := 40) hx hb d_8_2_36 (by decide) ?_
      refine q_gov V (q_runV (As := [.ref (q k4), .int 1]) (rest := []) (d := 3) (mc := 0) (ms := 0) (ci := 2) C0 V rfl LV_Mil_55 (X_Big_addSigned l D g q u28 10 220 (n_b10 g q) (by decide) k4 R2 hB4 zk4 1 (by have z := ne_k4_10; omega) hI y31 y32 hO30 f33 hA34 t4_0 t4_1 hT4 t5_0 hT5 ⟨(by have y0 : (220 : Int32).toInt = 220 := rfl; have y1 : (1 : Int32).toInt = 1 := rfl; omega), (by have y0 : (220 : Int32).toInt = 220 := rfl; have y1 : (1 : Int32).toInt = 1 := rfl; omega)⟩ _) rfl rfl hO30 rfl hl.1 rfl (Nat.le_of_ble_eq_true rfl) ⟨by decide, by decide⟩ ⟨Nat.le_of_ble_eq_true rfl, Nat.le_of_ble_eq_true rfl⟩ d_8_2_40) (fun u78 H locs hp79 V => ?_)
      obtain ⟨hI, hZ9⟩ := hp79
      obtain ⟨hu90, hZ9⟩ := hZ9
      obtain ⟨y81, hZ9⟩ := hZ9
      obtain ⟨y82, hZ9⟩ := hZ9
      obtain ⟨f83, hZ9⟩ := hZ9
      obtain ⟨hO80, hZ9⟩ := hZ9
      obtain ⟨hA84, hZ9⟩ := hZ9
      obtain ⟨b85, hZ9⟩ := hZ9
      obtain ⟨b86, hZ9⟩ := hZ9
      obtain ⟨b87, hZ9⟩ := hZ9
      obtain ⟨b88, hE89⟩ := hZ9
      replace hO80 : u78[10]? = (some (q 10, .inr (2, [.ref (q 11), .int y81, .int y82])) : Option (Nat × va_E)) := hO80
      replace hA84 : u78[11]? = (some (q 11, .inl (g 0, (220 : Int32).toNatClampNeg, .inl f83)) : Option (Nat × va_E)) := hA84
      obtain ⟨p91, e92⟩ : ∃ z, z = (F_Big_addSigned (220 : Int32) R2 (1 : Int32) y31 y32 f33 t4_0 t4_1 t5_0) := ⟨_, rfl⟩
      have e93 : y81 = p91.1 := congrArg (fun z => z.1) (hE89.trans e92.symm)
      have e94 : y82 = p91.2.1 := congrArg (fun z => z.2.1) (hE89.trans e92.symm)
      have e95 : f83 = p91.2.2 := congrArg (fun z => z.2.2) (hE89.trans e92.symm)
      replace b85 : q_F (0 ≤ y81.toInt) := b85
      replace b86 : q_F (0 ≤ y82.toInt) := b86
      replace b87 : q_F (y82.toInt ≤ 1) := b87
      replace b88 : q_F (y81.toInt ≤ 220) := b88
      replace hF := q_uc hF hu90 (by first | exact (q_sk (q_mi 0 rfl) (q_sk (q_mi 1 rfl) q_s0)) | simp)
      have hR96 := (show F_Mil_addOrMultiply_c40_3 x2 R R2 t0_0 t0_1 t1_0 t2_0 t2_1 t3_0 t4_0 t4_1 t5_0 p42 p91 = (F_Mil_addOrMultiply x2 R R2 t0_0 t0_1 t1_0 t2_0 t2_1 t3_0 t4_0 t4_1 t5_0) from Eq.trans (by rw [e92, e46, e45, e44, F_Mil_addOrMultiply_c22.eq_1, if_pos c52]) hR47)
      exact q_retv C0 V (⟨hI, hF, y81, y82, f83, hO80, hA84, (show 0 ≤ y81.toInt from (by first | with_reducible exact q_fe b85 | (have t1 : 0 ≤ y81.toInt := b85; omega))), (show y81.toInt ≤ 220 from (by first | with_reducible exact q_fe b88 | (have t1 : y81.toInt ≤ 220 := b88; omega))), (show 0 ≤ y82.toInt from (by first | with_reducible exact q_fe b86 | (have t1 : 0 ≤ y82.toInt := b86; omega))), (show y82.toInt ≤ 1 from (by first | with_reducible exact q_fe b87 | (have t1 : y82.toInt ≤ 1 := b87; omega))), (show (y81, y82, f83) = (F_Mil_addOrMultiply x2 R R2 t0_0 t0_1 t1_0 t2_0 t2_1 t3_0 t4_0 t4_1 t5_0) from Eq.trans (by rw [e95, e94, e93, F_Mil_addOrMultiply_c40_3.eq_1]) hR96)⟩) d_8_2_43
  ·
    refine lv_aload_n hx hb d_8_2_5 rfl (lv_at hl 0 rfl) ?_
    have hO102 := n_o9 hI
    refine q_get (ci := 4) (j := 0) (v := .ref (q 10)) C0 V i_Mil rfl rfl hO102 (by decide) w_108 rfl d_8_2_6 ?_
    refine lv_aload_n hx hb d_8_2_9 rfl (lv_at hl 2 rfl) ?_
    refine lv_aload_n hx hb d_8_2_10 rfl (lv_at hl 3 rfl) ?_
    refine q_gov V (q_runV (As := [.ref (q k3), .ref (q k4)]) (rest := []) (d := 3) (mc := 0) (ms := 0) (ci := 2) C0 V rfl LV_Mil_47 (X_Big_product l D g q ws 10 220 (n_b10 g q) (by decide) k3 R hB3 zk3 k4 R2 hB4 zk4  (by have z := ne_k3_10; omega) (by have z := ne_k4_10; omega) hI t0_0 t0_1 hT0 t1_0 hT1 t2_0 t2_1 hT2 t3_0 hT3 t4_0 t4_1 hT4 t5_0 hT5  _) rfl rfl hT0 rfl hl.1 rfl (Nat.le_of_ble_eq_true rfl) ⟨by decide, by decide⟩ ⟨Nat.le_of_ble_eq_true rfl, Nat.le_of_ble_eq_true rfl⟩ d_8_2_11) (fun u103 H locs hp104 V => ?_)
    obtain ⟨hI, hZ9⟩ := hp104
    obtain ⟨hu115, hZ9⟩ := hZ9
    obtain ⟨y106, hZ9⟩ := hZ9
    obtain ⟨y107, hZ9⟩ := hZ9
    obtain ⟨f108, hZ9⟩ := hZ9
    obtain ⟨hO105, hZ9⟩ := hZ9
    obtain ⟨hA109, hZ9⟩ := hZ9
    obtain ⟨b110, hZ9⟩ := hZ9
    obtain ⟨b111, hZ9⟩ := hZ9
    obtain ⟨b112, hZ9⟩ := hZ9
    obtain ⟨b113, hE114⟩ := hZ9
    replace hO105 : u103[10]? = (some (q 10, .inr (2, [.ref (q 11), .int y106, .int y107])) : Option (Nat × va_E)) := hO105
    replace hA109 : u103[11]? = (some (q 11, .inl (g 0, (220 : Int32).toNatClampNeg, .inl f108)) : Option (Nat × va_E)) := hA109
    obtain ⟨p116, e117⟩ : ∃ z, z = (F_Big_product (220 : Int32) R R2 t0_0 t0_1 t1_0 t2_0 t2_1 t3_0 t4_0 t4_1 t5_0) := ⟨_, rfl⟩
    have e118 : y106 = p116.1 := congrArg (fun z => z.1) (hE114.trans e117.symm)
    have e119 : y107 = p116.2.1 := congrArg (fun z => z.2.1) (hE114.trans e117.symm)
    have e120 : f108 = p116.2.2 := congrArg (fun z => z.2.2) (hE114.trans e117.symm)
    replace b110 : q_F (0 ≤ y107.toInt) := b110
    replace b111 : q_F (y107.toInt ≤ 1) := b111
    replace b112 : q_F (y106.toInt ≤ 220) := b112
    replace b113 : q_F (y107.toInt ≤ y106.toInt) := b113
    replace hF := q_uc hF hu115 (by first | exact (q_sk (q_mi 0 rfl) (q_sk (q_mi 1 rfl) q_s0)) | simp)
    have hR121 := (show F_Mil_addOrMultiply_c11 x2 R R2 t0_0 t0_1 t1_0 t2_0 t2_1 t3_0 t4_0 t4_1 t5_0 p116 = (F_Mil_addOrMultiply x2 R R2 t0_0 t0_1 t1_0 t2_0 t2_1 t3_0 t4_0 t4_1 t5_0) from (by rw [e117, F_Mil_addOrMultiply.eq_1, if_pos c25]))
    refine lv_goto (tgt := 43) hx hb d_8_2_14 (by decide) ?_
    exact q_retv C0 V (⟨hI, hF, y106, y107, f108, hO105, hA109, (show 0 ≤ y106.toInt from (by have t1 : 0 ≤ y107.toInt := b110; have t2 : y107.toInt ≤ y106.toInt := b113; omega)), (show y106.toInt ≤ 220 from (by first | with_reducible exact q_fe b112 | (have t1 : y106.toInt ≤ 220 := b112; omega))), (show 0 ≤ y107.toInt from (by first | with_reducible exact q_fe b110 | (have t1 : 0 ≤ y107.toInt := b110; omega))), (show y107.toInt ≤ 1 from (by first | with_reducible exact q_fe b111 | (have t1 : y107.toInt ≤ 1 := b111; omega))), (show (y106, y107, f108) = (F_Mil_addOrMultiply x2 R R2 t0_0 t0_1 t1_0 t2_0 t2_1 t3_0 t4_0 t4_1 t5_0) from Eq.trans (by rw [e120, e119, e118, F_Mil_addOrMultiply_c11.eq_1]) hR121)⟩) d_8_2_43
theorem d_8_3_0 : decode prog_8_method_3_code 0 = .ok (.aload_n 0, 1) := by decide +kernel
theorem d_8_3_1 : decode prog_8_method_3_code 1 = .ok (.getfield 16, 3) := by decide +kernel
theorem d_8_3_4 : decode prog_8_method_3_code 4 = .ok (.aload_n 2, 1) := by decide +kernel
theorem d_8_3_5 : decode prog_8_method_3_code 5 = .ok (.invokevirtual 51, 3) := by decide +kernel
theorem d_8_3_8 : decode prog_8_method_3_code 8 = .ok (.aload_n 0, 1) := by decide +kernel
theorem d_8_3_9 : decode prog_8_method_3_code 9 = .ok (.getfield 16, 3) := by decide +kernel
theorem d_8_3_12 : decode prog_8_method_3_code 12 = .ok (.aload_n 3, 1) := by decide +kernel
theorem d_8_3_13 : decode prog_8_method_3_code 13 = .ok (.aload_n 0, 1) := by decide +kernel
theorem d_8_3_14 : decode prog_8_method_3_code 14 = .ok (.getfield 20, 3) := by decide +kernel
theorem d_8_3_17 : decode prog_8_method_3_code 17 = .ok (.invokevirtual 59, 3) := by decide +kernel
set_option maxRecDepth 100000 in
theorem w_1032 : (Cond.code ({ cls := "NumberHouse$Big", name := "divideBy", desc := "(LNumberHouse$Big;LNumberHouse$Big;)V" } : MethodName) prog_2_method_34_code (7 : Nat) (none : Option ClassFile.FieldType)) ∈ q_tbl := q_of5 72 rfl (by decide +kernel)
set_option maxRecDepth 100000 in
theorem w_1278 : (Cond.methodLink "NumberHouse$Mill" (59 : Nat) ({ cls := "NumberHouse$Big", name := "divideBy", desc := "(LNumberHouse$Big;LNumberHouse$Big;)V" } : MethodName)) ∈ q_tbl := q_of6 78 rfl (by decide +kernel)
set_option maxRecDepth 100000 in
theorem w_1030 : (Cond.instanceMethod ({ cls := "NumberHouse$Big", name := "divideBy", desc := "(LNumberHouse$Big;LNumberHouse$Big;)V" } : MethodName)) ∈ q_tbl := q_of5 70 rfl (by decide +kernel)
set_option maxRecDepth 100000 in
theorem w_1031 : (Cond.selects "NumberHouse$Big" ({ cls := "NumberHouse$Big", name := "divideBy", desc := "(LNumberHouse$Big;LNumberHouse$Big;)V" } : MethodName) ({ cls := "NumberHouse$Big", name := "divideBy", desc := "(LNumberHouse$Big;LNumberHouse$Big;)V" } : MethodName)) ∈ q_tbl := q_of5 71 rfl (by decide +kernel)
theorem LV_Mil_59 : q_LV "NumberHouse$Mill" 59 y_Big_divideBy prog_2_method_34_code 7 none 2 := ⟨w_1032, w_4, w_1278, w_1030, w_1031, ⟨by decide, by decide, by decide +kernel⟩⟩
theorem d_8_3_20 : decode prog_8_method_3_code 20 = .ok (.iload_n 1, 1) := by decide +kernel
theorem d_8_3_21 : decode prog_8_method_3_code 21 = .ok (.ifCond .eq 47, 3) := by decide +kernel
theorem d_8_3_68 : decode prog_8_method_3_code 68 = .ok (.return_, 1) := by decide +kernel
theorem d_8_3_24 : decode prog_8_method_3_code 24 = .ok (.aload_n 0, 1) := by decide +kernel
theorem d_8_3_25 : decode prog_8_method_3_code 25 = .ok (.getfield 16, 3) := by decide +kernel
theorem d_8_3_28 : decode prog_8_method_3_code 28 = .ok (.aload_n 0, 1) := by decide +kernel
theorem d_8_3_29 : decode prog_8_method_3_code 29 = .ok (.getfield 20, 3) := by decide +kernel
theorem d_8_3_32 : decode prog_8_method_3_code 32 = .ok (.invokevirtual 51, 3) := by decide +kernel
theorem d_8_3_35 : decode prog_8_method_3_code 35 = .ok (.aload_n 0, 1) := by decide +kernel
theorem d_8_3_36 : decode prog_8_method_3_code 36 = .ok (.getfield 16, 3) := by decide +kernel
theorem d_8_3_39 : decode prog_8_method_3_code 39 = .ok (.aload_n 0, 1) := by decide +kernel
theorem d_8_3_40 : decode prog_8_method_3_code 40 = .ok (.getfield 20, 3) := by decide +kernel
theorem d_8_3_43 : decode prog_8_method_3_code 43 = .ok (.getfield 62, 3) := by decide +kernel
theorem d_8_3_46 : decode prog_8_method_3_code 46 = .ok (.ifCond .le 18, 3) := by decide +kernel
theorem d_8_3_64 : decode prog_8_method_3_code 64 = .ok (.iconst 0, 1) := by decide +kernel
theorem d_8_3_65 : decode prog_8_method_3_code 65 = .ok (.putfield 66, 3) := by decide +kernel
theorem d_8_3_49 : decode prog_8_method_3_code 49 = .ok (.aload_n 2, 1) := by decide +kernel
theorem d_8_3_50 : decode prog_8_method_3_code 50 = .ok (.getfield 66, 3) := by decide +kernel
theorem d_8_3_53 : decode prog_8_method_3_code 53 = .ok (.aload_n 3, 1) := by decide +kernel
theorem d_8_3_54 : decode prog_8_method_3_code 54 = .ok (.getfield 66, 3) := by decide +kernel
theorem d_8_3_57 : decode prog_8_method_3_code 57 = .ok (.if_icmp .eq 7, 3) := by decide +kernel
theorem d_8_3_60 : decode prog_8_method_3_code 60 = .ok (.iconst 1, 1) := by decide +kernel
theorem d_8_3_61 : decode prog_8_method_3_code 61 = .ok (.goto 4, 3) := by decide +kernel
def y_Mil_quotientOrRest : MethodName := ⟨"NumberHouse$Mill", "quotientOrRest", "(ZLNumberHouse$Big;LNumberHouse$Big;)V"⟩
def F_Mil_quotientOrRest_c32 (x2 : Int32) (R : Int32) (R2 : Int32) (t0_0 : Int32) (t0_1 : Int32) (t1_0 : (Nat → Int32)) (t2_0 : Int32) (t2_1 : Int32) (t3_0 : (Nat → Int32)) (t4_0 : Int32) (t4_1 : Int32) (t5_0 : (Nat → Int32)) (t6_0 : Int32) (t6_1 : Int32) (t7_0 : (Nat → Int32)) (p48 : (Int32 × Int32 × (Nat → Int32))) (p95 : (Int32 × Int32 × (Nat → Int32) × Int32 × Int32 × (Nat → Int32) × Int32 × Int32 × (Nat → Int32))) (y74 : Int32) (y75 : Int32) (f76 : (Nat → Int32)) (y69 : Int32) (y70 : Int32) (f71 : (Nat → Int32)) (p128 : (Int32 × Int32 × (Nat → Int32))) : Int32 × Int32 × (Nat → Int32) × Int32 × Int32 × (Nat → Int32) × Int32 × Int32 × (Nat → Int32) := if y74 ≤ (0 : Int32) then (((p128.1 : Int32), (0 : Int32), (p128.2.2 : (Nat → Int32)), y74, y75, f76, y69, y70, f71)) else (if t4_1 = y70 then (((p128.1 : Int32), (0 : Int32), (p128.2.2 : (Nat → Int32)), y74, y75, f76, y69, y70, f71)) else (((p128.1 : Int32), (1 : Int32), (p128.2.2 : (Nat → Int32)), y74, y75, f76, y69, y70, f71)))
def F_Mil_quotientOrRest_c17 (x2 : Int32) (R : Int32) (R2 : Int32) (t0_0 : Int32) (t0_1 : Int32) (t1_0 : (Nat → Int32)) (t2_0 : Int32) (t2_1 : Int32) (t3_0 : (Nat → Int32)) (t4_0 : Int32) (t4_1 : Int32) (t5_0 : (Nat → Int32)) (t6_0 : Int32) (t6_1 : Int32) (t7_0 : (Nat → Int32)) (p48 : (Int32 × Int32 × (Nat → Int32))) (p95 : (Int32 × Int32 × (Nat → Int32) × Int32 × Int32 × (Nat → Int32) × Int32 × Int32 × (Nat → Int32))) : Int32 × Int32 × (Nat → Int32) × Int32 × Int32 × (Nat → Int32) × Int32 × Int32 × (Nat → Int32) := if x2 = (0 : Int32) then (((p95.1 : Int32), (p95.2.1 : Int32), (p95.2.2.1 : (Nat → Int32)), (p95.2.2.2.2.2.2.1 : Int32), (p95.2.2.2.2.2.2.2.1 : Int32), (p95.2.2.2.2.2.2.2.2 : (Nat → Int32)), (p95.2.2.2.1 : Int32), (p95.2.2.2.2.1 : Int32), (p95.2.2.2.2.2.1 : (Nat → Int32)))) else (F_Mil_quotientOrRest_c32 x2 R R2 t0_0 t0_1 t1_0 t2_0 t2_1 t3_0 t4_0 t4_1 t5_0 t6_0 t6_1 t7_0 p48 p95 (p95.2.2.2.2.2.2.1 : Int32) (p95.2.2.2.2.2.2.2.1 : Int32) (p95.2.2.2.2.2.2.2.2 : (Nat → Int32)) (p95.2.2.2.1 : Int32) (p95.2.2.2.2.1 : Int32) (p95.2.2.2.2.2.1 : (Nat → Int32)) ((F_Big_copy (220 : Int32) (220 : Int32) (p95.1 : Int32) (p95.2.1 : Int32) (p95.2.2.1 : (Nat → Int32)) (p95.2.2.2.2.2.2.1 : Int32) (p95.2.2.2.2.2.2.2.1 : Int32) (p95.2.2.2.2.2.2.2.2 : (Nat → Int32))) : (Int32 × Int32 × (Nat → Int32))))
def F_Mil_quotientOrRest_c5 (x2 : Int32) (R : Int32) (R2 : Int32) (t0_0 : Int32) (t0_1 : Int32) (t1_0 : (Nat → Int32)) (t2_0 : Int32) (t2_1 : Int32) (t3_0 : (Nat → Int32)) (t4_0 : Int32) (t4_1 : Int32) (t5_0 : (Nat → Int32)) (t6_0 : Int32) (t6_1 : Int32) (t7_0 : (Nat → Int32)) (p48 : (Int32 × Int32 × (Nat → Int32))) : Int32 × Int32 × (Nat → Int32) × Int32 × Int32 × (Nat → Int32) × Int32 × Int32 × (Nat → Int32) := F_Mil_quotientOrRest_c17 x2 R R2 t0_0 t0_1 t1_0 t2_0 t2_1 t3_0 t4_0 t4_1 t5_0 t6_0 t6_1 t7_0 p48 ((F_Big_divideBy (220 : Int32) R2 (220 : Int32) (p48.1 : Int32) (p48.2.1 : Int32) (p48.2.2 : (Nat → Int32)) t6_0 t6_1 t7_0 t2_0 t2_1 t3_0) : (Int32 × Int32 × (Nat → Int32) × Int32 × Int32 × (Nat → Int32) × Int32 × Int32 × (Nat → Int32)))
def F_Mil_quotientOrRest (x2 : Int32) (R : Int32) (R2 : Int32) (t0_0 : Int32) (t0_1 : Int32) (t1_0 : (Nat → Int32)) (t2_0 : Int32) (t2_1 : Int32) (t3_0 : (Nat → Int32)) (t4_0 : Int32) (t4_1 : Int32) (t5_0 : (Nat → Int32)) (t6_0 : Int32) (t6_1 : Int32) (t7_0 : (Nat → Int32)) : Int32 × Int32 × (Nat → Int32) × Int32 × Int32 × (Nat → Int32) × Int32 × Int32 × (Nat → Int32) := F_Mil_quotientOrRest_c5 x2 R R2 t0_0 t0_1 t1_0 t2_0 t2_1 t3_0 t4_0 t4_1 t5_0 t6_0 t6_1 t7_0 ((F_Big_copy (220 : Int32) R t0_0 t0_1 t1_0 t4_0 t4_1 t5_0) : (Int32 × Int32 × (Nat → Int32)))
def S_Mil_quotientOrRest_c32 (x2 : Int32) (R : Int32) (R2 : Int32) (t0_0 : Int32) (t0_1 : Int32) (t1_0 : (Nat → Int32)) (t2_0 : Int32) (t2_1 : Int32) (t3_0 : (Nat → Int32)) (t4_0 : Int32) (t4_1 : Int32) (t5_0 : (Nat → Int32)) (t6_0 : Int32) (t6_1 : Int32) (t7_0 : (Nat → Int32)) (p48 : (Int32 × Int32 × (Nat → Int32))) (p95 : (Int32 × Int32 × (Nat → Int32) × Int32 × Int32 × (Nat → Int32) × Int32 × Int32 × (Nat → Int32))) (y74 : Int32) (y75 : Int32) (f76 : (Nat → Int32)) (y69 : Int32) (y70 : Int32) (f71 : (Nat → Int32)) (p128 : (Int32 × Int32 × (Nat → Int32))) : Prop := if y74 ≤ (0 : Int32) then (True) else (if t4_1 = y70 then (True) else (True))
def S_Mil_quotientOrRest_c17 (x2 : Int32) (R : Int32) (R2 : Int32) (t0_0 : Int32) (t0_1 : Int32) (t1_0 : (Nat → Int32)) (t2_0 : Int32) (t2_1 : Int32) (t3_0 : (Nat → Int32)) (t4_0 : Int32) (t4_1 : Int32) (t5_0 : (Nat → Int32)) (t6_0 : Int32) (t6_1 : Int32) (t7_0 : (Nat → Int32)) (p48 : (Int32 × Int32 × (Nat → Int32))) (p95 : (Int32 × Int32 × (Nat → Int32) × Int32 × Int32 × (Nat → Int32) × Int32 × Int32 × (Nat → Int32))) : Prop := if x2 = (0 : Int32) then (True) else (S_Mil_quotientOrRest_c32 x2 R R2 t0_0 t0_1 t1_0 t2_0 t2_1 t3_0 t4_0 t4_1 t5_0 t6_0 t6_1 t7_0 p48 p95 (p95.2.2.2.2.2.2.1 : Int32) (p95.2.2.2.2.2.2.2.1 : Int32) (p95.2.2.2.2.2.2.2.2 : (Nat → Int32)) (p95.2.2.2.1 : Int32) (p95.2.2.2.2.1 : Int32) (p95.2.2.2.2.2.1 : (Nat → Int32)) ((F_Big_copy (220 : Int32) (220 : Int32) (p95.1 : Int32) (p95.2.1 : Int32) (p95.2.2.1 : (Nat → Int32)) (p95.2.2.2.2.2.2.1 : Int32) (p95.2.2.2.2.2.2.2.1 : Int32) (p95.2.2.2.2.2.2.2.2 : (Nat → Int32))) : (Int32 × Int32 × (Nat → Int32))))
def S_Mil_quotientOrRest_c5 (x2 : Int32) (R : Int32) (R2 : Int32) (t0_0 : Int32) (t0_1 : Int32) (t1_0 : (Nat → Int32)) (t2_0 : Int32) (t2_1 : Int32) (t3_0 : (Nat → Int32)) (t4_0 : Int32) (t4_1 : Int32) (t5_0 : (Nat → Int32)) (t6_0 : Int32) (t6_1 : Int32) (t7_0 : (Nat → Int32)) (p48 : (Int32 × Int32 × (Nat → Int32))) : Prop := (True ∧ S_Big_divideBy (220 : Int32) R2 (220 : Int32) (p48.1 : Int32) (p48.2.1 : Int32) (p48.2.2 : (Nat → Int32)) t6_0 t6_1 t7_0 t2_0 t2_1 t3_0) ∧ (S_Mil_quotientOrRest_c17 x2 R R2 t0_0 t0_1 t1_0 t2_0 t2_1 t3_0 t4_0 t4_1 t5_0 t6_0 t6_1 t7_0 p48 ((F_Big_divideBy (220 : Int32) R2 (220 : Int32) (p48.1 : Int32) (p48.2.1 : Int32) (p48.2.2 : (Nat → Int32)) t6_0 t6_1 t7_0 t2_0 t2_1 t3_0) : (Int32 × Int32 × (Nat → Int32) × Int32 × Int32 × (Nat → Int32) × Int32 × Int32 × (Nat → Int32))))
def S_Mil_quotientOrRest (x2 : Int32) (R : Int32) (R2 : Int32) (t0_0 : Int32) (t0_1 : Int32) (t1_0 : (Nat → Int32)) (t2_0 : Int32) (t2_1 : Int32) (t3_0 : (Nat → Int32)) (t4_0 : Int32) (t4_1 : Int32) (t5_0 : (Nat → Int32)) (t6_0 : Int32) (t6_1 : Int32) (t7_0 : (Nat → Int32)) : Prop := S_Mil_quotientOrRest_c5 x2 R R2 t0_0 t0_1 t1_0 t2_0 t2_1 t3_0 t4_0 t4_1 t5_0 t6_0 t6_1 t7_0 ((F_Big_copy (220 : Int32) R t0_0 t0_1 t1_0 t4_0 t4_1 t5_0) : (Int32 × Int32 × (Nat → Int32)))
set_option maxRecDepth 100000 in
set_option maxHeartbeats 4000000 in
theorem X_Mil_quotientOrRest (l : Launch) (D : va_G) (g : Nat → ClassId) (q : Nat → Nat) (ws : va_W) (k3 : Nat) (R : Int32) (hB3 : q_isBig (nsh g q) g q k3 R) (zk3 : (10 ≤ k3 ∧ k3 ≤ 32) ∨ 66 ≤ k3) (k4 : Nat) (R2 : Int32) (hB4 : q_isBig (nsh g q) g q k4 R2) (zk4 : (10 ≤ k4 ∧ k4 ≤ 32) ∨ 66 ≤ k4) (x2 : Int32) (ne_k3_10 : k3 ≠ 10) (ne_k3_11 : k3 ≠ 11) (ne_k3_9 : k3 ≠ 9) (ne_k3_12 : k3 ≠ 12) (ne_k3_13 : k3 ≠ 13) (ne_k3_11 : k3 ≠ 11) (ne_k4_10 : k4 ≠ 10) (ne_k4_11 : k4 ≠ 11) (ne_k4_9 : k4 ≠ 9) (ne_k4_12 : k4 ≠ 12) (ne_k4_13 : k4 ≠ 13) (ne_k4_11 : k4 ≠ 11) (ne_k3_k4 : k3 ≠ k4) (hI : q_I (nsh g q) q ws) (t0_0 : Int32) (t0_1 : Int32) (hT0 : ws[10]? = (some (q 10, .inr (2, [.ref (q 11), .int t0_0, .int t0_1])) : Option (Nat × va_E))) (t1_0 : (Nat → Int32)) (hT1 : ws[11]? = (some (q 11, .inl (g 0, (220 : Int32).toNatClampNeg, .inl t1_0)) : Option (Nat × va_E))) (t2_0 : Int32) (t2_1 : Int32) (hT2 : ws[12]? = (some (q 12, .inr (2, [.ref (q 13), .int t2_0, .int t2_1])) : Option (Nat × va_E))) (t3_0 : (Nat → Int32)) (hT3 : ws[13]? = (some (q 13, .inl (g 0, (220 : Int32).toNatClampNeg, .inl t3_0)) : Option (Nat × va_E))) (t4_0 : Int32) (t4_1 : Int32) (hT4 : ws[k3]? = (some (q k3, .inr (2, [.ref (q (k3 + 1)), .int t4_0, .int t4_1])) : Option (Nat × va_E))) (t5_0 : (Nat → Int32)) (hT5 : ws[k3 + 1]? = (some (q (k3 + 1), .inl (g 0, R.toNatClampNeg, .inl t5_0)) : Option (Nat × va_E))) (t6_0 : Int32) (t6_1 : Int32) (hT6 : ws[k4]? = (some (q k4, .inr (2, [.ref (q (k4 + 1)), .int t6_0, .int t6_1])) : Option (Nat × va_E))) (t7_0 : (Nat → Int32)) (hT7 : ws[k4 + 1]? = (some (q (k4 + 1), .inl (g 0, R2.toNatClampNeg, .inl t7_0)) : Option (Nat × va_E))) (hzx2 : 0 ≤ x2.toInt ∧ x2.toInt ≤ 1) (hS : True ∧ S_Mil_quotientOrRest x2 R R2 t0_0 t0_1 t1_0 t2_0 t2_1 t3_0 t4_0 t4_1 t5_0 t6_0 t6_1 t7_0) : q_mV l y_Mil_quotientOrRest prog_8_method_3_code 4 5 0 0 D g [.ref (q 9), .int x2, .ref (q k3), .ref (q k4)] ws (fun u => q_I (nsh g q) q u ∧ q_un ws u [10, 11, 12, 13, k4, k4 + 1] ∧ ∃ (u0_0 : Int32) (u0_1 : Int32) (u1_0 : (Nat → Int32)) (u2_0 : Int32) (u2_1 : Int32) (u3_0 : (Nat → Int32)) (u6_0 : Int32) (u6_1 : Int32) (u7_0 : (Nat → Int32)), u[10]? = (some (q 10, .inr (2, [.ref (q 11), .int u0_0, .int u0_1])) : Option (Nat × va_E)) ∧ u[11]? = (some (q 11, .inl (g 0, (220 : Int32).toNatClampNeg, .inl u1_0)) : Option (Nat × va_E)) ∧ u[12]? = (some (q 12, .inr (2, [.ref (q 13), .int u2_0, .int u2_1])) : Option (Nat × va_E)) ∧ u[13]? = (some (q 13, .inl (g 0, (220 : Int32).toNatClampNeg, .inl u3_0)) : Option (Nat × va_E)) ∧ u[k4]? = (some (q k4, .inr (2, [.ref (q (k4 + 1)), .int u6_0, .int u6_1])) : Option (Nat × va_E)) ∧ u[k4 + 1]? = (some (q (k4 + 1), .inl (g 0, R2.toNatClampNeg, .inl u7_0)) : Option (Nat × va_E)) ∧ (0 ≤ u2_1.toInt) ∧ (u2_1.toInt ≤ 0) ∧ (u2_0.toInt ≤ t6_0.toInt + 219) ∧ (u6_0.toInt ≤ t6_0.toInt + 218) ∧ (u6_0.toInt ≤ R2.toInt) ∧ (u6_1.toInt ≤ t6_1.toInt) ∧ (u2_1.toInt ≤ u0_0.toInt) ∧ (u0_0.toInt ≤ u2_1.toInt + 220) ∧ (u2_1.toInt ≤ u0_1.toInt) ∧ (u0_1.toInt ≤ u2_1.toInt + 1) ∧ (u2_1.toInt ≤ u2_0.toInt) ∧ (u2_0.toInt ≤ u2_1.toInt + 220) ∧ (u2_1.toInt ≤ u6_0.toInt) ∧ (u2_1.toInt ≤ u6_1.toInt) ∧ (u0_0, u0_1, u1_0, u2_0, u2_1, u3_0, u6_0, u6_1, u7_0) = (F_Mil_quotientOrRest x2 R R2 t0_0 t0_1 t1_0 t2_0 t2_1 t3_0 t4_0 t4_1 t5_0 t6_0 t6_1 t7_0)) := by
  intro sz
  refine q_into (by decide) (Nat.le_of_ble_eq_true rfl) ?_
  intro p e s m below meth c ls hsz C0 V hl
  have hx := C0.1
  have hb := C0.2.1
  clear hzx2
  have btt0_1 := (q_bigW hI (n_b10 g q) hT0).2
  clear btt0_1
  have btt2_1 := (q_bigW hI (n_b12 g q) hT2).2
  clear btt2_1
  have btt4_1 := (q_bigW hI hB3 hT4).2
  replace btt4_1 : q_F (0 ≤ t4_1.toInt ∧ t4_1.toInt ≤ 1) := btt4_1
  have btt6_1 := (q_bigW hI hB4 hT6).2
  clear btt6_1
  have hF : q_un ws ws [10, 11, 12, 13, k4, k4 + 1] := q_u0
  have hl : lv_has ls 4 [(0, .ref (q 9)), (1, .int x2), (2, .ref (q k3)), (3, .ref (q k4))] := hl
  refine lv_aload_n hx hb d_8_3_0 rfl (lv_at hl 0 rfl) ?_
  have hO33 := n_o9 hI
  refine q_get (ci := 4) (j := 0) (v := .ref (q 10)) C0 V i_Mil rfl rfl hO33 (by decide) w_108 rfl d_8_3_1 ?_
  refine lv_aload_n hx hb d_8_3_4 rfl (lv_at hl 2 rfl) ?_
  refine q_gov V (q_runV (As := [.ref (q k3)]) (rest := []) (d := 2) (mc := 0) (ms := 0) (ci := 2) C0 V rfl LV_Mil_51 (X_Big_copy l D g q ws 10 220 (n_b10 g q) (by decide) k3 R hB3 zk3  (by have z := ne_k3_10; omega) hI t0_0 t0_1 hT0 t1_0 hT1 t4_0 t4_1 hT4 t5_0 hT5  _) rfl rfl hT0 rfl hl.1 rfl (Nat.le_of_ble_eq_true rfl) ⟨by decide, by decide⟩ ⟨Nat.le_of_ble_eq_true rfl, Nat.le_of_ble_eq_true rfl⟩ d_8_3_5) (fun u34 H locs hp35 V => ?_)
  obtain ⟨hI, hZ9⟩ := hp35
  obtain ⟨hu47, hZ9⟩ := hZ9
  obtain ⟨y37, hZ9⟩ := hZ9
  obtain ⟨y38, hZ9⟩ := hZ9
  obtain ⟨f39, hZ9⟩ := hZ9
  obtain ⟨hO36, hZ9⟩ := hZ9
  obtain ⟨hA40, hZ9⟩ := hZ9
  replace hZ9 := hZ9.2.2.2.2
  obtain ⟨b45, hE46⟩ := hZ9
  replace hO36 : u34[10]? = (some (q 10, .inr (2, [.ref (q 11), .int y37, .int y38])) : Option (Nat × va_E)) := hO36
  replace hA40 : u34[11]? = (some (q 11, .inl (g 0, (220 : Int32).toNatClampNeg, .inl f39)) : Option (Nat × va_E)) := hA40
  obtain ⟨p48, e49⟩ : ∃ z, z = (F_Big_copy (220 : Int32) R t0_0 t0_1 t1_0 t4_0 t4_1 t5_0) := ⟨_, rfl⟩
  have e50 : y37 = p48.1 := congrArg (fun z => z.1) (hE46.trans e49.symm)
  have e51 : y38 = p48.2.1 := congrArg (fun z => z.2.1) (hE46.trans e49.symm)
  have e52 : f39 = p48.2.2 := congrArg (fun z => z.2.2) (hE46.trans e49.symm)
  replace b45 : q_F (y38.toInt ≤ t4_1.toInt) := b45
  replace hT2 := (hu47 _ (by decide)).trans hT2
  replace hT3 := (hu47 _ (by decide)).trans hT3
  replace hT4 := (hu47 _ (by first | exact (q_nc ne_k3_10 (q_nc ne_k3_11 List.not_mem_nil)) | (have z0 := zk3; simp only [List.mem_cons, List.not_mem_nil, or_false, not_or]; omega))).trans hT4
  replace hT5 := (hu47 _ (by first | exact (q_nc (q_nt1 ne_k3_9) (q_nc (q_nt1 ne_k3_10) List.not_mem_nil)) | (have z0 := zk3; simp only [List.mem_cons, List.not_mem_nil, or_false, not_or]; omega))).trans hT5
  replace hT6 := (hu47 _ (by first | exact (q_nc ne_k4_10 (q_nc ne_k4_11 List.not_mem_nil)) | (have z0 := zk4; simp only [List.mem_cons, List.not_mem_nil, or_false, not_or]; omega))).trans hT6
  replace hT7 := (hu47 _ (by first | exact (q_nc (q_nt1 ne_k4_9) (q_nc (q_nt1 ne_k4_10) List.not_mem_nil)) | (have z0 := zk4; simp only [List.mem_cons, List.not_mem_nil, or_false, not_or]; omega))).trans hT7
  replace hO33 := (hu47 _ (by decide)).trans hO33
  replace hF := q_uc hF hu47 (by first | exact (q_sk (q_mi 0 rfl) (q_sk (q_mi 1 rfl) q_s0)) | simp)
  have hR53 := (show F_Mil_quotientOrRest_c5 x2 R R2 t0_0 t0_1 t1_0 t2_0 t2_1 t3_0 t4_0 t4_1 t5_0 t6_0 t6_1 t7_0 p48 = (F_Mil_quotientOrRest x2 R R2 t0_0 t0_1 t1_0 t2_0 t2_1 t3_0 t4_0 t4_1 t5_0 t6_0 t6_1 t7_0) from (by rw [e49, F_Mil_quotientOrRest.eq_1]))
  have hS54 := (show True ∧ S_Mil_quotientOrRest_c5 x2 R R2 t0_0 t0_1 t1_0 t2_0 t2_1 t3_0 t4_0 t4_1 t5_0 t6_0 t6_1 t7_0 p48 from (by rw [e49]; have h := hS; rw [S_Mil_quotientOrRest.eq_1] at h; with_reducible exact h))
  refine lv_aload_n hx hb d_8_3_8 rfl (lv_at hl 0 rfl) ?_
  refine q_get (ci := 4) (j := 0) (v := .ref (q 10)) C0 V i_Mil rfl rfl hO33 (by decide) w_108 rfl d_8_3_9 ?_
  refine lv_aload_n hx hb d_8_3_12 rfl (lv_at hl 3 rfl) ?_
  refine lv_aload_n hx hb d_8_3_13 rfl (lv_at hl 0 rfl) ?_
  refine q_get (ci := 4) (j := 1) (v := .ref (q 12)) C0 V i_Mil rfl rfl hO33 (by decide) w_114 rfl d_8_3_14 ?_
  have ne58 := q_df hT5 hT6
  have ne59 := q_df hT7 hT4
  have ob60 : True ∧ S_Big_divideBy (220 : Int32) R2 (220 : Int32) y37 y38 f39 t6_0 t6_1 t7_0 t2_0 t2_1 t3_0 := (by rw [e52, e51, e50]; have h := hS54; rw [S_Mil_quotientOrRest_c5.eq_1] at h; with_reducible exact h.2.1)
  refine q_gov V (q_runV (As := [.ref (q k4), .ref (q 12)]) (rest := []) (d := 4) (mc := 0) (ms := 0) (ci := 2) C0 V rfl LV_Mil_59 (X_Big_divideBy l D g q u34 10 220 (n_b10 g q) (by decide) k4 R2 hB4 zk4 12 220 (n_b12 g q) (by decide)  (by have z := ne_k4_10; omega) (by decide) (by have z := ne_k4_12; omega) hI y37 y38 hO36 f39 hA40 t6_0 t6_1 hT6 t7_0 hT7 t2_0 t2_1 hT2 t3_0 hT3 ob60 _) rfl rfl hO36 rfl hl.1 rfl (Nat.le_of_ble_eq_true rfl) ⟨by decide, by decide⟩ ⟨Nat.le_of_ble_eq_true rfl, Nat.le_of_ble_eq_true rfl⟩ d_8_3_17) (fun u61 H locs hp62 V => ?_)
  obtain ⟨hI, hZ9⟩ := hp62
  obtain ⟨hu94, hZ9⟩ := hZ9
  obtain ⟨y64, hZ9⟩ := hZ9
  obtain ⟨y65, hZ9⟩ := hZ9
  obtain ⟨f66, hZ9⟩ := hZ9
  obtain ⟨y69, hZ9⟩ := hZ9
  obtain ⟨y70, hZ9⟩ := hZ9
  obtain ⟨f71, hZ9⟩ := hZ9
  obtain ⟨y74, hZ9⟩ := hZ9
  obtain ⟨y75, hZ9⟩ := hZ9
  obtain ⟨f76, hZ9⟩ := hZ9
  obtain ⟨hO63, hZ9⟩ := hZ9
  obtain ⟨hA67, hZ9⟩ := hZ9
  obtain ⟨hO68, hZ9⟩ := hZ9
  obtain ⟨hA72, hZ9⟩ := hZ9
  obtain ⟨hO73, hZ9⟩ := hZ9
  obtain ⟨hA77, hZ9⟩ := hZ9
  obtain ⟨b78, hZ9⟩ := hZ9
  obtain ⟨b79, hZ9⟩ := hZ9
  obtain ⟨b80, hZ9⟩ := hZ9
  obtain ⟨b81, hZ9⟩ := hZ9
  obtain ⟨b82, hZ9⟩ := hZ9
  obtain ⟨b83, hZ9⟩ := hZ9
  obtain ⟨b84, hZ9⟩ := hZ9
  obtain ⟨b85, hZ9⟩ := hZ9
  replace hZ9 := hZ9.2
  obtain ⟨b87, hZ9⟩ := hZ9
  obtain ⟨b88, hZ9⟩ := hZ9
  obtain ⟨b89, hZ9⟩ := hZ9
  obtain ⟨b90, hZ9⟩ := hZ9
  obtain ⟨b91, hZ9⟩ := hZ9
  obtain ⟨b92, hE93⟩ := hZ9
  replace hO63 : u61[10]? = (some (q 10, .inr (2, [.ref (q 11), .int y64, .int y65])) : Option (Nat × va_E)) := hO63
  replace hA67 : u61[11]? = (some (q 11, .inl (g 0, (220 : Int32).toNatClampNeg, .inl f66)) : Option (Nat × va_E)) := hA67
  replace hO68 : u61[k4]? = (some (q k4, .inr (2, [.ref (q (k4 + 1)), .int y69, .int y70])) : Option (Nat × va_E)) := hO68
  replace hA72 : u61[k4 + 1]? = (some (q (k4 + 1), .inl (g 0, R2.toNatClampNeg, .inl f71)) : Option (Nat × va_E)) := hA72
  replace hO73 : u61[12]? = (some (q 12, .inr (2, [.ref (q 13), .int y74, .int y75])) : Option (Nat × va_E)) := hO73
  replace hA77 : u61[13]? = (some (q 13, .inl (g 0, (220 : Int32).toNatClampNeg, .inl f76)) : Option (Nat × va_E)) := hA77
  obtain ⟨p95, e96⟩ : ∃ z, z = (F_Big_divideBy (220 : Int32) R2 (220 : Int32) y37 y38 f39 t6_0 t6_1 t7_0 t2_0 t2_1 t3_0) := ⟨_, rfl⟩
  have e97 : y64 = p95.1 := congrArg (fun z => z.1) (hE93.trans e96.symm)
  have e98 : y65 = p95.2.1 := congrArg (fun z => z.2.1) (hE93.trans e96.symm)
  have e99 : f66 = p95.2.2.1 := congrArg (fun z => z.2.2.1) (hE93.trans e96.symm)
  have e100 : y69 = p95.2.2.2.1 := congrArg (fun z => z.2.2.2.1) (hE93.trans e96.symm)
  have e101 : y70 = p95.2.2.2.2.1 := congrArg (fun z => z.2.2.2.2.1) (hE93.trans e96.symm)
  have e102 : f71 = p95.2.2.2.2.2.1 := congrArg (fun z => z.2.2.2.2.2.1) (hE93.trans e96.symm)
  have e103 : y74 = p95.2.2.2.2.2.2.1 := congrArg (fun z => z.2.2.2.2.2.2.1) (hE93.trans e96.symm)
  have e104 : y75 = p95.2.2.2.2.2.2.2.1 := congrArg (fun z => z.2.2.2.2.2.2.2.1) (hE93.trans e96.symm)
  have e105 : f76 = p95.2.2.2.2.2.2.2.2 := congrArg (fun z => z.2.2.2.2.2.2.2.2) (hE93.trans e96.symm)
  replace b78 : q_F (0 ≤ y75.toInt) := b78
  replace b79 : q_F (y75.toInt ≤ 0) := b79
  replace b80 : q_F (y64.toInt ≤ 220) := b80
  replace b81 : q_F (y65.toInt ≤ y38.toInt) := b81
  replace b82 : q_F (y69.toInt ≤ t6_0.toInt + 218) := b82
  replace b83 : q_F (y69.toInt ≤ R2.toInt) := b83
  replace b84 : q_F (y70.toInt ≤ t6_1.toInt) := b84
  replace b85 : q_F (y74.toInt ≤ t6_0.toInt + 219) := b85
  replace b87 : q_F (y74.toInt ≤ 220) := b87
  replace b88 : q_F (y75.toInt ≤ y64.toInt) := b88
  replace b89 : q_F (y75.toInt ≤ y65.toInt) := b89
  replace b90 : q_F (y75.toInt ≤ y69.toInt) := b90
  replace b91 : q_F (y75.toInt ≤ y70.toInt) := b91
  replace b92 : q_F (y75.toInt ≤ y74.toInt) := b92
  replace hT4 := (hu94 _ (q_nc (by have z := ne_k3_10; omega) (q_nc (by have z := ne_k3_11; omega) (q_nc (by have z := ne_k3_k4; omega) (q_nc (Ne.symm ne59) (q_nc (by have z := ne_k3_12; omega) (q_nc (by have z := ne_k3_13; omega) List.not_mem_nil))))))).trans hT4
  replace hO33 := (hu94 _ (by first | exact (q_nc (Nat.ne_of_beq_eq_false rfl) (q_nc (Nat.ne_of_beq_eq_false rfl) (q_nc (Ne.symm ne_k4_9) (q_nc (q_nz1 zk4 rfl) (q_nc (Nat.ne_of_beq_eq_false rfl) (q_nc (Nat.ne_of_beq_eq_false rfl) List.not_mem_nil)))))) | (have z0 := zk4; simp only [List.mem_cons, List.not_mem_nil, or_false, not_or]; omega))).trans hO33
  replace hF := q_uc hF hu94 (by first | exact (q_sk (q_mi 0 rfl) (q_sk (q_mi 1 rfl) (q_sk (q_mi 4 rfl) (q_sk (q_mi 5 rfl) (q_sk (q_mi 2 rfl) (q_sk (q_mi 3 rfl) q_s0)))))) | simp)
  have hR106 := (show F_Mil_quotientOrRest_c17 x2 R R2 t0_0 t0_1 t1_0 t2_0 t2_1 t3_0 t4_0 t4_1 t5_0 t6_0 t6_1 t7_0 p48 p95 = (F_Mil_quotientOrRest x2 R R2 t0_0 t0_1 t1_0 t2_0 t2_1 t3_0 t4_0 t4_1 t5_0 t6_0 t6_1 t7_0) from Eq.trans (by rw [e96, e52, e51, e50, F_Mil_quotientOrRest_c5.eq_1]) hR53)
  have hS107 := (show True ∧ S_Mil_quotientOrRest_c17 x2 R R2 t0_0 t0_1 t1_0 t2_0 t2_1 t3_0 t4_0 t4_1 t5_0 t6_0 t6_1 t7_0 p48 p95 from (by rw [e96, e52, e51, e50]; have h := hS54; rw [S_Mil_quotientOrRest_c5.eq_1] at h; replace h := q_s2 h; with_reducible exact h))
  refine lv_iload_n hx hb d_8_3_20 rfl (lv_at hl 1 rfl) ?_
  refine lv_if_eq (tgt := 68) hx hb d_8_3_21 (by decide) (fun c111 => ?_) (fun c111 => ?_)
  ·
    exact q_retv C0 V (⟨hI, hF, y64, y65, f66, y74, y75, f76, y69, y70, f71, hO63, hA67, hO73, hA77, hO68, hA72, (show 0 ≤ y75.toInt from (by first | with_reducible exact q_fe b78 | (have t1 : 0 ≤ y75.toInt := b78; omega))), (show y75.toInt ≤ 0 from (by first | with_reducible exact q_fe b79 | (have t1 : y75.toInt ≤ 0 := b79; omega))), (show y74.toInt ≤ t6_0.toInt + 219 from (by first | with_reducible exact q_fe b85 | (have t1 : y74.toInt ≤ t6_0.toInt + 219 := b85; omega))), (show y69.toInt ≤ t6_0.toInt + 218 from (by first | with_reducible exact q_fe b82 | (have t1 : y69.toInt ≤ t6_0.toInt + 218 := b82; omega))), (show y69.toInt ≤ R2.toInt from (by first | with_reducible exact q_fe b83 | (have t1 : y69.toInt ≤ R2.toInt := b83; omega))), (show y70.toInt ≤ t6_1.toInt from (by first | with_reducible exact q_fe b84 | (have t1 : y70.toInt ≤ t6_1.toInt := b84; omega))), (show y75.toInt ≤ y64.toInt from (by first | with_reducible exact q_fe b88 | (have t1 : y75.toInt ≤ y64.toInt := b88; omega))), (show y64.toInt ≤ y75.toInt + 220 from (by have t1 : 0 ≤ y75.toInt := b78; have t2 : y64.toInt ≤ 220 := b80; omega)), (show y75.toInt ≤ y65.toInt from (by first | with_reducible exact q_fe b89 | (have t1 : y75.toInt ≤ y65.toInt := b89; omega))), (show y65.toInt ≤ y75.toInt + 1 from (by have t1 : 0 ≤ t4_1.toInt ∧ t4_1.toInt ≤ 1 := btt4_1; have t2 : y38.toInt ≤ t4_1.toInt := b45; have t3 : 0 ≤ y75.toInt := b78; have t4 : y65.toInt ≤ y38.toInt := b81; omega)), (show y75.toInt ≤ y74.toInt from (by first | with_reducible exact q_fe b92 | (have t1 : y75.toInt ≤ y74.toInt := b92; omega))), (show y74.toInt ≤ y75.toInt + 220 from (by have t1 : 0 ≤ y75.toInt := b78; have t2 : y74.toInt ≤ 220 := b87; omega)), (show y75.toInt ≤ y69.toInt from (by first | with_reducible exact q_fe b90 | (have t1 : y75.toInt ≤ y69.toInt := b90; omega))), (show y75.toInt ≤ y70.toInt from (by first | with_reducible exact q_fe b91 | (have t1 : y75.toInt ≤ y70.toInt := b91; omega))), (show (y64, y65, f66, y74, y75, f76, y69, y70, f71) = (F_Mil_quotientOrRest x2 R R2 t0_0 t0_1 t1_0 t2_0 t2_1 t3_0 t4_0 t4_1 t5_0 t6_0 t6_1 t7_0) from Eq.trans (by rw [e105, e104, e103, e102, e101, e100, e99, e98, e97, F_Mil_quotientOrRest_c17.eq_1, if_pos c111]) hR106)⟩) d_8_3_68
  ·
    refine lv_aload_n hx hb d_8_3_24 rfl (lv_at hl 0 rfl) ?_
    refine q_get (ci := 4) (j := 0) (v := .ref (q 10)) C0 V i_Mil rfl rfl hO33 (by decide) w_108 rfl d_8_3_25 ?_
    refine lv_aload_n hx hb d_8_3_28 rfl (lv_at hl 0 rfl) ?_
    refine q_get (ci := 4) (j := 1) (v := .ref (q 12)) C0 V i_Mil rfl rfl hO33 (by decide) w_114 rfl d_8_3_29 ?_
    refine q_gov V (q_runV (As := [.ref (q 12)]) (rest := []) (d := 2) (mc := 0) (ms := 0) (ci := 2) C0 V rfl LV_Mil_51 (X_Big_copy l D g q u61 10 220 (n_b10 g q) (by decide) 12 220 (n_b12 g q) (by decide)  (by decide) hI y64 y65 hO63 f66 hA67 y74 y75 hO73 f76 hA77  _) rfl rfl hO63 rfl hl.1 rfl (Nat.le_of_ble_eq_true rfl) ⟨by decide, by decide⟩ ⟨Nat.le_of_ble_eq_true rfl, Nat.le_of_ble_eq_true rfl⟩ d_8_3_32) (fun u114 H locs hp115 V => ?_)
    obtain ⟨hI, hZ9⟩ := hp115
    obtain ⟨hu127, hZ9⟩ := hZ9
    obtain ⟨y117, hZ9⟩ := hZ9
    obtain ⟨y118, hZ9⟩ := hZ9
    obtain ⟨f119, hZ9⟩ := hZ9
    obtain ⟨hO116, hZ9⟩ := hZ9
    obtain ⟨hA120, hZ9⟩ := hZ9
    obtain ⟨b121, hZ9⟩ := hZ9
    replace hZ9 := hZ9.2
    obtain ⟨b123, hZ9⟩ := hZ9
    replace hZ9 := hZ9.2
    obtain ⟨-, hE126⟩ := hZ9
    replace hO116 : u114[10]? = (some (q 10, .inr (2, [.ref (q 11), .int y117, .int y118])) : Option (Nat × va_E)) := hO116
    replace hA120 : u114[11]? = (some (q 11, .inl (g 0, (220 : Int32).toNatClampNeg, .inl f119)) : Option (Nat × va_E)) := hA120
    obtain ⟨p128, e129⟩ : ∃ z, z = (F_Big_copy (220 : Int32) (220 : Int32) y64 y65 f66 y74 y75 f76) := ⟨_, rfl⟩
    have e130 : y117 = p128.1 := congrArg (fun z => z.1) (hE126.trans e129.symm)
    have e131 : y118 = p128.2.1 := congrArg (fun z => z.2.1) (hE126.trans e129.symm)
    have e132 : f119 = p128.2.2 := congrArg (fun z => z.2.2) (hE126.trans e129.symm)
    replace b121 : q_F (0 ≤ y117.toInt) := b121
    replace b123 : q_F (y117.toInt ≤ 220) := b123
    replace hO73 := (hu127 _ (by decide)).trans hO73
    replace hA77 := (hu127 _ (by decide)).trans hA77
    replace hT4 := (hu127 _ (by first | exact (q_nc ne_k3_10 (q_nc ne_k3_11 List.not_mem_nil)) | (have z0 := zk3; simp only [List.mem_cons, List.not_mem_nil, or_false, not_or]; omega))).trans hT4
    replace hO68 := (hu127 _ (by first | exact (q_nc ne_k4_10 (q_nc ne_k4_11 List.not_mem_nil)) | (have z0 := zk4; simp only [List.mem_cons, List.not_mem_nil, or_false, not_or]; omega))).trans hO68
    replace hA72 := (hu127 _ (by first | exact (q_nc (q_nt1 ne_k4_9) (q_nc (q_nt1 ne_k4_10) List.not_mem_nil)) | (have z0 := zk4; simp only [List.mem_cons, List.not_mem_nil, or_false, not_or]; omega))).trans hA72
    replace hO33 := (hu127 _ (by decide)).trans hO33
    replace hF := q_uc hF hu127 (by first | exact (q_sk (q_mi 0 rfl) (q_sk (q_mi 1 rfl) q_s0)) | simp)
    have hR133 := (show F_Mil_quotientOrRest_c32 x2 R R2 t0_0 t0_1 t1_0 t2_0 t2_1 t3_0 t4_0 t4_1 t5_0 t6_0 t6_1 t7_0 p48 p95 y74 y75 f76 y69 y70 f71 p128 = (F_Mil_quotientOrRest x2 R R2 t0_0 t0_1 t1_0 t2_0 t2_1 t3_0 t4_0 t4_1 t5_0 t6_0 t6_1 t7_0) from Eq.trans (by rw [e129, e105, e104, e103, e102, e101, e100, e99, e98, e97, F_Mil_quotientOrRest_c17.eq_1, if_neg c111]) hR106)
    have hS134 := (show True ∧ S_Mil_quotientOrRest_c32 x2 R R2 t0_0 t0_1 t1_0 t2_0 t2_1 t3_0 t4_0 t4_1 t5_0 t6_0 t6_1 t7_0 p48 p95 y74 y75 f76 y69 y70 f71 p128 from (by rw [e129, e105, e104, e103, e102, e101, e100, e99, e98, e97]; have h := hS107; rw [S_Mil_quotientOrRest_c17.eq_1] at h; rw [if_neg c111] at h; with_reducible exact h))
    refine lv_aload_n hx hb d_8_3_35 rfl (lv_at hl 0 rfl) ?_
    refine q_get (ci := 4) (j := 0) (v := .ref (q 10)) C0 V i_Mil rfl rfl hO33 (by decide) w_108 rfl d_8_3_36 ?_
    refine lv_aload_n hx hb d_8_3_39 rfl (lv_at hl 0 rfl) ?_
    refine q_get (ci := 4) (j := 1) (v := .ref (q 12)) C0 V i_Mil rfl rfl hO33 (by decide) w_114 rfl d_8_3_40 ?_
    refine q_get (ci := 2) (j := 1) (v := .int y74) C0 V i_Big rfl rfl hO73 (by decide) w_89 rfl d_8_3_43 ?_
    refine lv_if_le (tgt := 64) hx hb d_8_3_46 (by decide) (fun c138 => ?_) (fun c138 => ?_)
    ·
      refine lv_iconst (v := 0) hx hb d_8_3_64 (by decide) ?_
      refine q_put (ci := 2) (j := 2) (v := .int 0) (ty := .boolean) C0 V i_Big o_Big n_Big rfl rfl hO116 (by decide) w_96 rfl rfl rfl rfl (Nat.le_of_ble_eq_true rfl) d_8_3_65 (fun H locs w140 hu141 hO116 V => ?_)
      replace hO116 : w140[10]? = (some (q 10, .inr (2, [.ref (q 11), .int y117, .int 0])) : Option (Nat × va_E)) := hO116
      replace hI := q_bigO' hI (n_b10 g q) hu141 hO116 ⟨(by have zR : (220 : Int32).toInt = 220 := rfl; have t1 : 0 ≤ y117.toInt := b121; omega), (by have zR : (220 : Int32).toInt = 220 := rfl; have t1 : y117.toInt ≤ 220 := b123; omega)⟩ ⟨(by have z9 : (0 : Int32).toInt = 0 := rfl; omega), (by have z9 : (0 : Int32).toInt = 0 := rfl; omega)⟩
      replace hA120 := (hu141 _ (by decide)).trans hA120
      replace hO73 := (hu141 _ (by decide)).trans hO73
      replace hA77 := (hu141 _ (by decide)).trans hA77
      replace hO68 := (hu141 _ (by have z := ne_k4_10; omega)).trans hO68
      replace hA72 := (hu141 _ (by have z := ne_k4_9; omega)).trans hA72
      replace hF := q_us hF hu141 (by simp)
      exact q_retv C0 V (⟨hI, hF, y117, 0, f119, y74, y75, f76, y69, y70, f71, hO116, hA120, hO73, hA77, hO68, hA72, (show 0 ≤ y75.toInt from (by have z16 : (0 : Int32).toInt = 0 := rfl; have t1 : 0 ≤ y75.toInt := b78; omega)), (show y75.toInt ≤ 0 from (by have z16 : (0 : Int32).toInt = 0 := rfl; have t1 : y75.toInt ≤ 0 := b79; omega)), (show y74.toInt ≤ t6_0.toInt + 219 from (by have z16 : (0 : Int32).toInt = 0 := rfl; have t1 : y74.toInt ≤ t6_0.toInt + 219 := b85; omega)), (show y69.toInt ≤ t6_0.toInt + 218 from (by have z16 : (0 : Int32).toInt = 0 := rfl; have t1 : y69.toInt ≤ t6_0.toInt + 218 := b82; omega)), (show y69.toInt ≤ R2.toInt from (by have z16 : (0 : Int32).toInt = 0 := rfl; have t1 : y69.toInt ≤ R2.toInt := b83; omega)), (show y70.toInt ≤ t6_1.toInt from (by have z16 : (0 : Int32).toInt = 0 := rfl; have t1 : y70.toInt ≤ t6_1.toInt := b84; omega)), (show y75.toInt ≤ y117.toInt from (by have z16 : (0 : Int32).toInt = 0 := rfl; have t1 : y75.toInt ≤ 0 := b79; have t2 : 0 ≤ y117.toInt := b121; omega)), (show y117.toInt ≤ y75.toInt + 220 from (by have z16 : (0 : Int32).toInt = 0 := rfl; have t1 : 0 ≤ y75.toInt := b78; have t2 : y117.toInt ≤ 220 := b123; omega)), (show y75.toInt ≤ (0 : Int32).toInt from (by have z16 : (0 : Int32).toInt = 0 := rfl; have t1 : y75.toInt ≤ 0 := b79; omega)), (show (0 : Int32).toInt ≤ y75.toInt + 1 from (by have z16 : (0 : Int32).toInt = 0 := rfl; have t1 : 0 ≤ y75.toInt := b78; omega)), (show y75.toInt ≤ y74.toInt from (by have z16 : (0 : Int32).toInt = 0 := rfl; have t1 : y75.toInt ≤ y74.toInt := b92; omega)), (show y74.toInt ≤ y75.toInt + 220 from (by have z16 : (0 : Int32).toInt = 0 := rfl; have t1 : 0 ≤ y75.toInt := b78; have t2 : y74.toInt ≤ 220 := b87; omega)), (show y75.toInt ≤ y69.toInt from (by have z16 : (0 : Int32).toInt = 0 := rfl; have t1 : y75.toInt ≤ y69.toInt := b90; omega)), (show y75.toInt ≤ y70.toInt from (by have z16 : (0 : Int32).toInt = 0 := rfl; have t1 : y75.toInt ≤ y70.toInt := b91; omega)), (show (y117, (0 : Int32), f119, y74, y75, f76, y69, y70, f71) = (F_Mil_quotientOrRest x2 R R2 t0_0 t0_1 t1_0 t2_0 t2_1 t3_0 t4_0 t4_1 t5_0 t6_0 t6_1 t7_0) from Eq.trans (by rw [e132, e130, F_Mil_quotientOrRest_c32.eq_1, if_pos c138]) hR133)⟩) d_8_3_68
    ·
      refine lv_aload_n hx hb d_8_3_49 rfl (lv_at hl 2 rfl) ?_
      refine q_get (ci := 2) (j := 2) (v := .int t4_1) C0 V i_Big rfl rfl hT4 (by decide) w_96 rfl d_8_3_50 ?_
      refine lv_aload_n hx hb d_8_3_53 rfl (lv_at hl 3 rfl) ?_
      refine q_get (ci := 2) (j := 2) (v := .int y70) C0 V i_Big rfl rfl hO68 (by decide) w_96 rfl d_8_3_54 ?_
      refine lv_icmp_eq (tgt := 64) hx hb d_8_3_57 (by decide) (fun c143 => ?_) (fun c143 => ?_)
      ·
        refine lv_iconst (v := 0) hx hb d_8_3_64 (by decide) ?_
        refine q_put (ci := 2) (j := 2) (v := .int 0) (ty := .boolean) C0 V i_Big o_Big n_Big rfl rfl hO116 (by decide) w_96 rfl rfl rfl rfl (Nat.le_of_ble_eq_true rfl) d_8_3_65 (fun H locs w145 hu146 hO116 V => ?_)
        replace hO116 : w145[10]? = (some (q 10, .inr (2, [.ref (q 11), .int y117, .int 0])) : Option (Nat × va_E)) := hO116
        replace hI := q_bigO' hI (n_b10 g q) hu146 hO116 ⟨(by have zR : (220 : Int32).toInt = 220 := rfl; have t1 : 0 ≤ y117.toInt := b121; omega), (by have zR : (220 : Int32).toInt = 220 := rfl; have t1 : y117.toInt ≤ 220 := b123; omega)⟩ ⟨(by have z9 : (0 : Int32).toInt = 0 := rfl; omega), (by have z9 : (0 : Int32).toInt = 0 := rfl; omega)⟩
        replace hA120 := (hu146 _ (by decide)).trans hA120
        replace hO73 := (hu146 _ (by decide)).trans hO73
        replace hA77 := (hu146 _ (by decide)).trans hA77
        replace hO68 := (hu146 _ (by have z := ne_k4_10; omega)).trans hO68
        replace hA72 := (hu146 _ (by have z := ne_k4_9; omega)).trans hA72
        replace hF := q_us hF hu146 (by simp)
        exact q_retv C0 V (⟨hI, hF, y117, 0, f119, y74, y75, f76, y69, y70, f71, hO116, hA120, hO73, hA77, hO68, hA72, (show 0 ≤ y75.toInt from (by have z16 : (0 : Int32).toInt = 0 := rfl; have t1 : 0 ≤ y75.toInt := b78; omega)), (show y75.toInt ≤ 0 from (by have z16 : (0 : Int32).toInt = 0 := rfl; have t1 : y75.toInt ≤ 0 := b79; omega)), (show y74.toInt ≤ t6_0.toInt + 219 from (by have z16 : (0 : Int32).toInt = 0 := rfl; have t1 : y74.toInt ≤ t6_0.toInt + 219 := b85; omega)), (show y69.toInt ≤ t6_0.toInt + 218 from (by have z16 : (0 : Int32).toInt = 0 := rfl; have t1 : y69.toInt ≤ t6_0.toInt + 218 := b82; omega)), (show y69.toInt ≤ R2.toInt from (by have z16 : (0 : Int32).toInt = 0 := rfl; have t1 : y69.toInt ≤ R2.toInt := b83; omega)), (show y70.toInt ≤ t6_1.toInt from (by have z16 : (0 : Int32).toInt = 0 := rfl; have t1 : y70.toInt ≤ t6_1.toInt := b84; omega)), (show y75.toInt ≤ y117.toInt from (by have z16 : (0 : Int32).toInt = 0 := rfl; have t1 : y75.toInt ≤ 0 := b79; have t2 : 0 ≤ y117.toInt := b121; omega)), (show y117.toInt ≤ y75.toInt + 220 from (by have z16 : (0 : Int32).toInt = 0 := rfl; have t1 : 0 ≤ y75.toInt := b78; have t2 : y117.toInt ≤ 220 := b123; omega)), (show y75.toInt ≤ (0 : Int32).toInt from (by have z16 : (0 : Int32).toInt = 0 := rfl; have t1 : y75.toInt ≤ 0 := b79; omega)), (show (0 : Int32).toInt ≤ y75.toInt + 1 from (by have z16 : (0 : Int32).toInt = 0 := rfl; have t1 : 0 ≤ y75.toInt := b78; omega)), (show y75.toInt ≤ y74.toInt from (by have z16 : (0 : Int32).toInt = 0 := rfl; have t1 : y75.toInt ≤ y74.toInt := b92; omega)), (show y74.toInt ≤ y75.toInt + 220 from (by have z16 : (0 : Int32).toInt = 0 := rfl; have t1 : 0 ≤ y75.toInt := b78; have t2 : y74.toInt ≤ 220 := b87; omega)), (show y75.toInt ≤ y69.toInt from (by have z16 : (0 : Int32).toInt = 0 := rfl; have t1 : y75.toInt ≤ y69.toInt := b90; omega)), (show y75.toInt ≤ y70.toInt from (by have z16 : (0 : Int32).toInt = 0 := rfl; have t1 : y75.toInt ≤ y70.toInt := b91; omega)), (show (y117, (0 : Int32), f119, y74, y75, f76, y69, y70, f71) = (F_Mil_quotientOrRest x2 R R2 t0_0 t0_1 t1_0 t2_0 t2_1 t3_0 t4_0 t4_1 t5_0 t6_0 t6_1 t7_0) from Eq.trans (by rw [e132, e130, F_Mil_quotientOrRest_c32.eq_1, if_neg c138, if_pos c143]) hR133)⟩) d_8_3_68
      ·
        refine lv_iconst (v := 1) hx hb d_8_3_60 (by decide) ?_
        refine lv_goto (tgt := 65) hx hb d_8_3_61 (by decide) ?_
        refine q_put (ci := 2) (j := 2) (v := .int 1) (ty := .boolean) C0 V i_Big o_Big n_Big rfl rfl hO116 (by decide) w_96 rfl rfl rfl rfl (Nat.le_of_ble_eq_true rfl) d_8_3_65 (fun H locs w148 hu149 hO116 V => ?_)
        replace hO116 : w148[10]? = (some (q 10, .inr (2, [.ref (q 11), .int y117, .int 1])) : Option (Nat × va_E)) := hO116
        replace hI := q_bigO' hI (n_b10 g q) hu149 hO116 ⟨(by have zR : (220 : Int32).toInt = 220 := rfl; have t1 : 0 ≤ y117.toInt := b121; omega), (by have zR : (220 : Int32).toInt = 220 := rfl; have t1 : y117.toInt ≤ 220 := b123; omega)⟩ ⟨(by have z9 : (1 : Int32).toInt = 1 := rfl; omega), (by have z9 : (1 : Int32).toInt = 1 := rfl; omega)⟩
        replace hA120 := (hu149 _ (by decide)).trans hA120
        replace hO73 := (hu149 _ (by decide)).trans hO73
        replace hA77 := (hu149 _ (by decide)).trans hA77
        replace hO68 := (hu149 _ (by have z := ne_k4_10; omega)).trans hO68
        replace hA72 := (hu149 _ (by have z := ne_k4_9; omega)).trans hA72
        replace hF := q_us hF hu149 (by simp)
        exact q_retv C0 V (⟨hI, hF, y117, 1, f119, y74, y75, f76, y69, y70, f71, hO116, hA120, hO73, hA77, hO68, hA72, (show 0 ≤ y75.toInt from (by have z16 : (1 : Int32).toInt = 1 := rfl; have t1 : 0 ≤ y75.toInt := b78; omega)), (show y75.toInt ≤ 0 from (by have z16 : (1 : Int32).toInt = 1 := rfl; have t1 : y75.toInt ≤ 0 := b79; omega)), (show y74.toInt ≤ t6_0.toInt + 219 from (by have z16 : (1 : Int32).toInt = 1 := rfl; have t1 : y74.toInt ≤ t6_0.toInt + 219 := b85; omega)), (show y69.toInt ≤ t6_0.toInt + 218 from (by have z16 : (1 : Int32).toInt = 1 := rfl; have t1 : y69.toInt ≤ t6_0.toInt + 218 := b82; omega)), (show y69.toInt ≤ R2.toInt from (by have z16 : (1 : Int32).toInt = 1 := rfl; have t1 : y69.toInt ≤ R2.toInt := b83; omega)), (show y70.toInt ≤ t6_1.toInt from (by have z16 : (1 : Int32).toInt = 1 := rfl; have t1 : y70.toInt ≤ t6_1.toInt := b84; omega)), (show y75.toInt ≤ y117.toInt from (by have z16 : (1 : Int32).toInt = 1 := rfl; have t1 : y75.toInt ≤ 0 := b79; have t2 : 0 ≤ y117.toInt := b121; omega)), (show y117.toInt ≤ y75.toInt + 220 from (by have z16 : (1 : Int32).toInt = 1 := rfl; have t1 : 0 ≤ y75.toInt := b78; have t2 : y117.toInt ≤ 220 := b123; omega)), (show y75.toInt ≤ (1 : Int32).toInt from (by have z16 : (1 : Int32).toInt = 1 := rfl; have t1 : y75.toInt ≤ 0 := b79; omega)), (show (1 : Int32).toInt ≤ y75.toInt + 1 from (by have z16 : (1 : Int32).toInt = 1 := rfl; have t1 : 0 ≤ y75.toInt := b78; omega)), (show y75.toInt ≤ y74.toInt from (by have z16 : (1 : Int32).toInt = 1 := rfl; have t1 : y75.toInt ≤ y74.toInt := b92; omega)), (show y74.toInt ≤ y75.toInt + 220 from (by have z16 : (1 : Int32).toInt = 1 := rfl; have t1 : 0 ≤ y75.toInt := b78; have t2 : y74.toInt ≤ 220 := b87; omega)), (show y75.toInt ≤ y69.toInt from (by have z16 : (1 : Int32).toInt = 1 := rfl; have t1 : y75.toInt ≤ y69.toInt := b90; omega)), (show y75.toInt ≤ y70.toInt from (by have z16 : (1 : Int32).toInt = 1 := rfl; have t1 : y75.toInt ≤ y70.toInt := b91; omega)), (show (y117, (1 : Int32), f119, y74, y75, f76, y69, y70, f71) = (F_Mil_quotientOrRest x2 R R2 t0_0 t0_1 t1_0 t2_0 t2_1 t3_0 t4_0 t4_1 t5_0 t6_0 t6_1 t7_0) from Eq.trans (by rw [e132, e130, F_Mil_quotientOrRest_c32.eq_1, if_neg c138, if_neg c143]) hR133)⟩) d_8_3_68
def F_Mil_quotientOrRest_a_c32 (x2 : Int32) (R3 : Int32) (t0_0 : Int32) (t0_1 : Int32) (t1_0 : (Nat → Int32)) (t2_0 : Int32) (t2_1 : Int32) (t3_0 : (Nat → Int32)) (t4_0 : Int32) (t4_1 : Int32) (t5_0 : (Nat → Int32)) (p40 : (Int32 × Int32 × (Nat → Int32))) (p85 : (Int32 × Int32 × (Nat → Int32) × Int32 × Int32 × (Nat → Int32) × Int32 × Int32 × (Nat → Int32))) (y64 : Int32) (y65 : Int32) (f66 : (Nat → Int32)) (y59 : Int32) (y60 : Int32) (f61 : (Nat → Int32)) (p118 : (Int32 × Int32 × (Nat → Int32))) : Int32 × Int32 × (Nat → Int32) × Int32 × Int32 × (Nat → Int32) × Int32 × Int32 × (Nat → Int32) := if y64 ≤ (0 : Int32) then (((p118.1 : Int32), (0 : Int32), (p118.2.2 : (Nat → Int32)), y64, y65, f66, y59, y60, f61)) else (((p118.1 : Int32), (0 : Int32), (p118.2.2 : (Nat → Int32)), y64, y65, f66, y59, y60, f61))
def F_Mil_quotientOrRest_a_c17 (x2 : Int32) (R3 : Int32) (t0_0 : Int32) (t0_1 : Int32) (t1_0 : (Nat → Int32)) (t2_0 : Int32) (t2_1 : Int32) (t3_0 : (Nat → Int32)) (t4_0 : Int32) (t4_1 : Int32) (t5_0 : (Nat → Int32)) (p40 : (Int32 × Int32 × (Nat → Int32))) (p85 : (Int32 × Int32 × (Nat → Int32) × Int32 × Int32 × (Nat → Int32) × Int32 × Int32 × (Nat → Int32))) : Int32 × Int32 × (Nat → Int32) × Int32 × Int32 × (Nat → Int32) × Int32 × Int32 × (Nat → Int32) := if x2 = (0 : Int32) then (((p85.1 : Int32), (p85.2.1 : Int32), (p85.2.2.1 : (Nat → Int32)), (p85.2.2.2.2.2.2.1 : Int32), (p85.2.2.2.2.2.2.2.1 : Int32), (p85.2.2.2.2.2.2.2.2 : (Nat → Int32)), (p85.2.2.2.1 : Int32), (p85.2.2.2.2.1 : Int32), (p85.2.2.2.2.2.1 : (Nat → Int32)))) else (F_Mil_quotientOrRest_a_c32 x2 R3 t0_0 t0_1 t1_0 t2_0 t2_1 t3_0 t4_0 t4_1 t5_0 p40 p85 (p85.2.2.2.2.2.2.1 : Int32) (p85.2.2.2.2.2.2.2.1 : Int32) (p85.2.2.2.2.2.2.2.2 : (Nat → Int32)) (p85.2.2.2.1 : Int32) (p85.2.2.2.2.1 : Int32) (p85.2.2.2.2.2.1 : (Nat → Int32)) ((F_Big_copy (220 : Int32) (220 : Int32) (p85.1 : Int32) (p85.2.1 : Int32) (p85.2.2.1 : (Nat → Int32)) (p85.2.2.2.2.2.2.1 : Int32) (p85.2.2.2.2.2.2.2.1 : Int32) (p85.2.2.2.2.2.2.2.2 : (Nat → Int32))) : (Int32 × Int32 × (Nat → Int32))))
def F_Mil_quotientOrRest_a_c5 (x2 : Int32) (R3 : Int32) (t0_0 : Int32) (t0_1 : Int32) (t1_0 : (Nat → Int32)) (t2_0 : Int32) (t2_1 : Int32) (t3_0 : (Nat → Int32)) (t4_0 : Int32) (t4_1 : Int32) (t5_0 : (Nat → Int32)) (p40 : (Int32 × Int32 × (Nat → Int32))) : Int32 × Int32 × (Nat → Int32) × Int32 × Int32 × (Nat → Int32) × Int32 × Int32 × (Nat → Int32) := F_Mil_quotientOrRest_a_c17 x2 R3 t0_0 t0_1 t1_0 t2_0 t2_1 t3_0 t4_0 t4_1 t5_0 p40 ((F_Big_divideBy (220 : Int32) R3 (220 : Int32) (p40.1 : Int32) (p40.2.1 : Int32) (p40.2.2 : (Nat → Int32)) t4_0 t4_1 t5_0 t2_0 t2_1 t3_0) : (Int32 × Int32 × (Nat → Int32) × Int32 × Int32 × (Nat → Int32) × Int32 × Int32 × (Nat → Int32)))
def F_Mil_quotientOrRest_a (x2 : Int32) (R3 : Int32) (t0_0 : Int32) (t0_1 : Int32) (t1_0 : (Nat → Int32)) (t2_0 : Int32) (t2_1 : Int32) (t3_0 : (Nat → Int32)) (t4_0 : Int32) (t4_1 : Int32) (t5_0 : (Nat → Int32)) : Int32 × Int32 × (Nat → Int32) × Int32 × Int32 × (Nat → Int32) × Int32 × Int32 × (Nat → Int32) := F_Mil_quotientOrRest_a_c5 x2 R3 t0_0 t0_1 t1_0 t2_0 t2_1 t3_0 t4_0 t4_1 t5_0 ((F_Big_copy (220 : Int32) R3 t0_0 t0_1 t1_0 t4_0 t4_1 t5_0) : (Int32 × Int32 × (Nat → Int32)))
def S_Mil_quotientOrRest_a_c32 (x2 : Int32) (R3 : Int32) (t0_0 : Int32) (t0_1 : Int32) (t1_0 : (Nat → Int32)) (t2_0 : Int32) (t2_1 : Int32) (t3_0 : (Nat → Int32)) (t4_0 : Int32) (t4_1 : Int32) (t5_0 : (Nat → Int32)) (p40 : (Int32 × Int32 × (Nat → Int32))) (p85 : (Int32 × Int32 × (Nat → Int32) × Int32 × Int32 × (Nat → Int32) × Int32 × Int32 × (Nat → Int32))) (y64 : Int32) (y65 : Int32) (f66 : (Nat → Int32)) (y59 : Int32) (y60 : Int32) (f61 : (Nat → Int32)) (p118 : (Int32 × Int32 × (Nat → Int32))) : Prop := if y64 ≤ (0 : Int32) then (True) else (True)
def S_Mil_quotientOrRest_a_c17 (x2 : Int32) (R3 : Int32) (t0_0 : Int32) (t0_1 : Int32) (t1_0 : (Nat → Int32)) (t2_0 : Int32) (t2_1 : Int32) (t3_0 : (Nat → Int32)) (t4_0 : Int32) (t4_1 : Int32) (t5_0 : (Nat → Int32)) (p40 : (Int32 × Int32 × (Nat → Int32))) (p85 : (Int32 × Int32 × (Nat → Int32) × Int32 × Int32 × (Nat → Int32) × Int32 × Int32 × (Nat → Int32))) : Prop := if x2 = (0 : Int32) then (True) else (S_Mil_quotientOrRest_a_c32 x2 R3 t0_0 t0_1 t1_0 t2_0 t2_1 t3_0 t4_0 t4_1 t5_0 p40 p85 (p85.2.2.2.2.2.2.1 : Int32) (p85.2.2.2.2.2.2.2.1 : Int32) (p85.2.2.2.2.2.2.2.2 : (Nat → Int32)) (p85.2.2.2.1 : Int32) (p85.2.2.2.2.1 : Int32) (p85.2.2.2.2.2.1 : (Nat → Int32)) ((F_Big_copy (220 : Int32) (220 : Int32) (p85.1 : Int32) (p85.2.1 : Int32) (p85.2.2.1 : (Nat → Int32)) (p85.2.2.2.2.2.2.1 : Int32) (p85.2.2.2.2.2.2.2.1 : Int32) (p85.2.2.2.2.2.2.2.2 : (Nat → Int32))) : (Int32 × Int32 × (Nat → Int32))))
def S_Mil_quotientOrRest_a_c5 (x2 : Int32) (R3 : Int32) (t0_0 : Int32) (t0_1 : Int32) (t1_0 : (Nat → Int32)) (t2_0 : Int32) (t2_1 : Int32) (t3_0 : (Nat → Int32)) (t4_0 : Int32) (t4_1 : Int32) (t5_0 : (Nat → Int32)) (p40 : (Int32 × Int32 × (Nat → Int32))) : Prop := (True ∧ S_Big_divideBy (220 : Int32) R3 (220 : Int32) (p40.1 : Int32) (p40.2.1 : Int32) (p40.2.2 : (Nat → Int32)) t4_0 t4_1 t5_0 t2_0 t2_1 t3_0) ∧ (S_Mil_quotientOrRest_a_c17 x2 R3 t0_0 t0_1 t1_0 t2_0 t2_1 t3_0 t4_0 t4_1 t5_0 p40 ((F_Big_divideBy (220 : Int32) R3 (220 : Int32) (p40.1 : Int32) (p40.2.1 : Int32) (p40.2.2 : (Nat → Int32)) t4_0 t4_1 t5_0 t2_0 t2_1 t3_0) : (Int32 × Int32 × (Nat → Int32) × Int32 × Int32 × (Nat → Int32) × Int32 × Int32 × (Nat → Int32))))
def S_Mil_quotientOrRest_a (x2 : Int32) (R3 : Int32) (t0_0 : Int32) (t0_1 : Int32) (t1_0 : (Nat → Int32)) (t2_0 : Int32) (t2_1 : Int32) (t3_0 : (Nat → Int32)) (t4_0 : Int32) (t4_1 : Int32) (t5_0 : (Nat → Int32)) : Prop := S_Mil_quotientOrRest_a_c5 x2 R3 t0_0 t0_1 t1_0 t2_0 t2_1 t3_0 t4_0 t4_1 t5_0 ((F_Big_copy (220 : Int32) R3 t0_0 t0_1 t1_0 t4_0 t4_1 t5_0) : (Int32 × Int32 × (Nat → Int32)))
set_option maxRecDepth 100000 in
set_option maxHeartbeats 4000000 in
theorem X_Mil_quotientOrRest_a (l : Launch) (D : va_G) (g : Nat → ClassId) (q : Nat → Nat) (ws : va_W) (k3 : Nat) (R3 : Int32) (hB3 : q_isBig (nsh g q) g q k3 R3) (zk3 : (10 ≤ k3 ∧ k3 ≤ 32) ∨ 66 ≤ k3) (x2 : Int32) (ne_k3_10 : k3 ≠ 10) (ne_k3_11 : k3 ≠ 11) (ne_k3_9 : k3 ≠ 9) (ne_k3_12 : k3 ≠ 12) (ne_k3_13 : k3 ≠ 13) (ne_k3_11 : k3 ≠ 11) (hI : q_I (nsh g q) q ws) (t0_0 : Int32) (t0_1 : Int32) (hT0 : ws[10]? = (some (q 10, .inr (2, [.ref (q 11), .int t0_0, .int t0_1])) : Option (Nat × va_E))) (t1_0 : (Nat → Int32)) (hT1 : ws[11]? = (some (q 11, .inl (g 0, (220 : Int32).toNatClampNeg, .inl t1_0)) : Option (Nat × va_E))) (t2_0 : Int32) (t2_1 : Int32) (hT2 : ws[12]? = (some (q 12, .inr (2, [.ref (q 13), .int t2_0, .int t2_1])) : Option (Nat × va_E))) (t3_0 : (Nat → Int32)) (hT3 : ws[13]? = (some (q 13, .inl (g 0, (220 : Int32).toNatClampNeg, .inl t3_0)) : Option (Nat × va_E))) (t4_0 : Int32) (t4_1 : Int32) (hT4 : ws[k3]? = (some (q k3, .inr (2, [.ref (q (k3 + 1)), .int t4_0, .int t4_1])) : Option (Nat × va_E))) (t5_0 : (Nat → Int32)) (hT5 : ws[k3 + 1]? = (some (q (k3 + 1), .inl (g 0, R3.toNatClampNeg, .inl t5_0)) : Option (Nat × va_E))) (hS : True ∧ S_Mil_quotientOrRest_a x2 R3 t0_0 t0_1 t1_0 t2_0 t2_1 t3_0 t4_0 t4_1 t5_0) : q_mV l y_Mil_quotientOrRest prog_8_method_3_code 4 5 0 0 D g [.ref (q 9), .int x2, .ref (q k3), .ref (q k3)] ws (fun u => q_I (nsh g q) q u ∧ q_un ws u [10, 11, 12, 13, k3, k3 + 1] ∧ ∃ (u0_0 : Int32) (u0_1 : Int32) (u1_0 : (Nat → Int32)) (u2_0 : Int32) (u2_1 : Int32) (u3_0 : (Nat → Int32)) (u4_0 : Int32) (u4_1 : Int32) (u5_0 : (Nat → Int32)), u[10]? = (some (q 10, .inr (2, [.ref (q 11), .int u0_0, .int u0_1])) : Option (Nat × va_E)) ∧ u[11]? = (some (q 11, .inl (g 0, (220 : Int32).toNatClampNeg, .inl u1_0)) : Option (Nat × va_E)) ∧ u[12]? = (some (q 12, .inr (2, [.ref (q 13), .int u2_0, .int u2_1])) : Option (Nat × va_E)) ∧ u[13]? = (some (q 13, .inl (g 0, (220 : Int32).toNatClampNeg, .inl u3_0)) : Option (Nat × va_E)) ∧ u[k3]? = (some (q k3, .inr (2, [.ref (q (k3 + 1)), .int u4_0, .int u4_1])) : Option (Nat × va_E)) ∧ u[k3 + 1]? = (some (q (k3 + 1), .inl (g 0, R3.toNatClampNeg, .inl u5_0)) : Option (Nat × va_E)) ∧ (0 ≤ u2_1.toInt) ∧ (u2_1.toInt ≤ 0) ∧ (u0_1.toInt ≤ t4_1.toInt) ∧ (u2_0.toInt ≤ t4_0.toInt + 219) ∧ (u4_0.toInt ≤ t4_0.toInt + 218) ∧ (u4_0.toInt ≤ R3.toInt) ∧ (u4_1.toInt ≤ t4_1.toInt) ∧ (u2_1.toInt ≤ u0_0.toInt) ∧ (u0_0.toInt ≤ u2_1.toInt + 220) ∧ (u2_1.toInt ≤ u0_1.toInt) ∧ (u2_1.toInt ≤ u2_0.toInt) ∧ (u2_0.toInt ≤ u2_1.toInt + 220) ∧ (u2_1.toInt ≤ u4_0.toInt) ∧ (u2_1.toInt ≤ u4_1.toInt) ∧ (u0_0, u0_1, u1_0, u2_0, u2_1, u3_0, u4_0, u4_1, u5_0) = (F_Mil_quotientOrRest_a x2 R3 t0_0 t0_1 t1_0 t2_0 t2_1 t3_0 t4_0 t4_1 t5_0)) := by
  intro sz
  refine q_into (by decide) (Nat.le_of_ble_eq_true rfl) ?_
  intro p e s m below meth c ls hsz C0 V hl
  have hx := C0.1
  have hb := C0.2.1
  have btt0_1 := (q_bigW hI (n_b10 g q) hT0).2
  clear btt0_1
  have btt2_1 := (q_bigW hI (n_b12 g q) hT2).2
  clear btt2_1
  have btt4_1 := (q_bigW hI hB3 hT4).2
  replace btt4_1 : q_F (0 ≤ t4_1.toInt ∧ t4_1.toInt ≤ 1) := btt4_1
  have hF : q_un ws ws [10, 11, 12, 13, k3, k3 + 1] := q_u0
  have hl : lv_has ls 4 [(0, .ref (q 9)), (1, .int x2), (2, .ref (q k3)), (3, .ref (q k3))] := hl
  refine lv_aload_n hx hb d_8_3_0 rfl (lv_at hl 0 rfl) ?_
  have hO25 := n_o9 hI
  refine q_get (ci := 4) (j := 0) (v := .ref (q 10)) C0 V i_Mil rfl rfl hO25 (by decide) w_108 rfl d_8_3_1 ?_
  refine lv_aload_n hx hb d_8_3_4 rfl (lv_at hl 2 rfl) ?_
  refine q_gov V (q_runV (As := [.ref (q k3)]) (rest := []) (d := 2) (mc := 0) (ms := 0) (ci := 2) C0 V rfl LV_Mil_51 (X_Big_copy l D g q ws 10 220 (n_b10 g q) (by decide) k3 R3 hB3 zk3  (by have z := ne_k3_10; omega) hI t0_0 t0_1 hT0 t1_0 hT1 t4_0 t4_1 hT4 t5_0 hT5  _) rfl rfl hT0 rfl hl.1 rfl (Nat.le_of_ble_eq_true rfl) ⟨by decide, by decide⟩ ⟨Nat.le_of_ble_eq_true rfl, Nat.le_of_ble_eq_true rfl⟩ d_8_3_5) (fun u26 H locs hp27 V => ?_)
  obtain ⟨hI, hZ9⟩ := hp27
  obtain ⟨hu39, hZ9⟩ := hZ9
  obtain ⟨y29, hZ9⟩ := hZ9
  obtain ⟨y30, hZ9⟩ := hZ9
  obtain ⟨f31, hZ9⟩ := hZ9
  obtain ⟨hO28, hZ9⟩ := hZ9
  obtain ⟨hA32, hZ9⟩ := hZ9
  replace hZ9 := hZ9.2.2.2.2
  obtain ⟨b37, hE38⟩ := hZ9
  replace hO28 : u26[10]? = (some (q 10, .inr (2, [.ref (q 11), .int y29, .int y30])) : Option (Nat × va_E)) := hO28
  replace hA32 : u26[11]? = (some (q 11, .inl (g 0, (220 : Int32).toNatClampNeg, .inl f31)) : Option (Nat × va_E)) := hA32
  obtain ⟨p40, e41⟩ : ∃ z, z = (F_Big_copy (220 : Int32) R3 t0_0 t0_1 t1_0 t4_0 t4_1 t5_0) := ⟨_, rfl⟩
  have e42 : y29 = p40.1 := congrArg (fun z => z.1) (hE38.trans e41.symm)
  have e43 : y30 = p40.2.1 := congrArg (fun z => z.2.1) (hE38.trans e41.symm)
  have e44 : f31 = p40.2.2 := congrArg (fun z => z.2.2) (hE38.trans e41.symm)
  replace b37 : q_F (y30.toInt ≤ t4_1.toInt) := b37
  replace hT2 := (hu39 _ (by decide)).trans hT2
  replace hT3 := (hu39 _ (by decide)).trans hT3
  replace hT4 := (hu39 _ (by first | exact (q_nc ne_k3_10 (q_nc ne_k3_11 List.not_mem_nil)) | (have z0 := zk3; simp only [List.mem_cons, List.not_mem_nil, or_false, not_or]; omega))).trans hT4
  replace hT5 := (hu39 _ (by first | exact (q_nc (q_nt1 ne_k3_9) (q_nc (q_nt1 ne_k3_10) List.not_mem_nil)) | (have z0 := zk3; simp only [List.mem_cons, List.not_mem_nil, or_false, not_or]; omega))).trans hT5
  replace hO25 := (hu39 _ (by decide)).trans hO25
  replace hF := q_uc hF hu39 (by first | exact (q_sk (q_mi 0 rfl) (q_sk (q_mi 1 rfl) q_s0)) | simp)
  have hR45 := (show F_Mil_quotientOrRest_a_c5 x2 R3 t0_0 t0_1 t1_0 t2_0 t2_1 t3_0 t4_0 t4_1 t5_0 p40 = (F_Mil_quotientOrRest_a x2 R3 t0_0 t0_1 t1_0 t2_0 t2_1 t3_0 t4_0 t4_1 t5_0) from (by rw [e41, F_Mil_quotientOrRest_a.eq_1]))
  have hS46 := (show True ∧ S_Mil_quotientOrRest_a_c5 x2 R3 t0_0 t0_1 t1_0 t2_0 t2_1 t3_0 t4_0 t4_1 t5_0 p40 from (by rw [e41]; have h := hS; rw [S_Mil_quotientOrRest_a.eq_1] at h; with_reducible exact h))
  refine lv_aload_n hx hb d_8_3_8 rfl (lv_at hl 0 rfl) ?_
  refine q_get (ci := 4) (j := 0) (v := .ref (q 10)) C0 V i_Mil rfl rfl hO25 (by decide) w_108 rfl d_8_3_9 ?_
  refine lv_aload_n hx hb d_8_3_12 rfl (lv_at hl 3 rfl) ?_
  refine lv_aload_n hx hb d_8_3_13 rfl (lv_at hl 0 rfl) ?_
  refine q_get (ci := 4) (j := 1) (v := .ref (q 12)) C0 V i_Mil rfl rfl hO25 (by decide) w_114 rfl d_8_3_14 ?_
  have ob50 : True ∧ S_Big_divideBy (220 : Int32) R3 (220 : Int32) y29 y30 f31 t4_0 t4_1 t5_0 t2_0 t2_1 t3_0 := (by rw [e44, e43, e42]; have h := hS46; rw [S_Mil_quotientOrRest_a_c5.eq_1] at h; with_reducible exact h.2.1)
  refine q_gov V (q_runV (As := [.ref (q k3), .ref (q 12)]) (rest := []) (d := 4) (mc := 0) (ms := 0) (ci := 2) C0 V rfl LV_Mil_59 (X_Big_divideBy l D g q u26 10 220 (n_b10 g q) (by decide) k3 R3 hB3 zk3 12 220 (n_b12 g q) (by decide)  (by have z := ne_k3_10; omega) (by decide) (by have z := ne_k3_12; omega) hI y29 y30 hO28 f31 hA32 t4_0 t4_1 hT4 t5_0 hT5 t2_0 t2_1 hT2 t3_0 hT3 ob50 _) rfl rfl hO28 rfl hl.1 rfl (Nat.le_of_ble_eq_true rfl) ⟨by decide, by decide⟩ ⟨Nat.le_of_ble_eq_true rfl, Nat.le_of_ble_eq_true rfl⟩ d_8_3_17) (fun u51 H locs hp52 V => ?_)
  obtain ⟨hI, hZ9⟩ := hp52
  obtain ⟨hu84, hZ9⟩ := hZ9
  obtain ⟨y54, hZ9⟩ := hZ9
  obtain ⟨y55, hZ9⟩ := hZ9
  obtain ⟨f56, hZ9⟩ := hZ9
  obtain ⟨y59, hZ9⟩ := hZ9
  obtain ⟨y60, hZ9⟩ := hZ9
  obtain ⟨f61, hZ9⟩ := hZ9
  obtain ⟨y64, hZ9⟩ := hZ9
  obtain ⟨y65, hZ9⟩ := hZ9
  obtain ⟨f66, hZ9⟩ := hZ9
  obtain ⟨hO53, hZ9⟩ := hZ9
  obtain ⟨hA57, hZ9⟩ := hZ9
  obtain ⟨hO58, hZ9⟩ := hZ9
  obtain ⟨hA62, hZ9⟩ := hZ9
  obtain ⟨hO63, hZ9⟩ := hZ9
  obtain ⟨hA67, hZ9⟩ := hZ9
  obtain ⟨b68, hZ9⟩ := hZ9
  obtain ⟨b69, hZ9⟩ := hZ9
  obtain ⟨b70, hZ9⟩ := hZ9
  obtain ⟨b71, hZ9⟩ := hZ9
  obtain ⟨b72, hZ9⟩ := hZ9
  obtain ⟨b73, hZ9⟩ := hZ9
  obtain ⟨b74, hZ9⟩ := hZ9
  obtain ⟨b75, hZ9⟩ := hZ9
  replace hZ9 := hZ9.2
  obtain ⟨b77, hZ9⟩ := hZ9
  obtain ⟨b78, hZ9⟩ := hZ9
  obtain ⟨b79, hZ9⟩ := hZ9
  obtain ⟨b80, hZ9⟩ := hZ9
  obtain ⟨b81, hZ9⟩ := hZ9
  obtain ⟨b82, hE83⟩ := hZ9
  replace hO53 : u51[10]? = (some (q 10, .inr (2, [.ref (q 11), .int y54, .int y55])) : Option (Nat × va_E)) := hO53
  replace hA57 : u51[11]? = (some (q 11, .inl (g 0, (220 : Int32).toNatClampNeg, .inl f56)) : Option (Nat × va_E)) := hA57
  replace hO58 : u51[k3]? = (some (q k3, .inr (2, [.ref (q (k3 + 1)), .int y59, .int y60])) : Option (Nat × va_E)) := hO58
  replace hA62 : u51[k3 + 1]? = (some (q (k3 + 1), .inl (g 0, R3.toNatClampNeg, .inl f61)) : Option (Nat × va_E)) := hA62
  replace hO63 : u51[12]? = (some (q 12, .inr (2, [.ref (q 13), .int y64, .int y65])) : Option (Nat × va_E)) := hO63
  replace hA67 : u51[13]? = (some (q 13, .inl (g 0, (220 : Int32).toNatClampNeg, .inl f66)) : Option (Nat × va_E)) := hA67
  obtain ⟨p85, e86⟩ : ∃ z, z = (F_Big_divideBy (220 : Int32) R3 (220 : Int32) y29 y30 f31 t4_0 t4_1 t5_0 t2_0 t2_1 t3_0) := ⟨_, rfl⟩
  have e87 : y54 = p85.1 := congrArg (fun z => z.1) (hE83.trans e86.symm)
  have e88 : y55 = p85.2.1 := congrArg (fun z => z.2.1) (hE83.trans e86.symm)
  have e89 : f56 = p85.2.2.1 := congrArg (fun z => z.2.2.1) (hE83.trans e86.symm)
  have e90 : y59 = p85.2.2.2.1 := congrArg (fun z => z.2.2.2.1) (hE83.trans e86.symm)
  have e91 : y60 = p85.2.2.2.2.1 := congrArg (fun z => z.2.2.2.2.1) (hE83.trans e86.symm)
  have e92 : f61 = p85.2.2.2.2.2.1 := congrArg (fun z => z.2.2.2.2.2.1) (hE83.trans e86.symm)
  have e93 : y64 = p85.2.2.2.2.2.2.1 := congrArg (fun z => z.2.2.2.2.2.2.1) (hE83.trans e86.symm)
  have e94 : y65 = p85.2.2.2.2.2.2.2.1 := congrArg (fun z => z.2.2.2.2.2.2.2.1) (hE83.trans e86.symm)
  have e95 : f66 = p85.2.2.2.2.2.2.2.2 := congrArg (fun z => z.2.2.2.2.2.2.2.2) (hE83.trans e86.symm)
  replace b68 : q_F (0 ≤ y65.toInt) := b68
  replace b69 : q_F (y65.toInt ≤ 0) := b69
  replace b70 : q_F (y54.toInt ≤ 220) := b70
  replace b71 : q_F (y55.toInt ≤ y30.toInt) := b71
  replace b72 : q_F (y59.toInt ≤ t4_0.toInt + 218) := b72
  replace b73 : q_F (y59.toInt ≤ R3.toInt) := b73
  replace b74 : q_F (y60.toInt ≤ t4_1.toInt) := b74
  replace b75 : q_F (y64.toInt ≤ t4_0.toInt + 219) := b75
  replace b77 : q_F (y64.toInt ≤ 220) := b77
  replace b78 : q_F (y65.toInt ≤ y54.toInt) := b78
  replace b79 : q_F (y65.toInt ≤ y55.toInt) := b79
  replace b80 : q_F (y65.toInt ≤ y59.toInt) := b80
  replace b81 : q_F (y65.toInt ≤ y60.toInt) := b81
  replace b82 : q_F (y65.toInt ≤ y64.toInt) := b82
  replace hO25 := (hu84 _ (by first | exact (q_nc (Nat.ne_of_beq_eq_false rfl) (q_nc (Nat.ne_of_beq_eq_false rfl) (q_nc (Ne.symm ne_k3_9) (q_nc (q_nz1 zk3 rfl) (q_nc (Nat.ne_of_beq_eq_false rfl) (q_nc (Nat.ne_of_beq_eq_false rfl) List.not_mem_nil)))))) | (have z0 := zk3; simp only [List.mem_cons, List.not_mem_nil, or_false, not_or]; omega))).trans hO25
  replace hF := q_uc hF hu84 (by first | exact (q_sk (q_mi 0 rfl) (q_sk (q_mi 1 rfl) (q_sk (q_mi 4 rfl) (q_sk (q_mi 5 rfl) (q_sk (q_mi 2 rfl) (q_sk (q_mi 3 rfl) q_s0)))))) | simp)
  have hR96 := (show F_Mil_quotientOrRest_a_c17 x2 R3 t0_0 t0_1 t1_0 t2_0 t2_1 t3_0 t4_0 t4_1 t5_0 p40 p85 = (F_Mil_quotientOrRest_a x2 R3 t0_0 t0_1 t1_0 t2_0 t2_1 t3_0 t4_0 t4_1 t5_0) from Eq.trans (by rw [e86, e44, e43, e42, F_Mil_quotientOrRest_a_c5.eq_1]) hR45)
  have hS97 := (show True ∧ S_Mil_quotientOrRest_a_c17 x2 R3 t0_0 t0_1 t1_0 t2_0 t2_1 t3_0 t4_0 t4_1 t5_0 p40 p85 from (by rw [e86, e44, e43, e42]; have h := hS46; rw [S_Mil_quotientOrRest_a_c5.eq_1] at h; replace h := q_s2 h; with_reducible exact h))
  refine lv_iload_n hx hb d_8_3_20 rfl (lv_at hl 1 rfl) ?_
  refine lv_if_eq (tgt := 68) hx hb d_8_3_21 (by decide) (fun c101 => ?_) (fun c101 => ?_)
  ·
    exact q_retv C0 V (⟨hI, hF, y54, y55, f56, y64, y65, f66, y59, y60, f61, hO53, hA57, hO63, hA67, hO58, hA62, (show 0 ≤ y65.toInt from (by first | with_reducible exact q_fe b68 | (have t1 : 0 ≤ y65.toInt := b68; omega))), (show y65.toInt ≤ 0 from (by first | with_reducible exact q_fe b69 | (have t1 : y65.toInt ≤ 0 := b69; omega))), (show y55.toInt ≤ t4_1.toInt from (by have t1 : y30.toInt ≤ t4_1.toInt := b37; have t2 : y55.toInt ≤ y30.toInt := b71; omega)), (show y64.toInt ≤ t4_0.toInt + 219 from (by first | with_reducible exact q_fe b75 | (have t1 : y64.toInt ≤ t4_0.toInt + 219 := b75; omega))), (show y59.toInt ≤ t4_0.toInt + 218 from (by first | with_reducible exact q_fe b72 | (have t1 : y59.toInt ≤ t4_0.toInt + 218 := b72; omega))), (show y59.toInt ≤ R3.toInt from (by first | with_reducible exact q_fe b73 | (have t1 : y59.toInt ≤ R3.toInt := b73; omega))), (show y60.toInt ≤ t4_1.toInt from (by first | with_reducible exact q_fe b74 | (have t1 : y60.toInt ≤ t4_1.toInt := b74; omega))), (show y65.toInt ≤ y54.toInt from (by first | with_reducible exact q_fe b78 | (have t1 : y65.toInt ≤ y54.toInt := b78; omega))), (show y54.toInt ≤ y65.toInt + 220 from (by have t1 : 0 ≤ y65.toInt := b68; have t2 : y54.toInt ≤ 220 := b70; omega)), (show y65.toInt ≤ y55.toInt from (by first | with_reducible exact q_fe b79 | (have t1 : y65.toInt ≤ y55.toInt := b79; omega))), (show y65.toInt ≤ y64.toInt from (by first | with_reducible exact q_fe b82 | (have t1 : y65.toInt ≤ y64.toInt := b82; omega))), (show y64.toInt ≤ y65.toInt + 220 from (by have t1 : 0 ≤ y65.toInt := b68; have t2 : y64.toInt ≤ 220 := b77; omega)), (show y65.toInt ≤ y59.toInt from (by first | with_reducible exact q_fe b80 | (have t1 : y65.toInt ≤ y59.toInt := b80; omega))), (show y65.toInt ≤ y60.toInt from (by first | with_reducible exact q_fe b81 | (have t1 : y65.toInt ≤ y60.toInt := b81; omega))), (show (y54, y55, f56, y64, y65, f66, y59, y60, f61) = (F_Mil_quotientOrRest_a x2 R3 t0_0 t0_1 t1_0 t2_0 t2_1 t3_0 t4_0 t4_1 t5_0) from Eq.trans (by rw [e95, e94, e93, e92, e91, e90, e89, e88, e87, F_Mil_quotientOrRest_a_c17.eq_1, if_pos c101]) hR96)⟩) d_8_3_68
  ·
    refine lv_aload_n hx hb d_8_3_24 rfl (lv_at hl 0 rfl) ?_
    refine q_get (ci := 4) (j := 0) (v := .ref (q 10)) C0 V i_Mil rfl rfl hO25 (by decide) w_108 rfl d_8_3_25 ?_
    refine lv_aload_n hx hb d_8_3_28 rfl (lv_at hl 0 rfl) ?_
    refine q_get (ci := 4) (j := 1) (v := .ref (q 12)) C0 V i_Mil rfl rfl hO25 (by decide) w_114 rfl d_8_3_29 ?_
    refine q_gov V (q_runV (As := [.ref (q 12)]) (rest := []) (d := 2) (mc := 0) (ms := 0) (ci := 2) C0 V rfl LV_Mil_51 (X_Big_copy l D g q u51 10 220 (n_b10 g q) (by decide) 12 220 (n_b12 g q) (by decide)  (by decide) hI y54 y55 hO53 f56 hA57 y64 y65 hO63 f66 hA67  _) rfl rfl hO53 rfl hl.1 rfl (Nat.le_of_ble_eq_true rfl) ⟨by decide, by decide⟩ ⟨Nat.le_of_ble_eq_true rfl, Nat.le_of_ble_eq_true rfl⟩ d_8_3_32) (fun u104 H locs hp105 V => ?_)
    obtain ⟨hI, hZ9⟩ := hp105
    obtain ⟨hu117, hZ9⟩ := hZ9
    obtain ⟨y107, hZ9⟩ := hZ9
    obtain ⟨y108, hZ9⟩ := hZ9
    obtain ⟨f109, hZ9⟩ := hZ9
    obtain ⟨hO106, hZ9⟩ := hZ9
    obtain ⟨hA110, hZ9⟩ := hZ9
    obtain ⟨b111, hZ9⟩ := hZ9
    replace hZ9 := hZ9.2
    obtain ⟨b113, hZ9⟩ := hZ9
    replace hZ9 := hZ9.2
    obtain ⟨-, hE116⟩ := hZ9
    replace hO106 : u104[10]? = (some (q 10, .inr (2, [.ref (q 11), .int y107, .int y108])) : Option (Nat × va_E)) := hO106
    replace hA110 : u104[11]? = (some (q 11, .inl (g 0, (220 : Int32).toNatClampNeg, .inl f109)) : Option (Nat × va_E)) := hA110
    obtain ⟨p118, e119⟩ : ∃ z, z = (F_Big_copy (220 : Int32) (220 : Int32) y54 y55 f56 y64 y65 f66) := ⟨_, rfl⟩
    have e120 : y107 = p118.1 := congrArg (fun z => z.1) (hE116.trans e119.symm)
    have e121 : y108 = p118.2.1 := congrArg (fun z => z.2.1) (hE116.trans e119.symm)
    have e122 : f109 = p118.2.2 := congrArg (fun z => z.2.2) (hE116.trans e119.symm)
    replace b111 : q_F (0 ≤ y107.toInt) := b111
    replace b113 : q_F (y107.toInt ≤ 220) := b113
    replace hO63 := (hu117 _ (by decide)).trans hO63
    replace hA67 := (hu117 _ (by decide)).trans hA67
    replace hO58 := (hu117 _ (by first | exact (q_nc ne_k3_10 (q_nc ne_k3_11 List.not_mem_nil)) | (have z0 := zk3; simp only [List.mem_cons, List.not_mem_nil, or_false, not_or]; omega))).trans hO58
    replace hA62 := (hu117 _ (by first | exact (q_nc (q_nt1 ne_k3_9) (q_nc (q_nt1 ne_k3_10) List.not_mem_nil)) | (have z0 := zk3; simp only [List.mem_cons, List.not_mem_nil, or_false, not_or]; omega))).trans hA62
    replace hO25 := (hu117 _ (by decide)).trans hO25
    replace hF := q_uc hF hu117 (by first | exact (q_sk (q_mi 0 rfl) (q_sk (q_mi 1 rfl) q_s0)) | simp)
    have hR123 := (show F_Mil_quotientOrRest_a_c32 x2 R3 t0_0 t0_1 t1_0 t2_0 t2_1 t3_0 t4_0 t4_1 t5_0 p40 p85 y64 y65 f66 y59 y60 f61 p118 = (F_Mil_quotientOrRest_a x2 R3 t0_0 t0_1 t1_0 t2_0 t2_1 t3_0 t4_0 t4_1 t5_0) from Eq.trans (by rw [e119, e95, e94, e93, e92, e91, e90, e89, e88, e87, F_Mil_quotientOrRest_a_c17.eq_1, if_neg c101]) hR96)
    have hS124 := (show True ∧ S_Mil_quotientOrRest_a_c32 x2 R3 t0_0 t0_1 t1_0 t2_0 t2_1 t3_0 t4_0 t4_1 t5_0 p40 p85 y64 y65 f66 y59 y60 f61 p118 from (by rw [e119, e95, e94, e93, e92, e91, e90, e89, e88, e87]; have h := hS97; rw [S_Mil_quotientOrRest_a_c17.eq_1] at h; rw [if_neg c101] at h; with_reducible exact h))
    refine lv_aload_n hx hb d_8_3_35 rfl (lv_at hl 0 rfl) ?_
    refine q_get (ci := 4) (j := 0) (v := .ref (q 10)) C0 V i_Mil rfl rfl hO25 (by decide) w_108 rfl d_8_3_36 ?_
    refine lv_aload_n hx hb d_8_3_39 rfl (lv_at hl 0 rfl) ?_
    refine q_get (ci := 4) (j := 1) (v := .ref (q 12)) C0 V i_Mil rfl rfl hO25 (by decide) w_114 rfl d_8_3_40 ?_
    refine q_get (ci := 2) (j := 1) (v := .int y64) C0 V i_Big rfl rfl hO63 (by decide) w_89 rfl d_8_3_43 ?_
    refine lv_if_le (tgt := 64) hx hb d_8_3_46 (by decide) (fun c128 => ?_) (fun c128 => ?_)
    ·
      refine lv_iconst (v := 0) hx hb d_8_3_64 (by decide) ?_
      refine q_put (ci := 2) (j := 2) (v := .int 0) (ty := .boolean) C0 V i_Big o_Big n_Big rfl rfl hO106 (by decide) w_96 rfl rfl rfl rfl (Nat.le_of_ble_eq_true rfl) d_8_3_65 (fun H locs w130 hu131 hO106 V => ?_)
      replace hO106 : w130[10]? = (some (q 10, .inr (2, [.ref (q 11), .int y107, .int 0])) : Option (Nat × va_E)) := hO106
      replace hI := q_bigO' hI (n_b10 g q) hu131 hO106 ⟨(by have zR : (220 : Int32).toInt = 220 := rfl; have t1 : 0 ≤ y107.toInt := b111; omega), (by have zR : (220 : Int32).toInt = 220 := rfl; have t1 : y107.toInt ≤ 220 := b113; omega)⟩ ⟨(by have z9 : (0 : Int32).toInt = 0 := rfl; omega), (by have z9 : (0 : Int32).toInt = 0 := rfl; omega)⟩
      replace hA110 := (hu131 _ (by decide)).trans hA110
      replace hO63 := (hu131 _ (by decide)).trans hO63
      replace hA67 := (hu131 _ (by decide)).trans hA67
      replace hO58 := (hu131 _ (by have z := ne_k3_10; omega)).trans hO58
      replace hA62 := (hu131 _ (by have z := ne_k3_9; omega)).trans hA62
      replace hF := q_us hF hu131 (by simp)
      exact q_retv C0 V (⟨hI, hF, y107, 0, f109, y64, y65, f66, y59, y60, f61, hO106, hA110, hO63, hA67, hO58, hA62, (show 0 ≤ y65.toInt from (by have z12 : (0 : Int32).toInt = 0 := rfl; have t1 : 0 ≤ y65.toInt := b68; omega)), (show y65.toInt ≤ 0 from (by have z12 : (0 : Int32).toInt = 0 := rfl; have t1 : y65.toInt ≤ 0 := b69; omega)), (show (0 : Int32).toInt ≤ t4_1.toInt from (by have z12 : (0 : Int32).toInt = 0 := rfl; have t1 : 0 ≤ t4_1.toInt ∧ t4_1.toInt ≤ 1 := btt4_1; omega)), (show y64.toInt ≤ t4_0.toInt + 219 from (by have z12 : (0 : Int32).toInt = 0 := rfl; have t1 : y64.toInt ≤ t4_0.toInt + 219 := b75; omega)), (show y59.toInt ≤ t4_0.toInt + 218 from (by have z12 : (0 : Int32).toInt = 0 := rfl; have t1 : y59.toInt ≤ t4_0.toInt + 218 := b72; omega)), (show y59.toInt ≤ R3.toInt from (by have z12 : (0 : Int32).toInt = 0 := rfl; have t1 : y59.toInt ≤ R3.toInt := b73; omega)), (show y60.toInt ≤ t4_1.toInt from (by have z12 : (0 : Int32).toInt = 0 := rfl; have t1 : y60.toInt ≤ t4_1.toInt := b74; omega)), (show y65.toInt ≤ y107.toInt from (by have z12 : (0 : Int32).toInt = 0 := rfl; have t1 : y65.toInt ≤ 0 := b69; have t2 : 0 ≤ y107.toInt := b111; omega)), (show y107.toInt ≤ y65.toInt + 220 from (by have z12 : (0 : Int32).toInt = 0 := rfl; have t1 : 0 ≤ y65.toInt := b68; have t2 : y107.toInt ≤ 220 := b113; omega)), (show y65.toInt ≤ (0 : Int32).toInt from (by have z12 : (0 : Int32).toInt = 0 := rfl; have t1 : y65.toInt ≤ 0 := b69; omega)), (show y65.toInt ≤ y64.toInt from (by have z12 : (0 : Int32).toInt = 0 := rfl; have t1 : y65.toInt ≤ y64.toInt := b82; omega)), (show y64.toInt ≤ y65.toInt + 220 from (by have z12 : (0 : Int32).toInt = 0 := rfl; have t1 : 0 ≤ y65.toInt := b68; have t2 : y64.toInt ≤ 220 := b77; omega)), (show y65.toInt ≤ y59.toInt from (by have z12 : (0 : Int32).toInt = 0 := rfl; have t1 : y65.toInt ≤ y59.toInt := b80; omega)), (show y65.toInt ≤ y60.toInt from (by have z12 : (0 : Int32).toInt = 0 := rfl; have t1 : y65.toInt ≤ y60.toInt := b81; omega)), (show (y107, (0 : Int32), f109, y64, y65, f66, y59, y60, f61) = (F_Mil_quotientOrRest_a x2 R3 t0_0 t0_1 t1_0 t2_0 t2_1 t3_0 t4_0 t4_1 t5_0) from Eq.trans (by rw [e122, e120, F_Mil_quotientOrRest_a_c32.eq_1, if_pos c128]) hR123)⟩) d_8_3_68
    ·
      refine lv_aload_n hx hb d_8_3_49 rfl (lv_at hl 2 rfl) ?_
      refine q_get (ci := 2) (j := 2) (v := .int y60) C0 V i_Big rfl rfl hO58 (by decide) w_96 rfl d_8_3_50 ?_
      refine lv_aload_n hx hb d_8_3_53 rfl (lv_at hl 3 rfl) ?_
      refine q_get (ci := 2) (j := 2) (v := .int y60) C0 V i_Big rfl rfl hO58 (by decide) w_96 rfl d_8_3_54 ?_
      refine lv_icmp_eq (tgt := 64) hx hb d_8_3_57 (by decide) (fun c133 => ?_) (fun c133 => absurd (show y60.toInt ≠ y60.toInt from q_neI c133) (by omega))
      refine lv_iconst (v := 0) hx hb d_8_3_64 (by decide) ?_
      refine q_put (ci := 2) (j := 2) (v := .int 0) (ty := .boolean) C0 V i_Big o_Big n_Big rfl rfl hO106 (by decide) w_96 rfl rfl rfl rfl (Nat.le_of_ble_eq_true rfl) d_8_3_65 (fun H locs w134 hu135 hO106 V => ?_)
      replace hO106 : w134[10]? = (some (q 10, .inr (2, [.ref (q 11), .int y107, .int 0])) : Option (Nat × va_E)) := hO106
      replace hI := q_bigO' hI (n_b10 g q) hu135 hO106 ⟨(by have zR : (220 : Int32).toInt = 220 := rfl; have t1 : 0 ≤ y107.toInt := b111; omega), (by have zR : (220 : Int32).toInt = 220 := rfl; have t1 : y107.toInt ≤ 220 := b113; omega)⟩ ⟨(by have z9 : (0 : Int32).toInt = 0 := rfl; omega), (by have z9 : (0 : Int32).toInt = 0 := rfl; omega)⟩
      replace hA110 := (hu135 _ (by decide)).trans hA110
      replace hO63 := (hu135 _ (by decide)).trans hO63
      replace hA67 := (hu135 _ (by decide)).trans hA67
      replace hO58 := (hu135 _ (by have z := ne_k3_10; omega)).trans hO58
      replace hA62 := (hu135 _ (by have z := ne_k3_9; omega)).trans hA62
      replace hF := q_us hF hu135 (by simp)
      exact q_retv C0 V (⟨hI, hF, y107, 0, f109, y64, y65, f66, y59, y60, f61, hO106, hA110, hO63, hA67, hO58, hA62, (show 0 ≤ y65.toInt from (by have z12 : (0 : Int32).toInt = 0 := rfl; have t1 : 0 ≤ y65.toInt := b68; omega)), (show y65.toInt ≤ 0 from (by have z12 : (0 : Int32).toInt = 0 := rfl; have t1 : y65.toInt ≤ 0 := b69; omega)), (show (0 : Int32).toInt ≤ t4_1.toInt from (by have z12 : (0 : Int32).toInt = 0 := rfl; have t1 : 0 ≤ t4_1.toInt ∧ t4_1.toInt ≤ 1 := btt4_1; omega)), (show y64.toInt ≤ t4_0.toInt + 219 from (by have z12 : (0 : Int32).toInt = 0 := rfl; have t1 : y64.toInt ≤ t4_0.toInt + 219 := b75; omega)), (show y59.toInt ≤ t4_0.toInt + 218 from (by have z12 : (0 : Int32).toInt = 0 := rfl; have t1 : y59.toInt ≤ t4_0.toInt + 218 := b72; omega)), (show y59.toInt ≤ R3.toInt from (by have z12 : (0 : Int32).toInt = 0 := rfl; have t1 : y59.toInt ≤ R3.toInt := b73; omega)), (show y60.toInt ≤ t4_1.toInt from (by have z12 : (0 : Int32).toInt = 0 := rfl; have t1 : y60.toInt ≤ t4_1.toInt := b74; omega)), (show y65.toInt ≤ y107.toInt from (by have z12 : (0 : Int32).toInt = 0 := rfl; have t1 : y65.toInt ≤ 0 := b69; have t2 : 0 ≤ y107.toInt := b111; omega)), (show y107.toInt ≤ y65.toInt + 220 from (by have z12 : (0 : Int32).toInt = 0 := rfl; have t1 : 0 ≤ y65.toInt := b68; have t2 : y107.toInt ≤ 220 := b113; omega)), (show y65.toInt ≤ (0 : Int32).toInt from (by have z12 : (0 : Int32).toInt = 0 := rfl; have t1 : y65.toInt ≤ 0 := b69; omega)), (show y65.toInt ≤ y64.toInt from (by have z12 : (0 : Int32).toInt = 0 := rfl; have t1 : y65.toInt ≤ y64.toInt := b82; omega)), (show y64.toInt ≤ y65.toInt + 220 from (by have z12 : (0 : Int32).toInt = 0 := rfl; have t1 : 0 ≤ y65.toInt := b68; have t2 : y64.toInt ≤ 220 := b77; omega)), (show y65.toInt ≤ y59.toInt from (by have z12 : (0 : Int32).toInt = 0 := rfl; have t1 : y65.toInt ≤ y59.toInt := b80; omega)), (show y65.toInt ≤ y60.toInt from (by have z12 : (0 : Int32).toInt = 0 := rfl; have t1 : y65.toInt ≤ y60.toInt := b81; omega)), (show (y107, (0 : Int32), f109, y64, y65, f66, y59, y60, f61) = (F_Mil_quotientOrRest_a x2 R3 t0_0 t0_1 t1_0 t2_0 t2_1 t3_0 t4_0 t4_1 t5_0) from Eq.trans (by rw [e122, e120, F_Mil_quotientOrRest_a_c32.eq_1, if_neg c128]) hR123)⟩) d_8_3_68
theorem d_8_4_0 : decode prog_8_method_4_code 0 = .ok (.aload_n 3, 1) := by decide +kernel
theorem d_8_4_1 : decode prog_8_method_4_code 1 = .ok (.aload_n 1, 1) := by decide +kernel
theorem d_8_4_2 : decode prog_8_method_4_code 2 = .ok (.invokevirtual 51, 3) := by decide +kernel
theorem d_8_4_5 : decode prog_8_method_4_code 5 = .ok (.aload_n 3, 1) := by decide +kernel
theorem d_8_4_6 : decode prog_8_method_4_code 6 = .ok (.aload_n 2, 1) := by decide +kernel
theorem d_8_4_7 : decode prog_8_method_4_code 7 = .ok (.aload_n 0, 1) := by decide +kernel
theorem d_8_4_8 : decode prog_8_method_4_code 8 = .ok (.getfield 20, 3) := by decide +kernel
theorem d_8_4_11 : decode prog_8_method_4_code 11 = .ok (.invokevirtual 59, 3) := by decide +kernel
theorem d_8_4_14 : decode prog_8_method_4_code 14 = .ok (.aload_n 3, 1) := by decide +kernel
theorem d_8_4_15 : decode prog_8_method_4_code 15 = .ok (.getfield 66, 3) := by decide +kernel
theorem d_8_4_18 : decode prog_8_method_4_code 18 = .ok (.ifCond .eq 9, 3) := by decide +kernel
theorem d_8_4_27 : decode prog_8_method_4_code 27 = .ok (.return_, 1) := by decide +kernel
theorem d_8_4_21 : decode prog_8_method_4_code 21 = .ok (.aload_n 3, 1) := by decide +kernel
theorem d_8_4_22 : decode prog_8_method_4_code 22 = .ok (.aload_n 2, 1) := by decide +kernel
theorem d_8_4_23 : decode prog_8_method_4_code 23 = .ok (.iconst 0, 1) := by decide +kernel
theorem d_8_4_24 : decode prog_8_method_4_code 24 = .ok (.invokevirtual 55, 3) := by decide +kernel
def y_Mil_modulo : MethodName := ⟨"NumberHouse$Mill", "modulo", "(LNumberHouse$Big;LNumberHouse$Big;LNumberHouse$Big;)V"⟩
def F_Mil_modulo_c24 (R : Int32) (R2 : Int32) (R3 : Int32) (t0_0 : Int32) (t0_1 : Int32) (t1_0 : (Nat → Int32)) (t2_0 : Int32) (t2_1 : Int32) (t3_0 : (Nat → Int32)) (t4_0 : Int32) (t4_1 : Int32) (t5_0 : (Nat → Int32)) (t6_0 : Int32) (t6_1 : Int32) (t7_0 : (Nat → Int32)) (p51 : (Int32 × Int32 × (Nat → Int32))) (p105 : (Int32 × Int32 × (Nat → Int32) × Int32 × Int32 × (Nat → Int32) × Int32 × Int32 × (Nat → Int32))) (y84 : Int32) (y85 : Int32) (f86 : (Nat → Int32)) (y79 : Int32) (y80 : Int32) (f81 : (Nat → Int32)) (p141 : (Int32 × Int32 × (Nat → Int32))) : Int32 × Int32 × (Nat → Int32) × Int32 × Int32 × (Nat → Int32) × Int32 × Int32 × (Nat → Int32) := (y84, y85, f86, y79, y80, f81, (p141.1 : Int32), (p141.2.1 : Int32), (p141.2.2 : (Nat → Int32)))
def F_Mil_modulo_c11 (R : Int32) (R2 : Int32) (R3 : Int32) (t0_0 : Int32) (t0_1 : Int32) (t1_0 : (Nat → Int32)) (t2_0 : Int32) (t2_1 : Int32) (t3_0 : (Nat → Int32)) (t4_0 : Int32) (t4_1 : Int32) (t5_0 : (Nat → Int32)) (t6_0 : Int32) (t6_1 : Int32) (t7_0 : (Nat → Int32)) (p51 : (Int32 × Int32 × (Nat → Int32))) (p105 : (Int32 × Int32 × (Nat → Int32) × Int32 × Int32 × (Nat → Int32) × Int32 × Int32 × (Nat → Int32))) : Int32 × Int32 × (Nat → Int32) × Int32 × Int32 × (Nat → Int32) × Int32 × Int32 × (Nat → Int32) := if (p105.2.1 : Int32) = (0 : Int32) then (((p105.2.2.2.2.2.2.1 : Int32), (p105.2.2.2.2.2.2.2.1 : Int32), (p105.2.2.2.2.2.2.2.2 : (Nat → Int32)), (p105.2.2.2.1 : Int32), (p105.2.2.2.2.1 : Int32), (p105.2.2.2.2.2.1 : (Nat → Int32)), (p105.1 : Int32), (p105.2.1 : Int32), (p105.2.2.1 : (Nat → Int32)))) else (F_Mil_modulo_c24 R R2 R3 t0_0 t0_1 t1_0 t2_0 t2_1 t3_0 t4_0 t4_1 t5_0 t6_0 t6_1 t7_0 p51 p105 (p105.2.2.2.2.2.2.1 : Int32) (p105.2.2.2.2.2.2.2.1 : Int32) (p105.2.2.2.2.2.2.2.2 : (Nat → Int32)) (p105.2.2.2.1 : Int32) (p105.2.2.2.2.1 : Int32) (p105.2.2.2.2.2.1 : (Nat → Int32)) ((F_Big_addSigned R3 R2 (0 : Int32) (p105.1 : Int32) (p105.2.1 : Int32) (p105.2.2.1 : (Nat → Int32)) (p105.2.2.2.1 : Int32) (p105.2.2.2.2.1 : Int32) (p105.2.2.2.2.2.1 : (Nat → Int32))) : (Int32 × Int32 × (Nat → Int32))))
def F_Mil_modulo_c2 (R : Int32) (R2 : Int32) (R3 : Int32) (t0_0 : Int32) (t0_1 : Int32) (t1_0 : (Nat → Int32)) (t2_0 : Int32) (t2_1 : Int32) (t3_0 : (Nat → Int32)) (t4_0 : Int32) (t4_1 : Int32) (t5_0 : (Nat → Int32)) (t6_0 : Int32) (t6_1 : Int32) (t7_0 : (Nat → Int32)) (p51 : (Int32 × Int32 × (Nat → Int32))) : Int32 × Int32 × (Nat → Int32) × Int32 × Int32 × (Nat → Int32) × Int32 × Int32 × (Nat → Int32) := F_Mil_modulo_c11 R R2 R3 t0_0 t0_1 t1_0 t2_0 t2_1 t3_0 t4_0 t4_1 t5_0 t6_0 t6_1 t7_0 p51 ((F_Big_divideBy R3 R2 (220 : Int32) (p51.1 : Int32) (p51.2.1 : Int32) (p51.2.2 : (Nat → Int32)) t4_0 t4_1 t5_0 t0_0 t0_1 t1_0) : (Int32 × Int32 × (Nat → Int32) × Int32 × Int32 × (Nat → Int32) × Int32 × Int32 × (Nat → Int32)))
def F_Mil_modulo (R : Int32) (R2 : Int32) (R3 : Int32) (t0_0 : Int32) (t0_1 : Int32) (t1_0 : (Nat → Int32)) (t2_0 : Int32) (t2_1 : Int32) (t3_0 : (Nat → Int32)) (t4_0 : Int32) (t4_1 : Int32) (t5_0 : (Nat → Int32)) (t6_0 : Int32) (t6_1 : Int32) (t7_0 : (Nat → Int32)) : Int32 × Int32 × (Nat → Int32) × Int32 × Int32 × (Nat → Int32) × Int32 × Int32 × (Nat → Int32) := F_Mil_modulo_c2 R R2 R3 t0_0 t0_1 t1_0 t2_0 t2_1 t3_0 t4_0 t4_1 t5_0 t6_0 t6_1 t7_0 ((F_Big_copy R3 R t6_0 t6_1 t7_0 t2_0 t2_1 t3_0) : (Int32 × Int32 × (Nat → Int32)))
def S_Mil_modulo_c24 (R : Int32) (R2 : Int32) (R3 : Int32) (t0_0 : Int32) (t0_1 : Int32) (t1_0 : (Nat → Int32)) (t2_0 : Int32) (t2_1 : Int32) (t3_0 : (Nat → Int32)) (t4_0 : Int32) (t4_1 : Int32) (t5_0 : (Nat → Int32)) (t6_0 : Int32) (t6_1 : Int32) (t7_0 : (Nat → Int32)) (p51 : (Int32 × Int32 × (Nat → Int32))) (p105 : (Int32 × Int32 × (Nat → Int32) × Int32 × Int32 × (Nat → Int32) × Int32 × Int32 × (Nat → Int32))) (y84 : Int32) (y85 : Int32) (f86 : (Nat → Int32)) (y79 : Int32) (y80 : Int32) (f81 : (Nat → Int32)) (p141 : (Int32 × Int32 × (Nat → Int32))) : Prop := True
def S_Mil_modulo_c11 (R : Int32) (R2 : Int32) (R3 : Int32) (t0_0 : Int32) (t0_1 : Int32) (t1_0 : (Nat → Int32)) (t2_0 : Int32) (t2_1 : Int32) (t3_0 : (Nat → Int32)) (t4_0 : Int32) (t4_1 : Int32) (t5_0 : (Nat → Int32)) (t6_0 : Int32) (t6_1 : Int32) (t7_0 : (Nat → Int32)) (p51 : (Int32 × Int32 × (Nat → Int32))) (p105 : (Int32 × Int32 × (Nat → Int32) × Int32 × Int32 × (Nat → Int32) × Int32 × Int32 × (Nat → Int32))) : Prop := if (p105.2.1 : Int32) = (0 : Int32) then (True) else (S_Mil_modulo_c24 R R2 R3 t0_0 t0_1 t1_0 t2_0 t2_1 t3_0 t4_0 t4_1 t5_0 t6_0 t6_1 t7_0 p51 p105 (p105.2.2.2.2.2.2.1 : Int32) (p105.2.2.2.2.2.2.2.1 : Int32) (p105.2.2.2.2.2.2.2.2 : (Nat → Int32)) (p105.2.2.2.1 : Int32) (p105.2.2.2.2.1 : Int32) (p105.2.2.2.2.2.1 : (Nat → Int32)) ((F_Big_addSigned R3 R2 (0 : Int32) (p105.1 : Int32) (p105.2.1 : Int32) (p105.2.2.1 : (Nat → Int32)) (p105.2.2.2.1 : Int32) (p105.2.2.2.2.1 : Int32) (p105.2.2.2.2.2.1 : (Nat → Int32))) : (Int32 × Int32 × (Nat → Int32))))
def S_Mil_modulo_c2 (R : Int32) (R2 : Int32) (R3 : Int32) (t0_0 : Int32) (t0_1 : Int32) (t1_0 : (Nat → Int32)) (t2_0 : Int32) (t2_1 : Int32) (t3_0 : (Nat → Int32)) (t4_0 : Int32) (t4_1 : Int32) (t5_0 : (Nat → Int32)) (t6_0 : Int32) (t6_1 : Int32) (t7_0 : (Nat → Int32)) (p51 : (Int32 × Int32 × (Nat → Int32))) : Prop := (True ∧ S_Big_divideBy R3 R2 (220 : Int32) (p51.1 : Int32) (p51.2.1 : Int32) (p51.2.2 : (Nat → Int32)) t4_0 t4_1 t5_0 t0_0 t0_1 t1_0) ∧ (S_Mil_modulo_c11 R R2 R3 t0_0 t0_1 t1_0 t2_0 t2_1 t3_0 t4_0 t4_1 t5_0 t6_0 t6_1 t7_0 p51 ((F_Big_divideBy R3 R2 (220 : Int32) (p51.1 : Int32) (p51.2.1 : Int32) (p51.2.2 : (Nat → Int32)) t4_0 t4_1 t5_0 t0_0 t0_1 t1_0) : (Int32 × Int32 × (Nat → Int32) × Int32 × Int32 × (Nat → Int32) × Int32 × Int32 × (Nat → Int32))))
def S_Mil_modulo (R : Int32) (R2 : Int32) (R3 : Int32) (t0_0 : Int32) (t0_1 : Int32) (t1_0 : (Nat → Int32)) (t2_0 : Int32) (t2_1 : Int32) (t3_0 : (Nat → Int32)) (t4_0 : Int32) (t4_1 : Int32) (t5_0 : (Nat → Int32)) (t6_0 : Int32) (t6_1 : Int32) (t7_0 : (Nat → Int32)) : Prop := S_Mil_modulo_c2 R R2 R3 t0_0 t0_1 t1_0 t2_0 t2_1 t3_0 t4_0 t4_1 t5_0 t6_0 t6_1 t7_0 ((F_Big_copy R3 R t6_0 t6_1 t7_0 t2_0 t2_1 t3_0) : (Int32 × Int32 × (Nat → Int32)))
set_option maxRecDepth 100000 in
set_option maxHeartbeats 4000000 in
theorem X_Mil_modulo (l : Launch) (D : va_G) (g : Nat → ClassId) (q : Nat → Nat) (ws : va_W) (k2 : Nat) (R : Int32) (hB2 : q_isBig (nsh g q) g q k2 R) (zk2 : (10 ≤ k2 ∧ k2 ≤ 32) ∨ 66 ≤ k2) (k3 : Nat) (R2 : Int32) (hB3 : q_isBig (nsh g q) g q k3 R2) (zk3 : (10 ≤ k3 ∧ k3 ≤ 32) ∨ 66 ≤ k3) (k4 : Nat) (R3 : Int32) (hB4 : q_isBig (nsh g q) g q k4 R3) (zk4 : (10 ≤ k4 ∧ k4 ≤ 32) ∨ 66 ≤ k4) (ne_k2_12 : k2 ≠ 12) (ne_k2_13 : k2 ≠ 13) (ne_k2_11 : k2 ≠ 11) (ne_k3_12 : k3 ≠ 12) (ne_k3_13 : k3 ≠ 13) (ne_k3_11 : k3 ≠ 11) (ne_k4_12 : k4 ≠ 12) (ne_k4_13 : k4 ≠ 13) (ne_k4_11 : k4 ≠ 11) (ne_k2_k4 : k2 ≠ k4) (ne_k3_k4 : k3 ≠ k4) (ne_k2_k3 : k2 ≠ k3) (hI : q_I (nsh g q) q ws) (t0_0 : Int32) (t0_1 : Int32) (hT0 : ws[12]? = (some (q 12, .inr (2, [.ref (q 13), .int t0_0, .int t0_1])) : Option (Nat × va_E))) (t1_0 : (Nat → Int32)) (hT1 : ws[13]? = (some (q 13, .inl (g 0, (220 : Int32).toNatClampNeg, .inl t1_0)) : Option (Nat × va_E))) (t2_0 : Int32) (t2_1 : Int32) (hT2 : ws[k2]? = (some (q k2, .inr (2, [.ref (q (k2 + 1)), .int t2_0, .int t2_1])) : Option (Nat × va_E))) (t3_0 : (Nat → Int32)) (hT3 : ws[k2 + 1]? = (some (q (k2 + 1), .inl (g 0, R.toNatClampNeg, .inl t3_0)) : Option (Nat × va_E))) (t4_0 : Int32) (t4_1 : Int32) (hT4 : ws[k3]? = (some (q k3, .inr (2, [.ref (q (k3 + 1)), .int t4_0, .int t4_1])) : Option (Nat × va_E))) (t5_0 : (Nat → Int32)) (hT5 : ws[k3 + 1]? = (some (q (k3 + 1), .inl (g 0, R2.toNatClampNeg, .inl t5_0)) : Option (Nat × va_E))) (t6_0 : Int32) (t6_1 : Int32) (hT6 : ws[k4]? = (some (q k4, .inr (2, [.ref (q (k4 + 1)), .int t6_0, .int t6_1])) : Option (Nat × va_E))) (t7_0 : (Nat → Int32)) (hT7 : ws[k4 + 1]? = (some (q (k4 + 1), .inl (g 0, R3.toNatClampNeg, .inl t7_0)) : Option (Nat × va_E))) (hS : True ∧ S_Mil_modulo R R2 R3 t0_0 t0_1 t1_0 t2_0 t2_1 t3_0 t4_0 t4_1 t5_0 t6_0 t6_1 t7_0) : q_mV l y_Mil_modulo prog_8_method_4_code 4 5 0 0 D g [.ref (q 9), .ref (q k2), .ref (q k3), .ref (q k4)] ws (fun u => q_I (nsh g q) q u ∧ q_un ws u [12, 13, k3, k3 + 1, k4, k4 + 1] ∧ ∃ (u0_0 : Int32) (u0_1 : Int32) (u1_0 : (Nat → Int32)) (u4_0 : Int32) (u4_1 : Int32) (u5_0 : (Nat → Int32)) (u6_0 : Int32) (u6_1 : Int32) (u7_0 : (Nat → Int32)), u[12]? = (some (q 12, .inr (2, [.ref (q 13), .int u0_0, .int u0_1])) : Option (Nat × va_E)) ∧ u[13]? = (some (q 13, .inl (g 0, (220 : Int32).toNatClampNeg, .inl u1_0)) : Option (Nat × va_E)) ∧ u[k3]? = (some (q k3, .inr (2, [.ref (q (k3 + 1)), .int u4_0, .int u4_1])) : Option (Nat × va_E)) ∧ u[k3 + 1]? = (some (q (k3 + 1), .inl (g 0, R2.toNatClampNeg, .inl u5_0)) : Option (Nat × va_E)) ∧ u[k4]? = (some (q k4, .inr (2, [.ref (q (k4 + 1)), .int u6_0, .int u6_1])) : Option (Nat × va_E)) ∧ u[k4 + 1]? = (some (q (k4 + 1), .inl (g 0, R3.toNatClampNeg, .inl u7_0)) : Option (Nat × va_E)) ∧ (0 ≤ u0_1.toInt) ∧ (u0_1.toInt ≤ 0) ∧ (u0_0.toInt ≤ t4_0.toInt + 219) ∧ (u0_0.toInt ≤ R3.toInt + 1) ∧ (u4_0.toInt ≤ t4_0.toInt + 218) ∧ (u4_0.toInt ≤ R2.toInt) ∧ (u4_1.toInt ≤ t4_1.toInt) ∧ (u6_0.toInt ≤ R3.toInt) ∧ (u0_1.toInt ≤ u0_0.toInt) ∧ (u0_0.toInt ≤ u0_1.toInt + 220) ∧ (u0_1.toInt ≤ u4_0.toInt) ∧ (u0_1.toInt ≤ u4_1.toInt) ∧ (u0_1.toInt ≤ u6_0.toInt) ∧ (u6_1.toInt ≤ u0_1.toInt + 1) ∧ (u0_1.toInt ≤ u6_1.toInt) ∧ (u0_0, u0_1, u1_0, u4_0, u4_1, u5_0, u6_0, u6_1, u7_0) = (F_Mil_modulo R R2 R3 t0_0 t0_1 t1_0 t2_0 t2_1 t3_0 t4_0 t4_1 t5_0 t6_0 t6_1 t7_0)) := by
  intro sz
  refine q_into (by decide) (Nat.le_of_ble_eq_true rfl) ?_
  intro p e s m below meth c ls hsz C0 V hl
  have hx := C0.1
  have hb := C0.2.1
  have btt0_1 := (q_bigW hI (n_b12 g q) hT0).2
  clear btt0_1
  have btt2_1 := (q_bigW hI hB2 hT2).2
  clear btt2_1
  have btt4_1 := (q_bigW hI hB3 hT4).2
  clear btt4_1
  have btt6_1 := (q_bigW hI hB4 hT6).2
  clear btt6_1
  have hF : q_un ws ws [12, 13, k3, k3 + 1, k4, k4 + 1] := q_u0
  have hl : lv_has ls 4 [(0, .ref (q 9)), (1, .ref (q k2)), (2, .ref (q k3)), (3, .ref (q k4))] := hl
  refine lv_aload_n hx hb d_8_4_0 rfl (lv_at hl 3 rfl) ?_
  refine lv_aload_n hx hb d_8_4_1 rfl (lv_at hl 1 rfl) ?_
  have ne33 := q_df hT3 hT6
  have ne34 := q_df hT5 hT6
  have ne35 := q_df hT7 hT2
  have ne36 := q_df hT7 hT4
  refine q_gov V (q_runV (As := [.ref (q k2)]) (rest := []) (d := 2) (mc := 0) (ms := 0) (ci := 2) C0 V rfl LV_Mil_51 (X_Big_copy l D g q ws k4 R3 hB4 zk4 k2 R hB2 zk2  (by have z := ne_k2_k4; omega) hI t6_0 t6_1 hT6 t7_0 hT7 t2_0 t2_1 hT2 t3_0 hT3  _) rfl rfl hT6 rfl hl.1 rfl (Nat.le_of_ble_eq_true rfl) ⟨by decide, by decide⟩ ⟨Nat.le_of_ble_eq_true rfl, Nat.le_of_ble_eq_true rfl⟩ d_8_4_2) (fun u37 H locs hp38 V => ?_)
  obtain ⟨hI, hZ9⟩ := hp38
  obtain ⟨hu50, hZ9⟩ := hZ9
  obtain ⟨y40, hZ9⟩ := hZ9
  obtain ⟨y41, hZ9⟩ := hZ9
  obtain ⟨f42, hZ9⟩ := hZ9
  obtain ⟨hO39, hZ9⟩ := hZ9
  obtain ⟨hA43, hZ9⟩ := hZ9
  replace hZ9 := hZ9.2.2.2.2
  obtain ⟨-, hE49⟩ := hZ9
  replace hO39 : u37[k4]? = (some (q k4, .inr (2, [.ref (q (k4 + 1)), .int y40, .int y41])) : Option (Nat × va_E)) := hO39
  replace hA43 : u37[k4 + 1]? = (some (q (k4 + 1), .inl (g 0, R3.toNatClampNeg, .inl f42)) : Option (Nat × va_E)) := hA43
  obtain ⟨p51, e52⟩ : ∃ z, z = (F_Big_copy R3 R t6_0 t6_1 t7_0 t2_0 t2_1 t3_0) := ⟨_, rfl⟩
  have e53 : y40 = p51.1 := congrArg (fun z => z.1) (hE49.trans e52.symm)
  have e54 : y41 = p51.2.1 := congrArg (fun z => z.2.1) (hE49.trans e52.symm)
  have e55 : f42 = p51.2.2 := congrArg (fun z => z.2.2) (hE49.trans e52.symm)
  replace hT0 := (hu50 _ (by first | exact (q_nc (Ne.symm ne_k4_12) (q_nc (q_ns1 ne_k4_11) List.not_mem_nil)) | (have z0 := zk4; simp only [List.mem_cons, List.not_mem_nil, or_false, not_or]; omega))).trans hT0
  replace hT1 := (hu50 _ (by first | exact (q_nc (Ne.symm ne_k4_13) (q_nc (q_ns1 ne_k4_12) List.not_mem_nil)) | (have z0 := zk4; simp only [List.mem_cons, List.not_mem_nil, or_false, not_or]; omega))).trans hT1
  replace hT2 := (hu50 _ (q_nc (by have z := ne_k2_k4; omega) (q_nc (Ne.symm ne35) List.not_mem_nil))).trans hT2
  replace hT3 := (hu50 _ (q_nc ne33 (q_nc (by have z := ne_k2_k4; omega) List.not_mem_nil))).trans hT3
  replace hT4 := (hu50 _ (q_nc (by have z := ne_k3_k4; omega) (q_nc (Ne.symm ne36) List.not_mem_nil))).trans hT4
  replace hT5 := (hu50 _ (q_nc ne34 (q_nc (by have z := ne_k3_k4; omega) List.not_mem_nil))).trans hT5
  replace hF := q_uc hF hu50 (by first | exact (q_sk (q_mi 4 rfl) (q_sk (q_mi 5 rfl) q_s0)) | simp)
  have hR56 := (show F_Mil_modulo_c2 R R2 R3 t0_0 t0_1 t1_0 t2_0 t2_1 t3_0 t4_0 t4_1 t5_0 t6_0 t6_1 t7_0 p51 = (F_Mil_modulo R R2 R3 t0_0 t0_1 t1_0 t2_0 t2_1 t3_0 t4_0 t4_1 t5_0 t6_0 t6_1 t7_0) from (by rw [e52, F_Mil_modulo.eq_1]))
  have hS57 := (show True ∧ S_Mil_modulo_c2 R R2 R3 t0_0 t0_1 t1_0 t2_0 t2_1 t3_0 t4_0 t4_1 t5_0 t6_0 t6_1 t7_0 p51 from (by rw [e52]; have h := hS; rw [S_Mil_modulo.eq_1] at h; with_reducible exact h))
  refine lv_aload_n hx hb d_8_4_5 rfl (lv_at hl 3 rfl) ?_
  refine lv_aload_n hx hb d_8_4_6 rfl (lv_at hl 2 rfl) ?_
  refine lv_aload_n hx hb d_8_4_7 rfl (lv_at hl 0 rfl) ?_
  have hO61 := n_o9 hI
  refine q_get (ci := 4) (j := 1) (v := .ref (q 12)) C0 V i_Mil rfl rfl hO61 (by decide) w_114 rfl d_8_4_8 ?_
  have ne62 := q_df hT3 hO39
  have ne63 := q_df hT5 hO39
  have ne64 := q_df hA43 hT2
  have ne65 := q_df hA43 hT4
  have ne66 := q_df hT3 hT4
  have ne67 := q_df hA43 hT4
  have ne68 := q_df hT5 hT2
  have ne69 := q_df hT5 hO39
  have ob70 : True ∧ S_Big_divideBy R3 R2 (220 : Int32) y40 y41 f42 t4_0 t4_1 t5_0 t0_0 t0_1 t1_0 := (by rw [e55, e54, e53]; have h := hS57; rw [S_Mil_modulo_c2.eq_1] at h; with_reducible exact h.2.1)
  refine q_gov V (q_runV (As := [.ref (q k3), .ref (q 12)]) (rest := []) (d := 4) (mc := 0) (ms := 0) (ci := 2) C0 V rfl LV_Mil_59 (X_Big_divideBy l D g q u37 k4 R3 hB4 zk4 k3 R2 hB3 zk3 12 220 (n_b12 g q) (by decide)  (by have z := ne_k3_k4; omega) (by have z := ne_k4_12; omega) (by have z := ne_k3_12; omega) hI y40 y41 hO39 f42 hA43 t4_0 t4_1 hT4 t5_0 hT5 t0_0 t0_1 hT0 t1_0 hT1 ob70 _) rfl rfl hO39 rfl hl.1 rfl (Nat.le_of_ble_eq_true rfl) ⟨by decide, by decide⟩ ⟨Nat.le_of_ble_eq_true rfl, Nat.le_of_ble_eq_true rfl⟩ d_8_4_11) (fun u71 H locs hp72 V => ?_)
  obtain ⟨hI, hZ9⟩ := hp72
  obtain ⟨hu104, hZ9⟩ := hZ9
  obtain ⟨y74, hZ9⟩ := hZ9
  obtain ⟨y75, hZ9⟩ := hZ9
  obtain ⟨f76, hZ9⟩ := hZ9
  obtain ⟨y79, hZ9⟩ := hZ9
  obtain ⟨y80, hZ9⟩ := hZ9
  obtain ⟨f81, hZ9⟩ := hZ9
  obtain ⟨y84, hZ9⟩ := hZ9
  obtain ⟨y85, hZ9⟩ := hZ9
  obtain ⟨f86, hZ9⟩ := hZ9
  obtain ⟨hO73, hZ9⟩ := hZ9
  obtain ⟨hA77, hZ9⟩ := hZ9
  obtain ⟨hO78, hZ9⟩ := hZ9
  obtain ⟨hA82, hZ9⟩ := hZ9
  obtain ⟨hO83, hZ9⟩ := hZ9
  obtain ⟨hA87, hZ9⟩ := hZ9
  obtain ⟨b88, hZ9⟩ := hZ9
  obtain ⟨b89, hZ9⟩ := hZ9
  obtain ⟨b90, hZ9⟩ := hZ9
  replace hZ9 := hZ9.2
  obtain ⟨b92, hZ9⟩ := hZ9
  obtain ⟨b93, hZ9⟩ := hZ9
  obtain ⟨b94, hZ9⟩ := hZ9
  obtain ⟨b95, hZ9⟩ := hZ9
  obtain ⟨b96, hZ9⟩ := hZ9
  obtain ⟨b97, hZ9⟩ := hZ9
  obtain ⟨b98, hZ9⟩ := hZ9
  obtain ⟨b99, hZ9⟩ := hZ9
  obtain ⟨b100, hZ9⟩ := hZ9
  obtain ⟨b101, hZ9⟩ := hZ9
  obtain ⟨b102, hE103⟩ := hZ9
  replace hO73 : u71[k4]? = (some (q k4, .inr (2, [.ref (q (k4 + 1)), .int y74, .int y75])) : Option (Nat × va_E)) := hO73
  replace hA77 : u71[k4 + 1]? = (some (q (k4 + 1), .inl (g 0, R3.toNatClampNeg, .inl f76)) : Option (Nat × va_E)) := hA77
  replace hO78 : u71[k3]? = (some (q k3, .inr (2, [.ref (q (k3 + 1)), .int y79, .int y80])) : Option (Nat × va_E)) := hO78
  replace hA82 : u71[k3 + 1]? = (some (q (k3 + 1), .inl (g 0, R2.toNatClampNeg, .inl f81)) : Option (Nat × va_E)) := hA82
  replace hO83 : u71[12]? = (some (q 12, .inr (2, [.ref (q 13), .int y84, .int y85])) : Option (Nat × va_E)) := hO83
  replace hA87 : u71[13]? = (some (q 13, .inl (g 0, (220 : Int32).toNatClampNeg, .inl f86)) : Option (Nat × va_E)) := hA87
  obtain ⟨p105, e106⟩ : ∃ z, z = (F_Big_divideBy R3 R2 (220 : Int32) y40 y41 f42 t4_0 t4_1 t5_0 t0_0 t0_1 t1_0) := ⟨_, rfl⟩
  have e107 : y74 = p105.1 := congrArg (fun z => z.1) (hE103.trans e106.symm)
  have e108 : y75 = p105.2.1 := congrArg (fun z => z.2.1) (hE103.trans e106.symm)
  have e109 : f76 = p105.2.2.1 := congrArg (fun z => z.2.2.1) (hE103.trans e106.symm)
  have e110 : y79 = p105.2.2.2.1 := congrArg (fun z => z.2.2.2.1) (hE103.trans e106.symm)
  have e111 : y80 = p105.2.2.2.2.1 := congrArg (fun z => z.2.2.2.2.1) (hE103.trans e106.symm)
  have e112 : f81 = p105.2.2.2.2.2.1 := congrArg (fun z => z.2.2.2.2.2.1) (hE103.trans e106.symm)
  have e113 : y84 = p105.2.2.2.2.2.2.1 := congrArg (fun z => z.2.2.2.2.2.2.1) (hE103.trans e106.symm)
  have e114 : y85 = p105.2.2.2.2.2.2.2.1 := congrArg (fun z => z.2.2.2.2.2.2.2.1) (hE103.trans e106.symm)
  have e115 : f86 = p105.2.2.2.2.2.2.2.2 := congrArg (fun z => z.2.2.2.2.2.2.2.2) (hE103.trans e106.symm)
  replace b88 : q_F (0 ≤ y85.toInt) := b88
  replace b89 : q_F (y85.toInt ≤ 0) := b89
  replace b90 : q_F (y74.toInt ≤ R3.toInt) := b90
  replace b92 : q_F (y79.toInt ≤ t4_0.toInt + 218) := b92
  replace b93 : q_F (y79.toInt ≤ R2.toInt) := b93
  replace b94 : q_F (y80.toInt ≤ t4_1.toInt) := b94
  replace b95 : q_F (y84.toInt ≤ t4_0.toInt + 219) := b95
  replace b96 : q_F (y84.toInt ≤ R3.toInt + 1) := b96
  replace b97 : q_F (y84.toInt ≤ 220) := b97
  replace b98 : q_F (y85.toInt ≤ y74.toInt) := b98
  replace b99 : q_F (y85.toInt ≤ y75.toInt) := b99
  replace b100 : q_F (y85.toInt ≤ y79.toInt) := b100
  replace b101 : q_F (y85.toInt ≤ y80.toInt) := b101
  replace b102 : q_F (y85.toInt ≤ y84.toInt) := b102
  replace hT2 := (hu104 _ (q_nc (by have z := ne_k2_k4; omega) (q_nc (Ne.symm ne64) (q_nc (by have z := ne_k2_k3; omega) (q_nc (Ne.symm ne68) (q_nc (by have z := ne_k2_12; omega) (q_nc (by have z := ne_k2_13; omega) List.not_mem_nil))))))).trans hT2
  replace hT3 := (hu104 _ (q_nc ne62 (q_nc (by have z := ne_k2_k4; omega) (q_nc ne66 (q_nc (by have z := ne_k2_k3; omega) (q_nc (by have z := ne_k2_11; omega) (q_nc (by have z := ne_k2_12; omega) List.not_mem_nil))))))).trans hT3
  replace hF := q_uc hF hu104 (by first | exact (q_sk (q_mi 4 rfl) (q_sk (q_mi 5 rfl) (q_sk (q_mi 2 rfl) (q_sk (q_mi 3 rfl) (q_sk (q_mi 0 rfl) (q_sk (q_mi 1 rfl) q_s0)))))) | simp)
  have hR116 := (show F_Mil_modulo_c11 R R2 R3 t0_0 t0_1 t1_0 t2_0 t2_1 t3_0 t4_0 t4_1 t5_0 t6_0 t6_1 t7_0 p51 p105 = (F_Mil_modulo R R2 R3 t0_0 t0_1 t1_0 t2_0 t2_1 t3_0 t4_0 t4_1 t5_0 t6_0 t6_1 t7_0) from Eq.trans (by rw [e106, e55, e54, e53, F_Mil_modulo_c2.eq_1]) hR56)
  have hS117 := (show True ∧ S_Mil_modulo_c11 R R2 R3 t0_0 t0_1 t1_0 t2_0 t2_1 t3_0 t4_0 t4_1 t5_0 t6_0 t6_1 t7_0 p51 p105 from (by rw [e106, e55, e54, e53]; have h := hS57; rw [S_Mil_modulo_c2.eq_1] at h; replace h := q_s2 h; with_reducible exact h))
  refine lv_aload_n hx hb d_8_4_14 rfl (lv_at hl 3 rfl) ?_
  refine q_get (ci := 2) (j := 2) (v := .int y75) C0 V i_Big rfl rfl hO73 (by decide) w_96 rfl d_8_4_15 ?_
  refine lv_if_eq (tgt := 27) hx hb d_8_4_18 (by decide) (fun c121 => ?_) (fun c121 => ?_)
  ·
    have b122 : q_F (y75.toInt = 0) := (q_eqI c121)
    exact q_retv C0 V (⟨hI, hF, y84, y85, f86, y79, y80, f81, y74, y75, f76, hO83, hA87, hO78, hA82, hO73, hA77, (show 0 ≤ y85.toInt from (by first | with_reducible exact q_fe b88 | (have t1 : 0 ≤ y85.toInt := b88; omega))), (show y85.toInt ≤ 0 from (by first | with_reducible exact q_fe b89 | (have t1 : y85.toInt ≤ 0 := b89; omega))), (show y84.toInt ≤ t4_0.toInt + 219 from (by first | with_reducible exact q_fe b95 | (have t1 : y84.toInt ≤ t4_0.toInt + 219 := b95; omega))), (show y84.toInt ≤ R3.toInt + 1 from (by first | with_reducible exact q_fe b96 | (have t1 : y84.toInt ≤ R3.toInt + 1 := b96; omega))), (show y79.toInt ≤ t4_0.toInt + 218 from (by first | with_reducible exact q_fe b92 | (have t1 : y79.toInt ≤ t4_0.toInt + 218 := b92; omega))), (show y79.toInt ≤ R2.toInt from (by first | with_reducible exact q_fe b93 | (have t1 : y79.toInt ≤ R2.toInt := b93; omega))), (show y80.toInt ≤ t4_1.toInt from (by first | with_reducible exact q_fe b94 | (have t1 : y80.toInt ≤ t4_1.toInt := b94; omega))), (show y74.toInt ≤ R3.toInt from (by first | with_reducible exact q_fe b90 | (have t1 : y74.toInt ≤ R3.toInt := b90; omega))), (show y85.toInt ≤ y84.toInt from (by first | with_reducible exact q_fe b102 | (have t1 : y85.toInt ≤ y84.toInt := b102; omega))), (show y84.toInt ≤ y85.toInt + 220 from (by have t1 : 0 ≤ y85.toInt := b88; have t2 : y84.toInt ≤ 220 := b97; omega)), (show y85.toInt ≤ y79.toInt from (by first | with_reducible exact q_fe b100 | (have t1 : y85.toInt ≤ y79.toInt := b100; omega))), (show y85.toInt ≤ y80.toInt from (by first | with_reducible exact q_fe b101 | (have t1 : y85.toInt ≤ y80.toInt := b101; omega))), (show y85.toInt ≤ y74.toInt from (by first | with_reducible exact q_fe b98 | (have t1 : y85.toInt ≤ y74.toInt := b98; omega))), (show y75.toInt ≤ y85.toInt + 1 from (by have t1 : 0 ≤ y85.toInt := b88; have t2 : y75.toInt = 0 := b122; omega)), (show y85.toInt ≤ y75.toInt from (by first | with_reducible exact q_fe b99 | (have t1 : y85.toInt ≤ y75.toInt := b99; omega))), (show (y84, y85, f86, y79, y80, f81, y74, y75, f76) = (F_Mil_modulo R R2 R3 t0_0 t0_1 t1_0 t2_0 t2_1 t3_0 t4_0 t4_1 t5_0 t6_0 t6_1 t7_0) from Eq.trans (by have c121x := c121; rw [e108] at c121x; rw [e115, e114, e113, e112, e111, e110, e109, e108, e107, F_Mil_modulo_c11.eq_1, if_pos c121x]) hR116)⟩) d_8_4_27
  ·
    refine lv_aload_n hx hb d_8_4_21 rfl (lv_at hl 3 rfl) ?_
    refine lv_aload_n hx hb d_8_4_22 rfl (lv_at hl 2 rfl) ?_
    refine lv_iconst (v := 0) hx hb d_8_4_23 (by decide) ?_
    have ne124 := q_df hT3 hO73
    have ne125 := q_df hA82 hO73
    have ne126 := q_df hA77 hT2
    have ne127 := q_df hA77 hO78
    refine q_gov V (q_runV (As := [.ref (q k3), .int 0]) (rest := []) (d := 3) (mc := 0) (ms := 0) (ci := 2) C0 V rfl LV_Mil_55 (X_Big_addSigned l D g q u71 k4 R3 hB4 zk4 k3 R2 hB3 zk3 0 (by have z := ne_k3_k4; omega) hI y74 y75 hO73 f76 hA77 y79 y80 hO78 f81 hA82 ⟨(by have y0 : (0 : Int32).toInt = 0 := rfl; omega), (by have y0 : (0 : Int32).toInt = 0 := rfl; omega)⟩ _) rfl rfl hO73 rfl hl.1 rfl (Nat.le_of_ble_eq_true rfl) ⟨by decide, by decide⟩ ⟨Nat.le_of_ble_eq_true rfl, Nat.le_of_ble_eq_true rfl⟩ d_8_4_24) (fun u128 H locs hp129 V => ?_)
    obtain ⟨hI, hZ9⟩ := hp129
    obtain ⟨hu140, hZ9⟩ := hZ9
    obtain ⟨y131, hZ9⟩ := hZ9
    obtain ⟨y132, hZ9⟩ := hZ9
    obtain ⟨f133, hZ9⟩ := hZ9
    obtain ⟨hO130, hZ9⟩ := hZ9
    obtain ⟨hA134, hZ9⟩ := hZ9
    obtain ⟨b135, hZ9⟩ := hZ9
    obtain ⟨b136, hZ9⟩ := hZ9
    obtain ⟨b137, hZ9⟩ := hZ9
    obtain ⟨b138, hE139⟩ := hZ9
    replace hO130 : u128[k4]? = (some (q k4, .inr (2, [.ref (q (k4 + 1)), .int y131, .int y132])) : Option (Nat × va_E)) := hO130
    replace hA134 : u128[k4 + 1]? = (some (q (k4 + 1), .inl (g 0, R3.toNatClampNeg, .inl f133)) : Option (Nat × va_E)) := hA134
    obtain ⟨p141, e142⟩ : ∃ z, z = (F_Big_addSigned R3 R2 (0 : Int32) y74 y75 f76 y79 y80 f81) := ⟨_, rfl⟩
    have e143 : y131 = p141.1 := congrArg (fun z => z.1) (hE139.trans e142.symm)
    have e144 : y132 = p141.2.1 := congrArg (fun z => z.2.1) (hE139.trans e142.symm)
    have e145 : f133 = p141.2.2 := congrArg (fun z => z.2.2) (hE139.trans e142.symm)
    replace b135 : q_F (0 ≤ y131.toInt) := b135
    replace b136 : q_F (0 ≤ y132.toInt) := b136
    replace b137 : q_F (y132.toInt ≤ 1) := b137
    replace b138 : q_F (y131.toInt ≤ R3.toInt) := b138
    replace hO83 := (hu140 _ (by first | exact (q_nc (Ne.symm ne_k4_12) (q_nc (q_ns1 ne_k4_11) List.not_mem_nil)) | (have z0 := zk4; simp only [List.mem_cons, List.not_mem_nil, or_false, not_or]; omega))).trans hO83
    replace hA87 := (hu140 _ (by first | exact (q_nc (Ne.symm ne_k4_13) (q_nc (q_ns1 ne_k4_12) List.not_mem_nil)) | (have z0 := zk4; simp only [List.mem_cons, List.not_mem_nil, or_false, not_or]; omega))).trans hA87
    replace hO78 := (hu140 _ (q_nc (by have z := ne_k3_k4; omega) (q_nc (Ne.symm ne127) List.not_mem_nil))).trans hO78
    replace hA82 := (hu140 _ (q_nc ne125 (q_nc (by have z := ne_k3_k4; omega) List.not_mem_nil))).trans hA82
    replace hF := q_uc hF hu140 (by first | exact (q_sk (q_mi 4 rfl) (q_sk (q_mi 5 rfl) q_s0)) | simp)
    have hR146 := (show F_Mil_modulo_c24 R R2 R3 t0_0 t0_1 t1_0 t2_0 t2_1 t3_0 t4_0 t4_1 t5_0 t6_0 t6_1 t7_0 p51 p105 y84 y85 f86 y79 y80 f81 p141 = (F_Mil_modulo R R2 R3 t0_0 t0_1 t1_0 t2_0 t2_1 t3_0 t4_0 t4_1 t5_0 t6_0 t6_1 t7_0) from Eq.trans (by have c121x := c121; rw [e108] at c121x; rw [e142, e115, e114, e113, e112, e111, e110, e109, e108, e107, F_Mil_modulo_c11.eq_1, if_neg c121x]) hR116)
    have hS147 := (show True ∧ S_Mil_modulo_c24 R R2 R3 t0_0 t0_1 t1_0 t2_0 t2_1 t3_0 t4_0 t4_1 t5_0 t6_0 t6_1 t7_0 p51 p105 y84 y85 f86 y79 y80 f81 p141 from (by rw [e142, e115, e114, e113, e112, e111, e110, e109, e108, e107]; have h := hS117; rw [S_Mil_modulo_c11.eq_1] at h; have c121x := c121; rw [e108] at c121x; rw [if_neg c121x] at h; with_reducible exact h))
    exact q_retv C0 V (⟨hI, hF, y84, y85, f86, y79, y80, f81, y131, y132, f133, hO83, hA87, hO78, hA82, hO130, hA134, (show 0 ≤ y85.toInt from (by first | with_reducible exact q_fe b88 | (have t1 : 0 ≤ y85.toInt := b88; omega))), (show y85.toInt ≤ 0 from (by first | with_reducible exact q_fe b89 | (have t1 : y85.toInt ≤ 0 := b89; omega))), (show y84.toInt ≤ t4_0.toInt + 219 from (by first | with_reducible exact q_fe b95 | (have t1 : y84.toInt ≤ t4_0.toInt + 219 := b95; omega))), (show y84.toInt ≤ R3.toInt + 1 from (by first | with_reducible exact q_fe b96 | (have t1 : y84.toInt ≤ R3.toInt + 1 := b96; omega))), (show y79.toInt ≤ t4_0.toInt + 218 from (by first | with_reducible exact q_fe b92 | (have t1 : y79.toInt ≤ t4_0.toInt + 218 := b92; omega))), (show y79.toInt ≤ R2.toInt from (by first | with_reducible exact q_fe b93 | (have t1 : y79.toInt ≤ R2.toInt := b93; omega))), (show y80.toInt ≤ t4_1.toInt from (by first | with_reducible exact q_fe b94 | (have t1 : y80.toInt ≤ t4_1.toInt := b94; omega))), (show y131.toInt ≤ R3.toInt from (by first | with_reducible exact q_fe b138 | (have t1 : y131.toInt ≤ R3.toInt := b138; omega))), (show y85.toInt ≤ y84.toInt from (by first | with_reducible exact q_fe b102 | (have t1 : y85.toInt ≤ y84.toInt := b102; omega))), (show y84.toInt ≤ y85.toInt + 220 from (by have t1 : 0 ≤ y85.toInt := b88; have t2 : y84.toInt ≤ 220 := b97; omega)), (show y85.toInt ≤ y79.toInt from (by first | with_reducible exact q_fe b100 | (have t1 : y85.toInt ≤ y79.toInt := b100; omega))), (show y85.toInt ≤ y80.toInt from (by first | with_reducible exact q_fe b101 | (have t1 : y85.toInt ≤ y80.toInt := b101; omega))), (show y85.toInt ≤ y131.toInt from (by have t1 : y85.toInt ≤ 0 := b89; have t2 : 0 ≤ y131.toInt := b135; omega)), (show y132.toInt ≤ y85.toInt + 1 from (by have t1 : 0 ≤ y85.toInt := b88; have t2 : y132.toInt ≤ 1 := b137; omega)), (show y85.toInt ≤ y132.toInt from (by have t1 : y85.toInt ≤ 0 := b89; have t2 : 0 ≤ y132.toInt := b136; omega)), (show (y84, y85, f86, y79, y80, f81, y131, y132, f133) = (F_Mil_modulo R R2 R3 t0_0 t0_1 t1_0 t2_0 t2_1 t3_0 t4_0 t4_1 t5_0 t6_0 t6_1 t7_0) from Eq.trans (by rw [e145, e144, e143, F_Mil_modulo_c24.eq_1]) hR146)⟩) d_8_4_27

