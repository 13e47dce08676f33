/-! Big, exactly: the division and what it owes -/
theorem q_s2 {A B : Prop} (h : True ∧ (A ∧ B)) : True ∧ B := ⟨trivial, h.2.2⟩
theorem d_2_34_0 : decode prog_2_method_34_code 0 = .ok (.aload_n 2, 1) := by decide +kernel
theorem d_2_34_1 : decode prog_2_method_34_code 1 = .ok (.invokevirtual 21, 3) := by decide +kernel
theorem d_2_34_4 : decode prog_2_method_34_code 4 = .ok (.aload_n 1, 1) := by decide +kernel
theorem d_2_34_5 : decode prog_2_method_34_code 5 = .ok (.getfield 13, 3) := by decide +kernel
theorem d_2_34_8 : decode prog_2_method_34_code 8 = .ok (.ifCond .eq 11, 3) := by decide +kernel
theorem d_2_34_19 : decode prog_2_method_34_code 19 = .ok (.return_, 1) := by decide +kernel
theorem d_2_34_11 : decode prog_2_method_34_code 11 = .ok (.aload_n 0, 1) := by decide +kernel
theorem d_2_34_12 : decode prog_2_method_34_code 12 = .ok (.aload_n 1, 1) := by decide +kernel
theorem d_2_34_13 : decode prog_2_method_34_code 13 = .ok (.invokevirtual 78, 3) := by decide +kernel
theorem d_2_34_16 : decode prog_2_method_34_code 16 = .ok (.ifCond .ge 4, 3) := by decide +kernel
theorem d_2_34_20 : decode prog_2_method_34_code 20 = .ok (.aload_n 1, 1) := by decide +kernel
theorem d_2_34_21 : decode prog_2_method_34_code 21 = .ok (.getfield 13, 3) := by decide +kernel
theorem d_2_34_24 : decode prog_2_method_34_code 24 = .ok (.iconst 1, 1) := by decide +kernel
theorem d_2_34_25 : decode prog_2_method_34_code 25 = .ok (.if_icmp .ne 15, 3) := by decide +kernel
theorem d_2_34_40 : decode prog_2_method_34_code 40 = .ok (.bipush 31, 2) := by decide +kernel
theorem d_2_34_42 : decode prog_2_method_34_code 42 = .ok (.aload_n 1, 1) := by decide +kernel
theorem d_2_34_43 : decode prog_2_method_34_code 43 = .ok (.getfield 7, 3) := by decide +kernel
theorem d_2_34_46 : decode prog_2_method_34_code 46 = .ok (.aload_n 1, 1) := by decide +kernel
theorem d_2_34_47 : decode prog_2_method_34_code 47 = .ok (.getfield 13, 3) := by decide +kernel
theorem d_2_34_50 : decode prog_2_method_34_code 50 = .ok (.iconst 1, 1) := by decide +kernel
theorem d_2_34_51 : decode prog_2_method_34_code 51 = .ok (.isub, 1) := by decide +kernel
theorem d_2_34_52 : decode prog_2_method_34_code 52 = .ok (.iaload, 1) := by decide +kernel
theorem d_2_34_53 : decode prog_2_method_34_code 53 = .ok (.invokestatic 57, 3) := by decide +kernel
theorem d_2_34_56 : decode prog_2_method_34_code 56 = .ok (.isub, 1) := by decide +kernel
theorem d_2_34_57 : decode prog_2_method_34_code 57 = .ok (.istore_n 3, 1) := by decide +kernel
theorem d_2_34_58 : decode prog_2_method_34_code 58 = .ok (.aload_n 1, 1) := by decide +kernel
theorem d_2_34_59 : decode prog_2_method_34_code 59 = .ok (.iload_n 3, 1) := by decide +kernel
theorem d_2_34_60 : decode prog_2_method_34_code 60 = .ok (.invokevirtual 118, 3) := by decide +kernel
set_option maxRecDepth 100000 in
theorem w_1045 : (Cond.methodLink "NumberHouse$Big" (118 : Nat) ({ cls := "NumberHouse$Big", name := "shiftLeft", desc := "(I)V" } : MethodName)) ∈ q_tbl := q_of5 85 rfl (by decide +kernel)
theorem LV_Big_118 : q_LV "NumberHouse$Big" 118 y_Big_shiftLeft prog_2_method_32_code 6 none 1 := ⟨w_808, w_4, w_1045, w_806, w_807, ⟨by decide, by decide, by decide +kernel⟩⟩
theorem d_2_34_63 : decode prog_2_method_34_code 63 = .ok (.aload_n 0, 1) := by decide +kernel
theorem d_2_34_64 : decode prog_2_method_34_code 64 = .ok (.iload_n 3, 1) := by decide +kernel
theorem d_2_34_65 : decode prog_2_method_34_code 65 = .ok (.invokevirtual 118, 3) := by decide +kernel
theorem d_2_34_68 : decode prog_2_method_34_code 68 = .ok (.aload_n 0, 1) := by decide +kernel
theorem d_2_34_69 : decode prog_2_method_34_code 69 = .ok (.getfield 13, 3) := by decide +kernel
theorem d_2_34_72 : decode prog_2_method_34_code 72 = .ok (.aload_n 1, 1) := by decide +kernel
theorem d_2_34_73 : decode prog_2_method_34_code 73 = .ok (.getfield 13, 3) := by decide +kernel
theorem d_2_34_76 : decode prog_2_method_34_code 76 = .ok (.isub, 1) := by decide +kernel
theorem d_2_34_77 : decode prog_2_method_34_code 77 = .ok (.iconst 1, 1) := by decide +kernel
theorem d_2_34_78 : decode prog_2_method_34_code 78 = .ok (.iadd, 1) := by decide +kernel
theorem d_2_34_79 : decode prog_2_method_34_code 79 = .ok (.istore 4, 2) := by decide +kernel
theorem d_2_34_81 : decode prog_2_method_34_code 81 = .ok (.aload_n 0, 1) := by decide +kernel
theorem d_2_34_82 : decode prog_2_method_34_code 82 = .ok (.iconst 0, 1) := by decide +kernel
theorem d_2_34_83 : decode prog_2_method_34_code 83 = .ok (.invokevirtual 32, 3) := by decide +kernel
theorem d_2_34_86 : decode prog_2_method_34_code 86 = .ok (.iload 4, 2) := by decide +kernel
theorem d_2_34_88 : decode prog_2_method_34_code 88 = .ok (.iconst 1, 1) := by decide +kernel
theorem d_2_34_89 : decode prog_2_method_34_code 89 = .ok (.isub, 1) := by decide +kernel
theorem d_2_34_90 : decode prog_2_method_34_code 90 = .ok (.istore 5, 2) := by decide +kernel
theorem d_2_34_92 : decode prog_2_method_34_code 92 = .ok (.iload 5, 2) := by decide +kernel
theorem d_2_34_94 : decode prog_2_method_34_code 94 = .ok (.ifCond .lt 37, 3) := by decide +kernel
theorem d_2_34_131 : decode prog_2_method_34_code 131 = .ok (.aload_n 2, 1) := by decide +kernel
theorem d_2_34_132 : decode prog_2_method_34_code 132 = .ok (.iload 4, 2) := by decide +kernel
theorem d_2_34_134 : decode prog_2_method_34_code 134 = .ok (.aload_n 2, 1) := by decide +kernel
theorem d_2_34_135 : decode prog_2_method_34_code 135 = .ok (.getfield 7, 3) := by decide +kernel
theorem d_2_34_138 : decode prog_2_method_34_code 138 = .ok (.arraylength, 1) := by decide +kernel
theorem d_2_34_139 : decode prog_2_method_34_code 139 = .ok (.invokestatic 39, 3) := by decide +kernel
theorem d_2_34_142 : decode prog_2_method_34_code 142 = .ok (.putfield 13, 3) := by decide +kernel
theorem d_2_34_145 : decode prog_2_method_34_code 145 = .ok (.aload_n 2, 1) := by decide +kernel
theorem d_2_34_146 : decode prog_2_method_34_code 146 = .ok (.invokevirtual 36, 3) := by decide +kernel
theorem d_2_34_149 : decode prog_2_method_34_code 149 = .ok (.aload_n 0, 1) := by decide +kernel
theorem d_2_34_150 : decode prog_2_method_34_code 150 = .ok (.invokevirtual 36, 3) := by decide +kernel
theorem d_2_34_153 : decode prog_2_method_34_code 153 = .ok (.aload_n 0, 1) := by decide +kernel
theorem d_2_34_154 : decode prog_2_method_34_code 154 = .ok (.iload_n 3, 1) := by decide +kernel
theorem d_2_34_155 : decode prog_2_method_34_code 155 = .ok (.invokevirtual 125, 3) := by decide +kernel
set_option maxRecDepth 100000 in
theorem w_1059 : (Cond.methodLink "NumberHouse$Big" (125 : Nat) ({ cls := "NumberHouse$Big", name := "shiftRight", desc := "(I)Z" } : MethodName)) ∈ q_tbl := q_of5 99 rfl (by decide +kernel)
theorem LV_Big_125 : q_LV "NumberHouse$Big" 125 y_Big_shiftRight prog_2_method_33_code 7 (some .boolean) 1 := ⟨w_1062, w_4, w_1059, w_1060, w_1061, ⟨by decide, by decide, by decide +kernel⟩⟩
theorem d_2_34_158 : decode prog_2_method_34_code 158 = .ok (.pop, 1) := by decide +kernel
theorem d_2_34_159 : decode prog_2_method_34_code 159 = .ok (.aload_n 1, 1) := by decide +kernel
theorem d_2_34_160 : decode prog_2_method_34_code 160 = .ok (.iload_n 3, 1) := by decide +kernel
theorem d_2_34_161 : decode prog_2_method_34_code 161 = .ok (.invokevirtual 125, 3) := by decide +kernel
theorem d_2_34_164 : decode prog_2_method_34_code 164 = .ok (.pop, 1) := by decide +kernel
theorem d_2_34_165 : decode prog_2_method_34_code 165 = .ok (.return_, 1) := by decide +kernel
theorem d_2_34_97 : decode prog_2_method_34_code 97 = .ok (.aload_n 0, 1) := by decide +kernel
theorem d_2_34_98 : decode prog_2_method_34_code 98 = .ok (.iload 5, 2) := by decide +kernel
theorem d_2_34_100 : decode prog_2_method_34_code 100 = .ok (.aload_n 1, 1) := by decide +kernel
theorem d_2_34_101 : decode prog_2_method_34_code 101 = .ok (.invokevirtual 121, 3) := by decide +kernel
set_option maxRecDepth 100000 in
theorem w_1049 : (Cond.code ({ cls := "NumberHouse$Big", name := "takeTimes", desc := "(ILNumberHouse$Big;)I" } : MethodName) prog_2_method_36_code (11 : Nat) (some .int)) ∈ q_tbl := q_of5 89 rfl (by decide +kernel)
set_option maxRecDepth 100000 in
theorem w_1046 : (Cond.methodLink "NumberHouse$Big" (121 : Nat) ({ cls := "NumberHouse$Big", name := "takeTimes", desc := "(ILNumberHouse$Big;)I" } : MethodName)) ∈ q_tbl := q_of5 86 rfl (by decide +kernel)
set_option maxRecDepth 100000 in
theorem w_1048 : (Cond.instanceMethod ({ cls := "NumberHouse$Big", name := "takeTimes", desc := "(ILNumberHouse$Big;)I" } : MethodName)) ∈ q_tbl := q_of5 88 rfl (by decide +kernel)
theorem ws_16 : Cond.selects "NumberHouse$Big" (⟨"NumberHouse$Big", "takeTimes", "(ILNumberHouse$Big;)I"⟩ : MethodName) (⟨"NumberHouse$Big", "takeTimes", "(ILNumberHouse$Big;)I"⟩ : MethodName) ∈ q_tbl := q_ofs 16 (by decide +kernel) (by decide +kernel)
theorem LV_Big_121 : q_LV "NumberHouse$Big" 121 y_Big_takeTimes prog_2_method_36_code 11 (some .int) 2 := ⟨w_1049, w_4, w_1046, w_1048, ws_16, ⟨by decide, by decide, by decide +kernel⟩⟩
theorem d_2_34_104 : decode prog_2_method_34_code 104 = .ok (.istore 6, 2) := by decide +kernel
theorem d_2_34_106 : decode prog_2_method_34_code 106 = .ok (.iload 5, 2) := by decide +kernel
theorem d_2_34_108 : decode prog_2_method_34_code 108 = .ok (.aload_n 2, 1) := by decide +kernel
theorem d_2_34_109 : decode prog_2_method_34_code 109 = .ok (.getfield 7, 3) := by decide +kernel
theorem d_2_34_112 : decode prog_2_method_34_code 112 = .ok (.arraylength, 1) := by decide +kernel
theorem d_2_34_113 : decode prog_2_method_34_code 113 = .ok (.if_icmp .ge 12, 3) := by decide +kernel
theorem d_2_34_125 : decode prog_2_method_34_code 125 = .ok (.iinc 5 (-1), 3) := by decide +kernel
theorem d_2_34_128 : decode prog_2_method_34_code 128 = .ok (.goto (-36), 3) := by decide +kernel
theorem d_2_34_116 : decode prog_2_method_34_code 116 = .ok (.aload_n 2, 1) := by decide +kernel
theorem d_2_34_117 : decode prog_2_method_34_code 117 = .ok (.getfield 7, 3) := by decide +kernel
theorem d_2_34_120 : decode prog_2_method_34_code 120 = .ok (.iload 5, 2) := by decide +kernel
theorem d_2_34_122 : decode prog_2_method_34_code 122 = .ok (.iload 6, 2) := by decide +kernel
theorem d_2_34_124 : decode prog_2_method_34_code 124 = .ok (.iastore, 1) := by decide +kernel
theorem d_2_34_28 : decode prog_2_method_34_code 28 = .ok (.aload_n 0, 1) := by decide +kernel
theorem d_2_34_29 : decode prog_2_method_34_code 29 = .ok (.aload_n 1, 1) := by decide +kernel
theorem d_2_34_30 : decode prog_2_method_34_code 30 = .ok (.getfield 7, 3) := by decide +kernel
theorem d_2_34_33 : decode prog_2_method_34_code 33 = .ok (.iconst 0, 1) := by decide +kernel
theorem d_2_34_34 : decode prog_2_method_34_code 34 = .ok (.iaload, 1) := by decide +kernel
theorem d_2_34_35 : decode prog_2_method_34_code 35 = .ok (.aload_n 2, 1) := by decide +kernel
theorem d_2_34_36 : decode prog_2_method_34_code 36 = .ok (.invokevirtual 114, 3) := by decide +kernel
set_option maxRecDepth 100000 in
theorem w_1037 : (Cond.code ({ cls := "NumberHouse$Big", name := "divideByLimb", desc := "(ILNumberHouse$Big;)V" } : MethodName) prog_2_method_35_code (5 : Nat) (none : Option ClassFile.FieldType)) ∈ q_tbl := q_of5 77 rfl (by decide +kernel)
set_option maxRecDepth 100000 in
theorem w_1034 : (Cond.methodLink "NumberHouse$Big" (114 : Nat) ({ cls := "NumberHouse$Big", name := "divideByLimb", desc := "(ILNumberHouse$Big;)V" } : MethodName)) ∈ q_tbl := q_of5 74 rfl (by decide +kernel)
set_option maxRecDepth 100000 in
theorem w_1036 : (Cond.instanceMethod ({ cls := "NumberHouse$Big", name := "divideByLimb", desc := "(ILNumberHouse$Big;)V" } : MethodName)) ∈ q_tbl := q_of5 76 rfl (by decide +kernel)
theorem ws_15 : Cond.selects "NumberHouse$Big" (⟨"NumberHouse$Big", "divideByLimb", "(ILNumberHouse$Big;)V"⟩ : MethodName) (⟨"NumberHouse$Big", "divideByLimb", "(ILNumberHouse$Big;)V"⟩ : MethodName) ∈ q_tbl := q_ofs 15 (by decide +kernel) (by decide +kernel)
theorem LV_Big_114 : q_LV "NumberHouse$Big" 114 y_Big_divideByLimb prog_2_method_35_code 5 none 2 := ⟨w_1037, w_4, w_1034, w_1036, ws_15, ⟨by decide, by decide, by decide +kernel⟩⟩
theorem d_2_34_39 : decode prog_2_method_34_code 39 = .ok (.return_, 1) := by decide +kernel
def y_Big_divideBy : MethodName := ⟨"NumberHouse$Big", "divideBy", "(LNumberHouse$Big;LNumberHouse$Big;)V"⟩
def F_Big_divideBy_L92 (R : Int32) (R2 : Int32) (R3 : Int32) (t0_0 : Int32) (t0_1 : Int32) (t1_0 : (Nat → Int32)) (t2_0 : Int32) (t2_1 : Int32) (t3_0 : (Nat → Int32)) (t4_0 : Int32) (t4_1 : Int32) (t5_0 : (Nat → Int32)) (a114 : Int32) (a66 : Int32) (y124 : Int32) (y125 : Int32) (y76 : Int32) (y77 : Int32) (f78 : (Nat → Int32)) (y30 : Int32) (y31 : Int32) : Nat → Int32 → (Nat → Int32) → (Nat → Int32) → (Int32 × Int32 × (Nat → Int32) × Int32 × Int32 × (Nat → Int32) × Int32 × Int32 × (Nat → Int32))
  | 0, _, _, _ => default
  | fm + 1, lx143, lx144, lx145 => if lx143 < (0 : Int32) then ((((F_Big_shiftRight R a66 ((F_Big_trim R y124 y125 lx144).1 : Int32) ((F_Big_trim R y124 y125 lx144).2 : Int32) lx144).2.1 : Int32), ((F_Big_shiftRight R a66 ((F_Big_trim R y124 y125 lx144).1 : Int32) ((F_Big_trim R y124 y125 lx144).2 : Int32) lx144).2.2.1 : Int32), ((F_Big_shiftRight R a66 ((F_Big_trim R y124 y125 lx144).1 : Int32) ((F_Big_trim R y124 y125 lx144).2 : Int32) lx144).2.2.2 : (Nat → Int32)), ((F_Big_shiftRight R2 a66 y76 y77 f78).2.1 : Int32), ((F_Big_shiftRight R2 a66 y76 y77 f78).2.2.1 : Int32), ((F_Big_shiftRight R2 a66 y76 y77 f78).2.2.2 : (Nat → Int32)), ((F_Big_trim R3 (if R3 < a114 then R3 else a114 : Int32) y31 lx145).1 : Int32), ((F_Big_trim R3 (if R3 < a114 then R3 else a114 : Int32) y31 lx145).2 : Int32), lx145)) else (if R3 ≤ lx143 then (F_Big_divideBy_L92 R R2 R3 t0_0 t0_1 t1_0 t2_0 t2_1 t3_0 t4_0 t4_1 t5_0 a114 a66 y124 y125 y76 y77 f78 y30 y31 fm (lx143 + (-1) : Int32) ((F_Big_takeTimes R lx143 R2 y124 y125 lx144 y76 y77 f78).2 : (Nat → Int32)) lx145) else (F_Big_divideBy_L92 R R2 R3 t0_0 t0_1 t1_0 t2_0 t2_1 t3_0 t4_0 t4_1 t5_0 a114 a66 y124 y125 y76 y77 f78 y30 y31 fm (lx143 + (-1) : Int32) ((F_Big_takeTimes R lx143 R2 y124 y125 lx144 y76 y77 f78).2 : (Nat → Int32)) (upd lx145 lx143.toNatClampNeg ((F_Big_takeTimes R lx143 R2 y124 y125 lx144 y76 y77 f78).1 : Int32) : (Nat → Int32))))
def F_Big_divideBy (R : Int32) (R2 : Int32) (R3 : Int32) (t0_0 : Int32) (t0_1 : Int32) (t1_0 : (Nat → Int32)) (t2_0 : Int32) (t2_1 : Int32) (t3_0 : (Nat → Int32)) (t4_0 : Int32) (t4_1 : Int32) (t5_0 : (Nat → Int32)) : Int32 × Int32 × (Nat → Int32) × Int32 × Int32 × (Nat → Int32) × Int32 × Int32 × (Nat → Int32) := if t2_0 = (0 : Int32) then ((t0_0, t0_1, t1_0, t2_0, t2_1, t3_0, ((F_Big_clear R3 t4_0 t4_1).1 : Int32), ((F_Big_clear R3 t4_0 t4_1).2 : Int32), t5_0)) else (if (0 : Int32) ≤ ((F_Big_compareSize R R2 t0_0 t0_1 t1_0 t2_0 t2_1 t3_0) : Int32) then (if t2_0 = (1 : Int32) then ((((F_Big_divideByLimb R (t3_0 (0 : Int32).toNatClampNeg : Int32) R3 t0_0 t0_1 t1_0 ((F_Big_clear R3 t4_0 t4_1).1 : Int32) ((F_Big_clear R3 t4_0 t4_1).2 : Int32) t5_0).1 : Int32), ((F_Big_divideByLimb R (t3_0 (0 : Int32).toNatClampNeg : Int32) R3 t0_0 t0_1 t1_0 ((F_Big_clear R3 t4_0 t4_1).1 : Int32) ((F_Big_clear R3 t4_0 t4_1).2 : Int32) t5_0).2.1 : Int32), ((F_Big_divideByLimb R (t3_0 (0 : Int32).toNatClampNeg : Int32) R3 t0_0 t0_1 t1_0 ((F_Big_clear R3 t4_0 t4_1).1 : Int32) ((F_Big_clear R3 t4_0 t4_1).2 : Int32) t5_0).2.2.1 : (Nat → Int32)), t2_0, t2_1, t3_0, ((F_Big_divideByLimb R (t3_0 (0 : Int32).toNatClampNeg : Int32) R3 t0_0 t0_1 t1_0 ((F_Big_clear R3 t4_0 t4_1).1 : Int32) ((F_Big_clear R3 t4_0 t4_1).2 : Int32) t5_0).2.2.2.1 : Int32), ((F_Big_divideByLimb R (t3_0 (0 : Int32).toNatClampNeg : Int32) R3 t0_0 t0_1 t1_0 ((F_Big_clear R3 t4_0 t4_1).1 : Int32) ((F_Big_clear R3 t4_0 t4_1).2 : Int32) t5_0).2.2.2.2.1 : Int32), ((F_Big_divideByLimb R (t3_0 (0 : Int32).toNatClampNeg : Int32) R3 t0_0 t0_1 t1_0 ((F_Big_clear R3 t4_0 t4_1).1 : Int32) ((F_Big_clear R3 t4_0 t4_1).2 : Int32) t5_0).2.2.2.2.2 : (Nat → Int32)))) else (F_Big_divideBy_L92 R R2 R3 t0_0 t0_1 t1_0 t2_0 t2_1 t3_0 t4_0 t4_1 t5_0 ((((F_Big_shiftLeft R (31 - ((F_Big_bitsOf (t3_0 (t2_0 - 1 : Int32).toNatClampNeg : Int32)) : Int32) : Int32) t0_0 t0_1 t1_0).1 : Int32) - ((F_Big_shiftLeft R2 (31 - ((F_Big_bitsOf (t3_0 (t2_0 - 1 : Int32).toNatClampNeg : Int32)) : Int32) : Int32) t2_0 t2_1 t3_0).1 : Int32) : Int32) + 1 : Int32) (31 - ((F_Big_bitsOf (t3_0 (t2_0 - 1 : Int32).toNatClampNeg : Int32)) : Int32) : Int32) ((F_Big_push R (0 : Int32) ((F_Big_shiftLeft R (31 - ((F_Big_bitsOf (t3_0 (t2_0 - 1 : Int32).toNatClampNeg : Int32)) : Int32) : Int32) t0_0 t0_1 t1_0).1 : Int32) ((F_Big_shiftLeft R (31 - ((F_Big_bitsOf (t3_0 (t2_0 - 1 : Int32).toNatClampNeg : Int32)) : Int32) : Int32) t0_0 t0_1 t1_0).2.1 : Int32) ((F_Big_shiftLeft R (31 - ((F_Big_bitsOf (t3_0 (t2_0 - 1 : Int32).toNatClampNeg : Int32)) : Int32) : Int32) t0_0 t0_1 t1_0).2.2 : (Nat → Int32))).1 : Int32) ((F_Big_push R (0 : Int32) ((F_Big_shiftLeft R (31 - ((F_Big_bitsOf (t3_0 (t2_0 - 1 : Int32).toNatClampNeg : Int32)) : Int32) : Int32) t0_0 t0_1 t1_0).1 : Int32) ((F_Big_shiftLeft R (31 - ((F_Big_bitsOf (t3_0 (t2_0 - 1 : Int32).toNatClampNeg : Int32)) : Int32) : Int32) t0_0 t0_1 t1_0).2.1 : Int32) ((F_Big_shiftLeft R (31 - ((F_Big_bitsOf (t3_0 (t2_0 - 1 : Int32).toNatClampNeg : Int32)) : Int32) : Int32) t0_0 t0_1 t1_0).2.2 : (Nat → Int32))).2.1 : Int32) ((F_Big_shiftLeft R2 (31 - ((F_Big_bitsOf (t3_0 (t2_0 - 1 : Int32).toNatClampNeg : Int32)) : Int32) : Int32) t2_0 t2_1 t3_0).1 : Int32) ((F_Big_shiftLeft R2 (31 - ((F_Big_bitsOf (t3_0 (t2_0 - 1 : Int32).toNatClampNeg : Int32)) : Int32) : Int32) t2_0 t2_1 t3_0).2.1 : Int32) ((F_Big_shiftLeft R2 (31 - ((F_Big_bitsOf (t3_0 (t2_0 - 1 : Int32).toNatClampNeg : Int32)) : Int32) : Int32) t2_0 t2_1 t3_0).2.2 : (Nat → Int32)) ((F_Big_clear R3 t4_0 t4_1).1 : Int32) ((F_Big_clear R3 t4_0 t4_1).2 : Int32) (((((((F_Big_shiftLeft R (31 - ((F_Big_bitsOf (t3_0 (t2_0 - 1 : Int32).toNatClampNeg : Int32)) : Int32) : Int32) t0_0 t0_1 t1_0).1 : Int32) - ((F_Big_shiftLeft R2 (31 - ((F_Big_bitsOf (t3_0 (t2_0 - 1 : Int32).toNatClampNeg : Int32)) : Int32) : Int32) t2_0 t2_1 t3_0).1 : Int32) : Int32) + 1 : Int32) - 1 : Int32).toInt - ((-220))).toNat + 1) (((((F_Big_shiftLeft R (31 - ((F_Big_bitsOf (t3_0 (t2_0 - 1 : Int32).toNatClampNeg : Int32)) : Int32) : Int32) t0_0 t0_1 t1_0).1 : Int32) - ((F_Big_shiftLeft R2 (31 - ((F_Big_bitsOf (t3_0 (t2_0 - 1 : Int32).toNatClampNeg : Int32)) : Int32) : Int32) t2_0 t2_1 t3_0).1 : Int32) : Int32) + 1 : Int32) - 1 : Int32) ((F_Big_push R (0 : Int32) ((F_Big_shiftLeft R (31 - ((F_Big_bitsOf (t3_0 (t2_0 - 1 : Int32).toNatClampNeg : Int32)) : Int32) : Int32) t0_0 t0_1 t1_0).1 : Int32) ((F_Big_shiftLeft R (31 - ((F_Big_bitsOf (t3_0 (t2_0 - 1 : Int32).toNatClampNeg : Int32)) : Int32) : Int32) t0_0 t0_1 t1_0).2.1 : Int32) ((F_Big_shiftLeft R (31 - ((F_Big_bitsOf (t3_0 (t2_0 - 1 : Int32).toNatClampNeg : Int32)) : Int32) : Int32) t0_0 t0_1 t1_0).2.2 : (Nat → Int32))).2.2 : (Nat → Int32)) t5_0)) else ((t0_0, t0_1, t1_0, t2_0, t2_1, t3_0, ((F_Big_clear R3 t4_0 t4_1).1 : Int32), ((F_Big_clear R3 t4_0 t4_1).2 : Int32), t5_0)))
def S_Big_divideBy_L92 (R : Int32) (R2 : Int32) (R3 : Int32) (t0_0 : Int32) (t0_1 : Int32) (t1_0 : (Nat → Int32)) (t2_0 : Int32) (t2_1 : Int32) (t3_0 : (Nat → Int32)) (t4_0 : Int32) (t4_1 : Int32) (t5_0 : (Nat → Int32)) (a114 : Int32) (a66 : Int32) (y124 : Int32) (y125 : Int32) (y76 : Int32) (y77 : Int32) (f78 : (Nat → Int32)) (y30 : Int32) (y31 : Int32) : Nat → Int32 → (Nat → Int32) → (Nat → Int32) → Prop
  | 0, _, _, _ => False
  | fm + 1, lx143, lx144, lx145 => if lx143 < (0 : Int32) then ((0 ≤ (if R3 < a114 then R3 else a114 : Int32).toInt) ∧ (True)) else (if R3 ≤ lx143 then (S_Big_divideBy_L92 R R2 R3 t0_0 t0_1 t1_0 t2_0 t2_1 t3_0 t4_0 t4_1 t5_0 a114 a66 y124 y125 y76 y77 f78 y30 y31 fm (lx143 + (-1) : Int32) ((F_Big_takeTimes R lx143 R2 y124 y125 lx144 y76 y77 f78).2 : (Nat → Int32)) lx145) else (S_Big_divideBy_L92 R R2 R3 t0_0 t0_1 t1_0 t2_0 t2_1 t3_0 t4_0 t4_1 t5_0 a114 a66 y124 y125 y76 y77 f78 y30 y31 fm (lx143 + (-1) : Int32) ((F_Big_takeTimes R lx143 R2 y124 y125 lx144 y76 y77 f78).2 : (Nat → Int32)) (upd lx145 lx143.toNatClampNeg ((F_Big_takeTimes R lx143 R2 y124 y125 lx144 y76 y77 f78).1 : Int32) : (Nat → Int32))))
def S_Big_divideBy (R : Int32) (R2 : Int32) (R3 : Int32) (t0_0 : Int32) (t0_1 : Int32) (t1_0 : (Nat → Int32)) (t2_0 : Int32) (t2_1 : Int32) (t3_0 : (Nat → Int32)) (t4_0 : Int32) (t4_1 : Int32) (t5_0 : (Nat → Int32)) : Prop := if t2_0 = (0 : Int32) then (True) else (if (0 : Int32) ≤ ((F_Big_compareSize R R2 t0_0 t0_1 t1_0 t2_0 t2_1 t3_0) : Int32) then (if t2_0 = (1 : Int32) then (True) else (S_Big_divideBy_L92 R R2 R3 t0_0 t0_1 t1_0 t2_0 t2_1 t3_0 t4_0 t4_1 t5_0 ((((F_Big_shiftLeft R (31 - ((F_Big_bitsOf (t3_0 (t2_0 - 1 : Int32).toNatClampNeg : Int32)) : Int32) : Int32) t0_0 t0_1 t1_0).1 : Int32) - ((F_Big_shiftLeft R2 (31 - ((F_Big_bitsOf (t3_0 (t2_0 - 1 : Int32).toNatClampNeg : Int32)) : Int32) : Int32) t2_0 t2_1 t3_0).1 : Int32) : Int32) + 1 : Int32) (31 - ((F_Big_bitsOf (t3_0 (t2_0 - 1 : Int32).toNatClampNeg : Int32)) : Int32) : Int32) ((F_Big_push R (0 : Int32) ((F_Big_shiftLeft R (31 - ((F_Big_bitsOf (t3_0 (t2_0 - 1 : Int32).toNatClampNeg : Int32)) : Int32) : Int32) t0_0 t0_1 t1_0).1 : Int32) ((F_Big_shiftLeft R (31 - ((F_Big_bitsOf (t3_0 (t2_0 - 1 : Int32).toNatClampNeg : Int32)) : Int32) : Int32) t0_0 t0_1 t1_0).2.1 : Int32) ((F_Big_shiftLeft R (31 - ((F_Big_bitsOf (t3_0 (t2_0 - 1 : Int32).toNatClampNeg : Int32)) : Int32) : Int32) t0_0 t0_1 t1_0).2.2 : (Nat → Int32))).1 : Int32) ((F_Big_push R (0 : Int32) ((F_Big_shiftLeft R (31 - ((F_Big_bitsOf (t3_0 (t2_0 - 1 : Int32).toNatClampNeg : Int32)) : Int32) : Int32) t0_0 t0_1 t1_0).1 : Int32) ((F_Big_shiftLeft R (31 - ((F_Big_bitsOf (t3_0 (t2_0 - 1 : Int32).toNatClampNeg : Int32)) : Int32) : Int32) t0_0 t0_1 t1_0).2.1 : Int32) ((F_Big_shiftLeft R (31 - ((F_Big_bitsOf (t3_0 (t2_0 - 1 : Int32).toNatClampNeg : Int32)) : Int32) : Int32) t0_0 t0_1 t1_0).2.2 : (Nat → Int32))).2.1 : Int32) ((F_Big_shiftLeft R2 (31 - ((F_Big_bitsOf (t3_0 (t2_0 - 1 : Int32).toNatClampNeg : Int32)) : Int32) : Int32) t2_0 t2_1 t3_0).1 : Int32) ((F_Big_shiftLeft R2 (31 - ((F_Big_bitsOf (t3_0 (t2_0 - 1 : Int32).toNatClampNeg : Int32)) : Int32) : Int32) t2_0 t2_1 t3_0).2.1 : Int32) ((F_Big_shiftLeft R2 (31 - ((F_Big_bitsOf (t3_0 (t2_0 - 1 : Int32).toNatClampNeg : Int32)) : Int32) : Int32) t2_0 t2_1 t3_0).2.2 : (Nat → Int32)) ((F_Big_clear R3 t4_0 t4_1).1 : Int32) ((F_Big_clear R3 t4_0 t4_1).2 : Int32) (((((((F_Big_shiftLeft R (31 - ((F_Big_bitsOf (t3_0 (t2_0 - 1 : Int32).toNatClampNeg : Int32)) : Int32) : Int32) t0_0 t0_1 t1_0).1 : Int32) - ((F_Big_shiftLeft R2 (31 - ((F_Big_bitsOf (t3_0 (t2_0 - 1 : Int32).toNatClampNeg : Int32)) : Int32) : Int32) t2_0 t2_1 t3_0).1 : Int32) : Int32) + 1 : Int32) - 1 : Int32).toInt - ((-220))).toNat + 1) (((((F_Big_shiftLeft R (31 - ((F_Big_bitsOf (t3_0 (t2_0 - 1 : Int32).toNatClampNeg : Int32)) : Int32) : Int32) t0_0 t0_1 t1_0).1 : Int32) - ((F_Big_shiftLeft R2 (31 - ((F_Big_bitsOf (t3_0 (t2_0 - 1 : Int32).toNatClampNeg : Int32)) : Int32) : Int32) t2_0 t2_1 t3_0).1 : Int32) : Int32) + 1 : Int32) - 1 : Int32) ((F_Big_push R (0 : Int32) ((F_Big_shiftLeft R (31 - ((F_Big_bitsOf (t3_0 (t2_0 - 1 : Int32).toNatClampNeg : Int32)) : Int32) : Int32) t0_0 t0_1 t1_0).1 : Int32) ((F_Big_shiftLeft R (31 - ((F_Big_bitsOf (t3_0 (t2_0 - 1 : Int32).toNatClampNeg : Int32)) : Int32) : Int32) t0_0 t0_1 t1_0).2.1 : Int32) ((F_Big_shiftLeft R (31 - ((F_Big_bitsOf (t3_0 (t2_0 - 1 : Int32).toNatClampNeg : Int32)) : Int32) : Int32) t0_0 t0_1 t1_0).2.2 : (Nat → Int32))).2.2 : (Nat → Int32)) t5_0)) else (True))
set_option maxRecDepth 100000 in
set_option maxHeartbeats 4000000 in
theorem X_Big_divideBy (l : Launch) (D : va_G) (g : Nat → ClassId) (q : Nat → Nat) (ws : va_W) (k1 : Nat) (R : Int32) (hB1 : q_isBig (nsh g q) g q k1 R) (zk1 : (10 ≤ k1 ∧ k1 ≤ 32) ∨ 66 ≤ k1) (k2 : Nat) (R2 : Int32) (hB2 : q_isBig (nsh g q) g q k2 R2) (zk2 : (10 ≤ k2 ∧ k2 ≤ 32) ∨ 66 ≤ k2) (k3 : Nat) (R3 : Int32) (hB3 : q_isBig (nsh g q) g q k3 R3) (zk3 : (10 ≤ k3 ∧ k3 ≤ 32) ∨ 66 ≤ k3) (ne_k1_k2 : k1 ≠ k2) (ne_k1_k3 : k1 ≠ k3) (ne_k2_k3 : k2 ≠ k3) (hI : q_I (nsh g q) q ws) (t0_0 : Int32) (t0_1 : Int32) (hT0 : ws[k1]? = (some (q k1, .inr (2, [.ref (q (k1 + 1)), .int t0_0, .int t0_1])) : Option (Nat × va_E))) (t1_0 : (Nat → Int32)) (hT1 : ws[k1 + 1]? = (some (q (k1 + 1), .inl (g 0, R.toNatClampNeg, .inl t1_0)) : Option (Nat × va_E))) (t2_0 : Int32) (t2_1 : Int32) (hT2 : ws[k2]? = (some (q k2, .inr (2, [.ref (q (k2 + 1)), .int t2_0, .int t2_1])) : Option (Nat × va_E))) (t3_0 : (Nat → Int32)) (hT3 : ws[k2 + 1]? = (some (q (k2 + 1), .inl (g 0, R2.toNatClampNeg, .inl t3_0)) : Option (Nat × va_E))) (t4_0 : Int32) (t4_1 : Int32) (hT4 : ws[k3]? = (some (q k3, .inr (2, [.ref (q (k3 + 1)), .int t4_0, .int t4_1])) : Option (Nat × va_E))) (t5_0 : (Nat → Int32)) (hT5 : ws[k3 + 1]? = (some (q (k3 + 1), .inl (g 0, R3.toNatClampNeg, .inl t5_0)) : Option (Nat × va_E))) (hS : True ∧ S_Big_divideBy R R2 R3 t0_0 t0_1 t1_0 t2_0 t2_1 t3_0 t4_0 t4_1 t5_0) : q_mV l y_Big_divideBy prog_2_method_34_code 7 4 0 0 D g [.ref (q k1), .ref (q k2), .ref (q k3)] ws (fun u => q_I (nsh g q) q u ∧ q_un ws u [k1, k1 + 1, k2, k2 + 1, k3, k3 + 1] ∧ ∃ (u0_0 : Int32) (u0_1 : Int32) (u1_0 : (Nat → Int32)) (u2_0 : Int32) (u2_1 : Int32) (u3_0 : (Nat → Int32)) (u4_0 : Int32) (u4_1 : Int32) (u5_0 : (Nat → Int32)), u[k1]? = (some (q k1, .inr (2, [.ref (q (k1 + 1)), .int u0_0, .int u0_1])) : Option (Nat × va_E)) ∧ u[k1 + 1]? = (some (q (k1 + 1), .inl (g 0, R.toNatClampNeg, .inl u1_0)) : Option (Nat × va_E)) ∧ u[k2]? = (some (q k2, .inr (2, [.ref (q (k2 + 1)), .int u2_0, .int u2_1])) : Option (Nat × va_E)) ∧ u[k2 + 1]? = (some (q (k2 + 1), .inl (g 0, R2.toNatClampNeg, .inl u3_0)) : Option (Nat × va_E)) ∧ u[k3]? = (some (q k3, .inr (2, [.ref (q (k3 + 1)), .int u4_0, .int u4_1])) : Option (Nat × va_E)) ∧ u[k3 + 1]? = (some (q (k3 + 1), .inl (g 0, R3.toNatClampNeg, .inl u5_0)) : Option (Nat × va_E)) ∧ (0 ≤ u4_1.toInt) ∧ (u4_1.toInt ≤ 0) ∧ (u0_0.toInt ≤ R.toInt) ∧ (u0_1.toInt ≤ t0_1.toInt) ∧ (u2_0.toInt ≤ t2_0.toInt + 218) ∧ (u2_0.toInt ≤ R2.toInt) ∧ (u2_1.toInt ≤ t2_1.toInt) ∧ (u4_0.toInt ≤ t2_0.toInt + 219) ∧ (u4_0.toInt ≤ R.toInt + 1) ∧ (u4_0.toInt ≤ R3.toInt) ∧ (u4_1.toInt ≤ u0_0.toInt) ∧ (u4_1.toInt ≤ u0_1.toInt) ∧ (u4_1.toInt ≤ u2_0.toInt) ∧ (u4_1.toInt ≤ u2_1.toInt) ∧ (u4_1.toInt ≤ u4_0.toInt) ∧ (u0_0, u0_1, u1_0, u2_0, u2_1, u3_0, u4_0, u4_1, u5_0) = (F_Big_divideBy R R2 R3 t0_0 t0_1 t1_0 t2_0 t2_1 t3_0 t4_0 t4_1 t5_0)) := by
  intro sz
  refine q_into (by decide) (Nat.le_of_ble_eq_true rfl) ?_
  intro p e s m below meth c ls hsz C0 V hl
  have hx := C0.1
  have hb := C0.2.1
  have hfk10 : q_F (0 ≤ R.toInt ∧ R.toInt ≤ 220) := hB1.2.2
  have hfk20 : q_F (0 ≤ R2.toInt ∧ R2.toInt ≤ 220) := hB2.2.2
  have hfk30 : q_F (0 ≤ R3.toInt ∧ R3.toInt ≤ 220) := hB3.2.2
  obtain ⟨yy0_0, yy0_1, hh0, btt0_0, btt0_1⟩ := q_bigO hI hB1
  obtain ⟨rfl, rfl⟩ : t0_0 = yy0_0 ∧ t0_1 = yy0_1 := by have z := Option.some.inj (hT0.symm.trans hh0); simpa using z
  replace btt0_0 : q_F (0 ≤ t0_0.toInt ∧ t0_0.toInt ≤ R.toInt) := btt0_0
  replace btt0_1 : q_F (0 ≤ t0_1.toInt ∧ t0_1.toInt ≤ 1) := btt0_1
  obtain ⟨yy2_0, yy2_1, hh2, btt2_0, btt2_1⟩ := q_bigO hI hB2
  obtain ⟨rfl, rfl⟩ : t2_0 = yy2_0 ∧ t2_1 = yy2_1 := by have z := Option.some.inj (hT2.symm.trans hh2); simpa using z
  replace btt2_0 : q_F (0 ≤ t2_0.toInt ∧ t2_0.toInt ≤ R2.toInt) := btt2_0
  replace btt2_1 : q_F (0 ≤ t2_1.toInt ∧ t2_1.toInt ≤ 1) := btt2_1
  obtain ⟨yy4_0, yy4_1, hh4, btt4_0, btt4_1⟩ := q_bigO hI hB3
  obtain ⟨rfl, rfl⟩ : t4_0 = yy4_0 ∧ t4_1 = yy4_1 := by have z := Option.some.inj (hT4.symm.trans hh4); simpa using z
  replace btt4_0 : q_F (0 ≤ t4_0.toInt ∧ t4_0.toInt ≤ R3.toInt) := btt4_0
  replace btt4_1 : q_F (0 ≤ t4_1.toInt ∧ t4_1.toInt ≤ 1) := btt4_1
  have hF : q_un ws ws [k1, k1 + 1, k2, k2 + 1, k3, k3 + 1] := q_u0
  have hl : lv_has ls 7 [(0, .ref (q k1)), (1, .ref (q k2)), (2, .ref (q k3))] := hl
  refine lv_aload_n hx hb d_2_34_0 rfl (lv_at hl 2 rfl) ?_
  have ne25 := q_df hT1 hT4
  have ne26 := q_df hT3 hT4
  refine q_gov V (q_runV (As := []) (rest := []) (d := 1) (mc := 0) (ms := 0) (ci := 2) C0 V rfl LV_Big_21 (X_Big_clear l D g q ws k3 R3 hB3 zk3  hI t4_0 t4_1 hT4  _) rfl rfl hT4 rfl hl.1 rfl (Nat.le_of_ble_eq_true rfl) ⟨by decide, by decide⟩ ⟨Nat.le_of_ble_eq_true rfl, Nat.le_of_ble_eq_true rfl⟩ d_2_34_1) (fun u27 H locs hp28 V => ?_)
  obtain ⟨hI, hu37, y30, y31, hO29, b32, b33, b34, b35, hE36⟩ := hp28
  replace hO29 : u27[k3]? = (some (q k3, .inr (2, [.ref (q (k3 + 1)), .int y30, .int y31])) : Option (Nat × va_E)) := hO29
  have e38 : y30 = (F_Big_clear R3 t4_0 t4_1).1 := congrArg (fun z => z.1) hE36
  have e39 : y31 = (F_Big_clear R3 t4_0 t4_1).2 := congrArg (fun z => z.2) hE36
  replace b32 : q_F (0 ≤ y31.toInt) := b32
  replace b33 : q_F (y31.toInt ≤ 0) := b33
  replace b34 : q_F (y31.toInt ≤ y30.toInt) := b34
  replace b35 : q_F (y30.toInt ≤ y31.toInt) := b35
  replace hT0 := (hu37 _ (q_nc (by have z := ne_k1_k3; omega) List.not_mem_nil)).trans hT0
  replace hT1 := (hu37 _ (q_nc ne25 List.not_mem_nil)).trans hT1
  replace hT2 := (hu37 _ (q_nc (by have z := ne_k2_k3; omega) List.not_mem_nil)).trans hT2
  replace hT3 := (hu37 _ (q_nc ne26 List.not_mem_nil)).trans hT3
  replace hT5 := (hu37 _ (by have z0 := zk3; simp only [List.mem_cons, List.not_mem_nil, or_false, not_or]; omega)).trans hT5
  replace hF := q_uc hF hu37 (by simp)
  refine lv_aload_n hx hb d_2_34_4 rfl (lv_at hl 1 rfl) ?_
  refine q_get (ci := 2) (j := 1) (v := .int t2_0) C0 V i_Big rfl rfl hT2 (by decide) w_85 rfl d_2_34_5 ?_
  refine lv_if_eq (tgt := 19) hx hb d_2_34_8 (by decide) (fun c40 => ?_) (fun c40 => ?_)
  ·
    have b41 : q_F (t2_0.toInt = 0) := (q_eqI c40)
    exact q_retv C0 V (⟨hI, hF, t0_0, t0_1, t1_0, t2_0, t2_1, t3_0, y30, y31, t5_0, hT0, hT1, hT2, hT3, hO29, hT5, (show 0 ≤ y31.toInt from (by have t1 : 0 ≤ y31.toInt := b32; omega)), (show y31.toInt ≤ 0 from (by have t1 : y31.toInt ≤ 0 := b33; omega)), (show t0_0.toInt ≤ R.toInt from (by have t1 : 0 ≤ t0_0.toInt ∧ t0_0.toInt ≤ R.toInt := btt0_0; omega)), (show t0_1.toInt ≤ t0_1.toInt from (by omega)), (show t2_0.toInt ≤ t2_0.toInt + 218 from (by omega)), (show t2_0.toInt ≤ R2.toInt from (by have t1 : 0 ≤ t2_0.toInt ∧ t2_0.toInt ≤ R2.toInt := btt2_0; omega)), (show t2_1.toInt ≤ t2_1.toInt from (by omega)), (show y30.toInt ≤ t2_0.toInt + 219 from (by have t1 : 0 ≤ t2_0.toInt ∧ t2_0.toInt ≤ R2.toInt := btt2_0; have t2 : y31.toInt ≤ 0 := b33; have t3 : y30.toInt ≤ y31.toInt := b35; omega)), (show y30.toInt ≤ R.toInt + 1 from (by have t1 : 0 ≤ R.toInt ∧ R.toInt ≤ 220 := hfk10; have t2 : y31.toInt ≤ 0 := b33; have t3 : y30.toInt ≤ y31.toInt := b35; omega)), (show y30.toInt ≤ R3.toInt from (by have t1 : 0 ≤ R3.toInt ∧ R3.toInt ≤ 220 := hfk30; have t2 : y31.toInt ≤ 0 := b33; have t3 : y30.toInt ≤ y31.toInt := b35; omega)), (show y31.toInt ≤ t0_0.toInt from (by have t1 : 0 ≤ t0_0.toInt ∧ t0_0.toInt ≤ R.toInt := btt0_0; have t2 : y31.toInt ≤ 0 := b33; omega)), (show y31.toInt ≤ t0_1.toInt from (by have t1 : 0 ≤ t0_1.toInt ∧ t0_1.toInt ≤ 1 := btt0_1; have t2 : y31.toInt ≤ 0 := b33; omega)), (show y31.toInt ≤ t2_0.toInt from (by have t1 : 0 ≤ t2_0.toInt ∧ t2_0.toInt ≤ R2.toInt := btt2_0; have t2 : y31.toInt ≤ 0 := b33; omega)), (show y31.toInt ≤ t2_1.toInt from (by have t1 : 0 ≤ t2_1.toInt ∧ t2_1.toInt ≤ 1 := btt2_1; have t2 : y31.toInt ≤ 0 := b33; omega)), (show y31.toInt ≤ y30.toInt from (by have t1 : y31.toInt ≤ y30.toInt := b34; omega)), (show (t0_0, t0_1, t1_0, t2_0, t2_1, t3_0, y30, y31, t5_0) = (F_Big_divideBy R R2 R3 t0_0 t0_1 t1_0 t2_0 t2_1 t3_0 t4_0 t4_1 t5_0) from (by rw [e39, e38, F_Big_divideBy.eq_1, if_pos c40]))⟩) d_2_34_19
  ·
    have b42 : q_F (t2_0.toInt ≠ 0) := (q_neI c40)
    refine lv_aload_n hx hb d_2_34_11 rfl (lv_at hl 0 rfl) ?_
    refine lv_aload_n hx hb d_2_34_12 rfl (lv_at hl 1 rfl) ?_
    refine q_goi V (q_runV (As := [.ref (q k2)]) (rest := []) (d := 2) (mc := 0) (ms := 0) (ci := 2) C0 V rfl LV_Big_78 (X_Big_compareSize l D g q u27 k1 R hB1 zk1 k2 R2 hB2 zk2  hI t0_0 t0_1 hT0 t1_0 hT1 t2_0 t2_1 hT2 t3_0 hT3  _) rfl rfl hT0 rfl hl.1 rfl (Nat.le_of_ble_eq_true rfl) ⟨by decide, by decide⟩ ⟨Nat.le_of_ble_eq_true rfl, Nat.le_of_ble_eq_true rfl⟩ d_2_34_13) (fun a45 u43 H locs hp44 V => ?_)
    obtain ⟨rfl, b46, b47, hE48⟩ := hp44
    have e49 : a45 = (F_Big_compareSize R R2 t0_0 t0_1 t1_0 t2_0 t2_1 t3_0) := hE48
    replace b46 : q_F (0 ≤ a45.toInt + 1) := b46
    replace b47 : q_F (a45.toInt ≤ 1) := b47
    refine lv_if_ge (tgt := 20) hx hb d_2_34_16 (by decide) (fun c50 => ?_) (fun c50 => ?_)
    ·
      have b51 : q_F (0 ≤ a45.toInt) := (q_leI c50)
      refine lv_aload_n hx hb d_2_34_20 rfl (lv_at hl 1 rfl) ?_
      refine q_get (ci := 2) (j := 1) (v := .int t2_0) C0 V i_Big rfl rfl hT2 (by decide) w_85 rfl d_2_34_21 ?_
      refine lv_iconst (v := 1) hx hb d_2_34_24 (by decide) ?_
      refine lv_icmp_ne (tgt := 40) hx hb d_2_34_25 (by decide) (fun c52 => ?_) (fun c52 => ?_)
      ·
        have b53 : q_F (t2_0.toInt ≠ 1) := (q_neI c52)
        refine lv_bipush (v := 31) hx hb d_2_34_40 (by decide) ?_
        refine lv_aload_n hx hb d_2_34_42 rfl (lv_at hl 1 rfl) ?_
        refine q_get (ci := 2) (j := 0) (v := .ref (q (k2 + 1))) C0 V i_Big rfl rfl hT2 (by decide) w_84 rfl d_2_34_43 ?_
        refine lv_aload_n hx hb d_2_34_46 rfl (lv_at hl 1 rfl) ?_
        refine q_get (ci := 2) (j := 1) (v := .int t2_0) C0 V i_Big rfl rfl hT2 (by decide) w_85 rfl d_2_34_47 ?_
        refine lv_iconst (v := 1) hx hb d_2_34_50 (by decide) ?_
        refine lv_isub hx hb d_2_34_51 ?_
        obtain ⟨a54, e55⟩ := q_nm (t2_0 - 1 : Int32)
        refine q_ti (v := a54) e55 ?_
        have b56 : q_F (a54.toInt = t2_0.toInt - 1) := (by rw [← e55]; show (t2_0 - 1 : Int32).toInt = t2_0.toInt - 1; exact q_subI (x := t2_0.toInt) (y := 1) rfl (by decide) (by have t1 : 0 ≤ t2_0.toInt ∧ t2_0.toInt ≤ R2.toInt := btt2_0; have _ := q_lo32 (x := R2); have _ := q_hi32 (x := R2); omega) (by have t1 : 0 ≤ t2_0.toInt ∧ t2_0.toInt ≤ R2.toInt := btt2_0; have _ := q_lo32 (x := R2); have _ := q_hi32 (x := R2); omega))
        refine q_iald C0 V hT3 (q_ix (x := a54.toInt) rfl (by have t1 : 0 ≤ t2_0.toInt ∧ t2_0.toInt ≤ R2.toInt := btt2_0; have t2 : t2_0.toInt ≠ 0 := b42; have t3 : a54.toInt = t2_0.toInt - 1 := b56; omega) (by have t1 : 0 ≤ t2_0.toInt ∧ t2_0.toInt ≤ R2.toInt := btt2_0; have t2 : t2_0.toInt ≠ 0 := b42; have t3 : a54.toInt = t2_0.toInt - 1 := b56; have e9 := q_clI (i := R2) rfl (by have t1 : 0 ≤ R2.toInt ∧ R2.toInt ≤ 220 := hfk20; omega); omega)) d_2_34_52 ?_
        obtain ⟨a57, e58⟩ := q_nm (t3_0 a54.toNatClampNeg : Int32)
        refine q_ti (v := a57) e58 ?_
        refine q_goi V (q_runS (As := [.int a57]) (rest := [.int 31]) (d := 2) (mc := 0) (ms := 0) C0 V rfl LS_Big_57 (X_Big_bitsOf l D g q u27  a57 hI   _) rfl hl.1 rfl (Nat.le_of_ble_eq_true rfl) ⟨by decide, by decide⟩ ⟨Nat.le_of_ble_eq_true rfl, Nat.le_of_ble_eq_true rfl⟩ d_2_34_53) (fun a61 u59 H locs hp60 V => ?_)
        obtain ⟨rfl, b62, b63, hE64⟩ := hp60
        have e65 : a61 = (F_Big_bitsOf a57) := hE64
        replace b62 : q_F (0 ≤ a61.toInt) := b62
        replace b63 : q_F (a61.toInt ≤ 63) := b63
        refine lv_isub hx hb d_2_34_56 ?_
        obtain ⟨a66, e67⟩ := q_nm (31 - a61 : Int32)
        refine q_ti (v := a66) e67 ?_
        have b68 : q_F (a66.toInt = 31 - a61.toInt) := (by rw [← e67]; show (31 - a61 : Int32).toInt = 31 - a61.toInt; exact q_subI (x := 31) (y := a61.toInt) (by decide) rfl (by have t1 : a61.toInt ≤ 63 := b63; have t2 : 0 ≤ a61.toInt := b62; omega) (by have t1 : a61.toInt ≤ 63 := b63; have t2 : 0 ≤ a61.toInt := b62; omega))
        refine lv_istore_n (lv' := [(3, .int a66), (0, .ref (q k1)), (1, .ref (q k2)), (2, .ref (q k3))]) hx hb d_2_34_57 rfl hl (by decide) rfl (fun ls hl => ?_)
        refine lv_aload_n hx hb d_2_34_58 rfl (lv_at hl 2 rfl) ?_
        refine lv_iload_n hx hb d_2_34_59 rfl (lv_at hl 0 rfl) ?_
        have ne69 := q_df hT1 hT2
        have ne70 := q_df hT5 hT2
        have ne71 := q_df hT3 hT0
        have ne72 := q_df hT3 hO29
        refine q_gov V (q_runV (As := [.int a66]) (rest := []) (d := 3) (mc := 0) (ms := 0) (ci := 2) C0 V rfl LV_Big_118 (X_Big_shiftLeft l D g q u27 k2 R2 hB2 zk2 a66 hI t2_0 t2_1 hT2 t3_0 hT3  _) rfl rfl hT2 rfl hl.1 rfl (Nat.le_of_ble_eq_true rfl) ⟨by decide, by decide⟩ ⟨Nat.le_of_ble_eq_true rfl, Nat.le_of_ble_eq_true rfl⟩ d_2_34_60) (fun u73 H locs hp74 V => ?_)
        obtain ⟨hI, hu86, y76, y77, f78, hO75, hA79, b80, b81, b82, b83, b84, hE85⟩ := hp74
        replace hO75 : u73[k2]? = (some (q k2, .inr (2, [.ref (q (k2 + 1)), .int y76, .int y77])) : Option (Nat × va_E)) := hO75
        replace hA79 : u73[k2 + 1]? = (some (q (k2 + 1), .inl (g 0, R2.toNatClampNeg, .inl f78)) : Option (Nat × va_E)) := hA79
        have e87 : y76 = (F_Big_shiftLeft R2 a66 t2_0 t2_1 t3_0).1 := congrArg (fun z => z.1) hE85
        have e88 : y77 = (F_Big_shiftLeft R2 a66 t2_0 t2_1 t3_0).2.1 := congrArg (fun z => z.2.1) hE85
        have e89 : f78 = (F_Big_shiftLeft R2 a66 t2_0 t2_1 t3_0).2.2 := congrArg (fun z => z.2.2) hE85
        replace b80 : q_F (0 ≤ y76.toInt) := b80
        replace b81 : q_F (0 ≤ y77.toInt) := b81
        replace b82 : q_F (y76.toInt ≤ t2_0.toInt + 219) := b82
        replace b83 : q_F (y76.toInt ≤ R2.toInt) := b83
        replace b84 : q_F (y77.toInt ≤ t2_1.toInt) := b84
        replace hT0 := (hu86 _ (q_nc (by have z := ne_k1_k2; omega) (q_nc (Ne.symm ne71) List.not_mem_nil))).trans hT0
        replace hT1 := (hu86 _ (q_nc ne69 (q_nc (by have z := ne_k1_k2; omega) List.not_mem_nil))).trans hT1
        replace hO29 := (hu86 _ (q_nc (by have z := ne_k2_k3; omega) (q_nc (Ne.symm ne72) List.not_mem_nil))).trans hO29
        replace hT5 := (hu86 _ (q_nc ne70 (q_nc (by have z := ne_k2_k3; omega) List.not_mem_nil))).trans hT5
        replace hF := q_uc hF hu86 (by simp)
        refine lv_aload_n hx hb d_2_34_63 rfl (lv_at hl 1 rfl) ?_
        refine lv_iload_n hx hb d_2_34_64 rfl (lv_at hl 0 rfl) ?_
        have ne90 := q_df hA79 hT0
        have ne91 := q_df hT5 hT0
        have ne92 := q_df hT1 hO75
        have ne93 := q_df hT1 hO29
        refine q_gov V (q_runV (As := [.int a66]) (rest := []) (d := 3) (mc := 0) (ms := 0) (ci := 2) C0 V rfl LV_Big_118 (X_Big_shiftLeft l D g q u73 k1 R hB1 zk1 a66 hI t0_0 t0_1 hT0 t1_0 hT1  _) rfl rfl hT0 rfl hl.1 rfl (Nat.le_of_ble_eq_true rfl) ⟨by decide, by decide⟩ ⟨Nat.le_of_ble_eq_true rfl, Nat.le_of_ble_eq_true rfl⟩ d_2_34_65) (fun u94 H locs hp95 V => ?_)
        obtain ⟨hI, hu107, y97, y98, f99, hO96, hA100, b101, b102, b103, b104, b105, hE106⟩ := hp95
        replace hO96 : u94[k1]? = (some (q k1, .inr (2, [.ref (q (k1 + 1)), .int y97, .int y98])) : Option (Nat × va_E)) := hO96
        replace hA100 : u94[k1 + 1]? = (some (q (k1 + 1), .inl (g 0, R.toNatClampNeg, .inl f99)) : Option (Nat × va_E)) := hA100
        have e108 : y97 = (F_Big_shiftLeft R a66 t0_0 t0_1 t1_0).1 := congrArg (fun z => z.1) hE106
        have e109 : y98 = (F_Big_shiftLeft R a66 t0_0 t0_1 t1_0).2.1 := congrArg (fun z => z.2.1) hE106
        have e110 : f99 = (F_Big_shiftLeft R a66 t0_0 t0_1 t1_0).2.2 := congrArg (fun z => z.2.2) hE106
        replace b101 : q_F (0 ≤ y97.toInt) := b101
        replace b102 : q_F (0 ≤ y98.toInt) := b102
        replace b103 : q_F (y97.toInt ≤ t0_0.toInt + 219) := b103
        replace b104 : q_F (y97.toInt ≤ R.toInt) := b104
        replace b105 : q_F (y98.toInt ≤ t0_1.toInt) := b105
        replace hO75 := (hu107 _ (q_nc (by have z := ne_k1_k2; omega) (q_nc (Ne.symm ne92) List.not_mem_nil))).trans hO75
        replace hA79 := (hu107 _ (q_nc ne90 (q_nc (by have z := ne_k1_k2; omega) List.not_mem_nil))).trans hA79
        replace hO29 := (hu107 _ (q_nc (by have z := ne_k1_k3; omega) (q_nc (Ne.symm ne93) List.not_mem_nil))).trans hO29
        replace hT5 := (hu107 _ (q_nc ne91 (q_nc (by have z := ne_k1_k3; omega) List.not_mem_nil))).trans hT5
        replace hF := q_uc hF hu107 (by simp)
        refine lv_aload_n hx hb d_2_34_68 rfl (lv_at hl 1 rfl) ?_
        refine q_get (ci := 2) (j := 1) (v := .int y97) C0 V i_Big rfl rfl hO96 (by decide) w_85 rfl d_2_34_69 ?_
        refine lv_aload_n hx hb d_2_34_72 rfl (lv_at hl 2 rfl) ?_
        refine q_get (ci := 2) (j := 1) (v := .int y76) C0 V i_Big rfl rfl hO75 (by decide) w_85 rfl d_2_34_73 ?_
        refine lv_isub hx hb d_2_34_76 ?_
        obtain ⟨a111, e112⟩ := q_nm (y97 - y76 : Int32)
        refine q_ti (v := a111) e112 ?_
        have b113 : q_F (a111.toInt = y97.toInt - y76.toInt) := (by rw [← e112]; show (y97 - y76 : Int32).toInt = y97.toInt - y76.toInt; exact q_subI (x := y97.toInt) (y := y76.toInt) rfl rfl (by have t1 : y76.toInt ≤ R2.toInt := b83; have t2 : 0 ≤ y97.toInt := b101; have _ := q_lo32 (x := R2); have _ := q_hi32 (x := R2); have t3 : 0 ≤ y76.toInt := b80; have t4 : y97.toInt ≤ R.toInt := b104; have _ := q_lo32 (x := R); have _ := q_hi32 (x := R); omega) (by have t1 : y76.toInt ≤ R2.toInt := b83; have t2 : 0 ≤ y97.toInt := b101; have _ := q_lo32 (x := R2); have _ := q_hi32 (x := R2); have t3 : 0 ≤ y76.toInt := b80; have t4 : y97.toInt ≤ R.toInt := b104; have _ := q_lo32 (x := R); have _ := q_hi32 (x := R); omega))
        refine lv_iconst (v := 1) hx hb d_2_34_77 (by decide) ?_
        refine lv_iadd hx hb d_2_34_78 ?_
        obtain ⟨a114, e115⟩ := q_nm (a111 + 1 : Int32)
        refine q_ti (v := a114) e115 ?_
        have b116 : q_F (a114.toInt = a111.toInt + 1) := (by rw [← e115]; show (a111 + 1 : Int32).toInt = a111.toInt + 1; exact q_addI (x := a111.toInt) (y := 1) rfl (by decide) (by have _ := q_lo32 (x := a111); have _ := q_hi32 (x := a111); have t1 : 0 ≤ R.toInt ∧ R.toInt ≤ 220 := hfk10; have t2 : 0 ≤ t0_0.toInt ∧ t0_0.toInt ≤ R.toInt := btt0_0; have t3 : 0 ≤ y76.toInt := b80; have t4 : y97.toInt ≤ t0_0.toInt + 219 := b103; have t5 : a111.toInt = y97.toInt - y76.toInt := b113; omega) (by have _ := q_lo32 (x := a111); have _ := q_hi32 (x := a111); have t1 : 0 ≤ R.toInt ∧ R.toInt ≤ 220 := hfk10; have t2 : 0 ≤ t0_0.toInt ∧ t0_0.toInt ≤ R.toInt := btt0_0; have t3 : 0 ≤ y76.toInt := b80; have t4 : y97.toInt ≤ t0_0.toInt + 219 := b103; have t5 : a111.toInt = y97.toInt - y76.toInt := b113; omega))
        refine lv_istore (lv' := [(4, .int a114), (3, .int a66), (0, .ref (q k1)), (1, .ref (q k2)), (2, .ref (q k3))]) hx hb d_2_34_79 hl (by decide) rfl (fun ls hl => ?_)
        refine lv_aload_n hx hb d_2_34_81 rfl (lv_at hl 2 rfl) ?_
        refine lv_iconst (v := 0) hx hb d_2_34_82 (by decide) ?_
        have ne117 := q_df hA79 hO96
        have ne118 := q_df hT5 hO96
        have ne119 := q_df hA100 hO75
        have ne120 := q_df hA100 hO29
        refine q_gov V (q_runV (As := [.int 0]) (rest := []) (d := 1) (mc := 0) (ms := 0) (ci := 2) C0 V rfl LV_Big_32 (X_Big_push l D g q u94 k1 R hB1 zk1 0 hI y97 y98 hO96 f99 hA100  _) rfl rfl hO96 rfl hl.1 rfl (Nat.le_of_ble_eq_true rfl) ⟨by decide, by decide⟩ ⟨Nat.le_of_ble_eq_true rfl, Nat.le_of_ble_eq_true rfl⟩ d_2_34_83) (fun u121 H locs hp122 V => ?_)
        obtain ⟨hI, hu135, y124, y125, f126, hO123, hA127, b128, b129, b130, b131, b132, b133, hE134⟩ := hp122
        replace hO123 : u121[k1]? = (some (q k1, .inr (2, [.ref (q (k1 + 1)), .int y124, .int y125])) : Option (Nat × va_E)) := hO123
        replace hA127 : u121[k1 + 1]? = (some (q (k1 + 1), .inl (g 0, R.toNatClampNeg, .inl f126)) : Option (Nat × va_E)) := hA127
        have e136 : y124 = (F_Big_push R (0 : Int32) y97 y98 f99).1 := congrArg (fun z => z.1) hE134
        have e137 : y125 = (F_Big_push R (0 : Int32) y97 y98 f99).2.1 := congrArg (fun z => z.2.1) hE134
        have e138 : f126 = (F_Big_push R (0 : Int32) y97 y98 f99).2.2 := congrArg (fun z => z.2.2) hE134
        replace b128 : q_F (y97.toInt ≤ y124.toInt) := b128
        replace b129 : q_F (y124.toInt ≤ y97.toInt + 1) := b129
        replace b130 : q_F (R.toInt ≤ y124.toInt + 219) := b130
        replace b131 : q_F (y124.toInt ≤ R.toInt) := b131
        replace b132 : q_F (y98.toInt ≤ y125.toInt) := b132
        replace b133 : q_F (y125.toInt ≤ y98.toInt) := b133
        replace hO75 := (hu135 _ (q_nc (by have z := ne_k1_k2; omega) (q_nc (Ne.symm ne119) List.not_mem_nil))).trans hO75
        replace hA79 := (hu135 _ (q_nc ne117 (q_nc (by have z := ne_k1_k2; omega) List.not_mem_nil))).trans hA79
        replace hO29 := (hu135 _ (q_nc (by have z := ne_k1_k3; omega) (q_nc (Ne.symm ne120) List.not_mem_nil))).trans hO29
        replace hT5 := (hu135 _ (q_nc ne118 (q_nc (by have z := ne_k1_k3; omega) List.not_mem_nil))).trans hT5
        replace hF := q_uc hF hu135 (by simp)
        refine lv_iload hx hb d_2_34_86 (lv_at hl 0 rfl) ?_
        refine lv_iconst (v := 1) hx hb d_2_34_88 (by decide) ?_
        refine lv_isub hx hb d_2_34_89 ?_
        obtain ⟨a139, e140⟩ := q_nm (a114 - 1 : Int32)
        refine q_ti (v := a139) e140 ?_
        have b141 : q_F (a139.toInt = a114.toInt - 1) := (by rw [← e140]; show (a114 - 1 : Int32).toInt = a114.toInt - 1; exact q_subI (x := a114.toInt) (y := 1) rfl (by decide) (by have t1 : a114.toInt = a111.toInt + 1 := b116; have _ := q_lo32 (x := a111); have _ := q_hi32 (x := a111); omega) (by have t1 : a114.toInt = a111.toInt + 1 := b116; have _ := q_lo32 (x := a111); have _ := q_hi32 (x := a111); omega))
        refine lv_istore (lv' := [(5, .int a139), (4, .int a114), (3, .int a66), (0, .ref (q k1)), (1, .ref (q k2)), (2, .ref (q k3))]) hx hb d_2_34_90 hl (by decide) rfl (fun ls hl => ?_)
        refine q_loop (X := Int32 × (Nat → Int32) × (Nat → Int32)) (fun z H locs ls w149 => q_F (z.1.toInt + 1 ≤ a114.toInt) ∧ q_F (R2.toInt ≤ z.1.toInt + 440) ∧ q_Wd D g (va_A ws sz) s w149 H locs ∧ lv_has ls 7 [(5, .int z.1), (4, .int a114), (3, .int a66), (0, .ref (q k1)), (1, .ref (q k2)), (2, .ref (q k3))] ∧ q_I (nsh g q) q w149 ∧ q_un ws w149 [k1, k1 + 1, k2, k2 + 1, k3, k3 + 1] ∧ w149[k1]? = (some (q k1, .inr (2, [.ref (q (k1 + 1)), .int y124, .int y125])) : Option (Nat × va_E)) ∧ w149[k1 + 1]? = (some (q (k1 + 1), .inl (g 0, R.toNatClampNeg, .inl z.2.1)) : Option (Nat × va_E)) ∧ w149[k2]? = (some (q k2, .inr (2, [.ref (q (k2 + 1)), .int y76, .int y77])) : Option (Nat × va_E)) ∧ w149[k2 + 1]? = (some (q (k2 + 1), .inl (g 0, R2.toNatClampNeg, .inl f78)) : Option (Nat × va_E)) ∧ w149[k3]? = (some (q k3, .inr (2, [.ref (q (k3 + 1)), .int y30, .int y31])) : Option (Nat × va_E)) ∧ w149[k3 + 1]? = (some (q (k3 + 1), .inl (g 0, R3.toNatClampNeg, .inl z.2.2)) : Option (Nat × va_E)) ∧ (∃ n, (z.1.toInt - ((-220))).toNat < n ∧ F_Big_divideBy_L92 R R2 R3 t0_0 t0_1 t1_0 t2_0 t2_1 t3_0 t4_0 t4_1 t5_0 a114 a66 y124 y125 y76 y77 f78 y30 y31 n z.1 z.2.1 z.2.2 = (F_Big_divideBy R R2 R3 t0_0 t0_1 t1_0 t2_0 t2_1 t3_0 t4_0 t4_1 t5_0) ∧ True ∧ S_Big_divideBy_L92 R R2 R3 t0_0 t0_1 t1_0 t2_0 t2_1 t3_0 t4_0 t4_1 t5_0 a114 a66 y124 y125 y76 y77 f78 y30 y31 n z.1 z.2.1 z.2.2)) (fun z => (z.1.toInt - ((-220))).toNat) ?_ ((a139 : Int32), (f126 : (Nat → Int32)), (t5_0 : (Nat → Int32))) _ _ _ u121 ⟨(show q_F (a139.toInt + 1 ≤ a114.toInt) from (show a139.toInt + 1 ≤ a114.toInt from by have t1 : a139.toInt = a114.toInt - 1 := b141; omega)), (show q_F (R2.toInt ≤ a139.toInt + 440) from (show R2.toInt ≤ a139.toInt + 440 from by have t1 : 0 ≤ R2.toInt ∧ R2.toInt ≤ 220 := hfk20; have t2 : y76.toInt ≤ R2.toInt := b83; have t3 : 0 ≤ y97.toInt := b101; have t4 : a111.toInt = y97.toInt - y76.toInt := b113; have t5 : a114.toInt = a111.toInt + 1 := b116; have t6 : a139.toInt = a114.toInt - 1 := b141; omega)), V, q_lw hl (q_lw1 0 rfl (q_lw1 1 rfl (q_lw1 2 rfl (q_lw1 3 rfl (q_lw1 4 rfl (q_lw1 5 rfl q_lw0)))))), hI, hF, hO123, hA127, hO75, hA79, hO29, hT5, ⟨((a139.toInt - ((-220))).toNat + 1), Nat.lt_succ_self _, (show F_Big_divideBy_L92 R R2 R3 t0_0 t0_1 t1_0 t2_0 t2_1 t3_0 t4_0 t4_1 t5_0 a114 a66 y124 y125 y76 y77 f78 y30 y31 ((a139.toInt - ((-220))).toNat + 1) a139 f126 t5_0 = (F_Big_divideBy R R2 R3 t0_0 t0_1 t1_0 t2_0 t2_1 t3_0 t4_0 t4_1 t5_0) from (by have c50x := c50; rw [e49] at c50x; rw [← e140, e138, e137, e136, ← e115, ← e112, e110, e109, e108, e89, e88, e87, ← e67, e65, ← e58, ← e55, e39, e38, F_Big_divideBy.eq_1, if_neg c40, if_pos c50x, if_neg c52])), (show True ∧ S_Big_divideBy_L92 R R2 R3 t0_0 t0_1 t1_0 t2_0 t2_1 t3_0 t4_0 t4_1 t5_0 a114 a66 y124 y125 y76 y77 f78 y30 y31 ((a139.toInt - ((-220))).toNat + 1) a139 f126 t5_0 from (by rw [← e140, e138, e137, e136, ← e115, ← e112, e110, e109, e108, e89, e88, e87, ← e67, e65, ← e58, ← e55, e39, e38]; have h := hS; rw [S_Big_divideBy.eq_1] at h; rw [if_neg c40] at h; have c50x := c50; rw [e49] at c50x; rw [if_pos c50x] at h; rw [if_neg c52] at h; with_reducible exact h))⟩⟩
        rintro ⟨lx143, lx144, lx145⟩ H locs ls w149 ⟨i146, i147, V, hl, hI, hF, hO150, hO151, hO152, hO153, hO154, hO155, ⟨fu158, hf159, hR156, hS157⟩⟩ ih148
        obtain ⟨fm160, rfl⟩ : ∃ m, fu158 = m + 1 := ⟨fu158 - 1, by omega⟩
        replace i146 : q_F (lx143.toInt + 1 ≤ a114.toInt) := i146
        replace i147 : q_F (R2.toInt ≤ lx143.toInt + 440) := i147
        replace hl : lv_has ls 7 [(5, .int lx143), (4, .int a114), (3, .int a66), (0, .ref (q k1)), (1, .ref (q k2)), (2, .ref (q k3))] := hl
        replace hO150 : w149[k1]? = (some (q k1, .inr (2, [.ref (q (k1 + 1)), .int y124, .int y125])) : Option (Nat × va_E)) := hO150
        replace hO151 : w149[k1 + 1]? = (some (q (k1 + 1), .inl (g 0, R.toNatClampNeg, .inl lx144)) : Option (Nat × va_E)) := hO151
        replace hO152 : w149[k2]? = (some (q k2, .inr (2, [.ref (q (k2 + 1)), .int y76, .int y77])) : Option (Nat × va_E)) := hO152
        replace hO153 : w149[k2 + 1]? = (some (q (k2 + 1), .inl (g 0, R2.toNatClampNeg, .inl f78)) : Option (Nat × va_E)) := hO153
        replace hO154 : w149[k3]? = (some (q k3, .inr (2, [.ref (q (k3 + 1)), .int y30, .int y31])) : Option (Nat × va_E)) := hO154
        replace hO155 : w149[k3 + 1]? = (some (q (k3 + 1), .inl (g 0, R3.toNatClampNeg, .inl lx145)) : Option (Nat × va_E)) := hO155
        refine lv_iload hx hb d_2_34_92 (lv_at hl 0 rfl) ?_
        refine lv_if_lt (tgt := 131) hx hb d_2_34_94 (by decide) (fun c161 => ?_) (fun c161 => ?_)
        ·
          have b162 : q_F (lx143.toInt < 0) := (q_ltI c161)
          refine lv_aload_n hx hb d_2_34_131 rfl (lv_at hl 5 rfl) ?_
          refine lv_iload hx hb d_2_34_132 (lv_at hl 1 rfl) ?_
          refine lv_aload_n hx hb d_2_34_134 rfl (lv_at hl 5 rfl) ?_
          refine q_get (ci := 2) (j := 0) (v := .ref (q (k3 + 1))) C0 V i_Big rfl rfl hO154 (by decide) w_84 rfl d_2_34_135 ?_
          refine q_alen (t := 0) (v := R3) C0 V hO155 rfl (s_len (by have t1 : 0 ≤ R3.toInt ∧ R3.toInt ≤ 220 := hfk30; omega)) d_2_34_138 ?_
          refine q_min C0 hl.1 rfl w_773 w_774 w_7 w_775 ⟨Nat.le_of_ble_eq_true rfl, Nat.le_of_ble_eq_true rfl⟩ ⟨Nat.le_of_ble_eq_true rfl, Nat.le_of_ble_eq_true rfl⟩ d_2_34_139 ?_
          obtain ⟨a163, e164⟩ := q_nm (if R3 < a114 then R3 else a114 : Int32)
          refine q_ti (v := a163) e164 ?_
          have b165 : q_F (a163.toInt ≤ a114.toInt ∧ a163.toInt ≤ R3.toInt ∧ (a163.toInt = a114.toInt ∨ a163.toInt = R3.toInt)) := (by rw [← e164]; show (if R3 < a114 then R3 else a114 : Int32).toInt ≤ a114.toInt ∧ (if R3 < a114 then R3 else a114 : Int32).toInt ≤ R3.toInt ∧ ((if R3 < a114 then R3 else a114 : Int32).toInt = a114.toInt ∨ (if R3 < a114 then R3 else a114 : Int32).toInt = R3.toInt); exact s_min (a := a114) (b := R3))
          have ne168 := q_df hO151 hO154
          have ne169 := q_df hO153 hO154
          refine q_put (ci := 2) (j := 1) (v := .int a163) (ty := .int) C0 V i_Big o_Big n_Big rfl rfl hO154 (by decide) w_85 rfl rfl rfl rfl (Nat.le_of_ble_eq_true rfl) d_2_34_142 (fun H locs w166 hu167 hO154 V => ?_)
          replace hO154 : w166[k3]? = (some (q k3, .inr (2, [.ref (q (k3 + 1)), .int a163, .int y31])) : Option (Nat × va_E)) := hO154
          have ob170 : q_F (0 ≤ a163.toInt) := (by rw [← e164]; have h := hS157; rw [S_Big_divideBy_L92.eq_2] at h; rw [if_pos c161] at h; exact h.2.1)
          replace hI := q_bigO' hI hB3 hu167 hO154 ⟨(by have t1 : 0 ≤ a163.toInt := ob170; omega), (by have t1 : a163.toInt ≤ a114.toInt ∧ a163.toInt ≤ R3.toInt ∧ (a163.toInt = a114.toInt ∨ a163.toInt = R3.toInt) := b165; omega)⟩ ⟨(by have t1 : 0 ≤ y31.toInt := b32; omega), (by have t1 : y31.toInt ≤ 0 := b33; omega)⟩
          replace hO150 := (hu167 _ (by have z := ne_k1_k3; omega)).trans hO150
          replace hO151 := (hu167 _ ne168).trans hO151
          replace hO152 := (hu167 _ (by have z := ne_k2_k3; omega)).trans hO152
          replace hO153 := (hu167 _ ne169).trans hO153
          replace hO155 := (hu167 _ (by omega)).trans hO155
          replace hF := q_us hF hu167 (by simp)
          refine lv_aload_n hx hb d_2_34_145 rfl (lv_at hl 5 rfl) ?_
          have ne171 := q_df hO151 hO154
          have ne172 := q_df hO153 hO154
          refine q_gov V (q_runV (As := []) (rest := []) (d := 1) (mc := 0) (ms := 0) (ci := 2) C0 V rfl LV_Big_36 (X_Big_trim l D g q w166 k3 R3 hB3 zk3  hI a163 y31 hO154 lx145 hO155  _) rfl rfl hO154 rfl hl.1 rfl (Nat.le_of_ble_eq_true rfl) ⟨by decide, by decide⟩ ⟨Nat.le_of_ble_eq_true rfl, Nat.le_of_ble_eq_true rfl⟩ d_2_34_146) (fun u173 H locs hp174 V => ?_)
          obtain ⟨hI, hu183, y176, y177, hO175, b178, b179, b180, b181, hE182⟩ := hp174
          replace hO175 : u173[k3]? = (some (q k3, .inr (2, [.ref (q (k3 + 1)), .int y176, .int y177])) : Option (Nat × va_E)) := hO175
          have e184 : y176 = (F_Big_trim R3 a163 y31 lx145).1 := congrArg (fun z => z.1) hE182
          have e185 : y177 = (F_Big_trim R3 a163 y31 lx145).2 := congrArg (fun z => z.2) hE182
          replace b178 : q_F (0 ≤ y177.toInt) := b178
          replace b179 : q_F (y176.toInt ≤ a163.toInt) := b179
          replace b180 : q_F (y177.toInt ≤ y31.toInt) := b180
          replace b181 : q_F (y177.toInt ≤ y176.toInt) := b181
          replace hO150 := (hu183 _ (q_nc (by have z := ne_k1_k3; omega) List.not_mem_nil)).trans hO150
          replace hO151 := (hu183 _ (q_nc ne171 List.not_mem_nil)).trans hO151
          replace hO152 := (hu183 _ (q_nc (by have z := ne_k2_k3; omega) List.not_mem_nil)).trans hO152
          replace hO153 := (hu183 _ (q_nc ne172 List.not_mem_nil)).trans hO153
          replace hO155 := (hu183 _ (by have z0 := zk3; simp only [List.mem_cons, List.not_mem_nil, or_false, not_or]; omega)).trans hO155
          replace hF := q_uc hF hu183 (by simp)
          refine lv_aload_n hx hb d_2_34_149 rfl (lv_at hl 3 rfl) ?_
          have ne186 := q_df hO153 hO150
          have ne187 := q_df hO155 hO150
          refine q_gov V (q_runV (As := []) (rest := []) (d := 1) (mc := 0) (ms := 0) (ci := 2) C0 V rfl LV_Big_36 (X_Big_trim l D g q u173 k1 R hB1 zk1  hI y124 y125 hO150 lx144 hO151  _) rfl rfl hO150 rfl hl.1 rfl (Nat.le_of_ble_eq_true rfl) ⟨by decide, by decide⟩ ⟨Nat.le_of_ble_eq_true rfl, Nat.le_of_ble_eq_true rfl⟩ d_2_34_150) (fun u188 H locs hp189 V => ?_)
          obtain ⟨hI, hu198, y191, y192, hO190, b193, b194, b195, b196, hE197⟩ := hp189
          replace hO190 : u188[k1]? = (some (q k1, .inr (2, [.ref (q (k1 + 1)), .int y191, .int y192])) : Option (Nat × va_E)) := hO190
          have e199 : y191 = (F_Big_trim R y124 y125 lx144).1 := congrArg (fun z => z.1) hE197
          have e200 : y192 = (F_Big_trim R y124 y125 lx144).2 := congrArg (fun z => z.2) hE197
          replace b193 : q_F (0 ≤ y192.toInt) := b193
          replace b194 : q_F (y191.toInt ≤ y124.toInt) := b194
          replace b195 : q_F (y192.toInt ≤ y125.toInt) := b195
          replace b196 : q_F (y192.toInt ≤ y191.toInt) := b196
          replace hO151 := (hu198 _ (by have z0 := zk1; simp only [List.mem_cons, List.not_mem_nil, or_false, not_or]; omega)).trans hO151
          replace hO152 := (hu198 _ (q_nc (by have z := ne_k1_k2; omega) List.not_mem_nil)).trans hO152
          replace hO153 := (hu198 _ (q_nc ne186 List.not_mem_nil)).trans hO153
          replace hO175 := (hu198 _ (q_nc (by have z := ne_k1_k3; omega) List.not_mem_nil)).trans hO175
          replace hO155 := (hu198 _ (q_nc ne187 List.not_mem_nil)).trans hO155
          replace hF := q_uc hF hu198 (by simp)
          refine lv_aload_n hx hb d_2_34_153 rfl (lv_at hl 3 rfl) ?_
          refine lv_iload_n hx hb d_2_34_154 rfl (lv_at hl 2 rfl) ?_
          have ne201 := q_df hO153 hO190
          have ne202 := q_df hO155 hO190
          have ne203 := q_df hO151 hO152
          have ne204 := q_df hO151 hO175
          refine q_goi V (q_runV (As := [.int a66]) (rest := []) (d := 3) (mc := 0) (ms := 0) (ci := 2) C0 V rfl LV_Big_125 (X_Big_shiftRight l D g q u188 k1 R hB1 zk1 a66 hI y191 y192 hO190 lx144 hO151  _) rfl rfl hO190 rfl hl.1 rfl (Nat.le_of_ble_eq_true rfl) ⟨by decide, by decide⟩ ⟨Nat.le_of_ble_eq_true rfl, Nat.le_of_ble_eq_true rfl⟩ d_2_34_155) (fun a207 u205 H locs hp206 V => ?_)
          obtain ⟨hI, hu221, y209, y210, f211, hO208, hA212, b213, b214, b215, b216, b217, b218, b219, hE220⟩ := hp206
          replace hO208 : u205[k1]? = (some (q k1, .inr (2, [.ref (q (k1 + 1)), .int y209, .int y210])) : Option (Nat × va_E)) := hO208
          replace hA212 : u205[k1 + 1]? = (some (q (k1 + 1), .inl (g 0, R.toNatClampNeg, .inl f211)) : Option (Nat × va_E)) := hA212
          have e222 : a207 = (F_Big_shiftRight R a66 y191 y192 lx144).1 := congrArg (fun z => z.1) hE220
          have e223 : y209 = (F_Big_shiftRight R a66 y191 y192 lx144).2.1 := congrArg (fun z => z.2.1) hE220
          have e224 : y210 = (F_Big_shiftRight R a66 y191 y192 lx144).2.2.1 := congrArg (fun z => z.2.2.1) hE220
          have e225 : f211 = (F_Big_shiftRight R a66 y191 y192 lx144).2.2.2 := congrArg (fun z => z.2.2.2) hE220
          replace b213 : q_F (0 ≤ a207.toInt) := b213
          replace b214 : q_F (a207.toInt ≤ 1) := b214
          replace b215 : q_F (0 ≤ y209.toInt) := b215
          replace b216 : q_F (0 ≤ y210.toInt) := b216
          replace b217 : q_F (a207.toInt ≤ y191.toInt) := b217
          replace b218 : q_F (y209.toInt ≤ y191.toInt) := b218
          replace b219 : q_F (y210.toInt ≤ y192.toInt) := b219
          replace hO152 := (hu221 _ (q_nc (by have z := ne_k1_k2; omega) (q_nc (Ne.symm ne203) List.not_mem_nil))).trans hO152
          replace hO153 := (hu221 _ (q_nc ne201 (q_nc (by have z := ne_k1_k2; omega) List.not_mem_nil))).trans hO153
          replace hO175 := (hu221 _ (q_nc (by have z := ne_k1_k3; omega) (q_nc (Ne.symm ne204) List.not_mem_nil))).trans hO175
          replace hO155 := (hu221 _ (q_nc ne202 (q_nc (by have z := ne_k1_k3; omega) List.not_mem_nil))).trans hO155
          replace hF := q_uc hF hu221 (by simp)
          refine lv_pop hx hb d_2_34_158 rfl ?_
          refine lv_aload_n hx hb d_2_34_159 rfl (lv_at hl 4 rfl) ?_
          refine lv_iload_n hx hb d_2_34_160 rfl (lv_at hl 2 rfl) ?_
          have ne226 := q_df hA212 hO152
          have ne227 := q_df hO155 hO152
          have ne228 := q_df hO153 hO208
          have ne229 := q_df hO153 hO175
          refine q_goi V (q_runV (As := [.int a66]) (rest := []) (d := 3) (mc := 0) (ms := 0) (ci := 2) C0 V rfl LV_Big_125 (X_Big_shiftRight l D g q u205 k2 R2 hB2 zk2 a66 hI y76 y77 hO152 f78 hO153  _) rfl rfl hO152 rfl hl.1 rfl (Nat.le_of_ble_eq_true rfl) ⟨by decide, by decide⟩ ⟨Nat.le_of_ble_eq_true rfl, Nat.le_of_ble_eq_true rfl⟩ d_2_34_161) (fun a232 u230 H locs hp231 V => ?_)
          obtain ⟨hI, hu246, y234, y235, f236, hO233, hA237, b238, b239, b240, b241, b242, b243, b244, hE245⟩ := hp231
          replace hO233 : u230[k2]? = (some (q k2, .inr (2, [.ref (q (k2 + 1)), .int y234, .int y235])) : Option (Nat × va_E)) := hO233
          replace hA237 : u230[k2 + 1]? = (some (q (k2 + 1), .inl (g 0, R2.toNatClampNeg, .inl f236)) : Option (Nat × va_E)) := hA237
          have e247 : a232 = (F_Big_shiftRight R2 a66 y76 y77 f78).1 := congrArg (fun z => z.1) hE245
          have e248 : y234 = (F_Big_shiftRight R2 a66 y76 y77 f78).2.1 := congrArg (fun z => z.2.1) hE245
          have e249 : y235 = (F_Big_shiftRight R2 a66 y76 y77 f78).2.2.1 := congrArg (fun z => z.2.2.1) hE245
          have e250 : f236 = (F_Big_shiftRight R2 a66 y76 y77 f78).2.2.2 := congrArg (fun z => z.2.2.2) hE245
          replace b238 : q_F (0 ≤ a232.toInt) := b238
          replace b239 : q_F (a232.toInt ≤ 1) := b239
          replace b240 : q_F (0 ≤ y234.toInt) := b240
          replace b241 : q_F (0 ≤ y235.toInt) := b241
          replace b242 : q_F (a232.toInt ≤ y76.toInt) := b242
          replace b243 : q_F (y234.toInt ≤ y76.toInt) := b243
          replace b244 : q_F (y235.toInt ≤ y77.toInt) := b244
          replace hO208 := (hu246 _ (q_nc (by have z := ne_k1_k2; omega) (q_nc (Ne.symm ne228) List.not_mem_nil))).trans hO208
          replace hA212 := (hu246 _ (q_nc ne226 (q_nc (by have z := ne_k1_k2; omega) List.not_mem_nil))).trans hA212
          replace hO175 := (hu246 _ (q_nc (by have z := ne_k2_k3; omega) (q_nc (Ne.symm ne229) List.not_mem_nil))).trans hO175
          replace hO155 := (hu246 _ (q_nc ne227 (q_nc (by have z := ne_k2_k3; omega) List.not_mem_nil))).trans hO155
          replace hF := q_uc hF hu246 (by simp)
          refine lv_pop hx hb d_2_34_164 rfl ?_
          exact q_retv C0 V (⟨hI, hF, y209, y210, f211, y234, y235, f236, y176, y177, lx145, hO208, hA212, hO233, hA237, hO175, hO155, (show 0 ≤ y177.toInt from (by have t1 : 0 ≤ y177.toInt := b178; omega)), (show y177.toInt ≤ 0 from (by have t1 : y31.toInt ≤ 0 := b33; have t2 : y177.toInt ≤ y31.toInt := b180; omega)), (show y209.toInt ≤ R.toInt from (by have t1 : y124.toInt ≤ R.toInt := b131; have t2 : y191.toInt ≤ y124.toInt := b194; have t3 : y209.toInt ≤ y191.toInt := b218; omega)), (show y210.toInt ≤ t0_1.toInt from (by have t1 : y98.toInt ≤ t0_1.toInt := b105; have t2 : y125.toInt ≤ y98.toInt := b133; have t3 : y192.toInt ≤ y125.toInt := b195; have t4 : y210.toInt ≤ y192.toInt := b219; omega)), (show y234.toInt ≤ t2_0.toInt + 218 from (by have t1 : 0 ≤ R2.toInt ∧ R2.toInt ≤ 220 := hfk20; have t2 : 0 ≤ t2_0.toInt ∧ t2_0.toInt ≤ R2.toInt := btt2_0; have t3 : t2_0.toInt ≠ 0 := b42; have t4 : t2_0.toInt ≠ 1 := b53; have t5 : y76.toInt ≤ R2.toInt := b83; have t6 : y234.toInt ≤ y76.toInt := b243; omega)), (show y234.toInt ≤ R2.toInt from (by have t1 : y76.toInt ≤ R2.toInt := b83; have t2 : y234.toInt ≤ y76.toInt := b243; omega)), (show y235.toInt ≤ t2_1.toInt from (by have t1 : y77.toInt ≤ t2_1.toInt := b84; have t2 : y235.toInt ≤ y77.toInt := b244; omega)), (show y176.toInt ≤ t2_0.toInt + 219 from (by have t1 : 0 ≤ R3.toInt ∧ R3.toInt ≤ 220 := hfk30; have t2 : 0 ≤ t2_0.toInt ∧ t2_0.toInt ≤ R2.toInt := btt2_0; have t3 : t2_0.toInt ≠ 0 := b42; have t4 : a163.toInt ≤ a114.toInt ∧ a163.toInt ≤ R3.toInt ∧ (a163.toInt = a114.toInt ∨ a163.toInt = R3.toInt) := b165; have t5 : y176.toInt ≤ a163.toInt := b179; omega)), (show y176.toInt ≤ R.toInt + 1 from (by have t1 : 0 ≤ y76.toInt := b80; have t2 : y97.toInt ≤ R.toInt := b104; have t3 : a111.toInt = y97.toInt - y76.toInt := b113; have t4 : a114.toInt = a111.toInt + 1 := b116; have t5 : a163.toInt ≤ a114.toInt ∧ a163.toInt ≤ R3.toInt ∧ (a163.toInt = a114.toInt ∨ a163.toInt = R3.toInt) := b165; have t6 : y176.toInt ≤ a163.toInt := b179; omega)), (show y176.toInt ≤ R3.toInt from (by have t1 : a163.toInt ≤ a114.toInt ∧ a163.toInt ≤ R3.toInt ∧ (a163.toInt = a114.toInt ∨ a163.toInt = R3.toInt) := b165; have t2 : y176.toInt ≤ a163.toInt := b179; omega)), (show y177.toInt ≤ y209.toInt from (by have t1 : y31.toInt ≤ 0 := b33; have t2 : y177.toInt ≤ y31.toInt := b180; have t3 : 0 ≤ y209.toInt := b215; omega)), (show y177.toInt ≤ y210.toInt from (by have t1 : y31.toInt ≤ 0 := b33; have t2 : y177.toInt ≤ y31.toInt := b180; have t3 : 0 ≤ y210.toInt := b216; omega)), (show y177.toInt ≤ y234.toInt from (by have t1 : y31.toInt ≤ 0 := b33; have t2 : y177.toInt ≤ y31.toInt := b180; have t3 : 0 ≤ y234.toInt := b240; omega)), (show y177.toInt ≤ y235.toInt from (by have t1 : y31.toInt ≤ 0 := b33; have t2 : y177.toInt ≤ y31.toInt := b180; have t3 : 0 ≤ y235.toInt := b241; omega)), (show y177.toInt ≤ y176.toInt from (by have t1 : y177.toInt ≤ y176.toInt := b181; omega)), (show (y209, y210, f211, y234, y235, f236, y176, y177, lx145) = (F_Big_divideBy R R2 R3 t0_0 t0_1 t1_0 t2_0 t2_1 t3_0 t4_0 t4_1 t5_0) from Eq.trans (by rw [e250, e249, e248, e225, e224, e223, e200, e199, e185, e184, ← e164, F_Big_divideBy_L92.eq_2, if_pos c161]) hR156)⟩) d_2_34_165
        ·
          have b251 : q_F (0 ≤ lx143.toInt) := (q_nltI c161)
          refine lv_aload_n hx hb d_2_34_97 rfl (lv_at hl 3 rfl) ?_
          refine lv_iload hx hb d_2_34_98 (lv_at hl 0 rfl) ?_
          refine lv_aload_n hx hb d_2_34_100 rfl (lv_at hl 4 rfl) ?_
          have ne252 := q_df hO151 hO152
          have ne253 := q_df hO151 hO154
          refine q_goi V (q_runV (As := [.int lx143, .ref (q k2)]) (rest := []) (d := 3) (mc := 0) (ms := 0) (ci := 2) C0 V rfl LV_Big_121 (X_Big_takeTimes l D g q w149 k1 R hB1 zk1 k2 R2 hB2 zk2 lx143 (by have z := ne_k1_k2; omega) hI y124 y125 hO150 lx144 hO151 y76 y77 hO152 f78 hO153 (by have t1 : 0 ≤ lx143.toInt := b251; omega) (by have t1 : y97.toInt ≤ R.toInt := b104; have t2 : a111.toInt = y97.toInt - y76.toInt := b113; have t3 : a114.toInt = a111.toInt + 1 := b116; have t4 : lx143.toInt + 1 ≤ a114.toInt := i146; omega) _) rfl rfl hO150 rfl hl.1 rfl (Nat.le_of_ble_eq_true rfl) ⟨by decide, by decide⟩ ⟨Nat.le_of_ble_eq_true rfl, Nat.le_of_ble_eq_true rfl⟩ d_2_34_101) (fun a256 u254 H locs hp255 V => ?_)
          obtain ⟨hI, hu260, f257, hA258, hE259⟩ := hp255
          replace hA258 : u254[k1 + 1]? = (some (q (k1 + 1), .inl (g 0, R.toNatClampNeg, .inl f257)) : Option (Nat × va_E)) := hA258
          have e261 : a256 = (F_Big_takeTimes R lx143 R2 y124 y125 lx144 y76 y77 f78).1 := congrArg (fun z => z.1) hE259
          have e262 : f257 = (F_Big_takeTimes R lx143 R2 y124 y125 lx144 y76 y77 f78).2 := congrArg (fun z => z.2) hE259
          replace hO150 := (hu260 _ (by have z0 := zk1; simp only [List.mem_cons, List.not_mem_nil, or_false, not_or]; omega)).trans hO150
          replace hO152 := (hu260 _ (q_nc (Ne.symm ne252) List.not_mem_nil)).trans hO152
          replace hO153 := (hu260 _ (q_nc (by have z := ne_k1_k2; omega) List.not_mem_nil)).trans hO153
          replace hO154 := (hu260 _ (q_nc (Ne.symm ne253) List.not_mem_nil)).trans hO154
          replace hO155 := (hu260 _ (q_nc (by have z := ne_k1_k3; omega) List.not_mem_nil)).trans hO155
          replace hF := q_uc hF hu260 (by simp)
          refine lv_istore (lv' := [(6, .int a256), (5, .int lx143), (4, .int a114), (3, .int a66), (0, .ref (q k1)), (1, .ref (q k2)), (2, .ref (q k3))]) hx hb d_2_34_104 hl (by decide) rfl (fun ls hl => ?_)
          refine lv_iload hx hb d_2_34_106 (lv_at hl 1 rfl) ?_
          refine lv_aload_n hx hb d_2_34_108 rfl (lv_at hl 6 rfl) ?_
          refine q_get (ci := 2) (j := 0) (v := .ref (q (k3 + 1))) C0 V i_Big rfl rfl hO154 (by decide) w_84 rfl d_2_34_109 ?_
          refine q_alen (t := 0) (v := R3) C0 V hO155 rfl (s_len (by have t1 : 0 ≤ R3.toInt ∧ R3.toInt ≤ 220 := hfk30; omega)) d_2_34_112 ?_
          refine lv_icmp_ge (tgt := 125) hx hb d_2_34_113 (by decide) (fun c263 => ?_) (fun c263 => ?_)
          ·
            have b264 : q_F (R3.toInt ≤ lx143.toInt) := (q_leI c263)
            obtain ⟨a265, e266⟩ := q_nm (lx143 + (-1) : Int32)
            have b267 : q_F (a265.toInt = lx143.toInt + (-1)) := (by rw [← e266]; exact q_addI (y := (-1)) rfl (by decide) (by have t1 : 0 ≤ lx143.toInt := b251; have t2 : lx143.toInt + 1 ≤ a114.toInt := i146; have _ := q_lo32 (x := a114); have _ := q_hi32 (x := a114); omega) (by have t1 : 0 ≤ lx143.toInt := b251; have t2 : lx143.toInt + 1 ≤ a114.toInt := i146; have _ := q_lo32 (x := a114); have _ := q_hi32 (x := a114); omega))
            refine lv_iinc (v := a265) (lv' := [(5, .int a265), (6, .int a256), (4, .int a114), (3, .int a66), (0, .ref (q k1)), (1, .ref (q k2)), (2, .ref (q k3))]) hx hb d_2_34_125 hl (k := 1) rfl (e266) (by decide) rfl (fun ls hl => ?_)
            refine lv_goto (tgt := 92) hx hb d_2_34_128 (by decide) ?_
            exact ih148 ((a265 : Int32), (f257 : (Nat → Int32)), (lx145 : (Nat → Int32))) _ _ _ _ (show (a265.toInt - ((-220))).toNat < (lx143.toInt - ((-220))).toNat from by have t1 : a265.toInt = lx143.toInt + (-1) := b267; have t2 : 0 ≤ lx143.toInt := b251; omega) ⟨(show q_F (a265.toInt + 1 ≤ a114.toInt) from (show a265.toInt + 1 ≤ a114.toInt from by have t1 : lx143.toInt + 1 ≤ a114.toInt := i146; have t2 : a265.toInt = lx143.toInt + (-1) := b267; omega)), (show q_F (R2.toInt ≤ a265.toInt + 440) from (show R2.toInt ≤ a265.toInt + 440 from by have t1 : 0 ≤ R2.toInt ∧ R2.toInt ≤ 220 := hfk20; have t2 : 0 ≤ lx143.toInt := b251; have t3 : a265.toInt = lx143.toInt + (-1) := b267; omega)), V, q_lw hl (q_lw1 0 rfl (q_lw1 2 rfl (q_lw1 3 rfl (q_lw1 4 rfl (q_lw1 5 rfl (q_lw1 6 rfl q_lw0)))))), hI, hF, hO150, hA258, hO152, hO153, hO154, hO155, ⟨fm160, Nat.lt_of_lt_of_le (show (a265.toInt - ((-220))).toNat < (lx143.toInt - ((-220))).toNat from by have t1 : a265.toInt = lx143.toInt + (-1) := b267; have t2 : 0 ≤ lx143.toInt := b251; omega) (Nat.le_of_lt_succ hf159), (show F_Big_divideBy_L92 R R2 R3 t0_0 t0_1 t1_0 t2_0 t2_1 t3_0 t4_0 t4_1 t5_0 a114 a66 y124 y125 y76 y77 f78 y30 y31 fm160 a265 f257 lx145 = (F_Big_divideBy R R2 R3 t0_0 t0_1 t1_0 t2_0 t2_1 t3_0 t4_0 t4_1 t5_0) from Eq.trans (by rw [← e266, e262, F_Big_divideBy_L92.eq_2, if_neg c161, if_pos c263]) hR156), (show True ∧ S_Big_divideBy_L92 R R2 R3 t0_0 t0_1 t1_0 t2_0 t2_1 t3_0 t4_0 t4_1 t5_0 a114 a66 y124 y125 y76 y77 f78 y30 y31 fm160 a265 f257 lx145 from (by rw [← e266, e262]; have h := hS157; rw [S_Big_divideBy_L92.eq_2] at h; rw [if_neg c161] at h; rw [if_pos c263] at h; with_reducible exact h))⟩⟩
          ·
            have b268 : q_F (lx143.toInt < R3.toInt) := (q_nleI c263)
            refine lv_aload_n hx hb d_2_34_116 rfl (lv_at hl 6 rfl) ?_
            refine q_get (ci := 2) (j := 0) (v := .ref (q (k3 + 1))) C0 V i_Big rfl rfl hO154 (by decide) w_84 rfl d_2_34_117 ?_
            refine lv_iload hx hb d_2_34_120 (lv_at hl 1 rfl) ?_
            refine lv_iload hx hb d_2_34_122 (lv_at hl 0 rfl) ?_
            have ne271 := q_df hO155 hO150
            have ne272 := q_df hO155 hO152
            refine q_iast C0 V hO155 (q_ix (x := lx143.toInt) rfl (by have t1 : 0 ≤ lx143.toInt := b251; omega) (by have t1 : 0 ≤ lx143.toInt := b251; have t2 : lx143.toInt < R3.toInt := b268; have e9 := q_clI (i := R3) rfl (by have t1 : 0 ≤ R3.toInt ∧ R3.toInt ≤ 220 := hfk30; omega); omega)) d_2_34_124 (fun H locs w269 hu270 hO155 V => ?_)
            replace hI := q_bigA' hI hB3 hu270 hO155 (q_updB (fun _ => s_bnd) s_bnd)
            replace hO150 := (hu270 _ (Ne.symm ne271)).trans hO150
            replace hA258 := (hu270 _ (by have z := ne_k1_k3; omega)).trans hA258
            replace hO152 := (hu270 _ (Ne.symm ne272)).trans hO152
            replace hO153 := (hu270 _ (by have z := ne_k2_k3; omega)).trans hO153
            replace hO154 := (hu270 _ (by omega)).trans hO154
            replace hF := q_us hF hu270 (by simp)
            obtain ⟨f273, e274⟩ := q_nm (upd lx145 lx143.toNatClampNeg a256 : (Nat → Int32))
            rw [e274] at hO155
            obtain ⟨a275, e276⟩ := q_nm (lx143 + (-1) : Int32)
            have b277 : q_F (a275.toInt = lx143.toInt + (-1)) := (by rw [← e276]; exact q_addI (y := (-1)) rfl (by decide) (by have t1 : 0 ≤ lx143.toInt := b251; have t2 : lx143.toInt < R3.toInt := b268; have _ := q_lo32 (x := R3); have _ := q_hi32 (x := R3); omega) (by have t1 : 0 ≤ lx143.toInt := b251; have t2 : lx143.toInt < R3.toInt := b268; have _ := q_lo32 (x := R3); have _ := q_hi32 (x := R3); omega))
            refine lv_iinc (v := a275) (lv' := [(5, .int a275), (6, .int a256), (4, .int a114), (3, .int a66), (0, .ref (q k1)), (1, .ref (q k2)), (2, .ref (q k3))]) hx hb d_2_34_125 hl (k := 1) rfl (e276) (by decide) rfl (fun ls hl => ?_)
            refine lv_goto (tgt := 92) hx hb d_2_34_128 (by decide) ?_
            exact ih148 ((a275 : Int32), (f257 : (Nat → Int32)), (f273 : (Nat → Int32))) _ _ _ _ (show (a275.toInt - ((-220))).toNat < (lx143.toInt - ((-220))).toNat from by have t1 : a275.toInt = lx143.toInt + (-1) := b277; have t2 : 0 ≤ lx143.toInt := b251; omega) ⟨(show q_F (a275.toInt + 1 ≤ a114.toInt) from (show a275.toInt + 1 ≤ a114.toInt from by have t1 : lx143.toInt + 1 ≤ a114.toInt := i146; have t2 : a275.toInt = lx143.toInt + (-1) := b277; omega)), (show q_F (R2.toInt ≤ a275.toInt + 440) from (show R2.toInt ≤ a275.toInt + 440 from by have t1 : 0 ≤ R2.toInt ∧ R2.toInt ≤ 220 := hfk20; have t2 : 0 ≤ lx143.toInt := b251; have t3 : a275.toInt = lx143.toInt + (-1) := b277; omega)), V, q_lw hl (q_lw1 0 rfl (q_lw1 2 rfl (q_lw1 3 rfl (q_lw1 4 rfl (q_lw1 5 rfl (q_lw1 6 rfl q_lw0)))))), hI, hF, hO150, hA258, hO152, hO153, hO154, hO155, ⟨fm160, Nat.lt_of_lt_of_le (show (a275.toInt - ((-220))).toNat < (lx143.toInt - ((-220))).toNat from by have t1 : a275.toInt = lx143.toInt + (-1) := b277; have t2 : 0 ≤ lx143.toInt := b251; omega) (Nat.le_of_lt_succ hf159), (show F_Big_divideBy_L92 R R2 R3 t0_0 t0_1 t1_0 t2_0 t2_1 t3_0 t4_0 t4_1 t5_0 a114 a66 y124 y125 y76 y77 f78 y30 y31 fm160 a275 f257 f273 = (F_Big_divideBy R R2 R3 t0_0 t0_1 t1_0 t2_0 t2_1 t3_0 t4_0 t4_1 t5_0) from Eq.trans (by rw [← e276, ← e274, e262, e261, F_Big_divideBy_L92.eq_2, if_neg c161, if_neg c263]) hR156), (show True ∧ S_Big_divideBy_L92 R R2 R3 t0_0 t0_1 t1_0 t2_0 t2_1 t3_0 t4_0 t4_1 t5_0 a114 a66 y124 y125 y76 y77 f78 y30 y31 fm160 a275 f257 f273 from (by rw [← e276, ← e274, e262, e261]; have h := hS157; rw [S_Big_divideBy_L92.eq_2] at h; rw [if_neg c161] at h; rw [if_neg c263] at h; with_reducible exact h))⟩⟩
      ·
        have b278 : q_F (t2_0.toInt = 1) := (q_eqI c52)
        refine lv_aload_n hx hb d_2_34_28 rfl (lv_at hl 0 rfl) ?_
        refine lv_aload_n hx hb d_2_34_29 rfl (lv_at hl 1 rfl) ?_
        refine q_get (ci := 2) (j := 0) (v := .ref (q (k2 + 1))) C0 V i_Big rfl rfl hT2 (by decide) w_84 rfl d_2_34_30 ?_
        refine lv_iconst (v := 0) hx hb d_2_34_33 (by decide) ?_
        refine q_iald C0 V hT3 (q_ix (x := 0) (by decide) (by omega) (by have t1 : 0 ≤ t2_0.toInt ∧ t2_0.toInt ≤ R2.toInt := btt2_0; have t2 : t2_0.toInt ≠ 0 := b42; have e9 := q_clI (i := R2) rfl (by have t1 : 0 ≤ R2.toInt ∧ R2.toInt ≤ 220 := hfk20; omega); omega)) d_2_34_34 ?_
        obtain ⟨a279, e280⟩ := q_nm (t3_0 (0 : Int32).toNatClampNeg : Int32)
        refine q_ti (v := a279) e280 ?_
        refine lv_aload_n hx hb d_2_34_35 rfl (lv_at hl 2 rfl) ?_
        have ne281 := q_df hT3 hT0
        have ne282 := q_df hT5 hT0
        have ne283 := q_df hT1 hT2
        have ne284 := q_df hT1 hO29
        have ne285 := q_df hT1 hO29
        have ne286 := q_df hT3 hO29
        have ne287 := q_df hT5 hT0
        have ne288 := q_df hT5 hT2
        refine q_gov V (q_runV (As := [.int a279, .ref (q k3)]) (rest := []) (d := 3) (mc := 0) (ms := 0) (ci := 2) C0 V rfl LV_Big_114 (X_Big_divideByLimb l D g q u27 k1 R hB1 zk1 k3 R3 hB3 zk3 a279 (by have z := ne_k1_k3; omega) hI t0_0 t0_1 hT0 t1_0 hT1 y30 y31 hO29 t5_0 hT5  _) rfl rfl hT0 rfl hl.1 rfl (Nat.le_of_ble_eq_true rfl) ⟨by decide, by decide⟩ ⟨Nat.le_of_ble_eq_true rfl, Nat.le_of_ble_eq_true rfl⟩ d_2_34_36) (fun u289 H locs hp290 V => ?_)
        obtain ⟨hI, hu312, y292, y293, f294, y297, y298, f299, hO291, hA295, hO296, hA300, b301, b302, b303, b304, b305, b306, b307, b308, b309, b310, hE311⟩ := hp290
        replace hO291 : u289[k1]? = (some (q k1, .inr (2, [.ref (q (k1 + 1)), .int y292, .int y293])) : Option (Nat × va_E)) := hO291
        replace hA295 : u289[k1 + 1]? = (some (q (k1 + 1), .inl (g 0, R.toNatClampNeg, .inl f294)) : Option (Nat × va_E)) := hA295
        replace hO296 : u289[k3]? = (some (q k3, .inr (2, [.ref (q (k3 + 1)), .int y297, .int y298])) : Option (Nat × va_E)) := hO296
        replace hA300 : u289[k3 + 1]? = (some (q (k3 + 1), .inl (g 0, R3.toNatClampNeg, .inl f299)) : Option (Nat × va_E)) := hA300
        have e313 : y292 = (F_Big_divideByLimb R a279 R3 t0_0 t0_1 t1_0 y30 y31 t5_0).1 := congrArg (fun z => z.1) hE311
        have e314 : y293 = (F_Big_divideByLimb R a279 R3 t0_0 t0_1 t1_0 y30 y31 t5_0).2.1 := congrArg (fun z => z.2.1) hE311
        have e315 : f294 = (F_Big_divideByLimb R a279 R3 t0_0 t0_1 t1_0 y30 y31 t5_0).2.2.1 := congrArg (fun z => z.2.2.1) hE311
        have e316 : y297 = (F_Big_divideByLimb R a279 R3 t0_0 t0_1 t1_0 y30 y31 t5_0).2.2.2.1 := congrArg (fun z => z.2.2.2.1) hE311
        have e317 : y298 = (F_Big_divideByLimb R a279 R3 t0_0 t0_1 t1_0 y30 y31 t5_0).2.2.2.2.1 := congrArg (fun z => z.2.2.2.2.1) hE311
        have e318 : f299 = (F_Big_divideByLimb R a279 R3 t0_0 t0_1 t1_0 y30 y31 t5_0).2.2.2.2.2 := congrArg (fun z => z.2.2.2.2.2) hE311
        replace b301 : q_F (0 ≤ y298.toInt) := b301
        replace b302 : q_F (y298.toInt ≤ 0) := b302
        replace b303 : q_F (y292.toInt ≤ R.toInt) := b303
        replace b304 : q_F (y293.toInt ≤ t0_1.toInt) := b304
        replace b305 : q_F (y297.toInt ≤ t0_0.toInt) := b305
        replace b306 : q_F (y297.toInt ≤ R3.toInt) := b306
        replace b307 : q_F (y298.toInt ≤ y292.toInt) := b307
        replace b308 : q_F (y292.toInt ≤ y298.toInt + 3) := b308
        replace b309 : q_F (y298.toInt ≤ y293.toInt) := b309
        replace b310 : q_F (y298.toInt ≤ y297.toInt) := b310
        replace hT2 := (hu312 _ (q_nc (by have z := ne_k1_k2; omega) (q_nc (Ne.symm ne283) (q_nc (by have z := ne_k2_k3; omega) (q_nc (Ne.symm ne288) List.not_mem_nil))))).trans hT2
        replace hT3 := (hu312 _ (q_nc ne281 (q_nc (by have z := ne_k1_k2; omega) (q_nc ne286 (q_nc (by have z := ne_k2_k3; omega) List.not_mem_nil))))).trans hT3
        replace hF := q_uc hF hu312 (by simp)
        exact q_retv C0 V (⟨hI, hF, y292, y293, f294, t2_0, t2_1, t3_0, y297, y298, f299, hO291, hA295, hT2, hT3, hO296, hA300, (show 0 ≤ y298.toInt from (by have t1 : 0 ≤ y298.toInt := b301; omega)), (show y298.toInt ≤ 0 from (by have t1 : y298.toInt ≤ 0 := b302; omega)), (show y292.toInt ≤ R.toInt from (by have t1 : y292.toInt ≤ R.toInt := b303; omega)), (show y293.toInt ≤ t0_1.toInt from (by have t1 : y293.toInt ≤ t0_1.toInt := b304; omega)), (show t2_0.toInt ≤ t2_0.toInt + 218 from (by omega)), (show t2_0.toInt ≤ R2.toInt from (by have t1 : 0 ≤ t2_0.toInt ∧ t2_0.toInt ≤ R2.toInt := btt2_0; omega)), (show t2_1.toInt ≤ t2_1.toInt from (by omega)), (show y297.toInt ≤ t2_0.toInt + 219 from (by have t1 : 0 ≤ R3.toInt ∧ R3.toInt ≤ 220 := hfk30; have t2 : 0 ≤ t2_0.toInt ∧ t2_0.toInt ≤ R2.toInt := btt2_0; have t3 : t2_0.toInt ≠ 0 := b42; have t4 : y297.toInt ≤ R3.toInt := b306; omega)), (show y297.toInt ≤ R.toInt + 1 from (by have t1 : 0 ≤ t0_0.toInt ∧ t0_0.toInt ≤ R.toInt := btt0_0; have t2 : y297.toInt ≤ t0_0.toInt := b305; omega)), (show y297.toInt ≤ R3.toInt from (by have t1 : y297.toInt ≤ R3.toInt := b306; omega)), (show y298.toInt ≤ y292.toInt from (by have t1 : y298.toInt ≤ y292.toInt := b307; omega)), (show y298.toInt ≤ y293.toInt from (by have t1 : y298.toInt ≤ y293.toInt := b309; omega)), (show y298.toInt ≤ t2_0.toInt from (by have t1 : 0 ≤ t2_0.toInt ∧ t2_0.toInt ≤ R2.toInt := btt2_0; have t2 : y298.toInt ≤ 0 := b302; omega)), (show y298.toInt ≤ t2_1.toInt from (by have t1 : 0 ≤ t2_1.toInt ∧ t2_1.toInt ≤ 1 := btt2_1; have t2 : y298.toInt ≤ 0 := b302; omega)), (show y298.toInt ≤ y297.toInt from (by have t1 : y298.toInt ≤ y297.toInt := b310; omega)), (show (y292, y293, f294, t2_0, t2_1, t3_0, y297, y298, f299) = (F_Big_divideBy R R2 R3 t0_0 t0_1 t1_0 t2_0 t2_1 t3_0 t4_0 t4_1 t5_0) from (by have c50x := c50; rw [e49] at c50x; rw [e318, e317, e316, e315, e314, e313, ← e280, e39, e38, F_Big_divideBy.eq_1, if_neg c40, if_pos c50x, if_pos c52]))⟩) d_2_34_39
    ·
      have b319 : q_F (a45.toInt < 0) := (q_nleI c50)
      exact q_retv C0 V (⟨hI, hF, t0_0, t0_1, t1_0, t2_0, t2_1, t3_0, y30, y31, t5_0, hT0, hT1, hT2, hT3, hO29, hT5, (show 0 ≤ y31.toInt from (by have t1 : 0 ≤ y31.toInt := b32; omega)), (show y31.toInt ≤ 0 from (by have t1 : y31.toInt ≤ 0 := b33; omega)), (show t0_0.toInt ≤ R.toInt from (by have t1 : 0 ≤ t0_0.toInt ∧ t0_0.toInt ≤ R.toInt := btt0_0; omega)), (show t0_1.toInt ≤ t0_1.toInt from (by omega)), (show t2_0.toInt ≤ t2_0.toInt + 218 from (by omega)), (show t2_0.toInt ≤ R2.toInt from (by have t1 : 0 ≤ t2_0.toInt ∧ t2_0.toInt ≤ R2.toInt := btt2_0; omega)), (show t2_1.toInt ≤ t2_1.toInt from (by omega)), (show y30.toInt ≤ t2_0.toInt + 219 from (by have t1 : 0 ≤ t2_0.toInt ∧ t2_0.toInt ≤ R2.toInt := btt2_0; have t2 : y31.toInt ≤ 0 := b33; have t3 : y30.toInt ≤ y31.toInt := b35; omega)), (show y30.toInt ≤ R.toInt + 1 from (by have t1 : 0 ≤ R.toInt ∧ R.toInt ≤ 220 := hfk10; have t2 : y31.toInt ≤ 0 := b33; have t3 : y30.toInt ≤ y31.toInt := b35; omega)), (show y30.toInt ≤ R3.toInt from (by have t1 : 0 ≤ R3.toInt ∧ R3.toInt ≤ 220 := hfk30; have t2 : y31.toInt ≤ 0 := b33; have t3 : y30.toInt ≤ y31.toInt := b35; omega)), (show y31.toInt ≤ t0_0.toInt from (by have t1 : 0 ≤ t0_0.toInt ∧ t0_0.toInt ≤ R.toInt := btt0_0; have t2 : y31.toInt ≤ 0 := b33; omega)), (show y31.toInt ≤ t0_1.toInt from (by have t1 : 0 ≤ t0_1.toInt ∧ t0_1.toInt ≤ 1 := btt0_1; have t2 : y31.toInt ≤ 0 := b33; omega)), (show y31.toInt ≤ t2_0.toInt from (by have t1 : 0 ≤ t2_0.toInt ∧ t2_0.toInt ≤ R2.toInt := btt2_0; have t2 : y31.toInt ≤ 0 := b33; omega)), (show y31.toInt ≤ t2_1.toInt from (by have t1 : 0 ≤ t2_1.toInt ∧ t2_1.toInt ≤ 1 := btt2_1; have t2 : y31.toInt ≤ 0 := b33; omega)), (show y31.toInt ≤ y30.toInt from (by have t1 : y31.toInt ≤ y30.toInt := b34; omega)), (show (t0_0, t0_1, t1_0, t2_0, t2_1, t3_0, y30, y31, t5_0) = (F_Big_divideBy R R2 R3 t0_0 t0_1 t1_0 t2_0 t2_1 t3_0 t4_0 t4_1 t5_0) from (by have c50x := c50; rw [e49] at c50x; rw [e39, e38, F_Big_divideBy.eq_1, if_neg c40, if_neg c50x]))⟩) d_2_34_19
