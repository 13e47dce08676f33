theorem d_18_16_0 : decode prog_18_method_16_code 0 = .ok (.aload_n 0, 1) := by decide +kernel
theorem d_18_16_1 : decode prog_18_method_16_code 1 = .ok (.iconst 0, 1) := by decide +kernel
theorem d_18_16_2 : decode prog_18_method_16_code 2 = .ok (.putfield 28, 3) := by decide +kernel
theorem d_18_16_5 : decode prog_18_method_16_code 5 = .ok (.aload_n 0, 1) := by decide +kernel
theorem d_18_16_6 : decode prog_18_method_16_code 6 = .ok (.invokevirtual 74, 3) := by decide +kernel
set_option maxRecDepth 100000 in
theorem w_2430 : (Cond.code ({ cls := "NumberHouseModel$TextRows", name := "blanks", desc := "()V" } : MethodName) prog_18_method_15_code (1 : Nat) (none : Option ClassFile.FieldType)) ∈ q_tbl := q_of11 30 rfl (by decide +kernel)
set_option maxRecDepth 100000 in
theorem w_2427 : (Cond.methodLink "NumberHouseModel$TextRows" (74 : Nat) ({ cls := "NumberHouseModel$TextRows", name := "blanks", desc := "()V" } : MethodName)) ∈ q_tbl := q_of11 27 rfl (by decide +kernel)
set_option maxRecDepth 100000 in
theorem w_2429 : (Cond.instanceMethod ({ cls := "NumberHouseModel$TextRows", name := "blanks", desc := "()V" } : MethodName)) ∈ q_tbl := q_of11 29 rfl (by decide +kernel)
theorem ws_66 : Cond.selects "NumberHouseModel$TextRows" (⟨"NumberHouseModel$TextRows", "blanks", "()V"⟩ : MethodName) (⟨"NumberHouseModel$TextRows", "blanks", "()V"⟩ : MethodName) ∈ q_tbl := q_ofs 66 (by decide +kernel) (by decide +kernel)
theorem LV_TR_74 : q_LV "NumberHouseModel$TextRows" 74 y_TR_blanks prog_18_method_15_code 1 none 0 := ⟨w_2430, w_18, w_2427, w_2429, ws_66, ⟨by decide, by decide, by decide +kernel⟩⟩
theorem d_18_16_9 : decode prog_18_method_16_code 9 = .ok (.aload_n 0, 1) := by decide +kernel
theorem d_18_16_10 : decode prog_18_method_16_code 10 = .ok (.aload_n 0, 1) := by decide +kernel
theorem d_18_16_11 : decode prog_18_method_16_code 11 = .ok (.invokevirtual 35, 3) := by decide +kernel
theorem d_18_16_14 : decode prog_18_method_16_code 14 = .ok (.bipush 45, 2) := by decide +kernel
theorem d_18_16_24 : decode prog_18_method_16_code 24 = .ok (.putfield 77, 3) := by decide +kernel
set_option maxRecDepth 100000 in
theorem w_2145 : (Cond.fieldLink "NumberHouseModel$TextRows" (77 : Nat) "NumberHouseModel$TextRows" "below" "Z") ∈ q_tbl := q_of9 225 rfl (by decide +kernel)
theorem d_18_16_27 : decode prog_18_method_16_code 27 = .ok (.aload_n 0, 1) := by decide +kernel
theorem d_18_16_28 : decode prog_18_method_16_code 28 = .ok (.getfield 77, 3) := by decide +kernel
theorem d_18_16_53 : decode prog_18_method_16_code 53 = .ok (.aload_n 0, 1) := by decide +kernel
theorem d_18_16_54 : decode prog_18_method_16_code 54 = .ok (.invokevirtual 35, 3) := by decide +kernel
theorem d_18_16_57 : decode prog_18_method_16_code 57 = .ok (.bipush 78, 2) := by decide +kernel
theorem d_18_16_108 : decode prog_18_method_16_code 108 = .ok (.iload_n 1, 1) := by decide +kernel
theorem d_18_16_116 : decode prog_18_method_16_code 116 = .ok (.iload_n 1, 1) := by decide +kernel
theorem d_18_16_117 : decode prog_18_method_16_code 117 = .ok (.ifCond .eq 18, 3) := by decide +kernel
theorem d_18_16_135 : decode prog_18_method_16_code 135 = .ok (.iconst 0, 1) := by decide +kernel
theorem d_18_16_136 : decode prog_18_method_16_code 136 = .ok (.ireturn, 1) := by decide +kernel
theorem d_18_16_120 : decode prog_18_method_16_code 120 = .ok (.aload_n 0, 1) := by decide +kernel
theorem d_18_16_121 : decode prog_18_method_16_code 121 = .ok (.getfield 28, 3) := by decide +kernel
theorem d_18_16_124 : decode prog_18_method_16_code 124 = .ok (.aload_n 0, 1) := by decide +kernel
theorem d_18_16_125 : decode prog_18_method_16_code 125 = .ok (.getfield 25, 3) := by decide +kernel
theorem d_18_16_128 : decode prog_18_method_16_code 128 = .ok (.if_icmp .ne 7, 3) := by decide +kernel
theorem d_18_16_131 : decode prog_18_method_16_code 131 = .ok (.iconst 1, 1) := by decide +kernel
theorem d_18_16_132 : decode prog_18_method_16_code 132 = .ok (.goto 4, 3) := by decide +kernel
theorem d_18_16_109 : decode prog_18_method_16_code 109 = .ok (.ifCond .eq 7, 3) := by decide +kernel
theorem d_18_16_112 : decode prog_18_method_16_code 112 = .ok (.aload_n 0, 1) := by decide +kernel
theorem d_18_16_113 : decode prog_18_method_16_code 113 = .ok (.invokevirtual 74, 3) := by decide +kernel
theorem d_18_16_59 : decode prog_18_method_16_code 59 = .ok (.if_icmp .ne 19, 3) := by decide +kernel
theorem d_18_16_78 : decode prog_18_method_16_code 78 = .ok (.aload_n 0, 1) := by decide +kernel
theorem d_18_16_79 : decode prog_18_method_16_code 79 = .ok (.invokevirtual 35, 3) := by decide +kernel
theorem d_18_16_82 : decode prog_18_method_16_code 82 = .ok (.bipush 73, 2) := by decide +kernel
theorem d_18_16_84 : decode prog_18_method_16_code 84 = .ok (.if_icmp .ne 19, 3) := by decide +kernel
theorem d_18_16_103 : decode prog_18_method_16_code 103 = .ok (.aload_n 0, 1) := by decide +kernel
theorem d_18_16_104 : decode prog_18_method_16_code 104 = .ok (.invokevirtual 89, 3) := by decide +kernel
set_option maxRecDepth 100000 in
theorem w_2445 : (Cond.code ({ cls := "NumberHouseModel$TextRows", name := "number", desc := "()Z" } : MethodName) prog_18_method_14_code (1 : Nat) (some .boolean)) ∈ q_tbl := q_of11 45 rfl (by decide +kernel)
set_option maxRecDepth 100000 in
theorem w_2442 : (Cond.methodLink "NumberHouseModel$TextRows" (89 : Nat) ({ cls := "NumberHouseModel$TextRows", name := "number", desc := "()Z" } : MethodName)) ∈ q_tbl := q_of11 42 rfl (by decide +kernel)
set_option maxRecDepth 100000 in
theorem w_2444 : (Cond.instanceMethod ({ cls := "NumberHouseModel$TextRows", name := "number", desc := "()Z" } : MethodName)) ∈ q_tbl := q_of11 44 rfl (by decide +kernel)
theorem ws_69 : Cond.selects "NumberHouseModel$TextRows" (⟨"NumberHouseModel$TextRows", "number", "()Z"⟩ : MethodName) (⟨"NumberHouseModel$TextRows", "number", "()Z"⟩ : MethodName) ∈ q_tbl := q_ofs 69 (by decide +kernel) (by decide +kernel)
theorem LV_TR_89 : q_LV "NumberHouseModel$TextRows" 89 y_TR_number prog_18_method_14_code 1 (some .boolean) 0 := ⟨w_2445, w_18, w_2442, w_2444, ws_69, ⟨by decide, by decide, by decide +kernel⟩⟩
theorem d_18_16_107 : decode prog_18_method_16_code 107 = .ok (.istore_n 1, 1) := by decide +kernel
theorem d_18_16_87 : decode prog_18_method_16_code 87 = .ok (.aload_n 0, 1) := by decide +kernel
theorem d_18_16_88 : decode prog_18_method_16_code 88 = .ok (.iconst 2, 1) := by decide +kernel
theorem d_18_16_89 : decode prog_18_method_16_code 89 = .ok (.putfield 59, 3) := by decide +kernel
theorem d_18_16_92 : decode prog_18_method_16_code 92 = .ok (.aload_n 0, 1) := by decide +kernel
theorem d_18_16_93 : decode prog_18_method_16_code 93 = .ok (.ldc2_w 87, 3) := by decide +kernel
set_option maxRecDepth 100000 in
theorem w_2441 : (Cond.constantLong "NumberHouseModel$TextRows" (87 : Nat) (8751735898823355977 : Int64)) ∈ q_tbl := q_of11 41 rfl (by decide +kernel)
theorem d_18_16_96 : decode prog_18_method_16_code 96 = .ok (.invokevirtual 83, 3) := by decide +kernel
set_option maxRecDepth 100000 in
theorem w_2439 : (Cond.code ({ cls := "NumberHouseModel$TextRows", name := "spells", desc := "(J)Z" } : MethodName) prog_18_method_11_code (5 : Nat) (some .boolean)) ∈ q_tbl := q_of11 39 rfl (by decide +kernel)
set_option maxRecDepth 100000 in
theorem w_2436 : (Cond.methodLink "NumberHouseModel$TextRows" (83 : Nat) ({ cls := "NumberHouseModel$TextRows", name := "spells", desc := "(J)Z" } : MethodName)) ∈ q_tbl := q_of11 36 rfl (by decide +kernel)
set_option maxRecDepth 100000 in
theorem w_2438 : (Cond.instanceMethod ({ cls := "NumberHouseModel$TextRows", name := "spells", desc := "(J)Z" } : MethodName)) ∈ q_tbl := q_of11 38 rfl (by decide +kernel)
theorem ws_68 : Cond.selects "NumberHouseModel$TextRows" (⟨"NumberHouseModel$TextRows", "spells", "(J)Z"⟩ : MethodName) (⟨"NumberHouseModel$TextRows", "spells", "(J)Z"⟩ : MethodName) ∈ q_tbl := q_ofs 68 (by decide +kernel) (by decide +kernel)
theorem LV_TR_83 : q_LV "NumberHouseModel$TextRows" 83 y_TR_spells prog_18_method_11_code 5 (some .boolean) 1 := ⟨w_2439, w_18, w_2436, w_2438, ws_68, ⟨by decide, by decide, by decide +kernel⟩⟩
theorem d_18_16_99 : decode prog_18_method_16_code 99 = .ok (.istore_n 1, 1) := by decide +kernel
theorem d_18_16_100 : decode prog_18_method_16_code 100 = .ok (.goto 8, 3) := by decide +kernel
theorem d_18_16_62 : decode prog_18_method_16_code 62 = .ok (.aload_n 0, 1) := by decide +kernel
theorem d_18_16_63 : decode prog_18_method_16_code 63 = .ok (.iconst 3, 1) := by decide +kernel
theorem d_18_16_64 : decode prog_18_method_16_code 64 = .ok (.putfield 59, 3) := by decide +kernel
theorem d_18_16_67 : decode prog_18_method_16_code 67 = .ok (.aload_n 0, 1) := by decide +kernel
theorem d_18_16_68 : decode prog_18_method_16_code 68 = .ok (.ldc2_w 81, 3) := by decide +kernel
set_option maxRecDepth 100000 in
theorem w_2435 : (Cond.constantLong "NumberHouseModel$TextRows" (81 : Nat) (5136718 : Int64)) ∈ q_tbl := q_of11 35 rfl (by decide +kernel)
theorem d_18_16_71 : decode prog_18_method_16_code 71 = .ok (.invokevirtual 83, 3) := by decide +kernel
theorem d_18_16_74 : decode prog_18_method_16_code 74 = .ok (.istore_n 1, 1) := by decide +kernel
theorem d_18_16_75 : decode prog_18_method_16_code 75 = .ok (.goto 33, 3) := by decide +kernel
theorem d_18_16_43 : decode prog_18_method_16_code 43 = .ok (.aload_n 0, 1) := by decide +kernel
theorem d_18_16_44 : decode prog_18_method_16_code 44 = .ok (.dup, 1) := by decide +kernel
theorem d_18_16_45 : decode prog_18_method_16_code 45 = .ok (.getfield 28, 3) := by decide +kernel
theorem d_18_16_48 : decode prog_18_method_16_code 48 = .ok (.iconst 1, 1) := by decide +kernel
theorem d_18_16_49 : decode prog_18_method_16_code 49 = .ok (.iadd, 1) := by decide +kernel
theorem d_18_16_50 : decode prog_18_method_16_code 50 = .ok (.putfield 28, 3) := by decide +kernel
theorem d_18_16_31 : decode prog_18_method_16_code 31 = .ok (.ifCond .ne 12, 3) := by decide +kernel
theorem d_18_16_34 : decode prog_18_method_16_code 34 = .ok (.aload_n 0, 1) := by decide +kernel
theorem d_18_16_35 : decode prog_18_method_16_code 35 = .ok (.invokevirtual 35, 3) := by decide +kernel
theorem d_18_16_38 : decode prog_18_method_16_code 38 = .ok (.bipush 43, 2) := by decide +kernel
theorem d_18_16_40 : decode prog_18_method_16_code 40 = .ok (.if_icmp .ne 13, 3) := by decide +kernel
theorem d_18_16_16 : decode prog_18_method_16_code 16 = .ok (.if_icmp .ne 7, 3) := by decide +kernel
theorem d_18_16_23 : decode prog_18_method_16_code 23 = .ok (.iconst 0, 1) := by decide +kernel
theorem d_18_16_19 : decode prog_18_method_16_code 19 = .ok (.iconst 1, 1) := by decide +kernel
theorem d_18_16_20 : decode prog_18_method_16_code 20 = .ok (.goto 4, 3) := by decide +kernel
def y_TR_scan : MethodName := ⟨"NumberHouseModel$TextRows", "scan", "()Z"⟩
def F_TR_scan_J116 (t0_0 : Int32) (t0_1 : Int32) (t0_2 : Int32) (t0_3 : Int32) (t0_4 : Int32) (t0_5 : Int32) (t0_6 : Int32) (t0_7 : Int64) (t0_8 : Int32) (t0_9 : Int32) (t0_10 : Int64) (t0_11 : Int64) (t0_12 : Int32) (t0_13 : Int32) (t1_0 : (Nat → Int32)) (t2_0 : (Nat → Int32)) (p75 : (Int32 × Int32 × Int32 × Int32 × Int32 × Int32 × Int32 × Int64 × Int32 × Int32 × Int64 × Int64 × Int32 × Int32)) (y31 : Int32) (y32 : Int32) (y33 : Int32) (y34 : Int32) (y35 : Int32) (y36 : Int32) (y37 : Int32) (y38 : Int64) (y39 : Int32) (y40 : Int32) (y41 : Int64) (y42 : Int64) (y43 : Int32) (y44 : Int32) (lx102 : Int32) (lx116 : Int32) (lx133 : Int32) (lx134 : Int32) (lx135 : Int32) (lx136 : Int32) (lx137 : Int32) (lx138 : Int32) (lx139 : Int32) (lx140 : Int32) (lx141 : Int64) (lx142 : Int32) (lx143 : Int32) (lx144 : Int64) (lx145 : Int64) (lx146 : Int32) (lx147 : Int32) (lx148 : (Nat → Int32)) (lx181 : Int32) (lx182 : Int32) (lx183 : Int32) (lx184 : Int32) (lx185 : Int32) (lx186 : Int32) (lx187 : Int32) (lx188 : Int64) (lx189 : Int32) (lx190 : Int32) (lx191 : Int64) (lx192 : Int64) (lx193 : Int32) (lx194 : Int32) : Int32 × Int32 × Int32 × Int32 × Int32 × Int32 × Int32 × Int32 × Int64 × Int32 × Int32 × Int64 × Int64 × Int32 × Int32 × (Nat → Int32) := if lx133 = (0 : Int32) then (((0 : Int32), lx181, lx182, lx183, lx184, lx185, lx186, lx187, lx188, lx189, lx190, lx191, lx192, lx193, lx194, lx148)) else (if lx184 = lx182 then (((1 : Int32), lx181, lx182, lx183, lx184, lx185, lx186, lx187, lx188, lx189, lx190, lx191, lx192, lx193, lx194, lx148)) else (((0 : Int32), lx181, lx182, lx183, lx184, lx185, lx186, lx187, lx188, lx189, lx190, lx191, lx192, lx193, lx194, lx148)))
def F_TR_scan_c113 (t0_0 : Int32) (t0_1 : Int32) (t0_2 : Int32) (t0_3 : Int32) (t0_4 : Int32) (t0_5 : Int32) (t0_6 : Int32) (t0_7 : Int64) (t0_8 : Int32) (t0_9 : Int32) (t0_10 : Int64) (t0_11 : Int64) (t0_12 : Int32) (t0_13 : Int32) (t1_0 : (Nat → Int32)) (t2_0 : (Nat → Int32)) (p75 : (Int32 × Int32 × Int32 × Int32 × Int32 × Int32 × Int32 × Int64 × Int32 × Int32 × Int64 × Int64 × Int32 × Int32)) (y31 : Int32) (y32 : Int32) (y33 : Int32) (y34 : Int32) (y35 : Int32) (y36 : Int32) (y37 : Int32) (y38 : Int64) (y39 : Int32) (y40 : Int32) (y41 : Int64) (y42 : Int64) (y43 : Int32) (y44 : Int32) (lx102 : Int32) (lx116 : Int32) (lx133 : Int32) (lx134 : Int32) (lx135 : Int32) (lx136 : Int32) (lx137 : Int32) (lx138 : Int32) (lx139 : Int32) (lx140 : Int32) (lx141 : Int64) (lx142 : Int32) (lx143 : Int32) (lx144 : Int64) (lx145 : Int64) (lx146 : Int32) (lx147 : Int32) (lx148 : (Nat → Int32)) (p289 : (Int32 × Int32 × Int32 × Int32 × Int32 × Int32 × Int32 × Int64 × Int32 × Int32 × Int64 × Int64 × Int32 × Int32)) : Int32 × Int32 × Int32 × Int32 × Int32 × Int32 × Int32 × Int32 × Int64 × Int32 × Int32 × Int64 × Int64 × Int32 × Int32 × (Nat → Int32) := F_TR_scan_J116 t0_0 t0_1 t0_2 t0_3 t0_4 t0_5 t0_6 t0_7 t0_8 t0_9 t0_10 t0_11 t0_12 t0_13 t1_0 t2_0 p75 y31 y32 y33 y34 y35 y36 y37 y38 y39 y40 y41 y42 y43 y44 lx102 lx116 lx133 lx134 lx135 lx136 lx137 lx138 lx139 lx140 lx141 lx142 lx143 lx144 lx145 lx146 lx147 lx148 (p289.1 : Int32) (p289.2.1 : Int32) (p289.2.2.1 : Int32) (p289.2.2.2.1 : Int32) (p289.2.2.2.2.1 : Int32) (p289.2.2.2.2.2.1 : Int32) (p289.2.2.2.2.2.2.1 : Int32) (p289.2.2.2.2.2.2.2.1 : Int64) (p289.2.2.2.2.2.2.2.2.1 : Int32) (p289.2.2.2.2.2.2.2.2.2.1 : Int32) (p289.2.2.2.2.2.2.2.2.2.2.1 : Int64) (p289.2.2.2.2.2.2.2.2.2.2.2.1 : Int64) (p289.2.2.2.2.2.2.2.2.2.2.2.2.1 : Int32) (p289.2.2.2.2.2.2.2.2.2.2.2.2.2 : Int32)
def F_TR_scan_J108 (t0_0 : Int32) (t0_1 : Int32) (t0_2 : Int32) (t0_3 : Int32) (t0_4 : Int32) (t0_5 : Int32) (t0_6 : Int32) (t0_7 : Int64) (t0_8 : Int32) (t0_9 : Int32) (t0_10 : Int64) (t0_11 : Int64) (t0_12 : Int32) (t0_13 : Int32) (t1_0 : (Nat → Int32)) (t2_0 : (Nat → Int32)) (p75 : (Int32 × Int32 × Int32 × Int32 × Int32 × Int32 × Int32 × Int64 × Int32 × Int32 × Int64 × Int64 × Int32 × Int32)) (y31 : Int32) (y32 : Int32) (y33 : Int32) (y34 : Int32) (y35 : Int32) (y36 : Int32) (y37 : Int32) (y38 : Int64) (y39 : Int32) (y40 : Int32) (y41 : Int64) (y42 : Int64) (y43 : Int32) (y44 : Int32) (lx102 : Int32) (lx116 : Int32) (lx133 : Int32) (lx134 : Int32) (lx135 : Int32) (lx136 : Int32) (lx137 : Int32) (lx138 : Int32) (lx139 : Int32) (lx140 : Int32) (lx141 : Int64) (lx142 : Int32) (lx143 : Int32) (lx144 : Int64) (lx145 : Int64) (lx146 : Int32) (lx147 : Int32) (lx148 : (Nat → Int32)) : Int32 × Int32 × Int32 × Int32 × Int32 × Int32 × Int32 × Int32 × Int64 × Int32 × Int32 × Int64 × Int64 × Int32 × Int32 × (Nat → Int32) := if lx133 = (0 : Int32) then (F_TR_scan_J116 t0_0 t0_1 t0_2 t0_3 t0_4 t0_5 t0_6 t0_7 t0_8 t0_9 t0_10 t0_11 t0_12 t0_13 t1_0 t2_0 p75 y31 y32 y33 y34 y35 y36 y37 y38 y39 y40 y41 y42 y43 y44 lx102 lx116 lx133 lx134 lx135 lx136 lx137 lx138 lx139 lx140 lx141 lx142 lx143 lx144 lx145 lx146 lx147 lx148 lx134 lx135 lx136 lx137 lx138 lx139 lx140 lx141 lx142 lx143 lx144 lx145 lx146 lx147) else (F_TR_scan_c113 t0_0 t0_1 t0_2 t0_3 t0_4 t0_5 t0_6 t0_7 t0_8 t0_9 t0_10 t0_11 t0_12 t0_13 t1_0 t2_0 p75 y31 y32 y33 y34 y35 y36 y37 y38 y39 y40 y41 y42 y43 y44 lx102 lx116 lx133 lx134 lx135 lx136 lx137 lx138 lx139 lx140 lx141 lx142 lx143 lx144 lx145 lx146 lx147 lx148 ((F_TR_blanks lx134 lx135 lx136 lx137 lx138 lx139 lx140 lx141 lx142 lx143 lx144 lx145 lx146 lx147 t1_0) : (Int32 × Int32 × Int32 × Int32 × Int32 × Int32 × Int32 × Int64 × Int32 × Int32 × Int64 × Int64 × Int32 × Int32)))
def F_TR_scan_c104 (t0_0 : Int32) (t0_1 : Int32) (t0_2 : Int32) (t0_3 : Int32) (t0_4 : Int32) (t0_5 : Int32) (t0_6 : Int32) (t0_7 : Int64) (t0_8 : Int32) (t0_9 : Int32) (t0_10 : Int64) (t0_11 : Int64) (t0_12 : Int32) (t0_13 : Int32) (t1_0 : (Nat → Int32)) (t2_0 : (Nat → Int32)) (p75 : (Int32 × Int32 × Int32 × Int32 × Int32 × Int32 × Int32 × Int64 × Int32 × Int32 × Int64 × Int64 × Int32 × Int32)) (y31 : Int32) (y32 : Int32) (y33 : Int32) (y34 : Int32) (y35 : Int32) (y36 : Int32) (y37 : Int32) (y38 : Int64) (y39 : Int32) (y40 : Int32) (y41 : Int64) (y42 : Int64) (y43 : Int32) (y44 : Int32) (lx102 : Int32) (lx116 : Int32) (p369 : (Int32 × Int32 × Int32 × Int32 × Int32 × Int32 × Int32 × Int32 × Int64 × Int32 × Int32 × Int64 × Int64 × Int32 × Int32 × (Nat → Int32))) : Int32 × Int32 × Int32 × Int32 × Int32 × Int32 × Int32 × Int32 × Int64 × Int32 × Int32 × Int64 × Int64 × Int32 × Int32 × (Nat → Int32) := F_TR_scan_J108 t0_0 t0_1 t0_2 t0_3 t0_4 t0_5 t0_6 t0_7 t0_8 t0_9 t0_10 t0_11 t0_12 t0_13 t1_0 t2_0 p75 y31 y32 y33 y34 y35 y36 y37 y38 y39 y40 y41 y42 y43 y44 lx102 lx116 (p369.1 : Int32) (p369.2.1 : Int32) (p369.2.2.1 : Int32) (p369.2.2.2.1 : Int32) (p369.2.2.2.2.1 : Int32) (p369.2.2.2.2.2.1 : Int32) (p369.2.2.2.2.2.2.1 : Int32) (p369.2.2.2.2.2.2.2.1 : Int32) (p369.2.2.2.2.2.2.2.2.1 : Int64) (p369.2.2.2.2.2.2.2.2.2.1 : Int32) (p369.2.2.2.2.2.2.2.2.2.2.1 : Int32) (p369.2.2.2.2.2.2.2.2.2.2.2.1 : Int64) (p369.2.2.2.2.2.2.2.2.2.2.2.2.1 : Int64) (p369.2.2.2.2.2.2.2.2.2.2.2.2.2.1 : Int32) (p369.2.2.2.2.2.2.2.2.2.2.2.2.2.2.1 : Int32) (p369.2.2.2.2.2.2.2.2.2.2.2.2.2.2.2 : (Nat → Int32))
def F_TR_scan_c96 (t0_0 : Int32) (t0_1 : Int32) (t0_2 : Int32) (t0_3 : Int32) (t0_4 : Int32) (t0_5 : Int32) (t0_6 : Int32) (t0_7 : Int64) (t0_8 : Int32) (t0_9 : Int32) (t0_10 : Int64) (t0_11 : Int64) (t0_12 : Int32) (t0_13 : Int32) (t1_0 : (Nat → Int32)) (t2_0 : (Nat → Int32)) (p75 : (Int32 × Int32 × Int32 × Int32 × Int32 × Int32 × Int32 × Int64 × Int32 × Int32 × Int64 × Int64 × Int32 × Int32)) (y31 : Int32) (y32 : Int32) (y33 : Int32) (y34 : Int32) (y35 : Int32) (y36 : Int32) (y37 : Int32) (y38 : Int64) (y39 : Int32) (y40 : Int32) (y41 : Int64) (y42 : Int64) (y43 : Int32) (y44 : Int32) (lx102 : Int32) (lx116 : Int32) (p444 : (Int32 × Int32 × Int32 × Int32 × Int32 × Int32 × Int32 × Int32 × Int64 × Int32 × Int32 × Int64 × Int64 × Int32 × Int32)) : Int32 × Int32 × Int32 × Int32 × Int32 × Int32 × Int32 × Int32 × Int64 × Int32 × Int32 × Int64 × Int64 × Int32 × Int32 × (Nat → Int32) := F_TR_scan_J108 t0_0 t0_1 t0_2 t0_3 t0_4 t0_5 t0_6 t0_7 t0_8 t0_9 t0_10 t0_11 t0_12 t0_13 t1_0 t2_0 p75 y31 y32 y33 y34 y35 y36 y37 y38 y39 y40 y41 y42 y43 y44 lx102 lx116 (p444.1 : Int32) (p444.2.1 : Int32) (p444.2.2.1 : Int32) (p444.2.2.2.1 : Int32) (p444.2.2.2.2.1 : Int32) (p444.2.2.2.2.2.1 : Int32) (p444.2.2.2.2.2.2.1 : Int32) (p444.2.2.2.2.2.2.2.1 : Int32) (p444.2.2.2.2.2.2.2.2.1 : Int64) (p444.2.2.2.2.2.2.2.2.2.1 : Int32) (p444.2.2.2.2.2.2.2.2.2.2.1 : Int32) (p444.2.2.2.2.2.2.2.2.2.2.2.1 : Int64) (p444.2.2.2.2.2.2.2.2.2.2.2.2.1 : Int64) (p444.2.2.2.2.2.2.2.2.2.2.2.2.2.1 : Int32) (p444.2.2.2.2.2.2.2.2.2.2.2.2.2.2 : Int32) t2_0
def F_TR_scan_c71 (t0_0 : Int32) (t0_1 : Int32) (t0_2 : Int32) (t0_3 : Int32) (t0_4 : Int32) (t0_5 : Int32) (t0_6 : Int32) (t0_7 : Int64) (t0_8 : Int32) (t0_9 : Int32) (t0_10 : Int64) (t0_11 : Int64) (t0_12 : Int32) (t0_13 : Int32) (t1_0 : (Nat → Int32)) (t2_0 : (Nat → Int32)) (p75 : (Int32 × Int32 × Int32 × Int32 × Int32 × Int32 × Int32 × Int64 × Int32 × Int32 × Int64 × Int64 × Int32 × Int32)) (y31 : Int32) (y32 : Int32) (y33 : Int32) (y34 : Int32) (y35 : Int32) (y36 : Int32) (y37 : Int32) (y38 : Int64) (y39 : Int32) (y40 : Int32) (y41 : Int64) (y42 : Int64) (y43 : Int32) (y44 : Int32) (lx102 : Int32) (lx116 : Int32) (p518 : (Int32 × Int32 × Int32 × Int32 × Int32 × Int32 × Int32 × Int32 × Int64 × Int32 × Int32 × Int64 × Int64 × Int32 × Int32)) : Int32 × Int32 × Int32 × Int32 × Int32 × Int32 × Int32 × Int32 × Int64 × Int32 × Int32 × Int64 × Int64 × Int32 × Int32 × (Nat → Int32) := F_TR_scan_J108 t0_0 t0_1 t0_2 t0_3 t0_4 t0_5 t0_6 t0_7 t0_8 t0_9 t0_10 t0_11 t0_12 t0_13 t1_0 t2_0 p75 y31 y32 y33 y34 y35 y36 y37 y38 y39 y40 y41 y42 y43 y44 lx102 lx116 (p518.1 : Int32) (p518.2.1 : Int32) (p518.2.2.1 : Int32) (p518.2.2.2.1 : Int32) (p518.2.2.2.2.1 : Int32) (p518.2.2.2.2.2.1 : Int32) (p518.2.2.2.2.2.2.1 : Int32) (p518.2.2.2.2.2.2.2.1 : Int32) (p518.2.2.2.2.2.2.2.2.1 : Int64) (p518.2.2.2.2.2.2.2.2.2.1 : Int32) (p518.2.2.2.2.2.2.2.2.2.2.1 : Int32) (p518.2.2.2.2.2.2.2.2.2.2.2.1 : Int64) (p518.2.2.2.2.2.2.2.2.2.2.2.2.1 : Int64) (p518.2.2.2.2.2.2.2.2.2.2.2.2.2.1 : Int32) (p518.2.2.2.2.2.2.2.2.2.2.2.2.2.2 : Int32) t2_0
def F_TR_scan_J53 (t0_0 : Int32) (t0_1 : Int32) (t0_2 : Int32) (t0_3 : Int32) (t0_4 : Int32) (t0_5 : Int32) (t0_6 : Int32) (t0_7 : Int64) (t0_8 : Int32) (t0_9 : Int32) (t0_10 : Int64) (t0_11 : Int64) (t0_12 : Int32) (t0_13 : Int32) (t1_0 : (Nat → Int32)) (t2_0 : (Nat → Int32)) (p75 : (Int32 × Int32 × Int32 × Int32 × Int32 × Int32 × Int32 × Int64 × Int32 × Int32 × Int64 × Int64 × Int32 × Int32)) (y31 : Int32) (y32 : Int32) (y33 : Int32) (y34 : Int32) (y35 : Int32) (y36 : Int32) (y37 : Int32) (y38 : Int64) (y39 : Int32) (y40 : Int32) (y41 : Int64) (y42 : Int64) (y43 : Int32) (y44 : Int32) (lx102 : Int32) (lx116 : Int32) : Int32 × Int32 × Int32 × Int32 × Int32 × Int32 × Int32 × Int32 × Int64 × Int32 × Int32 × Int64 × Int64 × Int32 × Int32 × (Nat → Int32) := if ((F_TR_here y31 y32 y33 lx116 lx102 y36 y37 y38 y39 y40 y41 y42 y43 y44 t1_0) : Int32) = (78 : Int32) then (F_TR_scan_c71 t0_0 t0_1 t0_2 t0_3 t0_4 t0_5 t0_6 t0_7 t0_8 t0_9 t0_10 t0_11 t0_12 t0_13 t1_0 t2_0 p75 y31 y32 y33 y34 y35 y36 y37 y38 y39 y40 y41 y42 y43 y44 lx102 lx116 ((F_TR_spells (5136718 : Int64) y31 y32 (3 : Int32) lx116 lx102 y36 y37 y38 y39 y40 y41 y42 y43 y44 t1_0) : (Int32 × Int32 × Int32 × Int32 × Int32 × Int32 × Int32 × Int32 × Int64 × Int32 × Int32 × Int64 × Int64 × Int32 × Int32))) else (if ((F_TR_here y31 y32 y33 lx116 lx102 y36 y37 y38 y39 y40 y41 y42 y43 y44 t1_0) : Int32) = (73 : Int32) then (F_TR_scan_c96 t0_0 t0_1 t0_2 t0_3 t0_4 t0_5 t0_6 t0_7 t0_8 t0_9 t0_10 t0_11 t0_12 t0_13 t1_0 t2_0 p75 y31 y32 y33 y34 y35 y36 y37 y38 y39 y40 y41 y42 y43 y44 lx102 lx116 ((F_TR_spells (8751735898823355977 : Int64) y31 y32 (2 : Int32) lx116 lx102 y36 y37 y38 y39 y40 y41 y42 y43 y44 t1_0) : (Int32 × Int32 × Int32 × Int32 × Int32 × Int32 × Int32 × Int32 × Int64 × Int32 × Int32 × Int64 × Int64 × Int32 × Int32))) else (F_TR_scan_c104 t0_0 t0_1 t0_2 t0_3 t0_4 t0_5 t0_6 t0_7 t0_8 t0_9 t0_10 t0_11 t0_12 t0_13 t1_0 t2_0 p75 y31 y32 y33 y34 y35 y36 y37 y38 y39 y40 y41 y42 y43 y44 lx102 lx116 ((F_TR_number y31 y32 y33 lx116 lx102 y36 y37 y38 y39 y40 y41 y42 y43 y44 t1_0 t2_0) : (Int32 × Int32 × Int32 × Int32 × Int32 × Int32 × Int32 × Int32 × Int64 × Int32 × Int32 × Int64 × Int64 × Int32 × Int32 × (Nat → Int32)))))
def F_TR_scan_J43 (t0_0 : Int32) (t0_1 : Int32) (t0_2 : Int32) (t0_3 : Int32) (t0_4 : Int32) (t0_5 : Int32) (t0_6 : Int32) (t0_7 : Int64) (t0_8 : Int32) (t0_9 : Int32) (t0_10 : Int64) (t0_11 : Int64) (t0_12 : Int32) (t0_13 : Int32) (t1_0 : (Nat → Int32)) (t2_0 : (Nat → Int32)) (p75 : (Int32 × Int32 × Int32 × Int32 × Int32 × Int32 × Int32 × Int64 × Int32 × Int32 × Int64 × Int64 × Int32 × Int32)) (y31 : Int32) (y32 : Int32) (y33 : Int32) (y34 : Int32) (y35 : Int32) (y36 : Int32) (y37 : Int32) (y38 : Int64) (y39 : Int32) (y40 : Int32) (y41 : Int64) (y42 : Int64) (y43 : Int32) (y44 : Int32) (lx102 : Int32) : Int32 × Int32 × Int32 × Int32 × Int32 × Int32 × Int32 × Int32 × Int64 × Int32 × Int32 × Int64 × Int64 × Int32 × Int32 × (Nat → Int32) := F_TR_scan_J53 t0_0 t0_1 t0_2 t0_3 t0_4 t0_5 t0_6 t0_7 t0_8 t0_9 t0_10 t0_11 t0_12 t0_13 t1_0 t2_0 p75 y31 y32 y33 y34 y35 y36 y37 y38 y39 y40 y41 y42 y43 y44 lx102 (y34 + 1 : Int32)
def F_TR_scan_J24 (t0_0 : Int32) (t0_1 : Int32) (t0_2 : Int32) (t0_3 : Int32) (t0_4 : Int32) (t0_5 : Int32) (t0_6 : Int32) (t0_7 : Int64) (t0_8 : Int32) (t0_9 : Int32) (t0_10 : Int64) (t0_11 : Int64) (t0_12 : Int32) (t0_13 : Int32) (t1_0 : (Nat → Int32)) (t2_0 : (Nat → Int32)) (p75 : (Int32 × Int32 × Int32 × Int32 × Int32 × Int32 × Int32 × Int64 × Int32 × Int32 × Int64 × Int64 × Int32 × Int32)) (y31 : Int32) (y32 : Int32) (y33 : Int32) (y34 : Int32) (y35 : Int32) (y36 : Int32) (y37 : Int32) (y38 : Int64) (y39 : Int32) (y40 : Int32) (y41 : Int64) (y42 : Int64) (y43 : Int32) (y44 : Int32) (lx102 : Int32) : Int32 × Int32 × Int32 × Int32 × Int32 × Int32 × Int32 × Int32 × Int64 × Int32 × Int32 × Int64 × Int64 × Int32 × Int32 × (Nat → Int32) := if lx102 = (0 : Int32) then (if ((F_TR_here y31 y32 y33 y34 lx102 y36 y37 y38 y39 y40 y41 y42 y43 y44 t1_0) : Int32) = (43 : Int32) then (F_TR_scan_J43 t0_0 t0_1 t0_2 t0_3 t0_4 t0_5 t0_6 t0_7 t0_8 t0_9 t0_10 t0_11 t0_12 t0_13 t1_0 t2_0 p75 y31 y32 y33 y34 y35 y36 y37 y38 y39 y40 y41 y42 y43 y44 lx102) else (F_TR_scan_J53 t0_0 t0_1 t0_2 t0_3 t0_4 t0_5 t0_6 t0_7 t0_8 t0_9 t0_10 t0_11 t0_12 t0_13 t1_0 t2_0 p75 y31 y32 y33 y34 y35 y36 y37 y38 y39 y40 y41 y42 y43 y44 lx102 y34)) else (F_TR_scan_J43 t0_0 t0_1 t0_2 t0_3 t0_4 t0_5 t0_6 t0_7 t0_8 t0_9 t0_10 t0_11 t0_12 t0_13 t1_0 t2_0 p75 y31 y32 y33 y34 y35 y36 y37 y38 y39 y40 y41 y42 y43 y44 lx102)
def F_TR_scan_c6 (t0_0 : Int32) (t0_1 : Int32) (t0_2 : Int32) (t0_3 : Int32) (t0_4 : Int32) (t0_5 : Int32) (t0_6 : Int32) (t0_7 : Int64) (t0_8 : Int32) (t0_9 : Int32) (t0_10 : Int64) (t0_11 : Int64) (t0_12 : Int32) (t0_13 : Int32) (t1_0 : (Nat → Int32)) (t2_0 : (Nat → Int32)) (p75 : (Int32 × Int32 × Int32 × Int32 × Int32 × Int32 × Int32 × Int64 × Int32 × Int32 × Int64 × Int64 × Int32 × Int32)) : Int32 × Int32 × Int32 × Int32 × Int32 × Int32 × Int32 × Int32 × Int64 × Int32 × Int32 × Int64 × Int64 × Int32 × Int32 × (Nat → Int32) := if ((F_TR_here (p75.1 : Int32) (p75.2.1 : Int32) (p75.2.2.1 : Int32) (p75.2.2.2.1 : Int32) (p75.2.2.2.2.1 : Int32) (p75.2.2.2.2.2.1 : Int32) (p75.2.2.2.2.2.2.1 : Int32) (p75.2.2.2.2.2.2.2.1 : Int64) (p75.2.2.2.2.2.2.2.2.1 : Int32) (p75.2.2.2.2.2.2.2.2.2.1 : Int32) (p75.2.2.2.2.2.2.2.2.2.2.1 : Int64) (p75.2.2.2.2.2.2.2.2.2.2.2.1 : Int64) (p75.2.2.2.2.2.2.2.2.2.2.2.2.1 : Int32) (p75.2.2.2.2.2.2.2.2.2.2.2.2.2 : Int32) t1_0) : Int32) = (45 : Int32) then (F_TR_scan_J24 t0_0 t0_1 t0_2 t0_3 t0_4 t0_5 t0_6 t0_7 t0_8 t0_9 t0_10 t0_11 t0_12 t0_13 t1_0 t2_0 p75 (p75.1 : Int32) (p75.2.1 : Int32) (p75.2.2.1 : Int32) (p75.2.2.2.1 : Int32) (p75.2.2.2.2.1 : Int32) (p75.2.2.2.2.2.1 : Int32) (p75.2.2.2.2.2.2.1 : Int32) (p75.2.2.2.2.2.2.2.1 : Int64) (p75.2.2.2.2.2.2.2.2.1 : Int32) (p75.2.2.2.2.2.2.2.2.2.1 : Int32) (p75.2.2.2.2.2.2.2.2.2.2.1 : Int64) (p75.2.2.2.2.2.2.2.2.2.2.2.1 : Int64) (p75.2.2.2.2.2.2.2.2.2.2.2.2.1 : Int32) (p75.2.2.2.2.2.2.2.2.2.2.2.2.2 : Int32) 1) else (F_TR_scan_J24 t0_0 t0_1 t0_2 t0_3 t0_4 t0_5 t0_6 t0_7 t0_8 t0_9 t0_10 t0_11 t0_12 t0_13 t1_0 t2_0 p75 (p75.1 : Int32) (p75.2.1 : Int32) (p75.2.2.1 : Int32) (p75.2.2.2.1 : Int32) (p75.2.2.2.2.1 : Int32) (p75.2.2.2.2.2.1 : Int32) (p75.2.2.2.2.2.2.1 : Int32) (p75.2.2.2.2.2.2.2.1 : Int64) (p75.2.2.2.2.2.2.2.2.1 : Int32) (p75.2.2.2.2.2.2.2.2.2.1 : Int32) (p75.2.2.2.2.2.2.2.2.2.2.1 : Int64) (p75.2.2.2.2.2.2.2.2.2.2.2.1 : Int64) (p75.2.2.2.2.2.2.2.2.2.2.2.2.1 : Int32) (p75.2.2.2.2.2.2.2.2.2.2.2.2.2 : Int32) 0)
def F_TR_scan (t0_0 : Int32) (t0_1 : Int32) (t0_2 : Int32) (t0_3 : Int32) (t0_4 : Int32) (t0_5 : Int32) (t0_6 : Int32) (t0_7 : Int64) (t0_8 : Int32) (t0_9 : Int32) (t0_10 : Int64) (t0_11 : Int64) (t0_12 : Int32) (t0_13 : Int32) (t1_0 : (Nat → Int32)) (t2_0 : (Nat → Int32)) : Int32 × Int32 × Int32 × Int32 × Int32 × Int32 × Int32 × Int32 × Int64 × Int32 × Int32 × Int64 × Int64 × Int32 × Int32 × (Nat → Int32) := F_TR_scan_c6 t0_0 t0_1 t0_2 t0_3 t0_4 t0_5 t0_6 t0_7 t0_8 t0_9 t0_10 t0_11 t0_12 t0_13 t1_0 t2_0 ((F_TR_blanks t0_0 t0_1 t0_2 (0 : Int32) t0_4 t0_5 t0_6 t0_7 t0_8 t0_9 t0_10 t0_11 t0_12 t0_13 t1_0) : (Int32 × Int32 × Int32 × Int32 × Int32 × Int32 × Int32 × Int64 × Int32 × Int32 × Int64 × Int64 × Int32 × Int32))
def S_TR_scan_J116 (t0_0 : Int32) (t0_1 : Int32) (t0_2 : Int32) (t0_3 : Int32) (t0_4 : Int32) (t0_5 : Int32) (t0_6 : Int32) (t0_7 : Int64) (t0_8 : Int32) (t0_9 : Int32) (t0_10 : Int64) (t0_11 : Int64) (t0_12 : Int32) (t0_13 : Int32) (t1_0 : (Nat → Int32)) (t2_0 : (Nat → Int32)) (p75 : (Int32 × Int32 × Int32 × Int32 × Int32 × Int32 × Int32 × Int64 × Int32 × Int32 × Int64 × Int64 × Int32 × Int32)) (y31 : Int32) (y32 : Int32) (y33 : Int32) (y34 : Int32) (y35 : Int32) (y36 : Int32) (y37 : Int32) (y38 : Int64) (y39 : Int32) (y40 : Int32) (y41 : Int64) (y42 : Int64) (y43 : Int32) (y44 : Int32) (lx102 : Int32) (lx116 : Int32) (lx133 : Int32) (lx134 : Int32) (lx135 : Int32) (lx136 : Int32) (lx137 : Int32) (lx138 : Int32) (lx139 : Int32) (lx140 : Int32) (lx141 : Int64) (lx142 : Int32) (lx143 : Int32) (lx144 : Int64) (lx145 : Int64) (lx146 : Int32) (lx147 : Int32) (lx148 : (Nat → Int32)) (lx181 : Int32) (lx182 : Int32) (lx183 : Int32) (lx184 : Int32) (lx185 : Int32) (lx186 : Int32) (lx187 : Int32) (lx188 : Int64) (lx189 : Int32) (lx190 : Int32) (lx191 : Int64) (lx192 : Int64) (lx193 : Int32) (lx194 : Int32) : Prop := if lx133 = (0 : Int32) then (True) else (if lx184 = lx182 then (True) else (True))
def S_TR_scan_c113 (t0_0 : Int32) (t0_1 : Int32) (t0_2 : Int32) (t0_3 : Int32) (t0_4 : Int32) (t0_5 : Int32) (t0_6 : Int32) (t0_7 : Int64) (t0_8 : Int32) (t0_9 : Int32) (t0_10 : Int64) (t0_11 : Int64) (t0_12 : Int32) (t0_13 : Int32) (t1_0 : (Nat → Int32)) (t2_0 : (Nat → Int32)) (p75 : (Int32 × Int32 × Int32 × Int32 × Int32 × Int32 × Int32 × Int64 × Int32 × Int32 × Int64 × Int64 × Int32 × Int32)) (y31 : Int32) (y32 : Int32) (y33 : Int32) (y34 : Int32) (y35 : Int32) (y36 : Int32) (y37 : Int32) (y38 : Int64) (y39 : Int32) (y40 : Int32) (y41 : Int64) (y42 : Int64) (y43 : Int32) (y44 : Int32) (lx102 : Int32) (lx116 : Int32) (lx133 : Int32) (lx134 : Int32) (lx135 : Int32) (lx136 : Int32) (lx137 : Int32) (lx138 : Int32) (lx139 : Int32) (lx140 : Int32) (lx141 : Int64) (lx142 : Int32) (lx143 : Int32) (lx144 : Int64) (lx145 : Int64) (lx146 : Int32) (lx147 : Int32) (lx148 : (Nat → Int32)) (p289 : (Int32 × Int32 × Int32 × Int32 × Int32 × Int32 × Int32 × Int64 × Int32 × Int32 × Int64 × Int64 × Int32 × Int32)) : Prop := S_TR_scan_J116 t0_0 t0_1 t0_2 t0_3 t0_4 t0_5 t0_6 t0_7 t0_8 t0_9 t0_10 t0_11 t0_12 t0_13 t1_0 t2_0 p75 y31 y32 y33 y34 y35 y36 y37 y38 y39 y40 y41 y42 y43 y44 lx102 lx116 lx133 lx134 lx135 lx136 lx137 lx138 lx139 lx140 lx141 lx142 lx143 lx144 lx145 lx146 lx147 lx148 (p289.1 : Int32) (p289.2.1 : Int32) (p289.2.2.1 : Int32) (p289.2.2.2.1 : Int32) (p289.2.2.2.2.1 : Int32) (p289.2.2.2.2.2.1 : Int32) (p289.2.2.2.2.2.2.1 : Int32) (p289.2.2.2.2.2.2.2.1 : Int64) (p289.2.2.2.2.2.2.2.2.1 : Int32) (p289.2.2.2.2.2.2.2.2.2.1 : Int32) (p289.2.2.2.2.2.2.2.2.2.2.1 : Int64) (p289.2.2.2.2.2.2.2.2.2.2.2.1 : Int64) (p289.2.2.2.2.2.2.2.2.2.2.2.2.1 : Int32) (p289.2.2.2.2.2.2.2.2.2.2.2.2.2 : Int32)
def S_TR_scan_J108 (t0_0 : Int32) (t0_1 : Int32) (t0_2 : Int32) (t0_3 : Int32) (t0_4 : Int32) (t0_5 : Int32) (t0_6 : Int32) (t0_7 : Int64) (t0_8 : Int32) (t0_9 : Int32) (t0_10 : Int64) (t0_11 : Int64) (t0_12 : Int32) (t0_13 : Int32) (t1_0 : (Nat → Int32)) (t2_0 : (Nat → Int32)) (p75 : (Int32 × Int32 × Int32 × Int32 × Int32 × Int32 × Int32 × Int64 × Int32 × Int32 × Int64 × Int64 × Int32 × Int32)) (y31 : Int32) (y32 : Int32) (y33 : Int32) (y34 : Int32) (y35 : Int32) (y36 : Int32) (y37 : Int32) (y38 : Int64) (y39 : Int32) (y40 : Int32) (y41 : Int64) (y42 : Int64) (y43 : Int32) (y44 : Int32) (lx102 : Int32) (lx116 : Int32) (lx133 : Int32) (lx134 : Int32) (lx135 : Int32) (lx136 : Int32) (lx137 : Int32) (lx138 : Int32) (lx139 : Int32) (lx140 : Int32) (lx141 : Int64) (lx142 : Int32) (lx143 : Int32) (lx144 : Int64) (lx145 : Int64) (lx146 : Int32) (lx147 : Int32) (lx148 : (Nat → Int32)) : Prop := if lx133 = (0 : Int32) then (S_TR_scan_J116 t0_0 t0_1 t0_2 t0_3 t0_4 t0_5 t0_6 t0_7 t0_8 t0_9 t0_10 t0_11 t0_12 t0_13 t1_0 t2_0 p75 y31 y32 y33 y34 y35 y36 y37 y38 y39 y40 y41 y42 y43 y44 lx102 lx116 lx133 lx134 lx135 lx136 lx137 lx138 lx139 lx140 lx141 lx142 lx143 lx144 lx145 lx146 lx147 lx148 lx134 lx135 lx136 lx137 lx138 lx139 lx140 lx141 lx142 lx143 lx144 lx145 lx146 lx147) else ((True ∧ S_TR_blanks lx134 lx135 lx136 lx137 lx138 lx139 lx140 lx141 lx142 lx143 lx144 lx145 lx146 lx147 t1_0) ∧ (S_TR_scan_c113 t0_0 t0_1 t0_2 t0_3 t0_4 t0_5 t0_6 t0_7 t0_8 t0_9 t0_10 t0_11 t0_12 t0_13 t1_0 t2_0 p75 y31 y32 y33 y34 y35 y36 y37 y38 y39 y40 y41 y42 y43 y44 lx102 lx116 lx133 lx134 lx135 lx136 lx137 lx138 lx139 lx140 lx141 lx142 lx143 lx144 lx145 lx146 lx147 lx148 ((F_TR_blanks lx134 lx135 lx136 lx137 lx138 lx139 lx140 lx141 lx142 lx143 lx144 lx145 lx146 lx147 t1_0) : (Int32 × Int32 × Int32 × Int32 × Int32 × Int32 × Int32 × Int64 × Int32 × Int32 × Int64 × Int64 × Int32 × Int32))))
def S_TR_scan_c104 (t0_0 : Int32) (t0_1 : Int32) (t0_2 : Int32) (t0_3 : Int32) (t0_4 : Int32) (t0_5 : Int32) (t0_6 : Int32) (t0_7 : Int64) (t0_8 : Int32) (t0_9 : Int32) (t0_10 : Int64) (t0_11 : Int64) (t0_12 : Int32) (t0_13 : Int32) (t1_0 : (Nat → Int32)) (t2_0 : (Nat → Int32)) (p75 : (Int32 × Int32 × Int32 × Int32 × Int32 × Int32 × Int32 × Int64 × Int32 × Int32 × Int64 × Int64 × Int32 × Int32)) (y31 : Int32) (y32 : Int32) (y33 : Int32) (y34 : Int32) (y35 : Int32) (y36 : Int32) (y37 : Int32) (y38 : Int64) (y39 : Int32) (y40 : Int32) (y41 : Int64) (y42 : Int64) (y43 : Int32) (y44 : Int32) (lx102 : Int32) (lx116 : Int32) (p369 : (Int32 × Int32 × Int32 × Int32 × Int32 × Int32 × Int32 × Int32 × Int64 × Int32 × Int32 × Int64 × Int64 × Int32 × Int32 × (Nat → Int32))) : Prop := S_TR_scan_J108 t0_0 t0_1 t0_2 t0_3 t0_4 t0_5 t0_6 t0_7 t0_8 t0_9 t0_10 t0_11 t0_12 t0_13 t1_0 t2_0 p75 y31 y32 y33 y34 y35 y36 y37 y38 y39 y40 y41 y42 y43 y44 lx102 lx116 (p369.1 : Int32) (p369.2.1 : Int32) (p369.2.2.1 : Int32) (p369.2.2.2.1 : Int32) (p369.2.2.2.2.1 : Int32) (p369.2.2.2.2.2.1 : Int32) (p369.2.2.2.2.2.2.1 : Int32) (p369.2.2.2.2.2.2.2.1 : Int32) (p369.2.2.2.2.2.2.2.2.1 : Int64) (p369.2.2.2.2.2.2.2.2.2.1 : Int32) (p369.2.2.2.2.2.2.2.2.2.2.1 : Int32) (p369.2.2.2.2.2.2.2.2.2.2.2.1 : Int64) (p369.2.2.2.2.2.2.2.2.2.2.2.2.1 : Int64) (p369.2.2.2.2.2.2.2.2.2.2.2.2.2.1 : Int32) (p369.2.2.2.2.2.2.2.2.2.2.2.2.2.2.1 : Int32) (p369.2.2.2.2.2.2.2.2.2.2.2.2.2.2.2 : (Nat → Int32))
def S_TR_scan_c96 (t0_0 : Int32) (t0_1 : Int32) (t0_2 : Int32) (t0_3 : Int32) (t0_4 : Int32) (t0_5 : Int32) (t0_6 : Int32) (t0_7 : Int64) (t0_8 : Int32) (t0_9 : Int32) (t0_10 : Int64) (t0_11 : Int64) (t0_12 : Int32) (t0_13 : Int32) (t1_0 : (Nat → Int32)) (t2_0 : (Nat → Int32)) (p75 : (Int32 × Int32 × Int32 × Int32 × Int32 × Int32 × Int32 × Int64 × Int32 × Int32 × Int64 × Int64 × Int32 × Int32)) (y31 : Int32) (y32 : Int32) (y33 : Int32) (y34 : Int32) (y35 : Int32) (y36 : Int32) (y37 : Int32) (y38 : Int64) (y39 : Int32) (y40 : Int32) (y41 : Int64) (y42 : Int64) (y43 : Int32) (y44 : Int32) (lx102 : Int32) (lx116 : Int32) (p444 : (Int32 × Int32 × Int32 × Int32 × Int32 × Int32 × Int32 × Int32 × Int64 × Int32 × Int32 × Int64 × Int64 × Int32 × Int32)) : Prop := S_TR_scan_J108 t0_0 t0_1 t0_2 t0_3 t0_4 t0_5 t0_6 t0_7 t0_8 t0_9 t0_10 t0_11 t0_12 t0_13 t1_0 t2_0 p75 y31 y32 y33 y34 y35 y36 y37 y38 y39 y40 y41 y42 y43 y44 lx102 lx116 (p444.1 : Int32) (p444.2.1 : Int32) (p444.2.2.1 : Int32) (p444.2.2.2.1 : Int32) (p444.2.2.2.2.1 : Int32) (p444.2.2.2.2.2.1 : Int32) (p444.2.2.2.2.2.2.1 : Int32) (p444.2.2.2.2.2.2.2.1 : Int32) (p444.2.2.2.2.2.2.2.2.1 : Int64) (p444.2.2.2.2.2.2.2.2.2.1 : Int32) (p444.2.2.2.2.2.2.2.2.2.2.1 : Int32) (p444.2.2.2.2.2.2.2.2.2.2.2.1 : Int64) (p444.2.2.2.2.2.2.2.2.2.2.2.2.1 : Int64) (p444.2.2.2.2.2.2.2.2.2.2.2.2.2.1 : Int32) (p444.2.2.2.2.2.2.2.2.2.2.2.2.2.2 : Int32) t2_0
def S_TR_scan_c71 (t0_0 : Int32) (t0_1 : Int32) (t0_2 : Int32) (t0_3 : Int32) (t0_4 : Int32) (t0_5 : Int32) (t0_6 : Int32) (t0_7 : Int64) (t0_8 : Int32) (t0_9 : Int32) (t0_10 : Int64) (t0_11 : Int64) (t0_12 : Int32) (t0_13 : Int32) (t1_0 : (Nat → Int32)) (t2_0 : (Nat → Int32)) (p75 : (Int32 × Int32 × Int32 × Int32 × Int32 × Int32 × Int32 × Int64 × Int32 × Int32 × Int64 × Int64 × Int32 × Int32)) (y31 : Int32) (y32 : Int32) (y33 : Int32) (y34 : Int32) (y35 : Int32) (y36 : Int32) (y37 : Int32) (y38 : Int64) (y39 : Int32) (y40 : Int32) (y41 : Int64) (y42 : Int64) (y43 : Int32) (y44 : Int32) (lx102 : Int32) (lx116 : Int32) (p518 : (Int32 × Int32 × Int32 × Int32 × Int32 × Int32 × Int32 × Int32 × Int64 × Int32 × Int32 × Int64 × Int64 × Int32 × Int32)) : Prop := S_TR_scan_J108 t0_0 t0_1 t0_2 t0_3 t0_4 t0_5 t0_6 t0_7 t0_8 t0_9 t0_10 t0_11 t0_12 t0_13 t1_0 t2_0 p75 y31 y32 y33 y34 y35 y36 y37 y38 y39 y40 y41 y42 y43 y44 lx102 lx116 (p518.1 : Int32) (p518.2.1 : Int32) (p518.2.2.1 : Int32) (p518.2.2.2.1 : Int32) (p518.2.2.2.2.1 : Int32) (p518.2.2.2.2.2.1 : Int32) (p518.2.2.2.2.2.2.1 : Int32) (p518.2.2.2.2.2.2.2.1 : Int32) (p518.2.2.2.2.2.2.2.2.1 : Int64) (p518.2.2.2.2.2.2.2.2.2.1 : Int32) (p518.2.2.2.2.2.2.2.2.2.2.1 : Int32) (p518.2.2.2.2.2.2.2.2.2.2.2.1 : Int64) (p518.2.2.2.2.2.2.2.2.2.2.2.2.1 : Int64) (p518.2.2.2.2.2.2.2.2.2.2.2.2.2.1 : Int32) (p518.2.2.2.2.2.2.2.2.2.2.2.2.2.2 : Int32) t2_0
def S_TR_scan_J53 (t0_0 : Int32) (t0_1 : Int32) (t0_2 : Int32) (t0_3 : Int32) (t0_4 : Int32) (t0_5 : Int32) (t0_6 : Int32) (t0_7 : Int64) (t0_8 : Int32) (t0_9 : Int32) (t0_10 : Int64) (t0_11 : Int64) (t0_12 : Int32) (t0_13 : Int32) (t1_0 : (Nat → Int32)) (t2_0 : (Nat → Int32)) (p75 : (Int32 × Int32 × Int32 × Int32 × Int32 × Int32 × Int32 × Int64 × Int32 × Int32 × Int64 × Int64 × Int32 × Int32)) (y31 : Int32) (y32 : Int32) (y33 : Int32) (y34 : Int32) (y35 : Int32) (y36 : Int32) (y37 : Int32) (y38 : Int64) (y39 : Int32) (y40 : Int32) (y41 : Int64) (y42 : Int64) (y43 : Int32) (y44 : Int32) (lx102 : Int32) (lx116 : Int32) : Prop := (True ∧ S_TR_here y31 y32 y33 lx116 lx102 y36 y37 y38 y39 y40 y41 y42 y43 y44 t1_0) ∧ (if ((F_TR_here y31 y32 y33 lx116 lx102 y36 y37 y38 y39 y40 y41 y42 y43 y44 t1_0) : Int32) = (78 : Int32) then ((True ∧ S_TR_spells (5136718 : Int64) y31 y32 (3 : Int32) lx116 lx102 y36 y37 y38 y39 y40 y41 y42 y43 y44 t1_0) ∧ (S_TR_scan_c71 t0_0 t0_1 t0_2 t0_3 t0_4 t0_5 t0_6 t0_7 t0_8 t0_9 t0_10 t0_11 t0_12 t0_13 t1_0 t2_0 p75 y31 y32 y33 y34 y35 y36 y37 y38 y39 y40 y41 y42 y43 y44 lx102 lx116 ((F_TR_spells (5136718 : Int64) y31 y32 (3 : Int32) lx116 lx102 y36 y37 y38 y39 y40 y41 y42 y43 y44 t1_0) : (Int32 × Int32 × Int32 × Int32 × Int32 × Int32 × Int32 × Int32 × Int64 × Int32 × Int32 × Int64 × Int64 × Int32 × Int32)))) else ((True ∧ S_TR_here y31 y32 y33 lx116 lx102 y36 y37 y38 y39 y40 y41 y42 y43 y44 t1_0) ∧ (if ((F_TR_here y31 y32 y33 lx116 lx102 y36 y37 y38 y39 y40 y41 y42 y43 y44 t1_0) : Int32) = (73 : Int32) then ((True ∧ S_TR_spells (8751735898823355977 : Int64) y31 y32 (2 : Int32) lx116 lx102 y36 y37 y38 y39 y40 y41 y42 y43 y44 t1_0) ∧ (S_TR_scan_c96 t0_0 t0_1 t0_2 t0_3 t0_4 t0_5 t0_6 t0_7 t0_8 t0_9 t0_10 t0_11 t0_12 t0_13 t1_0 t2_0 p75 y31 y32 y33 y34 y35 y36 y37 y38 y39 y40 y41 y42 y43 y44 lx102 lx116 ((F_TR_spells (8751735898823355977 : Int64) y31 y32 (2 : Int32) lx116 lx102 y36 y37 y38 y39 y40 y41 y42 y43 y44 t1_0) : (Int32 × Int32 × Int32 × Int32 × Int32 × Int32 × Int32 × Int32 × Int64 × Int32 × Int32 × Int64 × Int64 × Int32 × Int32)))) else ((True ∧ S_TR_number y31 y32 y33 lx116 lx102 y36 y37 y38 y39 y40 y41 y42 y43 y44 t1_0 t2_0) ∧ (S_TR_scan_c104 t0_0 t0_1 t0_2 t0_3 t0_4 t0_5 t0_6 t0_7 t0_8 t0_9 t0_10 t0_11 t0_12 t0_13 t1_0 t2_0 p75 y31 y32 y33 y34 y35 y36 y37 y38 y39 y40 y41 y42 y43 y44 lx102 lx116 ((F_TR_number y31 y32 y33 lx116 lx102 y36 y37 y38 y39 y40 y41 y42 y43 y44 t1_0 t2_0) : (Int32 × Int32 × Int32 × Int32 × Int32 × Int32 × Int32 × Int32 × Int64 × Int32 × Int32 × Int64 × Int64 × Int32 × Int32 × (Nat → Int32))))))))
def S_TR_scan_J43 (t0_0 : Int32) (t0_1 : Int32) (t0_2 : Int32) (t0_3 : Int32) (t0_4 : Int32) (t0_5 : Int32) (t0_6 : Int32) (t0_7 : Int64) (t0_8 : Int32) (t0_9 : Int32) (t0_10 : Int64) (t0_11 : Int64) (t0_12 : Int32) (t0_13 : Int32) (t1_0 : (Nat → Int32)) (t2_0 : (Nat → Int32)) (p75 : (Int32 × Int32 × Int32 × Int32 × Int32 × Int32 × Int32 × Int64 × Int32 × Int32 × Int64 × Int64 × Int32 × Int32)) (y31 : Int32) (y32 : Int32) (y33 : Int32) (y34 : Int32) (y35 : Int32) (y36 : Int32) (y37 : Int32) (y38 : Int64) (y39 : Int32) (y40 : Int32) (y41 : Int64) (y42 : Int64) (y43 : Int32) (y44 : Int32) (lx102 : Int32) : Prop := S_TR_scan_J53 t0_0 t0_1 t0_2 t0_3 t0_4 t0_5 t0_6 t0_7 t0_8 t0_9 t0_10 t0_11 t0_12 t0_13 t1_0 t2_0 p75 y31 y32 y33 y34 y35 y36 y37 y38 y39 y40 y41 y42 y43 y44 lx102 (y34 + 1 : Int32)
def S_TR_scan_J24 (t0_0 : Int32) (t0_1 : Int32) (t0_2 : Int32) (t0_3 : Int32) (t0_4 : Int32) (t0_5 : Int32) (t0_6 : Int32) (t0_7 : Int64) (t0_8 : Int32) (t0_9 : Int32) (t0_10 : Int64) (t0_11 : Int64) (t0_12 : Int32) (t0_13 : Int32) (t1_0 : (Nat → Int32)) (t2_0 : (Nat → Int32)) (p75 : (Int32 × Int32 × Int32 × Int32 × Int32 × Int32 × Int32 × Int64 × Int32 × Int32 × Int64 × Int64 × Int32 × Int32)) (y31 : Int32) (y32 : Int32) (y33 : Int32) (y34 : Int32) (y35 : Int32) (y36 : Int32) (y37 : Int32) (y38 : Int64) (y39 : Int32) (y40 : Int32) (y41 : Int64) (y42 : Int64) (y43 : Int32) (y44 : Int32) (lx102 : Int32) : Prop := if lx102 = (0 : Int32) then ((True ∧ S_TR_here y31 y32 y33 y34 lx102 y36 y37 y38 y39 y40 y41 y42 y43 y44 t1_0) ∧ (if ((F_TR_here y31 y32 y33 y34 lx102 y36 y37 y38 y39 y40 y41 y42 y43 y44 t1_0) : Int32) = (43 : Int32) then (S_TR_scan_J43 t0_0 t0_1 t0_2 t0_3 t0_4 t0_5 t0_6 t0_7 t0_8 t0_9 t0_10 t0_11 t0_12 t0_13 t1_0 t2_0 p75 y31 y32 y33 y34 y35 y36 y37 y38 y39 y40 y41 y42 y43 y44 lx102) else (S_TR_scan_J53 t0_0 t0_1 t0_2 t0_3 t0_4 t0_5 t0_6 t0_7 t0_8 t0_9 t0_10 t0_11 t0_12 t0_13 t1_0 t2_0 p75 y31 y32 y33 y34 y35 y36 y37 y38 y39 y40 y41 y42 y43 y44 lx102 y34))) else (S_TR_scan_J43 t0_0 t0_1 t0_2 t0_3 t0_4 t0_5 t0_6 t0_7 t0_8 t0_9 t0_10 t0_11 t0_12 t0_13 t1_0 t2_0 p75 y31 y32 y33 y34 y35 y36 y37 y38 y39 y40 y41 y42 y43 y44 lx102)
def S_TR_scan_c6 (t0_0 : Int32) (t0_1 : Int32) (t0_2 : Int32) (t0_3 : Int32) (t0_4 : Int32) (t0_5 : Int32) (t0_6 : Int32) (t0_7 : Int64) (t0_8 : Int32) (t0_9 : Int32) (t0_10 : Int64) (t0_11 : Int64) (t0_12 : Int32) (t0_13 : Int32) (t1_0 : (Nat → Int32)) (t2_0 : (Nat → Int32)) (p75 : (Int32 × Int32 × Int32 × Int32 × Int32 × Int32 × Int32 × Int64 × Int32 × Int32 × Int64 × Int64 × Int32 × Int32)) : Prop := (True ∧ S_TR_here (p75.1 : Int32) (p75.2.1 : Int32) (p75.2.2.1 : Int32) (p75.2.2.2.1 : Int32) (p75.2.2.2.2.1 : Int32) (p75.2.2.2.2.2.1 : Int32) (p75.2.2.2.2.2.2.1 : Int32) (p75.2.2.2.2.2.2.2.1 : Int64) (p75.2.2.2.2.2.2.2.2.1 : Int32) (p75.2.2.2.2.2.2.2.2.2.1 : Int32) (p75.2.2.2.2.2.2.2.2.2.2.1 : Int64) (p75.2.2.2.2.2.2.2.2.2.2.2.1 : Int64) (p75.2.2.2.2.2.2.2.2.2.2.2.2.1 : Int32) (p75.2.2.2.2.2.2.2.2.2.2.2.2.2 : Int32) t1_0) ∧ (if ((F_TR_here (p75.1 : Int32) (p75.2.1 : Int32) (p75.2.2.1 : Int32) (p75.2.2.2.1 : Int32) (p75.2.2.2.2.1 : Int32) (p75.2.2.2.2.2.1 : Int32) (p75.2.2.2.2.2.2.1 : Int32) (p75.2.2.2.2.2.2.2.1 : Int64) (p75.2.2.2.2.2.2.2.2.1 : Int32) (p75.2.2.2.2.2.2.2.2.2.1 : Int32) (p75.2.2.2.2.2.2.2.2.2.2.1 : Int64) (p75.2.2.2.2.2.2.2.2.2.2.2.1 : Int64) (p75.2.2.2.2.2.2.2.2.2.2.2.2.1 : Int32) (p75.2.2.2.2.2.2.2.2.2.2.2.2.2 : Int32) t1_0) : Int32) = (45 : Int32) then (S_TR_scan_J24 t0_0 t0_1 t0_2 t0_3 t0_4 t0_5 t0_6 t0_7 t0_8 t0_9 t0_10 t0_11 t0_12 t0_13 t1_0 t2_0 p75 (p75.1 : Int32) (p75.2.1 : Int32) (p75.2.2.1 : Int32) (p75.2.2.2.1 : Int32) (p75.2.2.2.2.1 : Int32) (p75.2.2.2.2.2.1 : Int32) (p75.2.2.2.2.2.2.1 : Int32) (p75.2.2.2.2.2.2.2.1 : Int64) (p75.2.2.2.2.2.2.2.2.1 : Int32) (p75.2.2.2.2.2.2.2.2.2.1 : Int32) (p75.2.2.2.2.2.2.2.2.2.2.1 : Int64) (p75.2.2.2.2.2.2.2.2.2.2.2.1 : Int64) (p75.2.2.2.2.2.2.2.2.2.2.2.2.1 : Int32) (p75.2.2.2.2.2.2.2.2.2.2.2.2.2 : Int32) 1) else (S_TR_scan_J24 t0_0 t0_1 t0_2 t0_3 t0_4 t0_5 t0_6 t0_7 t0_8 t0_9 t0_10 t0_11 t0_12 t0_13 t1_0 t2_0 p75 (p75.1 : Int32) (p75.2.1 : Int32) (p75.2.2.1 : Int32) (p75.2.2.2.1 : Int32) (p75.2.2.2.2.1 : Int32) (p75.2.2.2.2.2.1 : Int32) (p75.2.2.2.2.2.2.1 : Int32) (p75.2.2.2.2.2.2.2.1 : Int64) (p75.2.2.2.2.2.2.2.2.1 : Int32) (p75.2.2.2.2.2.2.2.2.2.1 : Int32) (p75.2.2.2.2.2.2.2.2.2.2.1 : Int64) (p75.2.2.2.2.2.2.2.2.2.2.2.1 : Int64) (p75.2.2.2.2.2.2.2.2.2.2.2.2.1 : Int32) (p75.2.2.2.2.2.2.2.2.2.2.2.2.2 : Int32) 0))
def S_TR_scan (t0_0 : Int32) (t0_1 : Int32) (t0_2 : Int32) (t0_3 : Int32) (t0_4 : Int32) (t0_5 : Int32) (t0_6 : Int32) (t0_7 : Int64) (t0_8 : Int32) (t0_9 : Int32) (t0_10 : Int64) (t0_11 : Int64) (t0_12 : Int32) (t0_13 : Int32) (t1_0 : (Nat → Int32)) (t2_0 : (Nat → Int32)) : Prop := (True ∧ S_TR_blanks t0_0 t0_1 t0_2 (0 : Int32) t0_4 t0_5 t0_6 t0_7 t0_8 t0_9 t0_10 t0_11 t0_12 t0_13 t1_0) ∧ (S_TR_scan_c6 t0_0 t0_1 t0_2 t0_3 t0_4 t0_5 t0_6 t0_7 t0_8 t0_9 t0_10 t0_11 t0_12 t0_13 t1_0 t2_0 ((F_TR_blanks t0_0 t0_1 t0_2 (0 : Int32) t0_4 t0_5 t0_6 t0_7 t0_8 t0_9 t0_10 t0_11 t0_12 t0_13 t1_0) : (Int32 × Int32 × Int32 × Int32 × Int32 × Int32 × Int32 × Int64 × Int32 × Int32 × Int64 × Int64 × Int32 × Int32)))
set_option maxRecDepth 100000 in
set_option maxHeartbeats 4000000 in
theorem X_TR_scan (l : Launch) (D : va_G) (g : Nat → ClassId) (q : Nat → Nat) (ws : va_W) (hI : q_I (msh g q) q ws) (t0_0 : Int32) (t0_1 : Int32) (t0_2 : Int32) (t0_3 : Int32) (t0_4 : Int32) (t0_5 : Int32) (t0_6 : Int32) (t0_7 : Int64) (t0_8 : Int32) (t0_9 : Int32) (t0_10 : Int64) (t0_11 : Int64) (t0_12 : Int32) (t0_13 : Int32) (hT0 : ws[153]? = (some (q 153, .inr (16, [.int t0_0, .ref (q 154), .int t0_1, .int t0_2, .int t0_3, .int t0_4, .ref (q 155), .int t0_5, .int t0_6, .long t0_7, .ref (q 156), .int t0_8, .int t0_9, .long t0_10, .long t0_11, .int t0_12, .int t0_13])) : Option (Nat × va_E))) (t1_0 : (Nat → Int32)) (hT1 : ws[154]? = (some (q 154, .inl (g 0, (4100 : Int32).toNatClampNeg, .inl t1_0)) : Option (Nat × va_E))) (t2_0 : (Nat → Int32)) (hT2 : ws[155]? = (some (q 155, .inl (g 0, (4100 : Int32).toNatClampNeg, .inl t2_0)) : Option (Nat × va_E))) (hS : True ∧ S_TR_scan t0_0 t0_1 t0_2 t0_3 t0_4 t0_5 t0_6 t0_7 t0_8 t0_9 t0_10 t0_11 t0_12 t0_13 t1_0 t2_0) : q_mI l y_TR_scan prog_18_method_16_code 2 (.boolean) 5 0 0 D g [.ref (q 153)] ws (fun r u => q_I (msh g q) q u ∧ q_un ws u [153, 155] ∧ ∃ (u0_0 : Int32) (u0_1 : Int32) (u0_2 : Int32) (u0_3 : Int32) (u0_4 : Int32) (u0_5 : Int32) (u0_6 : Int32) (u0_7 : Int64) (u0_8 : Int32) (u0_9 : Int32) (u0_10 : Int64) (u0_11 : Int64) (u0_12 : Int32) (u0_13 : Int32) (u2_0 : (Nat → Int32)), u[153]? = (some (q 153, .inr (16, [.int u0_0, .ref (q 154), .int u0_1, .int u0_2, .int u0_3, .int u0_4, .ref (q 155), .int u0_5, .int u0_6, .long u0_7, .ref (q 156), .int u0_8, .int u0_9, .long u0_10, .long u0_11, .int u0_12, .int u0_13])) : Option (Nat × va_E)) ∧ u[155]? = (some (q 155, .inl (g 0, (4100 : Int32).toNatClampNeg, .inl u2_0)) : Option (Nat × va_E)) ∧ (0 ≤ r.toInt) ∧ (r.toInt ≤ 1) ∧ (0 ≤ u0_2.toInt) ∧ (u0_2.toInt ≤ 3) ∧ (0 ≤ u0_4.toInt) ∧ (u0_4.toInt ≤ 1) ∧ (t0_0.toInt ≤ u0_0.toInt) ∧ (u0_0.toInt ≤ t0_0.toInt) ∧ (t0_1.toInt ≤ u0_1.toInt) ∧ (u0_1.toInt ≤ t0_1.toInt) ∧ (t0_8.toInt ≤ u0_8.toInt) ∧ (u0_8.toInt ≤ t0_8.toInt) ∧ (t0_9.toInt ≤ u0_9.toInt) ∧ (u0_9.toInt ≤ t0_9.toInt) ∧ (t0_10.toInt ≤ u0_10.toInt) ∧ (u0_10.toInt ≤ t0_10.toInt) ∧ (t0_11.toInt ≤ u0_11.toInt) ∧ (u0_11.toInt ≤ t0_11.toInt) ∧ (t0_12.toInt ≤ u0_12.toInt) ∧ (u0_12.toInt ≤ t0_12.toInt) ∧ (t0_13.toInt ≤ u0_13.toInt) ∧ (u0_13.toInt ≤ t0_13.toInt) ∧ (r, u0_0, u0_1, u0_2, u0_3, u0_4, u0_5, u0_6, u0_7, u0_8, u0_9, u0_10, u0_11, u0_12, u0_13, u2_0) = (F_TR_scan t0_0 t0_1 t0_2 t0_3 t0_4 t0_5 t0_6 t0_7 t0_8 t0_9 t0_10 t0_11 t0_12 t0_13 t1_0 t2_0)) := by
  intro sz
  refine q_into (by decide) (Nat.le_of_ble_eq_true rfl) ?_
  intro p e s m below meth c ls hsz C0 V hl
  have hx := C0.1
  have hb := C0.2.1
  obtain ⟨btt0_1, hZ9⟩ := n_w153 hI hT0
  obtain ⟨btt0_4, btt0_13⟩ := hZ9
  replace btt0_1 : q_F (0 ≤ t0_1.toInt ∧ t0_1.toInt ≤ 4100) := btt0_1
  replace btt0_4 : q_F (0 ≤ t0_4.toInt ∧ t0_4.toInt ≤ 1) := btt0_4
  replace btt0_13 : q_F (0 ≤ t0_13.toInt ∧ t0_13.toInt ≤ 1) := btt0_13
  have hF : q_un ws ws [153, 155] := q_u0
  have hl : lv_has ls 2 [(0, .ref (q 153))] := hl
  refine lv_aload_n hx hb d_18_16_0 rfl (lv_at hl 0 rfl) ?_
  refine lv_iconst (v := 0) hx hb d_18_16_1 (by decide) ?_
  refine q_put (ci := 16) (j := 4) (v := .int 0) (ty := .int) C0 V i_TR o_TR n_TR rfl rfl hT0 (by decide) w_2144 rfl rfl rfl rfl (Nat.le_of_ble_eq_true rfl) d_18_16_2 (fun H locs w25 hu26 hT0 V => ?_)
  replace hT0 : w25[153]? = (some (q 153, .inr (16, [.int t0_0, .ref (q 154), .int t0_1, .int t0_2, .int 0, .int t0_4, .ref (q 155), .int t0_5, .int t0_6, .long t0_7, .ref (q 156), .int t0_8, .int t0_9, .long t0_10, .long t0_11, .int t0_12, .int t0_13])) : Option (Nat × va_E)) := hT0
  replace hI := n_p153 hI hu26 hT0 (by first | with_reducible exact q_fe btt0_1 | exact ⟨(by have t1 : 0 ≤ t0_1.toInt ∧ t0_1.toInt ≤ 4100 := btt0_1; omega), (by have t1 : 0 ≤ t0_1.toInt ∧ t0_1.toInt ≤ 4100 := btt0_1; omega)⟩) (by first | with_reducible exact q_fe btt0_4 | exact ⟨(by have t1 : 0 ≤ t0_4.toInt ∧ t0_4.toInt ≤ 1 := btt0_4; omega), (by have t1 : 0 ≤ t0_4.toInt ∧ t0_4.toInt ≤ 1 := btt0_4; omega)⟩) (by first | with_reducible exact q_fe btt0_13 | exact ⟨(by have t1 : 0 ≤ t0_13.toInt ∧ t0_13.toInt ≤ 1 := btt0_13; omega), (by have t1 : 0 ≤ t0_13.toInt ∧ t0_13.toInt ≤ 1 := btt0_13; omega)⟩)
  replace hT1 := (hu26 _ (by decide)).trans hT1
  replace hT2 := (hu26 _ (by decide)).trans hT2
  replace hF := q_us hF hu26 (by simp)
  refine lv_aload_n hx hb d_18_16_5 rfl (lv_at hl 0 rfl) ?_
  have ob27 : True ∧ S_TR_blanks t0_0 t0_1 t0_2 (0 : Int32) t0_4 t0_5 t0_6 t0_7 t0_8 t0_9 t0_10 t0_11 t0_12 t0_13 t1_0 := (by have h := hS; rw [S_TR_scan.eq_1] at h; with_reducible exact h.2.1)
  refine q_gov V (q_runV (As := []) (rest := []) (d := 1) (mc := 0) (ms := 0) (ci := 16) C0 V rfl LV_TR_74 (X_TR_blanks l D g q w25   hI t0_0 t0_1 t0_2 0 t0_4 t0_5 t0_6 t0_7 t0_8 t0_9 t0_10 t0_11 t0_12 t0_13 hT0 t1_0 hT1 ob27 _) rfl rfl hT0 rfl hl.1 rfl (Nat.le_of_ble_eq_true rfl) ⟨by decide, by decide⟩ ⟨Nat.le_of_ble_eq_true rfl, Nat.le_of_ble_eq_true rfl⟩ d_18_16_6) (fun u28 H locs hp29 V => ?_)
  obtain ⟨hI, hZ9⟩ := hp29
  obtain ⟨hu74, hZ9⟩ := hZ9
  obtain ⟨y31, hZ9⟩ := hZ9
  obtain ⟨y32, hZ9⟩ := hZ9
  obtain ⟨y33, hZ9⟩ := hZ9
  obtain ⟨y34, hZ9⟩ := hZ9
  obtain ⟨y35, hZ9⟩ := hZ9
  obtain ⟨y36, hZ9⟩ := hZ9
  obtain ⟨y37, hZ9⟩ := hZ9
  obtain ⟨y38, hZ9⟩ := hZ9
  obtain ⟨y39, hZ9⟩ := hZ9
  obtain ⟨y40, hZ9⟩ := hZ9
  obtain ⟨y41, hZ9⟩ := hZ9
  obtain ⟨y42, hZ9⟩ := hZ9
  obtain ⟨y43, hZ9⟩ := hZ9
  obtain ⟨y44, hZ9⟩ := hZ9
  obtain ⟨hO30, hZ9⟩ := hZ9
  replace hZ9 := hZ9.2
  obtain ⟨b46, hZ9⟩ := hZ9
  obtain ⟨b47, hZ9⟩ := hZ9
  obtain ⟨b48, hZ9⟩ := hZ9
  obtain ⟨b49, hZ9⟩ := hZ9
  replace hZ9 := hZ9.2.2.2.2.2.2.2.2.2.2.2
  obtain ⟨b61, hZ9⟩ := hZ9
  obtain ⟨b62, hZ9⟩ := hZ9
  obtain ⟨b63, hZ9⟩ := hZ9
  obtain ⟨b64, hZ9⟩ := hZ9
  obtain ⟨b65, hZ9⟩ := hZ9
  obtain ⟨b66, hZ9⟩ := hZ9
  obtain ⟨b67, hZ9⟩ := hZ9
  obtain ⟨b68, hZ9⟩ := hZ9
  obtain ⟨b69, hZ9⟩ := hZ9
  obtain ⟨b70, hZ9⟩ := hZ9
  obtain ⟨b71, hZ9⟩ := hZ9
  obtain ⟨b72, hE73⟩ := hZ9
  replace hO30 : u28[153]? = (some (q 153, .inr (16, [.int y31, .ref (q 154), .int y32, .int y33, .int y34, .int y35, .ref (q 155), .int y36, .int y37, .long y38, .ref (q 156), .int y39, .int y40, .long y41, .long y42, .int y43, .int y44])) : Option (Nat × va_E)) := hO30
  obtain ⟨p75, e76⟩ : ∃ z, z = (F_TR_blanks t0_0 t0_1 t0_2 (0 : Int32) t0_4 t0_5 t0_6 t0_7 t0_8 t0_9 t0_10 t0_11 t0_12 t0_13 t1_0) := ⟨_, rfl⟩
  have e77 : y31 = p75.1 := congrArg (fun z => z.1) (hE73.trans e76.symm)
  have e78 : y32 = p75.2.1 := congrArg (fun z => z.2.1) (hE73.trans e76.symm)
  have e79 : y33 = p75.2.2.1 := congrArg (fun z => z.2.2.1) (hE73.trans e76.symm)
  have e80 : y34 = p75.2.2.2.1 := congrArg (fun z => z.2.2.2.1) (hE73.trans e76.symm)
  have e81 : y35 = p75.2.2.2.2.1 := congrArg (fun z => z.2.2.2.2.1) (hE73.trans e76.symm)
  have e82 : y36 = p75.2.2.2.2.2.1 := congrArg (fun z => z.2.2.2.2.2.1) (hE73.trans e76.symm)
  have e83 : y37 = p75.2.2.2.2.2.2.1 := congrArg (fun z => z.2.2.2.2.2.2.1) (hE73.trans e76.symm)
  have e84 : y38 = p75.2.2.2.2.2.2.2.1 := congrArg (fun z => z.2.2.2.2.2.2.2.1) (hE73.trans e76.symm)
  have e85 : y39 = p75.2.2.2.2.2.2.2.2.1 := congrArg (fun z => z.2.2.2.2.2.2.2.2.1) (hE73.trans e76.symm)
  have e86 : y40 = p75.2.2.2.2.2.2.2.2.2.1 := congrArg (fun z => z.2.2.2.2.2.2.2.2.2.1) (hE73.trans e76.symm)
  have e87 : y41 = p75.2.2.2.2.2.2.2.2.2.2.1 := congrArg (fun z => z.2.2.2.2.2.2.2.2.2.2.1) (hE73.trans e76.symm)
  have e88 : y42 = p75.2.2.2.2.2.2.2.2.2.2.2.1 := congrArg (fun z => z.2.2.2.2.2.2.2.2.2.2.2.1) (hE73.trans e76.symm)
  have e89 : y43 = p75.2.2.2.2.2.2.2.2.2.2.2.2.1 := congrArg (fun z => z.2.2.2.2.2.2.2.2.2.2.2.2.1) (hE73.trans e76.symm)
  have e90 : y44 = p75.2.2.2.2.2.2.2.2.2.2.2.2.2 := congrArg (fun z => z.2.2.2.2.2.2.2.2.2.2.2.2.2) (hE73.trans e76.symm)
  replace b46 : q_F (t0_0.toInt ≤ y31.toInt) := b46
  replace b47 : q_F (y31.toInt ≤ t0_0.toInt) := b47
  replace b48 : q_F (t0_1.toInt ≤ y32.toInt) := b48
  replace b49 : q_F (y32.toInt ≤ t0_1.toInt) := b49
  replace b61 : q_F (t0_8.toInt ≤ y39.toInt) := b61
  replace b62 : q_F (y39.toInt ≤ t0_8.toInt) := b62
  replace b63 : q_F (t0_9.toInt ≤ y40.toInt) := b63
  replace b64 : q_F (y40.toInt ≤ t0_9.toInt) := b64
  replace b65 : q_F (t0_10.toInt ≤ y41.toInt) := b65
  replace b66 : q_F (y41.toInt ≤ t0_10.toInt) := b66
  replace b67 : q_F (t0_11.toInt ≤ y42.toInt) := b67
  replace b68 : q_F (y42.toInt ≤ t0_11.toInt) := b68
  replace b69 : q_F (t0_12.toInt ≤ y43.toInt) := b69
  replace b70 : q_F (y43.toInt ≤ t0_12.toInt) := b70
  replace b71 : q_F (t0_13.toInt ≤ y44.toInt) := b71
  replace b72 : q_F (y44.toInt ≤ t0_13.toInt) := b72
  replace hT1 := (hu74 _ (by decide)).trans hT1
  replace hT2 := (hu74 _ (by decide)).trans hT2
  replace hF := q_uc hF hu74 (by simp)
  have hR91 := (show F_TR_scan_c6 t0_0 t0_1 t0_2 t0_3 t0_4 t0_5 t0_6 t0_7 t0_8 t0_9 t0_10 t0_11 t0_12 t0_13 t1_0 t2_0 p75 = (F_TR_scan t0_0 t0_1 t0_2 t0_3 t0_4 t0_5 t0_6 t0_7 t0_8 t0_9 t0_10 t0_11 t0_12 t0_13 t1_0 t2_0) from (by rw [e76, F_TR_scan.eq_1]))
  have hS92 := (show True ∧ S_TR_scan_c6 t0_0 t0_1 t0_2 t0_3 t0_4 t0_5 t0_6 t0_7 t0_8 t0_9 t0_10 t0_11 t0_12 t0_13 t1_0 t2_0 p75 from (by rw [e76]; have h := hS; rw [S_TR_scan.eq_1] at h; replace h := q_s2 h; with_reducible exact h))
  refine lv_aload_n hx hb d_18_16_9 rfl (lv_at hl 0 rfl) ?_
  refine lv_aload_n hx hb d_18_16_10 rfl (lv_at hl 0 rfl) ?_
  have ob96 : True ∧ S_TR_here y31 y32 y33 y34 y35 y36 y37 y38 y39 y40 y41 y42 y43 y44 t1_0 := (by rw [e90, e89, e88, e87, e86, e85, e84, e83, e82, e81, e80, e79, e78, e77]; have h := hS92; rw [S_TR_scan_c6.eq_1] at h; with_reducible exact h.2.1)
  refine q_goi V (q_runV (As := []) (rest := [.ref (q 153)]) (d := 1) (mc := 0) (ms := 0) (ci := 16) C0 V rfl LV_TR_35 (X_TR_here l D g q u28   hI y31 y32 y33 y34 y35 y36 y37 y38 y39 y40 y41 y42 y43 y44 hO30 t1_0 hT1 ob96 _) rfl rfl hO30 rfl hl.1 rfl (Nat.le_of_ble_eq_true rfl) ⟨by decide, by decide⟩ ⟨Nat.le_of_ble_eq_true rfl, Nat.le_of_ble_eq_true rfl⟩ d_18_16_11) (fun a99 u97 H locs hp98 V => ?_)
  obtain ⟨rfl, hE100⟩ := hp98
  have e101 : a99 = (F_TR_here y31 y32 y33 y34 y35 y36 y37 y38 y39 y40 y41 y42 y43 y44 t1_0) := hE100
  refine lv_bipush (v := 45) hx hb d_18_16_14 (by decide) ?_
  refine q_join (X := Int32) (fun z H locs ls _ => q_F (0 ≤ z.toInt) ∧ q_F (z.toInt ≤ 1) ∧ q_Wd D g (va_A ws sz) s u28 H locs ∧ lv_has ls 2 [(0, .ref (q 153))] ∧ F_TR_scan_J24 t0_0 t0_1 t0_2 t0_3 t0_4 t0_5 t0_6 t0_7 t0_8 t0_9 t0_10 t0_11 t0_12 t0_13 t1_0 t2_0 p75 y31 y32 y33 y34 y35 y36 y37 y38 y39 y40 y41 y42 y43 y44 z = (F_TR_scan t0_0 t0_1 t0_2 t0_3 t0_4 t0_5 t0_6 t0_7 t0_8 t0_9 t0_10 t0_11 t0_12 t0_13 t1_0 t2_0) ∧ True ∧ S_TR_scan_J24 t0_0 t0_1 t0_2 t0_3 t0_4 t0_5 t0_6 t0_7 t0_8 t0_9 t0_10 t0_11 t0_12 t0_13 t1_0 t2_0 p75 y31 y32 y33 y34 y35 y36 y37 y38 y39 y40 y41 y42 y43 y44 z) (fun z => [.int z, .ref (q 153)]) 24 0 0 ?_ ?_
  ·
    rintro lx102 H locs ls _ hZ9
    obtain ⟨i107, hZ9⟩ := hZ9
    obtain ⟨i108, hZ9⟩ := hZ9
    obtain ⟨V, hZ9⟩ := hZ9
    obtain ⟨hl, hZ9⟩ := hZ9
    obtain ⟨hR109, hS110⟩ := hZ9
    replace i107 : q_F (0 ≤ lx102.toInt) := i107
    replace i108 : q_F (lx102.toInt ≤ 1) := i108
    replace hl : lv_has ls 2 [(0, .ref (q 153))] := hl
    refine q_put (ci := 16) (j := 5) (v := .int lx102) (ty := .boolean) C0 V i_TR o_TR n_TR rfl rfl hO30 (by decide) w_2145 rfl rfl (q_nz01 (q_Ile (x := 0) (y := lx102.toInt) (by decide) rfl (by first | with_reducible exact q_fe i107 | (have t1 : 0 ≤ lx102.toInt := i107; omega))) (q_Ile (x := lx102.toInt) (y := 1) rfl (by decide) (by first | with_reducible exact q_fe i108 | (have t1 : lx102.toInt ≤ 1 := i108; omega)))) (q_fz01 (q_Ile (x := 0) (y := lx102.toInt) (by decide) rfl (by first | with_reducible exact q_fe i107 | (have t1 : 0 ≤ lx102.toInt := i107; omega))) (q_Ile (x := lx102.toInt) (y := 1) rfl (by decide) (by first | with_reducible exact q_fe i108 | (have t1 : lx102.toInt ≤ 1 := i108; omega)))) (Nat.le_of_ble_eq_true rfl) d_18_16_24 (fun H locs w114 hu115 hO30 V => ?_)
    replace hO30 : w114[153]? = (some (q 153, .inr (16, [.int y31, .ref (q 154), .int y32, .int y33, .int y34, .int lx102, .ref (q 155), .int y36, .int y37, .long y38, .ref (q 156), .int y39, .int y40, .long y41, .long y42, .int y43, .int y44])) : Option (Nat × va_E)) := hO30
    replace hI := n_p153 hI hu115 hO30 ⟨(by have t1 : 0 ≤ t0_1.toInt ∧ t0_1.toInt ≤ 4100 := btt0_1; have t2 : t0_1.toInt ≤ y32.toInt := b48; omega), (by have t1 : 0 ≤ t0_1.toInt ∧ t0_1.toInt ≤ 4100 := btt0_1; have t2 : y32.toInt ≤ t0_1.toInt := b49; omega)⟩ ⟨(by first | with_reducible exact q_fe i107 | (have t1 : 0 ≤ lx102.toInt := i107; omega)), (by first | with_reducible exact q_fe i108 | (have t1 : lx102.toInt ≤ 1 := i108; omega))⟩ ⟨(by have t1 : 0 ≤ t0_13.toInt ∧ t0_13.toInt ≤ 1 := btt0_13; have t2 : t0_13.toInt ≤ y44.toInt := b71; omega), (by have t1 : 0 ≤ t0_13.toInt ∧ t0_13.toInt ≤ 1 := btt0_13; have t2 : y44.toInt ≤ t0_13.toInt := b72; omega)⟩
    replace hT1 := (hu115 _ (by decide)).trans hT1
    replace hT2 := (hu115 _ (by decide)).trans hT2
    replace hF := q_us hF hu115 (by simp)
    refine lv_aload_n hx hb d_18_16_27 rfl (lv_at hl 0 rfl) ?_
    refine q_get (ci := 16) (j := 5) (v := .int lx102) C0 V i_TR rfl rfl hO30 (by decide) w_2145 rfl d_18_16_28 ?_
    refine q_join (X := Int32) (fun z H locs ls w121 => q_Wd D g (va_A ws sz) s w121 H locs ∧ lv_has ls 2 [(0, .ref (q 153))] ∧ q_I (msh g q) q w121 ∧ q_un ws w121 [153, 155] ∧ w121[153]? = (some (q 153, .inr (16, [.int y31, .ref (q 154), .int y32, .int y33, .int z, .int lx102, .ref (q 155), .int y36, .int y37, .long y38, .ref (q 156), .int y39, .int y40, .long y41, .long y42, .int y43, .int y44])) : Option (Nat × va_E)) ∧ w121[154]? = (some (q 154, .inl (g 0, (4100 : Int32).toNatClampNeg, .inl t1_0)) : Option (Nat × va_E)) ∧ w121[155]? = (some (q 155, .inl (g 0, (4100 : Int32).toNatClampNeg, .inl t2_0)) : Option (Nat × va_E)) ∧ F_TR_scan_J53 t0_0 t0_1 t0_2 t0_3 t0_4 t0_5 t0_6 t0_7 t0_8 t0_9 t0_10 t0_11 t0_12 t0_13 t1_0 t2_0 p75 y31 y32 y33 y34 y35 y36 y37 y38 y39 y40 y41 y42 y43 y44 lx102 z = (F_TR_scan t0_0 t0_1 t0_2 t0_3 t0_4 t0_5 t0_6 t0_7 t0_8 t0_9 t0_10 t0_11 t0_12 t0_13 t1_0 t2_0) ∧ True ∧ S_TR_scan_J53 t0_0 t0_1 t0_2 t0_3 t0_4 t0_5 t0_6 t0_7 t0_8 t0_9 t0_10 t0_11 t0_12 t0_13 t1_0 t2_0 p75 y31 y32 y33 y34 y35 y36 y37 y38 y39 y40 y41 y42 y43 y44 lx102 z) (fun z => []) 53 0 0 ?_ ?_
    ·
      rintro lx116 H locs ls w121 hZ9
      obtain ⟨V, hZ9⟩ := hZ9
      obtain ⟨hl, hZ9⟩ := hZ9
      obtain ⟨hI, hZ9⟩ := hZ9
      obtain ⟨hF, hZ9⟩ := hZ9
      obtain ⟨hO117, hZ9⟩ := hZ9
      obtain ⟨hA118, hZ9⟩ := hZ9
      obtain ⟨hA119, hZ9⟩ := hZ9
      obtain ⟨hR122, hS123⟩ := hZ9
      replace hl : lv_has ls 2 [(0, .ref (q 153))] := hl
      replace hO117 : w121[153]? = (some (q 153, .inr (16, [.int y31, .ref (q 154), .int y32, .int y33, .int lx116, .int lx102, .ref (q 155), .int y36, .int y37, .long y38, .ref (q 156), .int y39, .int y40, .long y41, .long y42, .int y43, .int y44])) : Option (Nat × va_E)) := hO117
      replace hA118 : w121[154]? = (some (q 154, .inl (g 0, (4100 : Int32).toNatClampNeg, .inl t1_0)) : Option (Nat × va_E)) := hA118
      replace hA119 : w121[155]? = (some (q 155, .inl (g 0, (4100 : Int32).toNatClampNeg, .inl t2_0)) : Option (Nat × va_E)) := hA119
      refine lv_aload_n hx hb d_18_16_53 rfl (lv_at hl 0 rfl) ?_
      have ob127 : True ∧ S_TR_here y31 y32 y33 lx116 lx102 y36 y37 y38 y39 y40 y41 y42 y43 y44 t1_0 := (by have h := hS123; rw [S_TR_scan_J53.eq_1] at h; with_reducible exact h.2.1)
      refine q_goi V (q_runV (As := []) (rest := []) (d := 1) (mc := 0) (ms := 0) (ci := 16) C0 V rfl LV_TR_35 (X_TR_here l D g q w121   hI y31 y32 y33 lx116 lx102 y36 y37 y38 y39 y40 y41 y42 y43 y44 hO117 t1_0 hA118 ob127 _) rfl rfl hO117 rfl hl.1 rfl (Nat.le_of_ble_eq_true rfl) ⟨by decide, by decide⟩ ⟨Nat.le_of_ble_eq_true rfl, Nat.le_of_ble_eq_true rfl⟩ d_18_16_54) (fun a130 u128 H locs hp129 V => ?_)
      obtain ⟨rfl, hE131⟩ := hp129
      have e132 : a130 = (F_TR_here y31 y32 y33 lx116 lx102 y36 y37 y38 y39 y40 y41 y42 y43 y44 t1_0) := hE131
      refine lv_bipush (v := 78) hx hb d_18_16_57 (by decide) ?_
      refine q_join (X := Int32 × Int32 × Int32 × Int32 × Int32 × Int32 × Int32 × Int32 × Int64 × Int32 × Int32 × Int64 × Int64 × Int32 × Int32 × (Nat → Int32)) (fun z H locs ls w175 => q_F (0 ≤ z.1.toInt) ∧ q_F (z.1.toInt ≤ 1) ∧ q_F (0 ≤ z.2.2.2.1.toInt) ∧ q_F (z.2.2.2.1.toInt ≤ 3) ∧ q_F (y31.toInt ≤ z.2.1.toInt) ∧ q_F (z.2.1.toInt ≤ y31.toInt) ∧ q_F (y32.toInt ≤ z.2.2.1.toInt) ∧ q_F (z.2.2.1.toInt ≤ y32.toInt) ∧ q_F (lx102.toInt ≤ z.2.2.2.2.2.1.toInt) ∧ q_F (z.2.2.2.2.2.1.toInt ≤ lx102.toInt) ∧ q_F (y39.toInt ≤ z.2.2.2.2.2.2.2.2.2.1.toInt) ∧ q_F (z.2.2.2.2.2.2.2.2.2.1.toInt ≤ y39.toInt) ∧ q_F (y40.toInt ≤ z.2.2.2.2.2.2.2.2.2.2.1.toInt) ∧ q_F (z.2.2.2.2.2.2.2.2.2.2.1.toInt ≤ y40.toInt) ∧ q_F (y41.toInt ≤ z.2.2.2.2.2.2.2.2.2.2.2.1.toInt) ∧ q_F (z.2.2.2.2.2.2.2.2.2.2.2.1.toInt ≤ y41.toInt) ∧ q_F (y42.toInt ≤ z.2.2.2.2.2.2.2.2.2.2.2.2.1.toInt) ∧ q_F (z.2.2.2.2.2.2.2.2.2.2.2.2.1.toInt ≤ y42.toInt) ∧ q_F (y43.toInt ≤ z.2.2.2.2.2.2.2.2.2.2.2.2.2.1.toInt) ∧ q_F (z.2.2.2.2.2.2.2.2.2.2.2.2.2.1.toInt ≤ y43.toInt) ∧ q_F (y44.toInt ≤ z.2.2.2.2.2.2.2.2.2.2.2.2.2.2.1.toInt) ∧ q_F (z.2.2.2.2.2.2.2.2.2.2.2.2.2.2.1.toInt ≤ y44.toInt) ∧ q_Wd D g (va_A ws sz) s w175 H locs ∧ lv_has ls 2 [(1, .int z.1), (0, .ref (q 153))] ∧ q_I (msh g q) q w175 ∧ q_un ws w175 [153, 155] ∧ w175[153]? = (some (q 153, .inr (16, [.int z.2.1, .ref (q 154), .int z.2.2.1, .int z.2.2.2.1, .int z.2.2.2.2.1, .int z.2.2.2.2.2.1, .ref (q 155), .int z.2.2.2.2.2.2.1, .int z.2.2.2.2.2.2.2.1, .long z.2.2.2.2.2.2.2.2.1, .ref (q 156), .int z.2.2.2.2.2.2.2.2.2.1, .int z.2.2.2.2.2.2.2.2.2.2.1, .long z.2.2.2.2.2.2.2.2.2.2.2.1, .long z.2.2.2.2.2.2.2.2.2.2.2.2.1, .int z.2.2.2.2.2.2.2.2.2.2.2.2.2.1, .int z.2.2.2.2.2.2.2.2.2.2.2.2.2.2.1])) : Option (Nat × va_E)) ∧ w175[154]? = (some (q 154, .inl (g 0, (4100 : Int32).toNatClampNeg, .inl t1_0)) : Option (Nat × va_E)) ∧ w175[155]? = (some (q 155, .inl (g 0, (4100 : Int32).toNatClampNeg, .inl z.2.2.2.2.2.2.2.2.2.2.2.2.2.2.2)) : Option (Nat × va_E)) ∧ F_TR_scan_J108 t0_0 t0_1 t0_2 t0_3 t0_4 t0_5 t0_6 t0_7 t0_8 t0_9 t0_10 t0_11 t0_12 t0_13 t1_0 t2_0 p75 y31 y32 y33 y34 y35 y36 y37 y38 y39 y40 y41 y42 y43 y44 lx102 lx116 z.1 z.2.1 z.2.2.1 z.2.2.2.1 z.2.2.2.2.1 z.2.2.2.2.2.1 z.2.2.2.2.2.2.1 z.2.2.2.2.2.2.2.1 z.2.2.2.2.2.2.2.2.1 z.2.2.2.2.2.2.2.2.2.1 z.2.2.2.2.2.2.2.2.2.2.1 z.2.2.2.2.2.2.2.2.2.2.2.1 z.2.2.2.2.2.2.2.2.2.2.2.2.1 z.2.2.2.2.2.2.2.2.2.2.2.2.2.1 z.2.2.2.2.2.2.2.2.2.2.2.2.2.2.1 z.2.2.2.2.2.2.2.2.2.2.2.2.2.2.2 = (F_TR_scan t0_0 t0_1 t0_2 t0_3 t0_4 t0_5 t0_6 t0_7 t0_8 t0_9 t0_10 t0_11 t0_12 t0_13 t1_0 t2_0) ∧ True ∧ S_TR_scan_J108 t0_0 t0_1 t0_2 t0_3 t0_4 t0_5 t0_6 t0_7 t0_8 t0_9 t0_10 t0_11 t0_12 t0_13 t1_0 t2_0 p75 y31 y32 y33 y34 y35 y36 y37 y38 y39 y40 y41 y42 y43 y44 lx102 lx116 z.1 z.2.1 z.2.2.1 z.2.2.2.1 z.2.2.2.2.1 z.2.2.2.2.2.1 z.2.2.2.2.2.2.1 z.2.2.2.2.2.2.2.1 z.2.2.2.2.2.2.2.2.1 z.2.2.2.2.2.2.2.2.2.1 z.2.2.2.2.2.2.2.2.2.2.1 z.2.2.2.2.2.2.2.2.2.2.2.1 z.2.2.2.2.2.2.2.2.2.2.2.2.1 z.2.2.2.2.2.2.2.2.2.2.2.2.2.1 z.2.2.2.2.2.2.2.2.2.2.2.2.2.2.1 z.2.2.2.2.2.2.2.2.2.2.2.2.2.2.2) (fun z => []) 108 0 0 ?_ ?_
      ·
        rintro ⟨lx133, lx134, lx135, lx136, lx137, lx138, lx139, lx140, lx141, lx142, lx143, lx144, lx145, lx146, lx147, lx148⟩ H locs ls w175 ⟨i153, i154, i155, i156, i157, i158, i159, i160, i161, i162, i163, i164, i165, i166, i167, i168, i169, i170, i171, i172, i173, i174, V, hl, hI, hF, hO149, hA150, hA151, hR176, hS177⟩
        clear i153
        clear i154
        replace i155 : q_F (0 ≤ lx136.toInt) := i155
        replace i156 : q_F (lx136.toInt ≤ 3) := i156
        replace i157 : q_F (y31.toInt ≤ lx134.toInt) := i157
        replace i158 : q_F (lx134.toInt ≤ y31.toInt) := i158
        replace i159 : q_F (y32.toInt ≤ lx135.toInt) := i159
        replace i160 : q_F (lx135.toInt ≤ y32.toInt) := i160
        replace i161 : q_F (lx102.toInt ≤ lx138.toInt) := i161
        replace i162 : q_F (lx138.toInt ≤ lx102.toInt) := i162
        replace i163 : q_F (y39.toInt ≤ lx142.toInt) := i163
        replace i164 : q_F (lx142.toInt ≤ y39.toInt) := i164
        replace i165 : q_F (y40.toInt ≤ lx143.toInt) := i165
        replace i166 : q_F (lx143.toInt ≤ y40.toInt) := i166
        replace i167 : q_F (y41.toInt ≤ lx144.toInt) := i167
        replace i168 : q_F (lx144.toInt ≤ y41.toInt) := i168
        replace i169 : q_F (y42.toInt ≤ lx145.toInt) := i169
        replace i170 : q_F (lx145.toInt ≤ y42.toInt) := i170
        replace i171 : q_F (y43.toInt ≤ lx146.toInt) := i171
        replace i172 : q_F (lx146.toInt ≤ y43.toInt) := i172
        replace i173 : q_F (y44.toInt ≤ lx147.toInt) := i173
        replace i174 : q_F (lx147.toInt ≤ y44.toInt) := i174
        replace hl : lv_has ls 2 [(1, .int lx133), (0, .ref (q 153))] := hl
        replace hO149 : w175[153]? = (some (q 153, .inr (16, [.int lx134, .ref (q 154), .int lx135, .int lx136, .int lx137, .int lx138, .ref (q 155), .int lx139, .int lx140, .long lx141, .ref (q 156), .int lx142, .int lx143, .long lx144, .long lx145, .int lx146, .int lx147])) : Option (Nat × va_E)) := hO149
        replace hA150 : w175[154]? = (some (q 154, .inl (g 0, (4100 : Int32).toNatClampNeg, .inl t1_0)) : Option (Nat × va_E)) := hA150
        replace hA151 : w175[155]? = (some (q 155, .inl (g 0, (4100 : Int32).toNatClampNeg, .inl lx148)) : Option (Nat × va_E)) := hA151
        refine lv_iload_n hx hb d_18_16_108 rfl (lv_at hl 0 rfl) ?_
        refine q_join (X := Int32 × Int32 × Int32 × Int32 × Int32 × Int32 × Int32 × Int64 × Int32 × Int32 × Int64 × Int64 × Int32 × Int32) (fun z H locs ls w226 => q_F (lx134.toInt ≤ z.1.toInt) ∧ q_F (z.1.toInt ≤ lx134.toInt) ∧ q_F (lx135.toInt ≤ z.2.1.toInt) ∧ q_F (z.2.1.toInt ≤ lx135.toInt) ∧ q_F (lx136.toInt ≤ z.2.2.1.toInt) ∧ q_F (z.2.2.1.toInt ≤ lx136.toInt) ∧ q_F (lx137.toInt ≤ z.2.2.2.1.toInt) ∧ q_F (lx138.toInt ≤ z.2.2.2.2.1.toInt) ∧ q_F (z.2.2.2.2.1.toInt ≤ lx138.toInt) ∧ q_F (lx139.toInt ≤ z.2.2.2.2.2.1.toInt) ∧ q_F (z.2.2.2.2.2.1.toInt ≤ lx139.toInt) ∧ q_F (lx140.toInt ≤ z.2.2.2.2.2.2.1.toInt) ∧ q_F (z.2.2.2.2.2.2.1.toInt ≤ lx140.toInt) ∧ q_F (lx141.toInt ≤ z.2.2.2.2.2.2.2.1.toInt) ∧ q_F (z.2.2.2.2.2.2.2.1.toInt ≤ lx141.toInt) ∧ q_F (lx142.toInt ≤ z.2.2.2.2.2.2.2.2.1.toInt) ∧ q_F (z.2.2.2.2.2.2.2.2.1.toInt ≤ lx142.toInt) ∧ q_F (lx143.toInt ≤ z.2.2.2.2.2.2.2.2.2.1.toInt) ∧ q_F (z.2.2.2.2.2.2.2.2.2.1.toInt ≤ lx143.toInt) ∧ q_F (lx144.toInt ≤ z.2.2.2.2.2.2.2.2.2.2.1.toInt) ∧ q_F (z.2.2.2.2.2.2.2.2.2.2.1.toInt ≤ lx144.toInt) ∧ q_F (lx145.toInt ≤ z.2.2.2.2.2.2.2.2.2.2.2.1.toInt) ∧ q_F (z.2.2.2.2.2.2.2.2.2.2.2.1.toInt ≤ lx145.toInt) ∧ q_F (lx146.toInt ≤ z.2.2.2.2.2.2.2.2.2.2.2.2.1.toInt) ∧ q_F (z.2.2.2.2.2.2.2.2.2.2.2.2.1.toInt ≤ lx146.toInt) ∧ q_F (lx147.toInt ≤ z.2.2.2.2.2.2.2.2.2.2.2.2.2.toInt) ∧ q_F (z.2.2.2.2.2.2.2.2.2.2.2.2.2.toInt ≤ lx147.toInt) ∧ q_Wd D g (va_A ws sz) s w226 H locs ∧ lv_has ls 2 [(1, .int lx133), (0, .ref (q 153))] ∧ q_I (msh g q) q w226 ∧ q_un ws w226 [153, 155] ∧ w226[153]? = (some (q 153, .inr (16, [.int z.1, .ref (q 154), .int z.2.1, .int z.2.2.1, .int z.2.2.2.1, .int z.2.2.2.2.1, .ref (q 155), .int z.2.2.2.2.2.1, .int z.2.2.2.2.2.2.1, .long z.2.2.2.2.2.2.2.1, .ref (q 156), .int z.2.2.2.2.2.2.2.2.1, .int z.2.2.2.2.2.2.2.2.2.1, .long z.2.2.2.2.2.2.2.2.2.2.1, .long z.2.2.2.2.2.2.2.2.2.2.2.1, .int z.2.2.2.2.2.2.2.2.2.2.2.2.1, .int z.2.2.2.2.2.2.2.2.2.2.2.2.2])) : Option (Nat × va_E)) ∧ w226[154]? = (some (q 154, .inl (g 0, (4100 : Int32).toNatClampNeg, .inl t1_0)) : Option (Nat × va_E)) ∧ w226[155]? = (some (q 155, .inl (g 0, (4100 : Int32).toNatClampNeg, .inl lx148)) : Option (Nat × va_E)) ∧ F_TR_scan_J116 t0_0 t0_1 t0_2 t0_3 t0_4 t0_5 t0_6 t0_7 t0_8 t0_9 t0_10 t0_11 t0_12 t0_13 t1_0 t2_0 p75 y31 y32 y33 y34 y35 y36 y37 y38 y39 y40 y41 y42 y43 y44 lx102 lx116 lx133 lx134 lx135 lx136 lx137 lx138 lx139 lx140 lx141 lx142 lx143 lx144 lx145 lx146 lx147 lx148 z.1 z.2.1 z.2.2.1 z.2.2.2.1 z.2.2.2.2.1 z.2.2.2.2.2.1 z.2.2.2.2.2.2.1 z.2.2.2.2.2.2.2.1 z.2.2.2.2.2.2.2.2.1 z.2.2.2.2.2.2.2.2.2.1 z.2.2.2.2.2.2.2.2.2.2.1 z.2.2.2.2.2.2.2.2.2.2.2.1 z.2.2.2.2.2.2.2.2.2.2.2.2.1 z.2.2.2.2.2.2.2.2.2.2.2.2.2 = (F_TR_scan t0_0 t0_1 t0_2 t0_3 t0_4 t0_5 t0_6 t0_7 t0_8 t0_9 t0_10 t0_11 t0_12 t0_13 t1_0 t2_0) ∧ True ∧ S_TR_scan_J116 t0_0 t0_1 t0_2 t0_3 t0_4 t0_5 t0_6 t0_7 t0_8 t0_9 t0_10 t0_11 t0_12 t0_13 t1_0 t2_0 p75 y31 y32 y33 y34 y35 y36 y37 y38 y39 y40 y41 y42 y43 y44 lx102 lx116 lx133 lx134 lx135 lx136 lx137 lx138 lx139 lx140 lx141 lx142 lx143 lx144 lx145 lx146 lx147 lx148 z.1 z.2.1 z.2.2.1 z.2.2.2.1 z.2.2.2.2.1 z.2.2.2.2.2.1 z.2.2.2.2.2.2.1 z.2.2.2.2.2.2.2.1 z.2.2.2.2.2.2.2.2.1 z.2.2.2.2.2.2.2.2.2.1 z.2.2.2.2.2.2.2.2.2.2.1 z.2.2.2.2.2.2.2.2.2.2.2.1 z.2.2.2.2.2.2.2.2.2.2.2.2.1 z.2.2.2.2.2.2.2.2.2.2.2.2.2) (fun z => []) 116 0 0 ?_ ?_
        ·
          rintro ⟨lx181, lx182, lx183, lx184, lx185, lx186, lx187, lx188, lx189, lx190, lx191, lx192, lx193, lx194⟩ H locs ls w226 ⟨i199, i200, i201, i202, i203, i204, i205, i206, i207, i208, i209, i210, i211, i212, i213, i214, i215, i216, i217, i218, i219, i220, i221, i222, i223, i224, i225, V, hl, hI, hF, hO195, hA196, hA197, hR227, hS228⟩
          replace i199 : q_F (lx134.toInt ≤ lx181.toInt) := i199
          replace i200 : q_F (lx181.toInt ≤ lx134.toInt) := i200
          replace i201 : q_F (lx135.toInt ≤ lx182.toInt) := i201
          replace i202 : q_F (lx182.toInt ≤ lx135.toInt) := i202
          replace i203 : q_F (lx136.toInt ≤ lx183.toInt) := i203
          replace i204 : q_F (lx183.toInt ≤ lx136.toInt) := i204
          clear i205
          replace i206 : q_F (lx138.toInt ≤ lx185.toInt) := i206
          replace i207 : q_F (lx185.toInt ≤ lx138.toInt) := i207
          clear i208
          clear i209
          clear i210
          clear i211
          clear i212
          clear i213
          replace i214 : q_F (lx142.toInt ≤ lx189.toInt) := i214
          replace i215 : q_F (lx189.toInt ≤ lx142.toInt) := i215
          replace i216 : q_F (lx143.toInt ≤ lx190.toInt) := i216
          replace i217 : q_F (lx190.toInt ≤ lx143.toInt) := i217
          replace i218 : q_F (lx144.toInt ≤ lx191.toInt) := i218
          replace i219 : q_F (lx191.toInt ≤ lx144.toInt) := i219
          replace i220 : q_F (lx145.toInt ≤ lx192.toInt) := i220
          replace i221 : q_F (lx192.toInt ≤ lx145.toInt) := i221
          replace i222 : q_F (lx146.toInt ≤ lx193.toInt) := i222
          replace i223 : q_F (lx193.toInt ≤ lx146.toInt) := i223
          replace i224 : q_F (lx147.toInt ≤ lx194.toInt) := i224
          replace i225 : q_F (lx194.toInt ≤ lx147.toInt) := i225
          replace hl : lv_has ls 2 [(1, .int lx133), (0, .ref (q 153))] := hl
          replace hO195 : w226[153]? = (some (q 153, .inr (16, [.int lx181, .ref (q 154), .int lx182, .int lx183, .int lx184, .int lx185, .ref (q 155), .int lx186, .int lx187, .long lx188, .ref (q 156), .int lx189, .int lx190, .long lx191, .long lx192, .int lx193, .int lx194])) : Option (Nat × va_E)) := hO195
          replace hA197 : w226[155]? = (some (q 155, .inl (g 0, (4100 : Int32).toNatClampNeg, .inl lx148)) : Option (Nat × va_E)) := hA197
          refine lv_iload_n hx hb d_18_16_116 rfl (lv_at hl 0 rfl) ?_
          refine lv_if_eq (tgt := 135) hx hb d_18_16_117 (by decide) (fun c232 => ?_) (fun c232 => ?_)
          ·
            refine lv_iconst (v := 0) hx hb d_18_16_135 (by decide) ?_
            exact q_retz C0 V (by decide) (⟨hI, hF, lx181, lx182, lx183, lx184, lx185, lx186, lx187, lx188, lx189, lx190, lx191, lx192, lx193, lx194, lx148, hO195, hA197, (show 0 ≤ (0 : Int32).toInt from (by have z16 : (0 : Int32).toInt = 0 := rfl; omega)), (show (0 : Int32).toInt ≤ 1 from (by have z16 : (0 : Int32).toInt = 0 := rfl; omega)), (show 0 ≤ lx183.toInt from (by have z16 : (0 : Int32).toInt = 0 := rfl; have t1 : 0 ≤ lx136.toInt := i155; have t2 : lx136.toInt ≤ lx183.toInt := i203; omega)), (show lx183.toInt ≤ 3 from (by have z16 : (0 : Int32).toInt = 0 := rfl; have t1 : lx136.toInt ≤ 3 := i156; have t2 : lx183.toInt ≤ lx136.toInt := i204; omega)), (show 0 ≤ lx185.toInt from (by have z16 : (0 : Int32).toInt = 0 := rfl; have t1 : 0 ≤ lx102.toInt := i107; have t2 : lx102.toInt ≤ lx138.toInt := i161; have t3 : lx138.toInt ≤ lx185.toInt := i206; omega)), (show lx185.toInt ≤ 1 from (by have z16 : (0 : Int32).toInt = 0 := rfl; have t1 : lx102.toInt ≤ 1 := i108; have t2 : lx138.toInt ≤ lx102.toInt := i162; have t3 : lx185.toInt ≤ lx138.toInt := i207; omega)), (show t0_0.toInt ≤ lx181.toInt from (by have z16 : (0 : Int32).toInt = 0 := rfl; have t1 : t0_0.toInt ≤ y31.toInt := b46; have t2 : y31.toInt ≤ lx134.toInt := i157; have t3 : lx134.toInt ≤ lx181.toInt := i199; omega)), (show lx181.toInt ≤ t0_0.toInt from (by have z16 : (0 : Int32).toInt = 0 := rfl; have t1 : y31.toInt ≤ t0_0.toInt := b47; have t2 : lx134.toInt ≤ y31.toInt := i158; have t3 : lx181.toInt ≤ lx134.toInt := i200; omega)), (show t0_1.toInt ≤ lx182.toInt from (by have z16 : (0 : Int32).toInt = 0 := rfl; have t1 : t0_1.toInt ≤ y32.toInt := b48; have t2 : y32.toInt ≤ lx135.toInt := i159; have t3 : lx135.toInt ≤ lx182.toInt := i201; omega)), (show lx182.toInt ≤ t0_1.toInt from (by have z16 : (0 : Int32).toInt = 0 := rfl; have t1 : y32.toInt ≤ t0_1.toInt := b49; have t2 : lx135.toInt ≤ y32.toInt := i160; have t3 : lx182.toInt ≤ lx135.toInt := i202; omega)), (show t0_8.toInt ≤ lx189.toInt from (by have z16 : (0 : Int32).toInt = 0 := rfl; have t1 : t0_8.toInt ≤ y39.toInt := b61; have t2 : y39.toInt ≤ lx142.toInt := i163; have t3 : lx142.toInt ≤ lx189.toInt := i214; omega)), (show lx189.toInt ≤ t0_8.toInt from (by have z16 : (0 : Int32).toInt = 0 := rfl; have t1 : y39.toInt ≤ t0_8.toInt := b62; have t2 : lx142.toInt ≤ y39.toInt := i164; have t3 : lx189.toInt ≤ lx142.toInt := i215; omega)), (show t0_9.toInt ≤ lx190.toInt from (by have z16 : (0 : Int32).toInt = 0 := rfl; have t1 : t0_9.toInt ≤ y40.toInt := b63; have t2 : y40.toInt ≤ lx143.toInt := i165; have t3 : lx143.toInt ≤ lx190.toInt := i216; omega)), (show lx190.toInt ≤ t0_9.toInt from (by have z16 : (0 : Int32).toInt = 0 := rfl; have t1 : y40.toInt ≤ t0_9.toInt := b64; have t2 : lx143.toInt ≤ y40.toInt := i166; have t3 : lx190.toInt ≤ lx143.toInt := i217; omega)), (show t0_10.toInt ≤ lx191.toInt from (by have z16 : (0 : Int32).toInt = 0 := rfl; have t1 : t0_10.toInt ≤ y41.toInt := b65; have t2 : y41.toInt ≤ lx144.toInt := i167; have t3 : lx144.toInt ≤ lx191.toInt := i218; omega)), (show lx191.toInt ≤ t0_10.toInt from (by have z16 : (0 : Int32).toInt = 0 := rfl; have t1 : y41.toInt ≤ t0_10.toInt := b66; have t2 : lx144.toInt ≤ y41.toInt := i168; have t3 : lx191.toInt ≤ lx144.toInt := i219; omega)), (show t0_11.toInt ≤ lx192.toInt from (by have z16 : (0 : Int32).toInt = 0 := rfl; have t1 : t0_11.toInt ≤ y42.toInt := b67; have t2 : y42.toInt ≤ lx145.toInt := i169; have t3 : lx145.toInt ≤ lx192.toInt := i220; omega)), (show lx192.toInt ≤ t0_11.toInt from (by have z16 : (0 : Int32).toInt = 0 := rfl; have t1 : y42.toInt ≤ t0_11.toInt := b68; have t2 : lx145.toInt ≤ y42.toInt := i170; have t3 : lx192.toInt ≤ lx145.toInt := i221; omega)), (show t0_12.toInt ≤ lx193.toInt from (by have z16 : (0 : Int32).toInt = 0 := rfl; have t1 : t0_12.toInt ≤ y43.toInt := b69; have t2 : y43.toInt ≤ lx146.toInt := i171; have t3 : lx146.toInt ≤ lx193.toInt := i222; omega)), (show lx193.toInt ≤ t0_12.toInt from (by have z16 : (0 : Int32).toInt = 0 := rfl; have t1 : y43.toInt ≤ t0_12.toInt := b70; have t2 : lx146.toInt ≤ y43.toInt := i172; have t3 : lx193.toInt ≤ lx146.toInt := i223; omega)), (show t0_13.toInt ≤ lx194.toInt from (by have z16 : (0 : Int32).toInt = 0 := rfl; have t1 : t0_13.toInt ≤ y44.toInt := b71; have t2 : y44.toInt ≤ lx147.toInt := i173; have t3 : lx147.toInt ≤ lx194.toInt := i224; omega)), (show lx194.toInt ≤ t0_13.toInt from (by have z16 : (0 : Int32).toInt = 0 := rfl; have t1 : y44.toInt ≤ t0_13.toInt := b72; have t2 : lx147.toInt ≤ y44.toInt := i174; have t3 : lx194.toInt ≤ lx147.toInt := i225; omega)), (show ((0 : Int32), lx181, lx182, lx183, lx184, lx185, lx186, lx187, lx188, lx189, lx190, lx191, lx192, lx193, lx194, lx148) = (F_TR_scan t0_0 t0_1 t0_2 t0_3 t0_4 t0_5 t0_6 t0_7 t0_8 t0_9 t0_10 t0_11 t0_12 t0_13 t1_0 t2_0) from Eq.trans (by rw [F_TR_scan_J116.eq_1, if_pos c232]) hR227)⟩) d_18_16_136
          ·
            refine lv_aload_n hx hb d_18_16_120 rfl (lv_at hl 1 rfl) ?_
            refine q_get (ci := 16) (j := 4) (v := .int lx184) C0 V i_TR rfl rfl hO195 (by decide) w_2144 rfl d_18_16_121 ?_
            refine lv_aload_n hx hb d_18_16_124 rfl (lv_at hl 1 rfl) ?_
            refine q_get (ci := 16) (j := 2) (v := .int lx182) C0 V i_TR rfl rfl hO195 (by decide) w_2141 rfl d_18_16_125 ?_
            refine lv_icmp_ne (tgt := 135) hx hb d_18_16_128 (by decide) (fun c235 => ?_) (fun c235 => ?_)
            ·
              refine lv_iconst (v := 0) hx hb d_18_16_135 (by decide) ?_
              exact q_retz C0 V (by decide) (⟨hI, hF, lx181, lx182, lx183, lx184, lx185, lx186, lx187, lx188, lx189, lx190, lx191, lx192, lx193, lx194, lx148, hO195, hA197, (show 0 ≤ (0 : Int32).toInt from (by have z16 : (0 : Int32).toInt = 0 := rfl; omega)), (show (0 : Int32).toInt ≤ 1 from (by have z16 : (0 : Int32).toInt = 0 := rfl; omega)), (show 0 ≤ lx183.toInt from (by have z16 : (0 : Int32).toInt = 0 := rfl; have t1 : 0 ≤ lx136.toInt := i155; have t2 : lx136.toInt ≤ lx183.toInt := i203; omega)), (show lx183.toInt ≤ 3 from (by have z16 : (0 : Int32).toInt = 0 := rfl; have t1 : lx136.toInt ≤ 3 := i156; have t2 : lx183.toInt ≤ lx136.toInt := i204; omega)), (show 0 ≤ lx185.toInt from (by have z16 : (0 : Int32).toInt = 0 := rfl; have t1 : 0 ≤ lx102.toInt := i107; have t2 : lx102.toInt ≤ lx138.toInt := i161; have t3 : lx138.toInt ≤ lx185.toInt := i206; omega)), (show lx185.toInt ≤ 1 from (by have z16 : (0 : Int32).toInt = 0 := rfl; have t1 : lx102.toInt ≤ 1 := i108; have t2 : lx138.toInt ≤ lx102.toInt := i162; have t3 : lx185.toInt ≤ lx138.toInt := i207; omega)), (show t0_0.toInt ≤ lx181.toInt from (by have z16 : (0 : Int32).toInt = 0 := rfl; have t1 : t0_0.toInt ≤ y31.toInt := b46; have t2 : y31.toInt ≤ lx134.toInt := i157; have t3 : lx134.toInt ≤ lx181.toInt := i199; omega)), (show lx181.toInt ≤ t0_0.toInt from (by have z16 : (0 : Int32).toInt = 0 := rfl; have t1 : y31.toInt ≤ t0_0.toInt := b47; have t2 : lx134.toInt ≤ y31.toInt := i158; have t3 : lx181.toInt ≤ lx134.toInt := i200; omega)), (show t0_1.toInt ≤ lx182.toInt from (by have z16 : (0 : Int32).toInt = 0 := rfl; have t1 : t0_1.toInt ≤ y32.toInt := b48; have t2 : y32.toInt ≤ lx135.toInt := i159; have t3 : lx135.toInt ≤ lx182.toInt := i201; omega)), (show lx182.toInt ≤ t0_1.toInt from (by have z16 : (0 : Int32).toInt = 0 := rfl; have t1 : y32.toInt ≤ t0_1.toInt := b49; have t2 : lx135.toInt ≤ y32.toInt := i160; have t3 : lx182.toInt ≤ lx135.toInt := i202; omega)), (show t0_8.toInt ≤ lx189.toInt from (by have z16 : (0 : Int32).toInt = 0 := rfl; have t1 : t0_8.toInt ≤ y39.toInt := b61; have t2 : y39.toInt ≤ lx142.toInt := i163; have t3 : lx142.toInt ≤ lx189.toInt := i214; omega)), (show lx189.toInt ≤ t0_8.toInt from (by have z16 : (0 : Int32).toInt = 0 := rfl; have t1 : y39.toInt ≤ t0_8.toInt := b62; have t2 : lx142.toInt ≤ y39.toInt := i164; have t3 : lx189.toInt ≤ lx142.toInt := i215; omega)), (show t0_9.toInt ≤ lx190.toInt from (by have z16 : (0 : Int32).toInt = 0 := rfl; have t1 : t0_9.toInt ≤ y40.toInt := b63; have t2 : y40.toInt ≤ lx143.toInt := i165; have t3 : lx143.toInt ≤ lx190.toInt := i216; omega)), (show lx190.toInt ≤ t0_9.toInt from (by have z16 : (0 : Int32).toInt = 0 := rfl; have t1 : y40.toInt ≤ t0_9.toInt := b64; have t2 : lx143.toInt ≤ y40.toInt := i166; have t3 : lx190.toInt ≤ lx143.toInt := i217; omega)), (show t0_10.toInt ≤ lx191.toInt from (by have z16 : (0 : Int32).toInt = 0 := rfl; have t1 : t0_10.toInt ≤ y41.toInt := b65; have t2 : y41.toInt ≤ lx144.toInt := i167; have t3 : lx144.toInt ≤ lx191.toInt := i218; omega)), (show lx191.toInt ≤ t0_10.toInt from (by have z16 : (0 : Int32).toInt = 0 := rfl; have t1 : y41.toInt ≤ t0_10.toInt := b66; have t2 : lx144.toInt ≤ y41.toInt := i168; have t3 : lx191.toInt ≤ lx144.toInt := i219; omega)), (show t0_11.toInt ≤ lx192.toInt from (by have z16 : (0 : Int32).toInt = 0 := rfl; have t1 : t0_11.toInt ≤ y42.toInt := b67; have t2 : y42.toInt ≤ lx145.toInt := i169; have t3 : lx145.toInt ≤ lx192.toInt := i220; omega)), (show lx192.toInt ≤ t0_11.toInt from (by have z16 : (0 : Int32).toInt = 0 := rfl; have t1 : y42.toInt ≤ t0_11.toInt := b68; have t2 : lx145.toInt ≤ y42.toInt := i170; have t3 : lx192.toInt ≤ lx145.toInt := i221; omega)), (show t0_12.toInt ≤ lx193.toInt from (by have z16 : (0 : Int32).toInt = 0 := rfl; have t1 : t0_12.toInt ≤ y43.toInt := b69; have t2 : y43.toInt ≤ lx146.toInt := i171; have t3 : lx146.toInt ≤ lx193.toInt := i222; omega)), (show lx193.toInt ≤ t0_12.toInt from (by have z16 : (0 : Int32).toInt = 0 := rfl; have t1 : y43.toInt ≤ t0_12.toInt := b70; have t2 : lx146.toInt ≤ y43.toInt := i172; have t3 : lx193.toInt ≤ lx146.toInt := i223; omega)), (show t0_13.toInt ≤ lx194.toInt from (by have z16 : (0 : Int32).toInt = 0 := rfl; have t1 : t0_13.toInt ≤ y44.toInt := b71; have t2 : y44.toInt ≤ lx147.toInt := i173; have t3 : lx147.toInt ≤ lx194.toInt := i224; omega)), (show lx194.toInt ≤ t0_13.toInt from (by have z16 : (0 : Int32).toInt = 0 := rfl; have t1 : y44.toInt ≤ t0_13.toInt := b72; have t2 : lx147.toInt ≤ y44.toInt := i174; have t3 : lx194.toInt ≤ lx147.toInt := i225; omega)), (show ((0 : Int32), lx181, lx182, lx183, lx184, lx185, lx186, lx187, lx188, lx189, lx190, lx191, lx192, lx193, lx194, lx148) = (F_TR_scan t0_0 t0_1 t0_2 t0_3 t0_4 t0_5 t0_6 t0_7 t0_8 t0_9 t0_10 t0_11 t0_12 t0_13 t1_0 t2_0) from Eq.trans (by rw [F_TR_scan_J116.eq_1, if_neg c232, if_neg c235]) hR227)⟩) d_18_16_136
            ·
              refine lv_iconst (v := 1) hx hb d_18_16_131 (by decide) ?_
              refine lv_goto (tgt := 136) hx hb d_18_16_132 (by decide) ?_
              exact q_retz C0 V (by decide) (⟨hI, hF, lx181, lx182, lx183, lx184, lx185, lx186, lx187, lx188, lx189, lx190, lx191, lx192, lx193, lx194, lx148, hO195, hA197, (show 0 ≤ (1 : Int32).toInt from (by have z16 : (1 : Int32).toInt = 1 := rfl; omega)), (show (1 : Int32).toInt ≤ 1 from (by have z16 : (1 : Int32).toInt = 1 := rfl; omega)), (show 0 ≤ lx183.toInt from (by have z16 : (1 : Int32).toInt = 1 := rfl; have t1 : 0 ≤ lx136.toInt := i155; have t2 : lx136.toInt ≤ lx183.toInt := i203; omega)), (show lx183.toInt ≤ 3 from (by have z16 : (1 : Int32).toInt = 1 := rfl; have t1 : lx136.toInt ≤ 3 := i156; have t2 : lx183.toInt ≤ lx136.toInt := i204; omega)), (show 0 ≤ lx185.toInt from (by have z16 : (1 : Int32).toInt = 1 := rfl; have t1 : 0 ≤ lx102.toInt := i107; have t2 : lx102.toInt ≤ lx138.toInt := i161; have t3 : lx138.toInt ≤ lx185.toInt := i206; omega)), (show lx185.toInt ≤ 1 from (by have z16 : (1 : Int32).toInt = 1 := rfl; have t1 : lx102.toInt ≤ 1 := i108; have t2 : lx138.toInt ≤ lx102.toInt := i162; have t3 : lx185.toInt ≤ lx138.toInt := i207; omega)), (show t0_0.toInt ≤ lx181.toInt from (by have z16 : (1 : Int32).toInt = 1 := rfl; have t1 : t0_0.toInt ≤ y31.toInt := b46; have t2 : y31.toInt ≤ lx134.toInt := i157; have t3 : lx134.toInt ≤ lx181.toInt := i199; omega)), (show lx181.toInt ≤ t0_0.toInt from (by have z16 : (1 : Int32).toInt = 1 := rfl; have t1 : y31.toInt ≤ t0_0.toInt := b47; have t2 : lx134.toInt ≤ y31.toInt := i158; have t3 : lx181.toInt ≤ lx134.toInt := i200; omega)), (show t0_1.toInt ≤ lx182.toInt from (by have z16 : (1 : Int32).toInt = 1 := rfl; have t1 : t0_1.toInt ≤ y32.toInt := b48; have t2 : y32.toInt ≤ lx135.toInt := i159; have t3 : lx135.toInt ≤ lx182.toInt := i201; omega)), (show lx182.toInt ≤ t0_1.toInt from (by have z16 : (1 : Int32).toInt = 1 := rfl; have t1 : y32.toInt ≤ t0_1.toInt := b49; have t2 : lx135.toInt ≤ y32.toInt := i160; have t3 : lx182.toInt ≤ lx135.toInt := i202; omega)), (show t0_8.toInt ≤ lx189.toInt from (by have z16 : (1 : Int32).toInt = 1 := rfl; have t1 : t0_8.toInt ≤ y39.toInt := b61; have t2 : y39.toInt ≤ lx142.toInt := i163; have t3 : lx142.toInt ≤ lx189.toInt := i214; omega)), (show lx189.toInt ≤ t0_8.toInt from (by have z16 : (1 : Int32).toInt = 1 := rfl; have t1 : y39.toInt ≤ t0_8.toInt := b62; have t2 : lx142.toInt ≤ y39.toInt := i164; have t3 : lx189.toInt ≤ lx142.toInt := i215; omega)), (show t0_9.toInt ≤ lx190.toInt from (by have z16 : (1 : Int32).toInt = 1 := rfl; have t1 : t0_9.toInt ≤ y40.toInt := b63; have t2 : y40.toInt ≤ lx143.toInt := i165; have t3 : lx143.toInt ≤ lx190.toInt := i216; omega)), (show lx190.toInt ≤ t0_9.toInt from (by have z16 : (1 : Int32).toInt = 1 := rfl; have t1 : y40.toInt ≤ t0_9.toInt := b64; have t2 : lx143.toInt ≤ y40.toInt := i166; have t3 : lx190.toInt ≤ lx143.toInt := i217; omega)), (show t0_10.toInt ≤ lx191.toInt from (by have z16 : (1 : Int32).toInt = 1 := rfl; have t1 : t0_10.toInt ≤ y41.toInt := b65; have t2 : y41.toInt ≤ lx144.toInt := i167; have t3 : lx144.toInt ≤ lx191.toInt := i218; omega)), (show lx191.toInt ≤ t0_10.toInt from (by have z16 : (1 : Int32).toInt = 1 := rfl; have t1 : y41.toInt ≤ t0_10.toInt := b66; have t2 : lx144.toInt ≤ y41.toInt := i168; have t3 : lx191.toInt ≤ lx144.toInt := i219; omega)), (show t0_11.toInt ≤ lx192.toInt from (by have z16 : (1 : Int32).toInt = 1 := rfl; have t1 : t0_11.toInt ≤ y42.toInt := b67; have t2 : y42.toInt ≤ lx145.toInt := i169; have t3 : lx145.toInt ≤ lx192.toInt := i220; omega)), (show lx192.toInt ≤ t0_11.toInt from (by have z16 : (1 : Int32).toInt = 1 := rfl; have t1 : y42.toInt ≤ t0_11.toInt := b68; have t2 : lx145.toInt ≤ y42.toInt := i170; have t3 : lx192.toInt ≤ lx145.toInt := i221; omega)), (show t0_12.toInt ≤ lx193.toInt from (by have z16 : (1 : Int32).toInt = 1 := rfl; have t1 : t0_12.toInt ≤ y43.toInt := b69; have t2 : y43.toInt ≤ lx146.toInt := i171; have t3 : lx146.toInt ≤ lx193.toInt := i222; omega)), (show lx193.toInt ≤ t0_12.toInt from (by have z16 : (1 : Int32).toInt = 1 := rfl; have t1 : y43.toInt ≤ t0_12.toInt := b70; have t2 : lx146.toInt ≤ y43.toInt := i172; have t3 : lx193.toInt ≤ lx146.toInt := i223; omega)), (show t0_13.toInt ≤ lx194.toInt from (by have z16 : (1 : Int32).toInt = 1 := rfl; have t1 : t0_13.toInt ≤ y44.toInt := b71; have t2 : y44.toInt ≤ lx147.toInt := i173; have t3 : lx147.toInt ≤ lx194.toInt := i224; omega)), (show lx194.toInt ≤ t0_13.toInt from (by have z16 : (1 : Int32).toInt = 1 := rfl; have t1 : y44.toInt ≤ t0_13.toInt := b72; have t2 : lx147.toInt ≤ y44.toInt := i174; have t3 : lx194.toInt ≤ lx147.toInt := i225; omega)), (show ((1 : Int32), lx181, lx182, lx183, lx184, lx185, lx186, lx187, lx188, lx189, lx190, lx191, lx192, lx193, lx194, lx148) = (F_TR_scan t0_0 t0_1 t0_2 t0_3 t0_4 t0_5 t0_6 t0_7 t0_8 t0_9 t0_10 t0_11 t0_12 t0_13 t1_0 t2_0) from Eq.trans (by rw [F_TR_scan_J116.eq_1, if_neg c232, if_pos c235]) hR227)⟩) d_18_16_136
        ·
          intro J198
          refine lv_if_eq (tgt := 116) hx hb d_18_16_109 (by decide) (fun c238 => ?_) (fun c238 => ?_)
          ·
            exact J198 ((lx134 : Int32), (lx135 : Int32), (lx136 : Int32), (lx137 : Int32), (lx138 : Int32), (lx139 : Int32), (lx140 : Int32), (lx141 : Int64), (lx142 : Int32), (lx143 : Int32), (lx144 : Int64), (lx145 : Int64), (lx146 : Int32), (lx147 : Int32)) _ _ _ _ ⟨(show q_F (lx134.toInt ≤ lx134.toInt) from (show lx134.toInt ≤ lx134.toInt from by omega)), (show q_F (lx134.toInt ≤ lx134.toInt) from (show lx134.toInt ≤ lx134.toInt from by omega)), (show q_F (lx135.toInt ≤ lx135.toInt) from (show lx135.toInt ≤ lx135.toInt from by omega)), (show q_F (lx135.toInt ≤ lx135.toInt) from (show lx135.toInt ≤ lx135.toInt from by omega)), (show q_F (lx136.toInt ≤ lx136.toInt) from (show lx136.toInt ≤ lx136.toInt from by omega)), (show q_F (lx136.toInt ≤ lx136.toInt) from (show lx136.toInt ≤ lx136.toInt from by omega)), (show q_F (lx137.toInt ≤ lx137.toInt) from (show lx137.toInt ≤ lx137.toInt from by omega)), (show q_F (lx138.toInt ≤ lx138.toInt) from (show lx138.toInt ≤ lx138.toInt from by omega)), (show q_F (lx138.toInt ≤ lx138.toInt) from (show lx138.toInt ≤ lx138.toInt from by omega)), (show q_F (lx139.toInt ≤ lx139.toInt) from (show lx139.toInt ≤ lx139.toInt from by omega)), (show q_F (lx139.toInt ≤ lx139.toInt) from (show lx139.toInt ≤ lx139.toInt from by omega)), (show q_F (lx140.toInt ≤ lx140.toInt) from (show lx140.toInt ≤ lx140.toInt from by omega)), (show q_F (lx140.toInt ≤ lx140.toInt) from (show lx140.toInt ≤ lx140.toInt from by omega)), (show q_F (lx141.toInt ≤ lx141.toInt) from (show lx141.toInt ≤ lx141.toInt from by omega)), (show q_F (lx141.toInt ≤ lx141.toInt) from (show lx141.toInt ≤ lx141.toInt from by omega)), (show q_F (lx142.toInt ≤ lx142.toInt) from (show lx142.toInt ≤ lx142.toInt from by omega)), (show q_F (lx142.toInt ≤ lx142.toInt) from (show lx142.toInt ≤ lx142.toInt from by omega)), (show q_F (lx143.toInt ≤ lx143.toInt) from (show lx143.toInt ≤ lx143.toInt from by omega)), (show q_F (lx143.toInt ≤ lx143.toInt) from (show lx143.toInt ≤ lx143.toInt from by omega)), (show q_F (lx144.toInt ≤ lx144.toInt) from (show lx144.toInt ≤ lx144.toInt from by omega)), (show q_F (lx144.toInt ≤ lx144.toInt) from (show lx144.toInt ≤ lx144.toInt from by omega)), (show q_F (lx145.toInt ≤ lx145.toInt) from (show lx145.toInt ≤ lx145.toInt from by omega)), (show q_F (lx145.toInt ≤ lx145.toInt) from (show lx145.toInt ≤ lx145.toInt from by omega)), (show q_F (lx146.toInt ≤ lx146.toInt) from (show lx146.toInt ≤ lx146.toInt from by omega)), (show q_F (lx146.toInt ≤ lx146.toInt) from (show lx146.toInt ≤ lx146.toInt from by omega)), (show q_F (lx147.toInt ≤ lx147.toInt) from (show lx147.toInt ≤ lx147.toInt from by omega)), (show q_F (lx147.toInt ≤ lx147.toInt) from (show lx147.toInt ≤ lx147.toInt from by omega)), V, q_lw hl (q_lw1 0 rfl (q_lw1 1 rfl q_lw0)), hI, hF, hO149, hA150, hA151, (show F_TR_scan_J116 t0_0 t0_1 t0_2 t0_3 t0_4 t0_5 t0_6 t0_7 t0_8 t0_9 t0_10 t0_11 t0_12 t0_13 t1_0 t2_0 p75 y31 y32 y33 y34 y35 y36 y37 y38 y39 y40 y41 y42 y43 y44 lx102 lx116 lx133 lx134 lx135 lx136 lx137 lx138 lx139 lx140 lx141 lx142 lx143 lx144 lx145 lx146 lx147 lx148 lx134 lx135 lx136 lx137 lx138 lx139 lx140 lx141 lx142 lx143 lx144 lx145 lx146 lx147 = (F_TR_scan t0_0 t0_1 t0_2 t0_3 t0_4 t0_5 t0_6 t0_7 t0_8 t0_9 t0_10 t0_11 t0_12 t0_13 t1_0 t2_0) from Eq.trans (by rw [F_TR_scan_J108.eq_1, if_pos c238]) hR176), (show True ∧ S_TR_scan_J116 t0_0 t0_1 t0_2 t0_3 t0_4 t0_5 t0_6 t0_7 t0_8 t0_9 t0_10 t0_11 t0_12 t0_13 t1_0 t2_0 p75 y31 y32 y33 y34 y35 y36 y37 y38 y39 y40 y41 y42 y43 y44 lx102 lx116 lx133 lx134 lx135 lx136 lx137 lx138 lx139 lx140 lx141 lx142 lx143 lx144 lx145 lx146 lx147 lx148 lx134 lx135 lx136 lx137 lx138 lx139 lx140 lx141 lx142 lx143 lx144 lx145 lx146 lx147 from (by have h := hS177; rw [S_TR_scan_J108.eq_1] at h; rw [if_pos c238] at h; with_reducible exact h))⟩
          ·
            refine lv_aload_n hx hb d_18_16_112 rfl (lv_at hl 1 rfl) ?_
            have ob241 : True ∧ S_TR_blanks lx134 lx135 lx136 lx137 lx138 lx139 lx140 lx141 lx142 lx143 lx144 lx145 lx146 lx147 t1_0 := (by have h := hS177; rw [S_TR_scan_J108.eq_1] at h; rw [if_neg c238] at h; with_reducible exact h.2.1)
            refine q_gov V (q_runV (As := []) (rest := []) (d := 1) (mc := 0) (ms := 0) (ci := 16) C0 V rfl LV_TR_74 (X_TR_blanks l D g q w175   hI lx134 lx135 lx136 lx137 lx138 lx139 lx140 lx141 lx142 lx143 lx144 lx145 lx146 lx147 hO149 t1_0 hA150 ob241 _) rfl rfl hO149 rfl hl.1 rfl (Nat.le_of_ble_eq_true rfl) ⟨by decide, by decide⟩ ⟨Nat.le_of_ble_eq_true rfl, Nat.le_of_ble_eq_true rfl⟩ d_18_16_113) (fun u242 H locs hp243 V => ?_)
            obtain ⟨hI, hZ9⟩ := hp243
            obtain ⟨hu288, hZ9⟩ := hZ9
            obtain ⟨y245, hZ9⟩ := hZ9
            obtain ⟨y246, hZ9⟩ := hZ9
            obtain ⟨y247, hZ9⟩ := hZ9
            obtain ⟨y248, hZ9⟩ := hZ9
            obtain ⟨y249, hZ9⟩ := hZ9
            obtain ⟨y250, hZ9⟩ := hZ9
            obtain ⟨y251, hZ9⟩ := hZ9
            obtain ⟨y252, hZ9⟩ := hZ9
            obtain ⟨y253, hZ9⟩ := hZ9
            obtain ⟨y254, hZ9⟩ := hZ9
            obtain ⟨y255, hZ9⟩ := hZ9
            obtain ⟨y256, hZ9⟩ := hZ9
            obtain ⟨y257, hZ9⟩ := hZ9
            obtain ⟨y258, hZ9⟩ := hZ9
            obtain ⟨hO244, hZ9⟩ := hZ9
            replace hZ9 := hZ9.2
            obtain ⟨b260, hZ9⟩ := hZ9
            obtain ⟨b261, hZ9⟩ := hZ9
            obtain ⟨b262, hZ9⟩ := hZ9
            obtain ⟨b263, hZ9⟩ := hZ9
            obtain ⟨b264, hZ9⟩ := hZ9
            obtain ⟨b265, hZ9⟩ := hZ9
            obtain ⟨b266, hZ9⟩ := hZ9
            obtain ⟨b267, hZ9⟩ := hZ9
            obtain ⟨b268, hZ9⟩ := hZ9
            obtain ⟨b269, hZ9⟩ := hZ9
            obtain ⟨b270, hZ9⟩ := hZ9
            obtain ⟨b271, hZ9⟩ := hZ9
            obtain ⟨b272, hZ9⟩ := hZ9
            obtain ⟨b273, hZ9⟩ := hZ9
            obtain ⟨b274, hZ9⟩ := hZ9
            obtain ⟨b275, hZ9⟩ := hZ9
            obtain ⟨b276, hZ9⟩ := hZ9
            obtain ⟨b277, hZ9⟩ := hZ9
            obtain ⟨b278, hZ9⟩ := hZ9
            obtain ⟨b279, hZ9⟩ := hZ9
            obtain ⟨b280, hZ9⟩ := hZ9
            obtain ⟨b281, hZ9⟩ := hZ9
            obtain ⟨b282, hZ9⟩ := hZ9
            obtain ⟨b283, hZ9⟩ := hZ9
            obtain ⟨b284, hZ9⟩ := hZ9
            obtain ⟨b285, hZ9⟩ := hZ9
            obtain ⟨b286, hE287⟩ := hZ9
            replace hO244 : u242[153]? = (some (q 153, .inr (16, [.int y245, .ref (q 154), .int y246, .int y247, .int y248, .int y249, .ref (q 155), .int y250, .int y251, .long y252, .ref (q 156), .int y253, .int y254, .long y255, .long y256, .int y257, .int y258])) : Option (Nat × va_E)) := hO244
            obtain ⟨p289, e290⟩ : ∃ z, z = (F_TR_blanks lx134 lx135 lx136 lx137 lx138 lx139 lx140 lx141 lx142 lx143 lx144 lx145 lx146 lx147 t1_0) := ⟨_, rfl⟩
            have e291 : y245 = p289.1 := congrArg (fun z => z.1) (hE287.trans e290.symm)
            have e292 : y246 = p289.2.1 := congrArg (fun z => z.2.1) (hE287.trans e290.symm)
            have e293 : y247 = p289.2.2.1 := congrArg (fun z => z.2.2.1) (hE287.trans e290.symm)
            have e294 : y248 = p289.2.2.2.1 := congrArg (fun z => z.2.2.2.1) (hE287.trans e290.symm)
            have e295 : y249 = p289.2.2.2.2.1 := congrArg (fun z => z.2.2.2.2.1) (hE287.trans e290.symm)
            have e296 : y250 = p289.2.2.2.2.2.1 := congrArg (fun z => z.2.2.2.2.2.1) (hE287.trans e290.symm)
            have e297 : y251 = p289.2.2.2.2.2.2.1 := congrArg (fun z => z.2.2.2.2.2.2.1) (hE287.trans e290.symm)
            have e298 : y252 = p289.2.2.2.2.2.2.2.1 := congrArg (fun z => z.2.2.2.2.2.2.2.1) (hE287.trans e290.symm)
            have e299 : y253 = p289.2.2.2.2.2.2.2.2.1 := congrArg (fun z => z.2.2.2.2.2.2.2.2.1) (hE287.trans e290.symm)
            have e300 : y254 = p289.2.2.2.2.2.2.2.2.2.1 := congrArg (fun z => z.2.2.2.2.2.2.2.2.2.1) (hE287.trans e290.symm)
            have e301 : y255 = p289.2.2.2.2.2.2.2.2.2.2.1 := congrArg (fun z => z.2.2.2.2.2.2.2.2.2.2.1) (hE287.trans e290.symm)
            have e302 : y256 = p289.2.2.2.2.2.2.2.2.2.2.2.1 := congrArg (fun z => z.2.2.2.2.2.2.2.2.2.2.2.1) (hE287.trans e290.symm)
            have e303 : y257 = p289.2.2.2.2.2.2.2.2.2.2.2.2.1 := congrArg (fun z => z.2.2.2.2.2.2.2.2.2.2.2.2.1) (hE287.trans e290.symm)
            have e304 : y258 = p289.2.2.2.2.2.2.2.2.2.2.2.2.2 := congrArg (fun z => z.2.2.2.2.2.2.2.2.2.2.2.2.2) (hE287.trans e290.symm)
            replace b260 : q_F (lx134.toInt ≤ y245.toInt) := b260
            replace b261 : q_F (y245.toInt ≤ lx134.toInt) := b261
            replace b262 : q_F (lx135.toInt ≤ y246.toInt) := b262
            replace b263 : q_F (y246.toInt ≤ lx135.toInt) := b263
            replace b264 : q_F (lx136.toInt ≤ y247.toInt) := b264
            replace b265 : q_F (y247.toInt ≤ lx136.toInt) := b265
            replace b266 : q_F (lx137.toInt ≤ y248.toInt) := b266
            replace b267 : q_F (lx138.toInt ≤ y249.toInt) := b267
            replace b268 : q_F (y249.toInt ≤ lx138.toInt) := b268
            replace b269 : q_F (lx139.toInt ≤ y250.toInt) := b269
            replace b270 : q_F (y250.toInt ≤ lx139.toInt) := b270
            replace b271 : q_F (lx140.toInt ≤ y251.toInt) := b271
            replace b272 : q_F (y251.toInt ≤ lx140.toInt) := b272
            replace b273 : q_F (lx141.toInt ≤ y252.toInt) := b273
            replace b274 : q_F (y252.toInt ≤ lx141.toInt) := b274
            replace b275 : q_F (lx142.toInt ≤ y253.toInt) := b275
            replace b276 : q_F (y253.toInt ≤ lx142.toInt) := b276
            replace b277 : q_F (lx143.toInt ≤ y254.toInt) := b277
            replace b278 : q_F (y254.toInt ≤ lx143.toInt) := b278
            replace b279 : q_F (lx144.toInt ≤ y255.toInt) := b279
            replace b280 : q_F (y255.toInt ≤ lx144.toInt) := b280
            replace b281 : q_F (lx145.toInt ≤ y256.toInt) := b281
            replace b282 : q_F (y256.toInt ≤ lx145.toInt) := b282
            replace b283 : q_F (lx146.toInt ≤ y257.toInt) := b283
            replace b284 : q_F (y257.toInt ≤ lx146.toInt) := b284
            replace b285 : q_F (lx147.toInt ≤ y258.toInt) := b285
            replace b286 : q_F (y258.toInt ≤ lx147.toInt) := b286
            replace hA150 := (hu288 _ (by decide)).trans hA150
            replace hA151 := (hu288 _ (by decide)).trans hA151
            replace hF := q_uc hF hu288 (by simp)
            have hR305 := (show F_TR_scan_c113 t0_0 t0_1 t0_2 t0_3 t0_4 t0_5 t0_6 t0_7 t0_8 t0_9 t0_10 t0_11 t0_12 t0_13 t1_0 t2_0 p75 y31 y32 y33 y34 y35 y36 y37 y38 y39 y40 y41 y42 y43 y44 lx102 lx116 lx133 lx134 lx135 lx136 lx137 lx138 lx139 lx140 lx141 lx142 lx143 lx144 lx145 lx146 lx147 lx148 p289 = (F_TR_scan t0_0 t0_1 t0_2 t0_3 t0_4 t0_5 t0_6 t0_7 t0_8 t0_9 t0_10 t0_11 t0_12 t0_13 t1_0 t2_0) from Eq.trans (by rw [e290, F_TR_scan_J108.eq_1, if_neg c238]) hR176)
            have hS306 := (show True ∧ S_TR_scan_c113 t0_0 t0_1 t0_2 t0_3 t0_4 t0_5 t0_6 t0_7 t0_8 t0_9 t0_10 t0_11 t0_12 t0_13 t1_0 t2_0 p75 y31 y32 y33 y34 y35 y36 y37 y38 y39 y40 y41 y42 y43 y44 lx102 lx116 lx133 lx134 lx135 lx136 lx137 lx138 lx139 lx140 lx141 lx142 lx143 lx144 lx145 lx146 lx147 lx148 p289 from (by rw [e290]; have h := hS177; rw [S_TR_scan_J108.eq_1] at h; rw [if_neg c238] at h; replace h := q_s2 h; with_reducible exact h))
            exact J198 ((y245 : Int32), (y246 : Int32), (y247 : Int32), (y248 : Int32), (y249 : Int32), (y250 : Int32), (y251 : Int32), (y252 : Int64), (y253 : Int32), (y254 : Int32), (y255 : Int64), (y256 : Int64), (y257 : Int32), (y258 : Int32)) _ _ _ _ ⟨(show q_F (lx134.toInt ≤ y245.toInt) from (show lx134.toInt ≤ y245.toInt from by have t1 : lx134.toInt ≤ y245.toInt := b260; omega)), (show q_F (y245.toInt ≤ lx134.toInt) from (show y245.toInt ≤ lx134.toInt from by have t1 : y245.toInt ≤ lx134.toInt := b261; omega)), (show q_F (lx135.toInt ≤ y246.toInt) from (show lx135.toInt ≤ y246.toInt from by have t1 : lx135.toInt ≤ y246.toInt := b262; omega)), (show q_F (y246.toInt ≤ lx135.toInt) from (show y246.toInt ≤ lx135.toInt from by have t1 : y246.toInt ≤ lx135.toInt := b263; omega)), (show q_F (lx136.toInt ≤ y247.toInt) from (show lx136.toInt ≤ y247.toInt from by have t1 : lx136.toInt ≤ y247.toInt := b264; omega)), (show q_F (y247.toInt ≤ lx136.toInt) from (show y247.toInt ≤ lx136.toInt from by have t1 : y247.toInt ≤ lx136.toInt := b265; omega)), (show q_F (lx137.toInt ≤ y248.toInt) from (show lx137.toInt ≤ y248.toInt from by have t1 : lx137.toInt ≤ y248.toInt := b266; omega)), (show q_F (lx138.toInt ≤ y249.toInt) from (show lx138.toInt ≤ y249.toInt from by have t1 : lx138.toInt ≤ y249.toInt := b267; omega)), (show q_F (y249.toInt ≤ lx138.toInt) from (show y249.toInt ≤ lx138.toInt from by have t1 : y249.toInt ≤ lx138.toInt := b268; omega)), (show q_F (lx139.toInt ≤ y250.toInt) from (show lx139.toInt ≤ y250.toInt from by have t1 : lx139.toInt ≤ y250.toInt := b269; omega)), (show q_F (y250.toInt ≤ lx139.toInt) from (show y250.toInt ≤ lx139.toInt from by have t1 : y250.toInt ≤ lx139.toInt := b270; omega)), (show q_F (lx140.toInt ≤ y251.toInt) from (show lx140.toInt ≤ y251.toInt from by have t1 : lx140.toInt ≤ y251.toInt := b271; omega)), (show q_F (y251.toInt ≤ lx140.toInt) from (show y251.toInt ≤ lx140.toInt from by have t1 : y251.toInt ≤ lx140.toInt := b272; omega)), (show q_F (lx141.toInt ≤ y252.toInt) from (show lx141.toInt ≤ y252.toInt from by have t1 : lx141.toInt ≤ y252.toInt := b273; omega)), (show q_F (y252.toInt ≤ lx141.toInt) from (show y252.toInt ≤ lx141.toInt from by have t1 : y252.toInt ≤ lx141.toInt := b274; omega)), (show q_F (lx142.toInt ≤ y253.toInt) from (show lx142.toInt ≤ y253.toInt from by have t1 : lx142.toInt ≤ y253.toInt := b275; omega)), (show q_F (y253.toInt ≤ lx142.toInt) from (show y253.toInt ≤ lx142.toInt from by have t1 : y253.toInt ≤ lx142.toInt := b276; omega)), (show q_F (lx143.toInt ≤ y254.toInt) from (show lx143.toInt ≤ y254.toInt from by have t1 : lx143.toInt ≤ y254.toInt := b277; omega)), (show q_F (y254.toInt ≤ lx143.toInt) from (show y254.toInt ≤ lx143.toInt from by have t1 : y254.toInt ≤ lx143.toInt := b278; omega)), (show q_F (lx144.toInt ≤ y255.toInt) from (show lx144.toInt ≤ y255.toInt from by have t1 : lx144.toInt ≤ y255.toInt := b279; omega)), (show q_F (y255.toInt ≤ lx144.toInt) from (show y255.toInt ≤ lx144.toInt from by have t1 : y255.toInt ≤ lx144.toInt := b280; omega)), (show q_F (lx145.toInt ≤ y256.toInt) from (show lx145.toInt ≤ y256.toInt from by have t1 : lx145.toInt ≤ y256.toInt := b281; omega)), (show q_F (y256.toInt ≤ lx145.toInt) from (show y256.toInt ≤ lx145.toInt from by have t1 : y256.toInt ≤ lx145.toInt := b282; omega)), (show q_F (lx146.toInt ≤ y257.toInt) from (show lx146.toInt ≤ y257.toInt from by have t1 : lx146.toInt ≤ y257.toInt := b283; omega)), (show q_F (y257.toInt ≤ lx146.toInt) from (show y257.toInt ≤ lx146.toInt from by have t1 : y257.toInt ≤ lx146.toInt := b284; omega)), (show q_F (lx147.toInt ≤ y258.toInt) from (show lx147.toInt ≤ y258.toInt from by have t1 : lx147.toInt ≤ y258.toInt := b285; omega)), (show q_F (y258.toInt ≤ lx147.toInt) from (show y258.toInt ≤ lx147.toInt from by have t1 : y258.toInt ≤ lx147.toInt := b286; omega)), V, q_lw hl (q_lw1 0 rfl (q_lw1 1 rfl q_lw0)), hI, hF, hO244, hA150, hA151, (show F_TR_scan_J116 t0_0 t0_1 t0_2 t0_3 t0_4 t0_5 t0_6 t0_7 t0_8 t0_9 t0_10 t0_11 t0_12 t0_13 t1_0 t2_0 p75 y31 y32 y33 y34 y35 y36 y37 y38 y39 y40 y41 y42 y43 y44 lx102 lx116 lx133 lx134 lx135 lx136 lx137 lx138 lx139 lx140 lx141 lx142 lx143 lx144 lx145 lx146 lx147 lx148 y245 y246 y247 y248 y249 y250 y251 y252 y253 y254 y255 y256 y257 y258 = (F_TR_scan t0_0 t0_1 t0_2 t0_3 t0_4 t0_5 t0_6 t0_7 t0_8 t0_9 t0_10 t0_11 t0_12 t0_13 t1_0 t2_0) from Eq.trans (by rw [e304, e303, e302, e301, e300, e299, e298, e297, e296, e295, e294, e293, e292, e291, F_TR_scan_c113.eq_1]) hR305), (show True ∧ S_TR_scan_J116 t0_0 t0_1 t0_2 t0_3 t0_4 t0_5 t0_6 t0_7 t0_8 t0_9 t0_10 t0_11 t0_12 t0_13 t1_0 t2_0 p75 y31 y32 y33 y34 y35 y36 y37 y38 y39 y40 y41 y42 y43 y44 lx102 lx116 lx133 lx134 lx135 lx136 lx137 lx138 lx139 lx140 lx141 lx142 lx143 lx144 lx145 lx146 lx147 lx148 y245 y246 y247 y248 y249 y250 y251 y252 y253 y254 y255 y256 y257 y258 from (by rw [e304, e303, e302, e301, e300, e299, e298, e297, e296, e295, e294, e293, e292, e291]; have h := hS306; rw [S_TR_scan_c113.eq_1] at h; with_reducible exact h))⟩
      ·
        intro J152
        refine lv_icmp_ne (tgt := 78) hx hb d_18_16_59 (by decide) (fun c310 => ?_) (fun c310 => ?_)
        ·
          refine lv_aload_n hx hb d_18_16_78 rfl (lv_at hl 0 rfl) ?_
          have ob312 : True ∧ S_TR_here y31 y32 y33 lx116 lx102 y36 y37 y38 y39 y40 y41 y42 y43 y44 t1_0 := (by have h := hS123; rw [S_TR_scan_J53.eq_1] at h; replace h := q_s2 h; have c310x := c310; rw [e132] at c310x; rw [if_neg c310x] at h; with_reducible exact h.2.1)
          refine q_goi V (q_runV (As := []) (rest := []) (d := 1) (mc := 0) (ms := 0) (ci := 16) C0 V rfl LV_TR_35 (X_TR_here l D g q w121   hI y31 y32 y33 lx116 lx102 y36 y37 y38 y39 y40 y41 y42 y43 y44 hO117 t1_0 hA118 ob312 _) rfl rfl hO117 rfl hl.1 rfl (Nat.le_of_ble_eq_true rfl) ⟨by decide, by decide⟩ ⟨Nat.le_of_ble_eq_true rfl, Nat.le_of_ble_eq_true rfl⟩ d_18_16_79) (fun a315 u313 H locs hp314 V => ?_)
          obtain ⟨rfl, hE316⟩ := hp314
          have e317 : a315 = (F_TR_here y31 y32 y33 lx116 lx102 y36 y37 y38 y39 y40 y41 y42 y43 y44 t1_0) := hE316
          refine lv_bipush (v := 73) hx hb d_18_16_82 (by decide) ?_
          refine lv_icmp_ne (tgt := 103) hx hb d_18_16_84 (by decide) (fun c318 => ?_) (fun c318 => ?_)
          ·
            refine lv_aload_n hx hb d_18_16_103 rfl (lv_at hl 0 rfl) ?_
            have ob320 : True ∧ S_TR_number y31 y32 y33 lx116 lx102 y36 y37 y38 y39 y40 y41 y42 y43 y44 t1_0 t2_0 := (by have h := hS123; rw [S_TR_scan_J53.eq_1] at h; replace h := q_s2 h; have c310x := c310; rw [e132] at c310x; rw [if_neg c310x] at h; replace h := q_s2 h; have c318x := c318; rw [e317] at c318x; rw [if_neg c318x] at h; with_reducible exact h.2.1)
            refine q_goi V (q_runV (As := []) (rest := []) (d := 4) (mc := 0) (ms := 0) (ci := 16) C0 V rfl LV_TR_89 (X_TR_number l D g q w121   hI y31 y32 y33 lx116 lx102 y36 y37 y38 y39 y40 y41 y42 y43 y44 hO117 t1_0 hA118 t2_0 hA119 ob320 _) rfl rfl hO117 rfl hl.1 rfl (Nat.le_of_ble_eq_true rfl) ⟨by decide, by decide⟩ ⟨Nat.le_of_ble_eq_true rfl, Nat.le_of_ble_eq_true rfl⟩ d_18_16_104) (fun a323 u321 H locs hp322 V => ?_)
            obtain ⟨hI, hZ9⟩ := hp322
            obtain ⟨hu368, hZ9⟩ := hZ9
            obtain ⟨y325, hZ9⟩ := hZ9
            obtain ⟨y326, hZ9⟩ := hZ9
            obtain ⟨y327, hZ9⟩ := hZ9
            obtain ⟨y328, hZ9⟩ := hZ9
            obtain ⟨y329, hZ9⟩ := hZ9
            obtain ⟨y330, hZ9⟩ := hZ9
            obtain ⟨y331, hZ9⟩ := hZ9
            obtain ⟨y332, hZ9⟩ := hZ9
            obtain ⟨y333, hZ9⟩ := hZ9
            obtain ⟨y334, hZ9⟩ := hZ9
            obtain ⟨y335, hZ9⟩ := hZ9
            obtain ⟨y336, hZ9⟩ := hZ9
            obtain ⟨y337, hZ9⟩ := hZ9
            obtain ⟨y338, hZ9⟩ := hZ9
            obtain ⟨f339, hZ9⟩ := hZ9
            obtain ⟨hO324, hZ9⟩ := hZ9
            obtain ⟨hA340, hZ9⟩ := hZ9
            obtain ⟨b341, hZ9⟩ := hZ9
            obtain ⟨b342, hZ9⟩ := hZ9
            obtain ⟨b343, hZ9⟩ := hZ9
            obtain ⟨b344, hZ9⟩ := hZ9
            replace hZ9 := hZ9.2.2.2
            obtain ⟨b348, hZ9⟩ := hZ9
            obtain ⟨b349, hZ9⟩ := hZ9
            obtain ⟨b350, hZ9⟩ := hZ9
            obtain ⟨b351, hZ9⟩ := hZ9
            obtain ⟨b352, hZ9⟩ := hZ9
            obtain ⟨b353, hZ9⟩ := hZ9
            obtain ⟨b354, hZ9⟩ := hZ9
            obtain ⟨b355, hZ9⟩ := hZ9
            obtain ⟨b356, hZ9⟩ := hZ9
            obtain ⟨b357, hZ9⟩ := hZ9
            obtain ⟨b358, hZ9⟩ := hZ9
            obtain ⟨b359, hZ9⟩ := hZ9
            obtain ⟨b360, hZ9⟩ := hZ9
            obtain ⟨b361, hZ9⟩ := hZ9
            obtain ⟨b362, hZ9⟩ := hZ9
            obtain ⟨b363, hZ9⟩ := hZ9
            obtain ⟨b364, hZ9⟩ := hZ9
            obtain ⟨b365, hZ9⟩ := hZ9
            obtain ⟨-, hE367⟩ := hZ9
            replace hO324 : u321[153]? = (some (q 153, .inr (16, [.int y325, .ref (q 154), .int y326, .int y327, .int y328, .int y329, .ref (q 155), .int y330, .int y331, .long y332, .ref (q 156), .int y333, .int y334, .long y335, .long y336, .int y337, .int y338])) : Option (Nat × va_E)) := hO324
            replace hA340 : u321[155]? = (some (q 155, .inl (g 0, (4100 : Int32).toNatClampNeg, .inl f339)) : Option (Nat × va_E)) := hA340
            obtain ⟨p369, e370⟩ : ∃ z, z = (F_TR_number y31 y32 y33 lx116 lx102 y36 y37 y38 y39 y40 y41 y42 y43 y44 t1_0 t2_0) := ⟨_, rfl⟩
            have e371 : a323 = p369.1 := congrArg (fun z => z.1) (hE367.trans e370.symm)
            have e372 : y325 = p369.2.1 := congrArg (fun z => z.2.1) (hE367.trans e370.symm)
            have e373 : y326 = p369.2.2.1 := congrArg (fun z => z.2.2.1) (hE367.trans e370.symm)
            have e374 : y327 = p369.2.2.2.1 := congrArg (fun z => z.2.2.2.1) (hE367.trans e370.symm)
            have e375 : y328 = p369.2.2.2.2.1 := congrArg (fun z => z.2.2.2.2.1) (hE367.trans e370.symm)
            have e376 : y329 = p369.2.2.2.2.2.1 := congrArg (fun z => z.2.2.2.2.2.1) (hE367.trans e370.symm)
            have e377 : y330 = p369.2.2.2.2.2.2.1 := congrArg (fun z => z.2.2.2.2.2.2.1) (hE367.trans e370.symm)
            have e378 : y331 = p369.2.2.2.2.2.2.2.1 := congrArg (fun z => z.2.2.2.2.2.2.2.1) (hE367.trans e370.symm)
            have e379 : y332 = p369.2.2.2.2.2.2.2.2.1 := congrArg (fun z => z.2.2.2.2.2.2.2.2.1) (hE367.trans e370.symm)
            have e380 : y333 = p369.2.2.2.2.2.2.2.2.2.1 := congrArg (fun z => z.2.2.2.2.2.2.2.2.2.1) (hE367.trans e370.symm)
            have e381 : y334 = p369.2.2.2.2.2.2.2.2.2.2.1 := congrArg (fun z => z.2.2.2.2.2.2.2.2.2.2.1) (hE367.trans e370.symm)
            have e382 : y335 = p369.2.2.2.2.2.2.2.2.2.2.2.1 := congrArg (fun z => z.2.2.2.2.2.2.2.2.2.2.2.1) (hE367.trans e370.symm)
            have e383 : y336 = p369.2.2.2.2.2.2.2.2.2.2.2.2.1 := congrArg (fun z => z.2.2.2.2.2.2.2.2.2.2.2.2.1) (hE367.trans e370.symm)
            have e384 : y337 = p369.2.2.2.2.2.2.2.2.2.2.2.2.2.1 := congrArg (fun z => z.2.2.2.2.2.2.2.2.2.2.2.2.2.1) (hE367.trans e370.symm)
            have e385 : y338 = p369.2.2.2.2.2.2.2.2.2.2.2.2.2.2.1 := congrArg (fun z => z.2.2.2.2.2.2.2.2.2.2.2.2.2.2.1) (hE367.trans e370.symm)
            have e386 : f339 = p369.2.2.2.2.2.2.2.2.2.2.2.2.2.2.2 := congrArg (fun z => z.2.2.2.2.2.2.2.2.2.2.2.2.2.2.2) (hE367.trans e370.symm)
            replace b341 : q_F (0 ≤ a323.toInt) := b341
            replace b342 : q_F (a323.toInt ≤ 1) := b342
            replace b343 : q_F (0 ≤ y327.toInt) := b343
            replace b344 : q_F (y327.toInt ≤ 1) := b344
            replace b348 : q_F (y31.toInt ≤ y325.toInt) := b348
            replace b349 : q_F (y325.toInt ≤ y31.toInt) := b349
            replace b350 : q_F (y32.toInt ≤ y326.toInt) := b350
            replace b351 : q_F (y326.toInt ≤ y32.toInt) := b351
            replace b352 : q_F (lx102.toInt ≤ y329.toInt) := b352
            replace b353 : q_F (y329.toInt ≤ lx102.toInt) := b353
            replace b354 : q_F (y39.toInt ≤ y333.toInt) := b354
            replace b355 : q_F (y333.toInt ≤ y39.toInt) := b355
            replace b356 : q_F (y40.toInt ≤ y334.toInt) := b356
            replace b357 : q_F (y334.toInt ≤ y40.toInt) := b357
            replace b358 : q_F (y41.toInt ≤ y335.toInt) := b358
            replace b359 : q_F (y335.toInt ≤ y41.toInt) := b359
            replace b360 : q_F (y42.toInt ≤ y336.toInt) := b360
            replace b361 : q_F (y336.toInt ≤ y42.toInt) := b361
            replace b362 : q_F (y43.toInt ≤ y337.toInt) := b362
            replace b363 : q_F (y337.toInt ≤ y43.toInt) := b363
            replace b364 : q_F (y44.toInt ≤ y338.toInt) := b364
            replace b365 : q_F (y338.toInt ≤ y44.toInt) := b365
            replace hA118 := (hu368 _ (by decide)).trans hA118
            replace hF := q_uc hF hu368 (by simp)
            have hR387 := (show F_TR_scan_c104 t0_0 t0_1 t0_2 t0_3 t0_4 t0_5 t0_6 t0_7 t0_8 t0_9 t0_10 t0_11 t0_12 t0_13 t1_0 t2_0 p75 y31 y32 y33 y34 y35 y36 y37 y38 y39 y40 y41 y42 y43 y44 lx102 lx116 p369 = (F_TR_scan t0_0 t0_1 t0_2 t0_3 t0_4 t0_5 t0_6 t0_7 t0_8 t0_9 t0_10 t0_11 t0_12 t0_13 t1_0 t2_0) from Eq.trans (by have c310x := c310; rw [e132] at c310x; have c318x := c318; rw [e317] at c318x; rw [e370, F_TR_scan_J53.eq_1, if_neg c310x, if_neg c318x]) hR122)
            have hS388 := (show True ∧ S_TR_scan_c104 t0_0 t0_1 t0_2 t0_3 t0_4 t0_5 t0_6 t0_7 t0_8 t0_9 t0_10 t0_11 t0_12 t0_13 t1_0 t2_0 p75 y31 y32 y33 y34 y35 y36 y37 y38 y39 y40 y41 y42 y43 y44 lx102 lx116 p369 from (by rw [e370]; have h := hS123; rw [S_TR_scan_J53.eq_1] at h; replace h := q_s2 h; have c310x := c310; rw [e132] at c310x; rw [if_neg c310x] at h; replace h := q_s2 h; have c318x := c318; rw [e317] at c318x; rw [if_neg c318x] at h; replace h := q_s2 h; with_reducible exact h))
            refine lv_istore_n (lv' := [(1, .int a323), (0, .ref (q 153))]) hx hb d_18_16_107 rfl hl (by decide) rfl (fun ls hl => ?_)
            exact J152 ((a323 : Int32), (y325 : Int32), (y326 : Int32), (y327 : Int32), (y328 : Int32), (y329 : Int32), (y330 : Int32), (y331 : Int32), (y332 : Int64), (y333 : Int32), (y334 : Int32), (y335 : Int64), (y336 : Int64), (y337 : Int32), (y338 : Int32), (f339 : (Nat → Int32))) _ _ _ _ ⟨(show q_F (0 ≤ a323.toInt) from (show 0 ≤ a323.toInt from by have t1 : 0 ≤ a323.toInt := b341; omega)), (show q_F (a323.toInt ≤ 1) from (show a323.toInt ≤ 1 from by have t1 : a323.toInt ≤ 1 := b342; omega)), (show q_F (0 ≤ y327.toInt) from (show 0 ≤ y327.toInt from by have t1 : 0 ≤ y327.toInt := b343; omega)), (show q_F (y327.toInt ≤ 3) from (show y327.toInt ≤ 3 from by have t1 : y327.toInt ≤ 1 := b344; omega)), (show q_F (y31.toInt ≤ y325.toInt) from (show y31.toInt ≤ y325.toInt from by have t1 : y31.toInt ≤ y325.toInt := b348; omega)), (show q_F (y325.toInt ≤ y31.toInt) from (show y325.toInt ≤ y31.toInt from by have t1 : y325.toInt ≤ y31.toInt := b349; omega)), (show q_F (y32.toInt ≤ y326.toInt) from (show y32.toInt ≤ y326.toInt from by have t1 : y32.toInt ≤ y326.toInt := b350; omega)), (show q_F (y326.toInt ≤ y32.toInt) from (show y326.toInt ≤ y32.toInt from by have t1 : y326.toInt ≤ y32.toInt := b351; omega)), (show q_F (lx102.toInt ≤ y329.toInt) from (show lx102.toInt ≤ y329.toInt from by have t1 : lx102.toInt ≤ y329.toInt := b352; omega)), (show q_F (y329.toInt ≤ lx102.toInt) from (show y329.toInt ≤ lx102.toInt from by have t1 : y329.toInt ≤ lx102.toInt := b353; omega)), (show q_F (y39.toInt ≤ y333.toInt) from (show y39.toInt ≤ y333.toInt from by have t1 : y39.toInt ≤ y333.toInt := b354; omega)), (show q_F (y333.toInt ≤ y39.toInt) from (show y333.toInt ≤ y39.toInt from by have t1 : y333.toInt ≤ y39.toInt := b355; omega)), (show q_F (y40.toInt ≤ y334.toInt) from (show y40.toInt ≤ y334.toInt from by have t1 : y40.toInt ≤ y334.toInt := b356; omega)), (show q_F (y334.toInt ≤ y40.toInt) from (show y334.toInt ≤ y40.toInt from by have t1 : y334.toInt ≤ y40.toInt := b357; omega)), (show q_F (y41.toInt ≤ y335.toInt) from (show y41.toInt ≤ y335.toInt from by have t1 : y41.toInt ≤ y335.toInt := b358; omega)), (show q_F (y335.toInt ≤ y41.toInt) from (show y335.toInt ≤ y41.toInt from by have t1 : y335.toInt ≤ y41.toInt := b359; omega)), (show q_F (y42.toInt ≤ y336.toInt) from (show y42.toInt ≤ y336.toInt from by have t1 : y42.toInt ≤ y336.toInt := b360; omega)), (show q_F (y336.toInt ≤ y42.toInt) from (show y336.toInt ≤ y42.toInt from by have t1 : y336.toInt ≤ y42.toInt := b361; omega)), (show q_F (y43.toInt ≤ y337.toInt) from (show y43.toInt ≤ y337.toInt from by have t1 : y43.toInt ≤ y337.toInt := b362; omega)), (show q_F (y337.toInt ≤ y43.toInt) from (show y337.toInt ≤ y43.toInt from by have t1 : y337.toInt ≤ y43.toInt := b363; omega)), (show q_F (y44.toInt ≤ y338.toInt) from (show y44.toInt ≤ y338.toInt from by have t1 : y44.toInt ≤ y338.toInt := b364; omega)), (show q_F (y338.toInt ≤ y44.toInt) from (show y338.toInt ≤ y44.toInt from by have t1 : y338.toInt ≤ y44.toInt := b365; omega)), V, q_lw hl (q_lw1 0 rfl (q_lw1 1 rfl q_lw0)), hI, hF, hO324, hA118, hA340, (show F_TR_scan_J108 t0_0 t0_1 t0_2 t0_3 t0_4 t0_5 t0_6 t0_7 t0_8 t0_9 t0_10 t0_11 t0_12 t0_13 t1_0 t2_0 p75 y31 y32 y33 y34 y35 y36 y37 y38 y39 y40 y41 y42 y43 y44 lx102 lx116 a323 y325 y326 y327 y328 y329 y330 y331 y332 y333 y334 y335 y336 y337 y338 f339 = (F_TR_scan t0_0 t0_1 t0_2 t0_3 t0_4 t0_5 t0_6 t0_7 t0_8 t0_9 t0_10 t0_11 t0_12 t0_13 t1_0 t2_0) from Eq.trans (by rw [e386, e385, e384, e383, e382, e381, e380, e379, e378, e377, e376, e375, e374, e373, e372, e371, F_TR_scan_c104.eq_1]) hR387), (show True ∧ S_TR_scan_J108 t0_0 t0_1 t0_2 t0_3 t0_4 t0_5 t0_6 t0_7 t0_8 t0_9 t0_10 t0_11 t0_12 t0_13 t1_0 t2_0 p75 y31 y32 y33 y34 y35 y36 y37 y38 y39 y40 y41 y42 y43 y44 lx102 lx116 a323 y325 y326 y327 y328 y329 y330 y331 y332 y333 y334 y335 y336 y337 y338 f339 from (by rw [e386, e385, e384, e383, e382, e381, e380, e379, e378, e377, e376, e375, e374, e373, e372, e371]; have h := hS388; rw [S_TR_scan_c104.eq_1] at h; with_reducible exact h))⟩
          ·
            refine lv_aload_n hx hb d_18_16_87 rfl (lv_at hl 0 rfl) ?_
            refine lv_iconst (v := 2) hx hb d_18_16_88 (by decide) ?_
            refine q_put (ci := 16) (j := 3) (v := .int 2) (ty := .int) C0 V i_TR o_TR n_TR rfl rfl hO117 (by decide) w_2143 rfl rfl rfl rfl (Nat.le_of_ble_eq_true rfl) d_18_16_89 (fun H locs w393 hu394 hO117 V => ?_)
            replace hO117 : w393[153]? = (some (q 153, .inr (16, [.int y31, .ref (q 154), .int y32, .int 2, .int lx116, .int lx102, .ref (q 155), .int y36, .int y37, .long y38, .ref (q 156), .int y39, .int y40, .long y41, .long y42, .int y43, .int y44])) : Option (Nat × va_E)) := hO117
            replace hI := n_p153 hI hu394 hO117 ⟨(by have t1 : 0 ≤ t0_1.toInt ∧ t0_1.toInt ≤ 4100 := btt0_1; have t2 : t0_1.toInt ≤ y32.toInt := b48; omega), (by have t1 : 0 ≤ t0_1.toInt ∧ t0_1.toInt ≤ 4100 := btt0_1; have t2 : y32.toInt ≤ t0_1.toInt := b49; omega)⟩ ⟨(by first | with_reducible exact q_fe i107 | (have t1 : 0 ≤ lx102.toInt := i107; omega)), (by first | with_reducible exact q_fe i108 | (have t1 : lx102.toInt ≤ 1 := i108; omega))⟩ ⟨(by have t1 : 0 ≤ t0_13.toInt ∧ t0_13.toInt ≤ 1 := btt0_13; have t2 : t0_13.toInt ≤ y44.toInt := b71; omega), (by have t1 : 0 ≤ t0_13.toInt ∧ t0_13.toInt ≤ 1 := btt0_13; have t2 : y44.toInt ≤ t0_13.toInt := b72; omega)⟩
            replace hA118 := (hu394 _ (by decide)).trans hA118
            replace hA119 := (hu394 _ (by decide)).trans hA119
            replace hF := q_us hF hu394 (by simp)
            refine lv_aload_n hx hb d_18_16_92 rfl (lv_at hl 0 rfl) ?_
            refine q_ldc2 C0 rfl w_2441 d_18_16_93 ?_
            have ob395 : True ∧ S_TR_spells (8751735898823355977 : Int64) y31 y32 (2 : Int32) lx116 lx102 y36 y37 y38 y39 y40 y41 y42 y43 y44 t1_0 := (by have h := hS123; rw [S_TR_scan_J53.eq_1] at h; replace h := q_s2 h; have c310x := c310; rw [e132] at c310x; rw [if_neg c310x] at h; replace h := q_s2 h; have c318x := c318; rw [e317] at c318x; rw [if_pos c318x] at h; with_reducible exact h.2.1)
            refine q_goi V (q_runV (As := [.long 8751735898823355977]) (rest := []) (d := 2) (mc := 0) (ms := 0) (ci := 16) C0 V rfl LV_TR_83 (X_TR_spells l D g q w393  8751735898823355977 hI y31 y32 2 lx116 lx102 y36 y37 y38 y39 y40 y41 y42 y43 y44 hO117 t1_0 hA118 ob395 _) rfl rfl hO117 rfl hl.1 rfl (Nat.le_of_ble_eq_true rfl) ⟨by decide, by decide⟩ ⟨Nat.le_of_ble_eq_true rfl, Nat.le_of_ble_eq_true rfl⟩ d_18_16_96) (fun a398 u396 H locs hp397 V => ?_)
            obtain ⟨hI, hZ9⟩ := hp397
            obtain ⟨hu443, hZ9⟩ := hZ9
            obtain ⟨y400, hZ9⟩ := hZ9
            obtain ⟨y401, hZ9⟩ := hZ9
            obtain ⟨y402, hZ9⟩ := hZ9
            obtain ⟨y403, hZ9⟩ := hZ9
            obtain ⟨y404, hZ9⟩ := hZ9
            obtain ⟨y405, hZ9⟩ := hZ9
            obtain ⟨y406, hZ9⟩ := hZ9
            obtain ⟨y407, hZ9⟩ := hZ9
            obtain ⟨y408, hZ9⟩ := hZ9
            obtain ⟨y409, hZ9⟩ := hZ9
            obtain ⟨y410, hZ9⟩ := hZ9
            obtain ⟨y411, hZ9⟩ := hZ9
            obtain ⟨y412, hZ9⟩ := hZ9
            obtain ⟨y413, hZ9⟩ := hZ9
            obtain ⟨hO399, hZ9⟩ := hZ9
            obtain ⟨b414, hZ9⟩ := hZ9
            obtain ⟨b415, hZ9⟩ := hZ9
            obtain ⟨b416, hZ9⟩ := hZ9
            obtain ⟨b417, hZ9⟩ := hZ9
            obtain ⟨b418, hZ9⟩ := hZ9
            obtain ⟨b419, hZ9⟩ := hZ9
            obtain ⟨b420, hZ9⟩ := hZ9
            obtain ⟨b421, hZ9⟩ := hZ9
            obtain ⟨b422, hZ9⟩ := hZ9
            obtain ⟨b423, hZ9⟩ := hZ9
            replace hZ9 := hZ9.2.2.2.2.2.2
            obtain ⟨b430, hZ9⟩ := hZ9
            obtain ⟨b431, hZ9⟩ := hZ9
            obtain ⟨b432, hZ9⟩ := hZ9
            obtain ⟨b433, hZ9⟩ := hZ9
            obtain ⟨b434, hZ9⟩ := hZ9
            obtain ⟨b435, hZ9⟩ := hZ9
            obtain ⟨b436, hZ9⟩ := hZ9
            obtain ⟨b437, hZ9⟩ := hZ9
            obtain ⟨b438, hZ9⟩ := hZ9
            obtain ⟨b439, hZ9⟩ := hZ9
            obtain ⟨b440, hZ9⟩ := hZ9
            obtain ⟨b441, hE442⟩ := hZ9
            replace hO399 : u396[153]? = (some (q 153, .inr (16, [.int y400, .ref (q 154), .int y401, .int y402, .int y403, .int y404, .ref (q 155), .int y405, .int y406, .long y407, .ref (q 156), .int y408, .int y409, .long y410, .long y411, .int y412, .int y413])) : Option (Nat × va_E)) := hO399
            obtain ⟨p444, e445⟩ : ∃ z, z = (F_TR_spells (8751735898823355977 : Int64) y31 y32 (2 : Int32) lx116 lx102 y36 y37 y38 y39 y40 y41 y42 y43 y44 t1_0) := ⟨_, rfl⟩
            have e446 : a398 = p444.1 := congrArg (fun z => z.1) (hE442.trans e445.symm)
            have e447 : y400 = p444.2.1 := congrArg (fun z => z.2.1) (hE442.trans e445.symm)
            have e448 : y401 = p444.2.2.1 := congrArg (fun z => z.2.2.1) (hE442.trans e445.symm)
            have e449 : y402 = p444.2.2.2.1 := congrArg (fun z => z.2.2.2.1) (hE442.trans e445.symm)
            have e450 : y403 = p444.2.2.2.2.1 := congrArg (fun z => z.2.2.2.2.1) (hE442.trans e445.symm)
            have e451 : y404 = p444.2.2.2.2.2.1 := congrArg (fun z => z.2.2.2.2.2.1) (hE442.trans e445.symm)
            have e452 : y405 = p444.2.2.2.2.2.2.1 := congrArg (fun z => z.2.2.2.2.2.2.1) (hE442.trans e445.symm)
            have e453 : y406 = p444.2.2.2.2.2.2.2.1 := congrArg (fun z => z.2.2.2.2.2.2.2.1) (hE442.trans e445.symm)
            have e454 : y407 = p444.2.2.2.2.2.2.2.2.1 := congrArg (fun z => z.2.2.2.2.2.2.2.2.1) (hE442.trans e445.symm)
            have e455 : y408 = p444.2.2.2.2.2.2.2.2.2.1 := congrArg (fun z => z.2.2.2.2.2.2.2.2.2.1) (hE442.trans e445.symm)
            have e456 : y409 = p444.2.2.2.2.2.2.2.2.2.2.1 := congrArg (fun z => z.2.2.2.2.2.2.2.2.2.2.1) (hE442.trans e445.symm)
            have e457 : y410 = p444.2.2.2.2.2.2.2.2.2.2.2.1 := congrArg (fun z => z.2.2.2.2.2.2.2.2.2.2.2.1) (hE442.trans e445.symm)
            have e458 : y411 = p444.2.2.2.2.2.2.2.2.2.2.2.2.1 := congrArg (fun z => z.2.2.2.2.2.2.2.2.2.2.2.2.1) (hE442.trans e445.symm)
            have e459 : y412 = p444.2.2.2.2.2.2.2.2.2.2.2.2.2.1 := congrArg (fun z => z.2.2.2.2.2.2.2.2.2.2.2.2.2.1) (hE442.trans e445.symm)
            have e460 : y413 = p444.2.2.2.2.2.2.2.2.2.2.2.2.2.2 := congrArg (fun z => z.2.2.2.2.2.2.2.2.2.2.2.2.2.2) (hE442.trans e445.symm)
            replace b414 : q_F (0 ≤ a398.toInt) := b414
            replace b415 : q_F (a398.toInt ≤ 1) := b415
            replace b416 : q_F (y31.toInt ≤ y400.toInt) := b416
            replace b417 : q_F (y400.toInt ≤ y31.toInt) := b417
            replace b418 : q_F (y32.toInt ≤ y401.toInt) := b418
            replace b419 : q_F (y401.toInt ≤ y32.toInt) := b419
            replace b420 : q_F (2 ≤ y402.toInt) := b420
            replace b421 : q_F (y402.toInt ≤ 2) := b421
            replace b422 : q_F (lx102.toInt ≤ y404.toInt) := b422
            replace b423 : q_F (y404.toInt ≤ lx102.toInt) := b423
            replace b430 : q_F (y39.toInt ≤ y408.toInt) := b430
            replace b431 : q_F (y408.toInt ≤ y39.toInt) := b431
            replace b432 : q_F (y40.toInt ≤ y409.toInt) := b432
            replace b433 : q_F (y409.toInt ≤ y40.toInt) := b433
            replace b434 : q_F (y41.toInt ≤ y410.toInt) := b434
            replace b435 : q_F (y410.toInt ≤ y41.toInt) := b435
            replace b436 : q_F (y42.toInt ≤ y411.toInt) := b436
            replace b437 : q_F (y411.toInt ≤ y42.toInt) := b437
            replace b438 : q_F (y43.toInt ≤ y412.toInt) := b438
            replace b439 : q_F (y412.toInt ≤ y43.toInt) := b439
            replace b440 : q_F (y44.toInt ≤ y413.toInt) := b440
            replace b441 : q_F (y413.toInt ≤ y44.toInt) := b441
            replace hA118 := (hu443 _ (by decide)).trans hA118
            replace hA119 := (hu443 _ (by decide)).trans hA119
            replace hF := q_uc hF hu443 (by simp)
            have hR461 := (show F_TR_scan_c96 t0_0 t0_1 t0_2 t0_3 t0_4 t0_5 t0_6 t0_7 t0_8 t0_9 t0_10 t0_11 t0_12 t0_13 t1_0 t2_0 p75 y31 y32 y33 y34 y35 y36 y37 y38 y39 y40 y41 y42 y43 y44 lx102 lx116 p444 = (F_TR_scan t0_0 t0_1 t0_2 t0_3 t0_4 t0_5 t0_6 t0_7 t0_8 t0_9 t0_10 t0_11 t0_12 t0_13 t1_0 t2_0) from Eq.trans (by have c310x := c310; rw [e132] at c310x; have c318x := c318; rw [e317] at c318x; rw [e445, F_TR_scan_J53.eq_1, if_neg c310x, if_pos c318x]) hR122)
            have hS462 := (show True ∧ S_TR_scan_c96 t0_0 t0_1 t0_2 t0_3 t0_4 t0_5 t0_6 t0_7 t0_8 t0_9 t0_10 t0_11 t0_12 t0_13 t1_0 t2_0 p75 y31 y32 y33 y34 y35 y36 y37 y38 y39 y40 y41 y42 y43 y44 lx102 lx116 p444 from (by rw [e445]; have h := hS123; rw [S_TR_scan_J53.eq_1] at h; replace h := q_s2 h; have c310x := c310; rw [e132] at c310x; rw [if_neg c310x] at h; replace h := q_s2 h; have c318x := c318; rw [e317] at c318x; rw [if_pos c318x] at h; replace h := q_s2 h; with_reducible exact h))
            refine lv_istore_n (lv' := [(1, .int a398), (0, .ref (q 153))]) hx hb d_18_16_99 rfl hl (by decide) rfl (fun ls hl => ?_)
            refine lv_goto (tgt := 108) hx hb d_18_16_100 (by decide) ?_
            exact J152 ((a398 : Int32), (y400 : Int32), (y401 : Int32), (y402 : Int32), (y403 : Int32), (y404 : Int32), (y405 : Int32), (y406 : Int32), (y407 : Int64), (y408 : Int32), (y409 : Int32), (y410 : Int64), (y411 : Int64), (y412 : Int32), (y413 : Int32), (t2_0 : (Nat → Int32))) _ _ _ _ ⟨(show q_F (0 ≤ a398.toInt) from (show 0 ≤ a398.toInt from by have t1 : 0 ≤ a398.toInt := b414; omega)), (show q_F (a398.toInt ≤ 1) from (show a398.toInt ≤ 1 from by have t1 : a398.toInt ≤ 1 := b415; omega)), (show q_F (0 ≤ y402.toInt) from (show 0 ≤ y402.toInt from by have t1 : 2 ≤ y402.toInt := b420; omega)), (show q_F (y402.toInt ≤ 3) from (show y402.toInt ≤ 3 from by have t1 : y402.toInt ≤ 2 := b421; omega)), (show q_F (y31.toInt ≤ y400.toInt) from (show y31.toInt ≤ y400.toInt from by have t1 : y31.toInt ≤ y400.toInt := b416; omega)), (show q_F (y400.toInt ≤ y31.toInt) from (show y400.toInt ≤ y31.toInt from by have t1 : y400.toInt ≤ y31.toInt := b417; omega)), (show q_F (y32.toInt ≤ y401.toInt) from (show y32.toInt ≤ y401.toInt from by have t1 : y32.toInt ≤ y401.toInt := b418; omega)), (show q_F (y401.toInt ≤ y32.toInt) from (show y401.toInt ≤ y32.toInt from by have t1 : y401.toInt ≤ y32.toInt := b419; omega)), (show q_F (lx102.toInt ≤ y404.toInt) from (show lx102.toInt ≤ y404.toInt from by have t1 : lx102.toInt ≤ y404.toInt := b422; omega)), (show q_F (y404.toInt ≤ lx102.toInt) from (show y404.toInt ≤ lx102.toInt from by have t1 : y404.toInt ≤ lx102.toInt := b423; omega)), (show q_F (y39.toInt ≤ y408.toInt) from (show y39.toInt ≤ y408.toInt from by have t1 : y39.toInt ≤ y408.toInt := b430; omega)), (show q_F (y408.toInt ≤ y39.toInt) from (show y408.toInt ≤ y39.toInt from by have t1 : y408.toInt ≤ y39.toInt := b431; omega)), (show q_F (y40.toInt ≤ y409.toInt) from (show y40.toInt ≤ y409.toInt from by have t1 : y40.toInt ≤ y409.toInt := b432; omega)), (show q_F (y409.toInt ≤ y40.toInt) from (show y409.toInt ≤ y40.toInt from by have t1 : y409.toInt ≤ y40.toInt := b433; omega)), (show q_F (y41.toInt ≤ y410.toInt) from (show y41.toInt ≤ y410.toInt from by have t1 : y41.toInt ≤ y410.toInt := b434; omega)), (show q_F (y410.toInt ≤ y41.toInt) from (show y410.toInt ≤ y41.toInt from by have t1 : y410.toInt ≤ y41.toInt := b435; omega)), (show q_F (y42.toInt ≤ y411.toInt) from (show y42.toInt ≤ y411.toInt from by have t1 : y42.toInt ≤ y411.toInt := b436; omega)), (show q_F (y411.toInt ≤ y42.toInt) from (show y411.toInt ≤ y42.toInt from by have t1 : y411.toInt ≤ y42.toInt := b437; omega)), (show q_F (y43.toInt ≤ y412.toInt) from (show y43.toInt ≤ y412.toInt from by have t1 : y43.toInt ≤ y412.toInt := b438; omega)), (show q_F (y412.toInt ≤ y43.toInt) from (show y412.toInt ≤ y43.toInt from by have t1 : y412.toInt ≤ y43.toInt := b439; omega)), (show q_F (y44.toInt ≤ y413.toInt) from (show y44.toInt ≤ y413.toInt from by have t1 : y44.toInt ≤ y413.toInt := b440; omega)), (show q_F (y413.toInt ≤ y44.toInt) from (show y413.toInt ≤ y44.toInt from by have t1 : y413.toInt ≤ y44.toInt := b441; omega)), V, q_lw hl (q_lw1 0 rfl (q_lw1 1 rfl q_lw0)), hI, hF, hO399, hA118, hA119, (show F_TR_scan_J108 t0_0 t0_1 t0_2 t0_3 t0_4 t0_5 t0_6 t0_7 t0_8 t0_9 t0_10 t0_11 t0_12 t0_13 t1_0 t2_0 p75 y31 y32 y33 y34 y35 y36 y37 y38 y39 y40 y41 y42 y43 y44 lx102 lx116 a398 y400 y401 y402 y403 y404 y405 y406 y407 y408 y409 y410 y411 y412 y413 t2_0 = (F_TR_scan t0_0 t0_1 t0_2 t0_3 t0_4 t0_5 t0_6 t0_7 t0_8 t0_9 t0_10 t0_11 t0_12 t0_13 t1_0 t2_0) from Eq.trans (by rw [e460, e459, e458, e457, e456, e455, e454, e453, e452, e451, e450, e449, e448, e447, e446, F_TR_scan_c96.eq_1]) hR461), (show True ∧ S_TR_scan_J108 t0_0 t0_1 t0_2 t0_3 t0_4 t0_5 t0_6 t0_7 t0_8 t0_9 t0_10 t0_11 t0_12 t0_13 t1_0 t2_0 p75 y31 y32 y33 y34 y35 y36 y37 y38 y39 y40 y41 y42 y43 y44 lx102 lx116 a398 y400 y401 y402 y403 y404 y405 y406 y407 y408 y409 y410 y411 y412 y413 t2_0 from (by rw [e460, e459, e458, e457, e456, e455, e454, e453, e452, e451, e450, e449, e448, e447, e446]; have h := hS462; rw [S_TR_scan_c96.eq_1] at h; with_reducible exact h))⟩
        ·
          refine lv_aload_n hx hb d_18_16_62 rfl (lv_at hl 0 rfl) ?_
          refine lv_iconst (v := 3) hx hb d_18_16_63 (by decide) ?_
          refine q_put (ci := 16) (j := 3) (v := .int 3) (ty := .int) C0 V i_TR o_TR n_TR rfl rfl hO117 (by decide) w_2143 rfl rfl rfl rfl (Nat.le_of_ble_eq_true rfl) d_18_16_64 (fun H locs w467 hu468 hO117 V => ?_)
          replace hO117 : w467[153]? = (some (q 153, .inr (16, [.int y31, .ref (q 154), .int y32, .int 3, .int lx116, .int lx102, .ref (q 155), .int y36, .int y37, .long y38, .ref (q 156), .int y39, .int y40, .long y41, .long y42, .int y43, .int y44])) : Option (Nat × va_E)) := hO117
          replace hI := n_p153 hI hu468 hO117 ⟨(by have t1 : 0 ≤ t0_1.toInt ∧ t0_1.toInt ≤ 4100 := btt0_1; have t2 : t0_1.toInt ≤ y32.toInt := b48; omega), (by have t1 : 0 ≤ t0_1.toInt ∧ t0_1.toInt ≤ 4100 := btt0_1; have t2 : y32.toInt ≤ t0_1.toInt := b49; omega)⟩ ⟨(by first | with_reducible exact q_fe i107 | (have t1 : 0 ≤ lx102.toInt := i107; omega)), (by first | with_reducible exact q_fe i108 | (have t1 : lx102.toInt ≤ 1 := i108; omega))⟩ ⟨(by have t1 : 0 ≤ t0_13.toInt ∧ t0_13.toInt ≤ 1 := btt0_13; have t2 : t0_13.toInt ≤ y44.toInt := b71; omega), (by have t1 : 0 ≤ t0_13.toInt ∧ t0_13.toInt ≤ 1 := btt0_13; have t2 : y44.toInt ≤ t0_13.toInt := b72; omega)⟩
          replace hA118 := (hu468 _ (by decide)).trans hA118
          replace hA119 := (hu468 _ (by decide)).trans hA119
          replace hF := q_us hF hu468 (by simp)
          refine lv_aload_n hx hb d_18_16_67 rfl (lv_at hl 0 rfl) ?_
          refine q_ldc2 C0 rfl w_2435 d_18_16_68 ?_
          have ob469 : True ∧ S_TR_spells (5136718 : Int64) y31 y32 (3 : Int32) lx116 lx102 y36 y37 y38 y39 y40 y41 y42 y43 y44 t1_0 := (by have h := hS123; rw [S_TR_scan_J53.eq_1] at h; replace h := q_s2 h; have c310x := c310; rw [e132] at c310x; rw [if_pos c310x] at h; with_reducible exact h.2.1)
          refine q_goi V (q_runV (As := [.long 5136718]) (rest := []) (d := 2) (mc := 0) (ms := 0) (ci := 16) C0 V rfl LV_TR_83 (X_TR_spells l D g q w467  5136718 hI y31 y32 3 lx116 lx102 y36 y37 y38 y39 y40 y41 y42 y43 y44 hO117 t1_0 hA118 ob469 _) rfl rfl hO117 rfl hl.1 rfl (Nat.le_of_ble_eq_true rfl) ⟨by decide, by decide⟩ ⟨Nat.le_of_ble_eq_true rfl, Nat.le_of_ble_eq_true rfl⟩ d_18_16_71) (fun a472 u470 H locs hp471 V => ?_)
          obtain ⟨hI, hZ9⟩ := hp471
          obtain ⟨hu517, hZ9⟩ := hZ9
          obtain ⟨y474, hZ9⟩ := hZ9
          obtain ⟨y475, hZ9⟩ := hZ9
          obtain ⟨y476, hZ9⟩ := hZ9
          obtain ⟨y477, hZ9⟩ := hZ9
          obtain ⟨y478, hZ9⟩ := hZ9
          obtain ⟨y479, hZ9⟩ := hZ9
          obtain ⟨y480, hZ9⟩ := hZ9
          obtain ⟨y481, hZ9⟩ := hZ9
          obtain ⟨y482, hZ9⟩ := hZ9
          obtain ⟨y483, hZ9⟩ := hZ9
          obtain ⟨y484, hZ9⟩ := hZ9
          obtain ⟨y485, hZ9⟩ := hZ9
          obtain ⟨y486, hZ9⟩ := hZ9
          obtain ⟨y487, hZ9⟩ := hZ9
          obtain ⟨hO473, hZ9⟩ := hZ9
          obtain ⟨b488, hZ9⟩ := hZ9
          obtain ⟨b489, hZ9⟩ := hZ9
          obtain ⟨b490, hZ9⟩ := hZ9
          obtain ⟨b491, hZ9⟩ := hZ9
          obtain ⟨b492, hZ9⟩ := hZ9
          obtain ⟨b493, hZ9⟩ := hZ9
          obtain ⟨b494, hZ9⟩ := hZ9
          obtain ⟨b495, hZ9⟩ := hZ9
          obtain ⟨b496, hZ9⟩ := hZ9
          obtain ⟨b497, hZ9⟩ := hZ9
          replace hZ9 := hZ9.2.2.2.2.2.2
          obtain ⟨b504, hZ9⟩ := hZ9
          obtain ⟨b505, hZ9⟩ := hZ9
          obtain ⟨b506, hZ9⟩ := hZ9
          obtain ⟨b507, hZ9⟩ := hZ9
          obtain ⟨b508, hZ9⟩ := hZ9
          obtain ⟨b509, hZ9⟩ := hZ9
          obtain ⟨b510, hZ9⟩ := hZ9
          obtain ⟨b511, hZ9⟩ := hZ9
          obtain ⟨b512, hZ9⟩ := hZ9
          obtain ⟨b513, hZ9⟩ := hZ9
          obtain ⟨b514, hZ9⟩ := hZ9
          obtain ⟨b515, hE516⟩ := hZ9
          replace hO473 : u470[153]? = (some (q 153, .inr (16, [.int y474, .ref (q 154), .int y475, .int y476, .int y477, .int y478, .ref (q 155), .int y479, .int y480, .long y481, .ref (q 156), .int y482, .int y483, .long y484, .long y485, .int y486, .int y487])) : Option (Nat × va_E)) := hO473
          obtain ⟨p518, e519⟩ : ∃ z, z = (F_TR_spells (5136718 : Int64) y31 y32 (3 : Int32) lx116 lx102 y36 y37 y38 y39 y40 y41 y42 y43 y44 t1_0) := ⟨_, rfl⟩
          have e520 : a472 = p518.1 := congrArg (fun z => z.1) (hE516.trans e519.symm)
          have e521 : y474 = p518.2.1 := congrArg (fun z => z.2.1) (hE516.trans e519.symm)
          have e522 : y475 = p518.2.2.1 := congrArg (fun z => z.2.2.1) (hE516.trans e519.symm)
          have e523 : y476 = p518.2.2.2.1 := congrArg (fun z => z.2.2.2.1) (hE516.trans e519.symm)
          have e524 : y477 = p518.2.2.2.2.1 := congrArg (fun z => z.2.2.2.2.1) (hE516.trans e519.symm)
          have e525 : y478 = p518.2.2.2.2.2.1 := congrArg (fun z => z.2.2.2.2.2.1) (hE516.trans e519.symm)
          have e526 : y479 = p518.2.2.2.2.2.2.1 := congrArg (fun z => z.2.2.2.2.2.2.1) (hE516.trans e519.symm)
          have e527 : y480 = p518.2.2.2.2.2.2.2.1 := congrArg (fun z => z.2.2.2.2.2.2.2.1) (hE516.trans e519.symm)
          have e528 : y481 = p518.2.2.2.2.2.2.2.2.1 := congrArg (fun z => z.2.2.2.2.2.2.2.2.1) (hE516.trans e519.symm)
          have e529 : y482 = p518.2.2.2.2.2.2.2.2.2.1 := congrArg (fun z => z.2.2.2.2.2.2.2.2.2.1) (hE516.trans e519.symm)
          have e530 : y483 = p518.2.2.2.2.2.2.2.2.2.2.1 := congrArg (fun z => z.2.2.2.2.2.2.2.2.2.2.1) (hE516.trans e519.symm)
          have e531 : y484 = p518.2.2.2.2.2.2.2.2.2.2.2.1 := congrArg (fun z => z.2.2.2.2.2.2.2.2.2.2.2.1) (hE516.trans e519.symm)
          have e532 : y485 = p518.2.2.2.2.2.2.2.2.2.2.2.2.1 := congrArg (fun z => z.2.2.2.2.2.2.2.2.2.2.2.2.1) (hE516.trans e519.symm)
          have e533 : y486 = p518.2.2.2.2.2.2.2.2.2.2.2.2.2.1 := congrArg (fun z => z.2.2.2.2.2.2.2.2.2.2.2.2.2.1) (hE516.trans e519.symm)
          have e534 : y487 = p518.2.2.2.2.2.2.2.2.2.2.2.2.2.2 := congrArg (fun z => z.2.2.2.2.2.2.2.2.2.2.2.2.2.2) (hE516.trans e519.symm)
          replace b488 : q_F (0 ≤ a472.toInt) := b488
          replace b489 : q_F (a472.toInt ≤ 1) := b489
          replace b490 : q_F (y31.toInt ≤ y474.toInt) := b490
          replace b491 : q_F (y474.toInt ≤ y31.toInt) := b491
          replace b492 : q_F (y32.toInt ≤ y475.toInt) := b492
          replace b493 : q_F (y475.toInt ≤ y32.toInt) := b493
          replace b494 : q_F (3 ≤ y476.toInt) := b494
          replace b495 : q_F (y476.toInt ≤ 3) := b495
          replace b496 : q_F (lx102.toInt ≤ y478.toInt) := b496
          replace b497 : q_F (y478.toInt ≤ lx102.toInt) := b497
          replace b504 : q_F (y39.toInt ≤ y482.toInt) := b504
          replace b505 : q_F (y482.toInt ≤ y39.toInt) := b505
          replace b506 : q_F (y40.toInt ≤ y483.toInt) := b506
          replace b507 : q_F (y483.toInt ≤ y40.toInt) := b507
          replace b508 : q_F (y41.toInt ≤ y484.toInt) := b508
          replace b509 : q_F (y484.toInt ≤ y41.toInt) := b509
          replace b510 : q_F (y42.toInt ≤ y485.toInt) := b510
          replace b511 : q_F (y485.toInt ≤ y42.toInt) := b511
          replace b512 : q_F (y43.toInt ≤ y486.toInt) := b512
          replace b513 : q_F (y486.toInt ≤ y43.toInt) := b513
          replace b514 : q_F (y44.toInt ≤ y487.toInt) := b514
          replace b515 : q_F (y487.toInt ≤ y44.toInt) := b515
          replace hA118 := (hu517 _ (by decide)).trans hA118
          replace hA119 := (hu517 _ (by decide)).trans hA119
          replace hF := q_uc hF hu517 (by simp)
          have hR535 := (show F_TR_scan_c71 t0_0 t0_1 t0_2 t0_3 t0_4 t0_5 t0_6 t0_7 t0_8 t0_9 t0_10 t0_11 t0_12 t0_13 t1_0 t2_0 p75 y31 y32 y33 y34 y35 y36 y37 y38 y39 y40 y41 y42 y43 y44 lx102 lx116 p518 = (F_TR_scan t0_0 t0_1 t0_2 t0_3 t0_4 t0_5 t0_6 t0_7 t0_8 t0_9 t0_10 t0_11 t0_12 t0_13 t1_0 t2_0) from Eq.trans (by have c310x := c310; rw [e132] at c310x; rw [e519, F_TR_scan_J53.eq_1, if_pos c310x]) hR122)
          have hS536 := (show True ∧ S_TR_scan_c71 t0_0 t0_1 t0_2 t0_3 t0_4 t0_5 t0_6 t0_7 t0_8 t0_9 t0_10 t0_11 t0_12 t0_13 t1_0 t2_0 p75 y31 y32 y33 y34 y35 y36 y37 y38 y39 y40 y41 y42 y43 y44 lx102 lx116 p518 from (by rw [e519]; have h := hS123; rw [S_TR_scan_J53.eq_1] at h; replace h := q_s2 h; have c310x := c310; rw [e132] at c310x; rw [if_pos c310x] at h; replace h := q_s2 h; with_reducible exact h))
          refine lv_istore_n (lv' := [(1, .int a472), (0, .ref (q 153))]) hx hb d_18_16_74 rfl hl (by decide) rfl (fun ls hl => ?_)
          refine lv_goto (tgt := 108) hx hb d_18_16_75 (by decide) ?_
          exact J152 ((a472 : Int32), (y474 : Int32), (y475 : Int32), (y476 : Int32), (y477 : Int32), (y478 : Int32), (y479 : Int32), (y480 : Int32), (y481 : Int64), (y482 : Int32), (y483 : Int32), (y484 : Int64), (y485 : Int64), (y486 : Int32), (y487 : Int32), (t2_0 : (Nat → Int32))) _ _ _ _ ⟨(show q_F (0 ≤ a472.toInt) from (show 0 ≤ a472.toInt from by have t1 : 0 ≤ a472.toInt := b488; omega)), (show q_F (a472.toInt ≤ 1) from (show a472.toInt ≤ 1 from by have t1 : a472.toInt ≤ 1 := b489; omega)), (show q_F (0 ≤ y476.toInt) from (show 0 ≤ y476.toInt from by have t1 : 3 ≤ y476.toInt := b494; omega)), (show q_F (y476.toInt ≤ 3) from (show y476.toInt ≤ 3 from by have t1 : y476.toInt ≤ 3 := b495; omega)), (show q_F (y31.toInt ≤ y474.toInt) from (show y31.toInt ≤ y474.toInt from by have t1 : y31.toInt ≤ y474.toInt := b490; omega)), (show q_F (y474.toInt ≤ y31.toInt) from (show y474.toInt ≤ y31.toInt from by have t1 : y474.toInt ≤ y31.toInt := b491; omega)), (show q_F (y32.toInt ≤ y475.toInt) from (show y32.toInt ≤ y475.toInt from by have t1 : y32.toInt ≤ y475.toInt := b492; omega)), (show q_F (y475.toInt ≤ y32.toInt) from (show y475.toInt ≤ y32.toInt from by have t1 : y475.toInt ≤ y32.toInt := b493; omega)), (show q_F (lx102.toInt ≤ y478.toInt) from (show lx102.toInt ≤ y478.toInt from by have t1 : lx102.toInt ≤ y478.toInt := b496; omega)), (show q_F (y478.toInt ≤ lx102.toInt) from (show y478.toInt ≤ lx102.toInt from by have t1 : y478.toInt ≤ lx102.toInt := b497; omega)), (show q_F (y39.toInt ≤ y482.toInt) from (show y39.toInt ≤ y482.toInt from by have t1 : y39.toInt ≤ y482.toInt := b504; omega)), (show q_F (y482.toInt ≤ y39.toInt) from (show y482.toInt ≤ y39.toInt from by have t1 : y482.toInt ≤ y39.toInt := b505; omega)), (show q_F (y40.toInt ≤ y483.toInt) from (show y40.toInt ≤ y483.toInt from by have t1 : y40.toInt ≤ y483.toInt := b506; omega)), (show q_F (y483.toInt ≤ y40.toInt) from (show y483.toInt ≤ y40.toInt from by have t1 : y483.toInt ≤ y40.toInt := b507; omega)), (show q_F (y41.toInt ≤ y484.toInt) from (show y41.toInt ≤ y484.toInt from by have t1 : y41.toInt ≤ y484.toInt := b508; omega)), (show q_F (y484.toInt ≤ y41.toInt) from (show y484.toInt ≤ y41.toInt from by have t1 : y484.toInt ≤ y41.toInt := b509; omega)), (show q_F (y42.toInt ≤ y485.toInt) from (show y42.toInt ≤ y485.toInt from by have t1 : y42.toInt ≤ y485.toInt := b510; omega)), (show q_F (y485.toInt ≤ y42.toInt) from (show y485.toInt ≤ y42.toInt from by have t1 : y485.toInt ≤ y42.toInt := b511; omega)), (show q_F (y43.toInt ≤ y486.toInt) from (show y43.toInt ≤ y486.toInt from by have t1 : y43.toInt ≤ y486.toInt := b512; omega)), (show q_F (y486.toInt ≤ y43.toInt) from (show y486.toInt ≤ y43.toInt from by have t1 : y486.toInt ≤ y43.toInt := b513; omega)), (show q_F (y44.toInt ≤ y487.toInt) from (show y44.toInt ≤ y487.toInt from by have t1 : y44.toInt ≤ y487.toInt := b514; omega)), (show q_F (y487.toInt ≤ y44.toInt) from (show y487.toInt ≤ y44.toInt from by have t1 : y487.toInt ≤ y44.toInt := b515; omega)), V, q_lw hl (q_lw1 0 rfl (q_lw1 1 rfl q_lw0)), hI, hF, hO473, hA118, hA119, (show F_TR_scan_J108 t0_0 t0_1 t0_2 t0_3 t0_4 t0_5 t0_6 t0_7 t0_8 t0_9 t0_10 t0_11 t0_12 t0_13 t1_0 t2_0 p75 y31 y32 y33 y34 y35 y36 y37 y38 y39 y40 y41 y42 y43 y44 lx102 lx116 a472 y474 y475 y476 y477 y478 y479 y480 y481 y482 y483 y484 y485 y486 y487 t2_0 = (F_TR_scan t0_0 t0_1 t0_2 t0_3 t0_4 t0_5 t0_6 t0_7 t0_8 t0_9 t0_10 t0_11 t0_12 t0_13 t1_0 t2_0) from Eq.trans (by rw [e534, e533, e532, e531, e530, e529, e528, e527, e526, e525, e524, e523, e522, e521, e520, F_TR_scan_c71.eq_1]) hR535), (show True ∧ S_TR_scan_J108 t0_0 t0_1 t0_2 t0_3 t0_4 t0_5 t0_6 t0_7 t0_8 t0_9 t0_10 t0_11 t0_12 t0_13 t1_0 t2_0 p75 y31 y32 y33 y34 y35 y36 y37 y38 y39 y40 y41 y42 y43 y44 lx102 lx116 a472 y474 y475 y476 y477 y478 y479 y480 y481 y482 y483 y484 y485 y486 y487 t2_0 from (by rw [e534, e533, e532, e531, e530, e529, e528, e527, e526, e525, e524, e523, e522, e521, e520]; have h := hS536; rw [S_TR_scan_c71.eq_1] at h; with_reducible exact h))⟩
    ·
      intro J120
      refine q_join (X := Unit) (fun z H locs ls _ => q_Wd D g (va_A ws sz) s w114 H locs ∧ lv_has ls 2 [(0, .ref (q 153))] ∧ F_TR_scan_J43 t0_0 t0_1 t0_2 t0_3 t0_4 t0_5 t0_6 t0_7 t0_8 t0_9 t0_10 t0_11 t0_12 t0_13 t1_0 t2_0 p75 y31 y32 y33 y34 y35 y36 y37 y38 y39 y40 y41 y42 y43 y44 lx102 = (F_TR_scan t0_0 t0_1 t0_2 t0_3 t0_4 t0_5 t0_6 t0_7 t0_8 t0_9 t0_10 t0_11 t0_12 t0_13 t1_0 t2_0) ∧ True ∧ S_TR_scan_J43 t0_0 t0_1 t0_2 t0_3 t0_4 t0_5 t0_6 t0_7 t0_8 t0_9 t0_10 t0_11 t0_12 t0_13 t1_0 t2_0 p75 y31 y32 y33 y34 y35 y36 y37 y38 y39 y40 y41 y42 y43 y44 lx102) (fun z => []) 43 0 0 ?_ ?_
      ·
        rintro _ H locs ls _ ⟨V, hl, hR544, hS545⟩
        replace hl : lv_has ls 2 [(0, .ref (q 153))] := hl
        refine lv_aload_n hx hb d_18_16_43 rfl (lv_at hl 0 rfl) ?_
        refine lv_dup hx hb d_18_16_44 rfl ?_
        refine q_get (ci := 16) (j := 4) (v := .int y34) C0 V i_TR rfl rfl hO30 (by decide) w_2144 rfl d_18_16_45 ?_
        refine lv_iconst (v := 1) hx hb d_18_16_48 (by decide) ?_
        refine lv_iadd hx hb d_18_16_49 ?_
        obtain ⟨a549, e550⟩ := q_nm (y34 + 1 : Int32)
        refine q_ti (v := a549) e550 ?_
        refine q_put (ci := 16) (j := 4) (v := .int a549) (ty := .int) C0 V i_TR o_TR n_TR rfl rfl hO30 (by decide) w_2144 rfl rfl rfl rfl (Nat.le_of_ble_eq_true rfl) d_18_16_50 (fun H locs w551 hu552 hO30 V => ?_)
        replace hO30 : w551[153]? = (some (q 153, .inr (16, [.int y31, .ref (q 154), .int y32, .int y33, .int a549, .int lx102, .ref (q 155), .int y36, .int y37, .long y38, .ref (q 156), .int y39, .int y40, .long y41, .long y42, .int y43, .int y44])) : Option (Nat × va_E)) := hO30
        replace hI := n_p153 hI hu552 hO30 ⟨(by have t1 : 0 ≤ t0_1.toInt ∧ t0_1.toInt ≤ 4100 := btt0_1; have t2 : t0_1.toInt ≤ y32.toInt := b48; omega), (by have t1 : 0 ≤ t0_1.toInt ∧ t0_1.toInt ≤ 4100 := btt0_1; have t2 : y32.toInt ≤ t0_1.toInt := b49; omega)⟩ ⟨(by first | with_reducible exact q_fe i107 | (have t1 : 0 ≤ lx102.toInt := i107; omega)), (by first | with_reducible exact q_fe i108 | (have t1 : lx102.toInt ≤ 1 := i108; omega))⟩ ⟨(by have t1 : 0 ≤ t0_13.toInt ∧ t0_13.toInt ≤ 1 := btt0_13; have t2 : t0_13.toInt ≤ y44.toInt := b71; omega), (by have t1 : 0 ≤ t0_13.toInt ∧ t0_13.toInt ≤ 1 := btt0_13; have t2 : y44.toInt ≤ t0_13.toInt := b72; omega)⟩
        replace hT1 := (hu552 _ (by decide)).trans hT1
        replace hT2 := (hu552 _ (by decide)).trans hT2
        replace hF := q_us hF hu552 (by simp)
        exact J120 ((a549 : Int32)) _ _ _ _ ⟨V, q_lw hl (q_lw1 0 rfl q_lw0), hI, hF, hO30, hT1, hT2, (show F_TR_scan_J53 t0_0 t0_1 t0_2 t0_3 t0_4 t0_5 t0_6 t0_7 t0_8 t0_9 t0_10 t0_11 t0_12 t0_13 t1_0 t2_0 p75 y31 y32 y33 y34 y35 y36 y37 y38 y39 y40 y41 y42 y43 y44 lx102 a549 = (F_TR_scan t0_0 t0_1 t0_2 t0_3 t0_4 t0_5 t0_6 t0_7 t0_8 t0_9 t0_10 t0_11 t0_12 t0_13 t1_0 t2_0) from Eq.trans (by rw [← e550, F_TR_scan_J43.eq_1]) hR544), (show True ∧ S_TR_scan_J53 t0_0 t0_1 t0_2 t0_3 t0_4 t0_5 t0_6 t0_7 t0_8 t0_9 t0_10 t0_11 t0_12 t0_13 t1_0 t2_0 p75 y31 y32 y33 y34 y35 y36 y37 y38 y39 y40 y41 y42 y43 y44 lx102 a549 from (by rw [← e550]; have h := hS545; rw [S_TR_scan_J43.eq_1] at h; with_reducible exact h))⟩
      ·
        intro J543
        refine lv_if_ne (tgt := 43) hx hb d_18_16_31 (by decide) (fun c553 => ?_) (fun c553 => ?_)
        ·
          exact J543 (()) _ _ _ w114 ⟨V, q_lw hl (q_lw1 0 rfl q_lw0), (show F_TR_scan_J43 t0_0 t0_1 t0_2 t0_3 t0_4 t0_5 t0_6 t0_7 t0_8 t0_9 t0_10 t0_11 t0_12 t0_13 t1_0 t2_0 p75 y31 y32 y33 y34 y35 y36 y37 y38 y39 y40 y41 y42 y43 y44 lx102 = (F_TR_scan t0_0 t0_1 t0_2 t0_3 t0_4 t0_5 t0_6 t0_7 t0_8 t0_9 t0_10 t0_11 t0_12 t0_13 t1_0 t2_0) from Eq.trans (by rw [F_TR_scan_J24.eq_1, if_neg c553]) hR109), (show True ∧ S_TR_scan_J43 t0_0 t0_1 t0_2 t0_3 t0_4 t0_5 t0_6 t0_7 t0_8 t0_9 t0_10 t0_11 t0_12 t0_13 t1_0 t2_0 p75 y31 y32 y33 y34 y35 y36 y37 y38 y39 y40 y41 y42 y43 y44 lx102 from (by have h := hS110; rw [S_TR_scan_J24.eq_1] at h; rw [if_neg c553] at h; with_reducible exact h))⟩
        ·
          refine lv_aload_n hx hb d_18_16_34 rfl (lv_at hl 0 rfl) ?_
          have ob556 : True ∧ S_TR_here y31 y32 y33 y34 lx102 y36 y37 y38 y39 y40 y41 y42 y43 y44 t1_0 := (by have h := hS110; rw [S_TR_scan_J24.eq_1] at h; rw [if_pos c553] at h; with_reducible exact h.2.1)
          refine q_goi V (q_runV (As := []) (rest := []) (d := 1) (mc := 0) (ms := 0) (ci := 16) C0 V rfl LV_TR_35 (X_TR_here l D g q w114   hI y31 y32 y33 y34 lx102 y36 y37 y38 y39 y40 y41 y42 y43 y44 hO30 t1_0 hT1 ob556 _) rfl rfl hO30 rfl hl.1 rfl (Nat.le_of_ble_eq_true rfl) ⟨by decide, by decide⟩ ⟨Nat.le_of_ble_eq_true rfl, Nat.le_of_ble_eq_true rfl⟩ d_18_16_35) (fun a559 u557 H locs hp558 V => ?_)
          obtain ⟨rfl, hE560⟩ := hp558
          have e561 : a559 = (F_TR_here y31 y32 y33 y34 lx102 y36 y37 y38 y39 y40 y41 y42 y43 y44 t1_0) := hE560
          refine lv_bipush (v := 43) hx hb d_18_16_38 (by decide) ?_
          refine lv_icmp_ne (tgt := 53) hx hb d_18_16_40 (by decide) (fun c562 => ?_) (fun c562 => ?_)
          ·
            exact J120 ((y34 : Int32)) _ _ _ _ ⟨V, q_lw hl (q_lw1 0 rfl q_lw0), hI, hF, hO30, hT1, hT2, (show F_TR_scan_J53 t0_0 t0_1 t0_2 t0_3 t0_4 t0_5 t0_6 t0_7 t0_8 t0_9 t0_10 t0_11 t0_12 t0_13 t1_0 t2_0 p75 y31 y32 y33 y34 y35 y36 y37 y38 y39 y40 y41 y42 y43 y44 lx102 y34 = (F_TR_scan t0_0 t0_1 t0_2 t0_3 t0_4 t0_5 t0_6 t0_7 t0_8 t0_9 t0_10 t0_11 t0_12 t0_13 t1_0 t2_0) from Eq.trans (by have c562x := c562; rw [e561] at c562x; rw [F_TR_scan_J24.eq_1, if_pos c553, if_neg c562x]) hR109), (show True ∧ S_TR_scan_J53 t0_0 t0_1 t0_2 t0_3 t0_4 t0_5 t0_6 t0_7 t0_8 t0_9 t0_10 t0_11 t0_12 t0_13 t1_0 t2_0 p75 y31 y32 y33 y34 y35 y36 y37 y38 y39 y40 y41 y42 y43 y44 lx102 y34 from (by have h := hS110; rw [S_TR_scan_J24.eq_1] at h; rw [if_pos c553] at h; replace h := q_s2 h; have c562x := c562; rw [e561] at c562x; rw [if_neg c562x] at h; with_reducible exact h))⟩
          ·
            exact J543 (()) _ _ _ w114 ⟨V, q_lw hl (q_lw1 0 rfl q_lw0), (show F_TR_scan_J43 t0_0 t0_1 t0_2 t0_3 t0_4 t0_5 t0_6 t0_7 t0_8 t0_9 t0_10 t0_11 t0_12 t0_13 t1_0 t2_0 p75 y31 y32 y33 y34 y35 y36 y37 y38 y39 y40 y41 y42 y43 y44 lx102 = (F_TR_scan t0_0 t0_1 t0_2 t0_3 t0_4 t0_5 t0_6 t0_7 t0_8 t0_9 t0_10 t0_11 t0_12 t0_13 t1_0 t2_0) from Eq.trans (by have c562x := c562; rw [e561] at c562x; rw [F_TR_scan_J24.eq_1, if_pos c553, if_pos c562x]) hR109), (show True ∧ S_TR_scan_J43 t0_0 t0_1 t0_2 t0_3 t0_4 t0_5 t0_6 t0_7 t0_8 t0_9 t0_10 t0_11 t0_12 t0_13 t1_0 t2_0 p75 y31 y32 y33 y34 y35 y36 y37 y38 y39 y40 y41 y42 y43 y44 lx102 from (by have h := hS110; rw [S_TR_scan_J24.eq_1] at h; rw [if_pos c553] at h; replace h := q_s2 h; have c562x := c562; rw [e561] at c562x; rw [if_pos c562x] at h; with_reducible exact h))⟩
  ·
    intro J106
    refine lv_icmp_ne (tgt := 23) hx hb d_18_16_16 (by decide) (fun c565 => ?_) (fun c565 => ?_)
    ·
      refine lv_iconst (v := 0) hx hb d_18_16_23 (by decide) ?_
      exact J106 ((0 : Int32)) _ _ _ u28 ⟨(show q_F (0 ≤ 0) from (show 0 ≤ 0 from by omega)), (show q_F (0 ≤ 1) from (show 0 ≤ 1 from by omega)), V, q_lw hl (q_lw1 0 rfl q_lw0), (show F_TR_scan_J24 t0_0 t0_1 t0_2 t0_3 t0_4 t0_5 t0_6 t0_7 t0_8 t0_9 t0_10 t0_11 t0_12 t0_13 t1_0 t2_0 p75 y31 y32 y33 y34 y35 y36 y37 y38 y39 y40 y41 y42 y43 y44 0 = (F_TR_scan t0_0 t0_1 t0_2 t0_3 t0_4 t0_5 t0_6 t0_7 t0_8 t0_9 t0_10 t0_11 t0_12 t0_13 t1_0 t2_0) from Eq.trans (by have c565x := c565; rw [e101, e90, e89, e88, e87, e86, e85, e84, e83, e82, e81, e80, e79, e78, e77] at c565x; rw [e90, e89, e88, e87, e86, e85, e84, e83, e82, e81, e80, e79, e78, e77, F_TR_scan_c6.eq_1, if_neg c565x]) hR91), (show True ∧ S_TR_scan_J24 t0_0 t0_1 t0_2 t0_3 t0_4 t0_5 t0_6 t0_7 t0_8 t0_9 t0_10 t0_11 t0_12 t0_13 t1_0 t2_0 p75 y31 y32 y33 y34 y35 y36 y37 y38 y39 y40 y41 y42 y43 y44 0 from (by rw [e90, e89, e88, e87, e86, e85, e84, e83, e82, e81, e80, e79, e78, e77]; have h := hS92; rw [S_TR_scan_c6.eq_1] at h; replace h := q_s2 h; have c565x := c565; rw [e101, e90, e89, e88, e87, e86, e85, e84, e83, e82, e81, e80, e79, e78, e77] at c565x; rw [if_neg c565x] at h; with_reducible exact h))⟩
    ·
      refine lv_iconst (v := 1) hx hb d_18_16_19 (by decide) ?_
      refine lv_goto (tgt := 24) hx hb d_18_16_20 (by decide) ?_
      exact J106 ((1 : Int32)) _ _ _ u28 ⟨(show q_F (0 ≤ 1) from (show 0 ≤ 1 from by omega)), (show q_F (1 ≤ 1) from (show 1 ≤ 1 from by omega)), V, q_lw hl (q_lw1 0 rfl q_lw0), (show F_TR_scan_J24 t0_0 t0_1 t0_2 t0_3 t0_4 t0_5 t0_6 t0_7 t0_8 t0_9 t0_10 t0_11 t0_12 t0_13 t1_0 t2_0 p75 y31 y32 y33 y34 y35 y36 y37 y38 y39 y40 y41 y42 y43 y44 1 = (F_TR_scan t0_0 t0_1 t0_2 t0_3 t0_4 t0_5 t0_6 t0_7 t0_8 t0_9 t0_10 t0_11 t0_12 t0_13 t1_0 t2_0) from Eq.trans (by have c565x := c565; rw [e101, e90, e89, e88, e87, e86, e85, e84, e83, e82, e81, e80, e79, e78, e77] at c565x; rw [e90, e89, e88, e87, e86, e85, e84, e83, e82, e81, e80, e79, e78, e77, F_TR_scan_c6.eq_1, if_pos c565x]) hR91), (show True ∧ S_TR_scan_J24 t0_0 t0_1 t0_2 t0_3 t0_4 t0_5 t0_6 t0_7 t0_8 t0_9 t0_10 t0_11 t0_12 t0_13 t1_0 t2_0 p75 y31 y32 y33 y34 y35 y36 y37 y38 y39 y40 y41 y42 y43 y44 1 from (by rw [e90, e89, e88, e87, e86, e85, e84, e83, e82, e81, e80, e79, e78, e77]; have h := hS92; rw [S_TR_scan_c6.eq_1] at h; replace h := q_s2 h; have c565x := c565; rw [e101, e90, e89, e88, e87, e86, e85, e84, e83, e82, e81, e80, e79, e78, e77] at c565x; rw [if_pos c565x] at h; with_reducible exact h))⟩

