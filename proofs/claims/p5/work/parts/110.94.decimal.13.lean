theorem d_15_15_0 : decode prog_15_method_15_code 0 = .ok (.aload_n 0, 1) := by decide +kernel
theorem d_15_15_1 : decode prog_15_method_15_code 1 = .ok (.invokevirtual 59, 3) := by decide +kernel
theorem d_15_15_4 : decode prog_15_method_15_code 4 = .ok (.aload_n 0, 1) := by decide +kernel
theorem d_15_15_5 : decode prog_15_method_15_code 5 = .ok (.getfield 26, 3) := by decide +kernel
theorem d_15_15_8 : decode prog_15_method_15_code 8 = .ok (.iconst 0, 1) := by decide +kernel
theorem d_15_15_9 : decode prog_15_method_15_code 9 = .ok (.iaload, 1) := by decide +kernel
theorem d_15_15_32 : decode prog_15_method_15_code 32 = .ok (.aload_n 0, 1) := by decide +kernel
theorem d_15_15_33 : decode prog_15_method_15_code 33 = .ok (.invokevirtual 93, 3) := by decide +kernel
theorem d_15_15_36 : decode prog_15_method_15_code 36 = .ok (.istore 6, 2) := by decide +kernel
theorem d_15_15_38 : decode prog_15_method_15_code 38 = .ok (.aload_n 0, 1) := by decide +kernel
theorem d_15_15_39 : decode prog_15_method_15_code 39 = .ok (.getfield 52, 3) := by decide +kernel
theorem d_15_15_129 : decode prog_15_method_15_code 129 = .ok (.aload_n 0, 1) := by decide +kernel
theorem d_15_15_130 : decode prog_15_method_15_code 130 = .ok (.iload_n 1, 1) := by decide +kernel
theorem d_15_15_131 : decode prog_15_method_15_code 131 = .ok (.iload 4, 2) := by decide +kernel
theorem d_15_15_133 : decode prog_15_method_15_code 133 = .ok (.invokevirtual 85, 3) := by decide +kernel
theorem d_15_15_136 : decode prog_15_method_15_code 136 = .ok (.ifCond .eq 37, 3) := by decide +kernel
theorem d_15_15_173 : decode prog_15_method_15_code 173 = .ok (.return_, 1) := by decide +kernel
theorem d_15_15_139 : decode prog_15_method_15_code 139 = .ok (.aload_n 0, 1) := by decide +kernel
theorem d_15_15_140 : decode prog_15_method_15_code 140 = .ok (.getfield 45, 3) := by decide +kernel
theorem d_15_15_143 : decode prog_15_method_15_code 143 = .ok (.iload_n 1, 1) := by decide +kernel
theorem d_15_15_144 : decode prog_15_method_15_code 144 = .ok (.if_icmp .le 23, 3) := by decide +kernel
theorem d_15_15_167 : decode prog_15_method_15_code 167 = .ok (.aload_n 0, 1) := by decide +kernel
theorem d_15_15_168 : decode prog_15_method_15_code 168 = .ok (.iload 5, 2) := by decide +kernel
theorem d_15_15_170 : decode prog_15_method_15_code 170 = .ok (.invokevirtual 89, 3) := by decide +kernel
theorem d_15_15_147 : decode prog_15_method_15_code 147 = .ok (.aload_n 0, 1) := by decide +kernel
theorem d_15_15_148 : decode prog_15_method_15_code 148 = .ok (.dup, 1) := by decide +kernel
theorem d_15_15_149 : decode prog_15_method_15_code 149 = .ok (.getfield 45, 3) := by decide +kernel
theorem d_15_15_152 : decode prog_15_method_15_code 152 = .ok (.iconst 1, 1) := by decide +kernel
theorem d_15_15_153 : decode prog_15_method_15_code 153 = .ok (.isub, 1) := by decide +kernel
theorem d_15_15_154 : decode prog_15_method_15_code 154 = .ok (.putfield 45, 3) := by decide +kernel
theorem d_15_15_157 : decode prog_15_method_15_code 157 = .ok (.aload_n 0, 1) := by decide +kernel
theorem d_15_15_158 : decode prog_15_method_15_code 158 = .ok (.dup, 1) := by decide +kernel
theorem d_15_15_159 : decode prog_15_method_15_code 159 = .ok (.getfield 48, 3) := by decide +kernel
theorem d_15_15_162 : decode prog_15_method_15_code 162 = .ok (.lconst 1, 1) := by decide +kernel
theorem d_15_15_163 : decode prog_15_method_15_code 163 = .ok (.lsub, 1) := by decide +kernel
theorem d_15_15_164 : decode prog_15_method_15_code 164 = .ok (.putfield 48, 3) := by decide +kernel
theorem d_15_15_42 : decode prog_15_method_15_code 42 = .ok (.ifCond .ne 87, 3) := by decide +kernel
theorem d_15_15_45 : decode prog_15_method_15_code 45 = .ok (.iload 6, 2) := by decide +kernel
theorem d_15_15_47 : decode prog_15_method_15_code 47 = .ok (.iload_n 1, 1) := by decide +kernel
theorem d_15_15_48 : decode prog_15_method_15_code 48 = .ok (.if_icmp .gt 81, 3) := by decide +kernel
theorem d_15_15_51 : decode prog_15_method_15_code 51 = .ok (.aload_n 0, 1) := by decide +kernel
theorem d_15_15_52 : decode prog_15_method_15_code 52 = .ok (.aload_n 0, 1) := by decide +kernel
theorem d_15_15_53 : decode prog_15_method_15_code 53 = .ok (.getfield 48, 3) := by decide +kernel
theorem d_15_15_56 : decode prog_15_method_15_code 56 = .ok (.aload_n 0, 1) := by decide +kernel
theorem d_15_15_57 : decode prog_15_method_15_code 57 = .ok (.getfield 45, 3) := by decide +kernel
theorem d_15_15_60 : decode prog_15_method_15_code 60 = .ok (.iload 6, 2) := by decide +kernel
theorem d_15_15_62 : decode prog_15_method_15_code 62 = .ok (.isub, 1) := by decide +kernel
theorem d_15_15_63 : decode prog_15_method_15_code 63 = .ok (.i2l, 1) := by decide +kernel
theorem d_15_15_64 : decode prog_15_method_15_code 64 = .ok (.lsub, 1) := by decide +kernel
theorem d_15_15_65 : decode prog_15_method_15_code 65 = .ok (.putfield 48, 3) := by decide +kernel
theorem d_15_15_68 : decode prog_15_method_15_code 68 = .ok (.aload_n 0, 1) := by decide +kernel
theorem d_15_15_69 : decode prog_15_method_15_code 69 = .ok (.iload 6, 2) := by decide +kernel
theorem d_15_15_71 : decode prog_15_method_15_code 71 = .ok (.putfield 45, 3) := by decide +kernel
theorem d_15_15_74 : decode prog_15_method_15_code 74 = .ok (.lload_n 2, 1) := by decide +kernel
theorem d_15_15_75 : decode prog_15_method_15_code 75 = .ok (.aload_n 0, 1) := by decide +kernel
theorem d_15_15_76 : decode prog_15_method_15_code 76 = .ok (.getfield 48, 3) := by decide +kernel
theorem d_15_15_79 : decode prog_15_method_15_code 79 = .ok (.lsub, 1) := by decide +kernel
theorem d_15_15_80 : decode prog_15_method_15_code 80 = .ok (.lstore 7, 2) := by decide +kernel
theorem d_15_15_82 : decode prog_15_method_15_code 82 = .ok (.lload 7, 2) := by decide +kernel
theorem d_15_15_84 : decode prog_15_method_15_code 84 = .ok (.lconst 0, 1) := by decide +kernel
theorem d_15_15_85 : decode prog_15_method_15_code 85 = .ok (.lcmp, 1) := by decide +kernel
theorem d_15_15_86 : decode prog_15_method_15_code 86 = .ok (.ifCond .ge 7, 3) := by decide +kernel
theorem d_15_15_93 : decode prog_15_method_15_code 93 = .ok (.lload 7, 2) := by decide +kernel
theorem d_15_15_95 : decode prog_15_method_15_code 95 = .ok (.iload_n 1, 1) := by decide +kernel
theorem d_15_15_96 : decode prog_15_method_15_code 96 = .ok (.iload 6, 2) := by decide +kernel
theorem d_15_15_98 : decode prog_15_method_15_code 98 = .ok (.isub, 1) := by decide +kernel
theorem d_15_15_99 : decode prog_15_method_15_code 99 = .ok (.i2l, 1) := by decide +kernel
theorem d_15_15_100 : decode prog_15_method_15_code 100 = .ok (.lcmp, 1) := by decide +kernel
theorem d_15_15_101 : decode prog_15_method_15_code 101 = .ok (.ifCond .le 11, 3) := by decide +kernel
theorem d_15_15_112 : decode prog_15_method_15_code 112 = .ok (.lload 7, 2) := by decide +kernel
theorem d_15_15_114 : decode prog_15_method_15_code 114 = .ok (.lstore 7, 2) := by decide +kernel
theorem d_15_15_116 : decode prog_15_method_15_code 116 = .ok (.aload_n 0, 1) := by decide +kernel
theorem d_15_15_117 : decode prog_15_method_15_code 117 = .ok (.lload 7, 2) := by decide +kernel
theorem d_15_15_119 : decode prog_15_method_15_code 119 = .ok (.invokevirtual 79, 3) := by decide +kernel
theorem d_15_15_122 : decode prog_15_method_15_code 122 = .ok (.aload_n 0, 1) := by decide +kernel
theorem d_15_15_123 : decode prog_15_method_15_code 123 = .ok (.iload 5, 2) := by decide +kernel
theorem d_15_15_125 : decode prog_15_method_15_code 125 = .ok (.invokevirtual 89, 3) := by decide +kernel
theorem d_15_15_128 : decode prog_15_method_15_code 128 = .ok (.return_, 1) := by decide +kernel
theorem d_15_15_104 : decode prog_15_method_15_code 104 = .ok (.iload_n 1, 1) := by decide +kernel
theorem d_15_15_105 : decode prog_15_method_15_code 105 = .ok (.iload 6, 2) := by decide +kernel
theorem d_15_15_107 : decode prog_15_method_15_code 107 = .ok (.isub, 1) := by decide +kernel
theorem d_15_15_108 : decode prog_15_method_15_code 108 = .ok (.i2l, 1) := by decide +kernel
theorem d_15_15_109 : decode prog_15_method_15_code 109 = .ok (.goto 5, 3) := by decide +kernel
theorem d_15_15_89 : decode prog_15_method_15_code 89 = .ok (.lconst 0, 1) := by decide +kernel
theorem d_15_15_90 : decode prog_15_method_15_code 90 = .ok (.goto 24, 3) := by decide +kernel
theorem d_15_15_10 : decode prog_15_method_15_code 10 = .ok (.ifCond .ne 22, 3) := by decide +kernel
theorem d_15_15_13 : decode prog_15_method_15_code 13 = .ok (.aload_n 0, 1) := by decide +kernel
theorem d_15_15_14 : decode prog_15_method_15_code 14 = .ok (.getfield 52, 3) := by decide +kernel
theorem d_15_15_17 : decode prog_15_method_15_code 17 = .ok (.ifCond .ne 15, 3) := by decide +kernel
theorem d_15_15_20 : decode prog_15_method_15_code 20 = .ok (.aload_n 0, 1) := by decide +kernel
theorem d_15_15_21 : decode prog_15_method_15_code 21 = .ok (.lload_n 2, 1) := by decide +kernel
theorem d_15_15_22 : decode prog_15_method_15_code 22 = .ok (.putfield 48, 3) := by decide +kernel
theorem d_15_15_25 : decode prog_15_method_15_code 25 = .ok (.aload_n 0, 1) := by decide +kernel
theorem d_15_15_26 : decode prog_15_method_15_code 26 = .ok (.iload 5, 2) := by decide +kernel
theorem d_15_15_28 : decode prog_15_method_15_code 28 = .ok (.invokevirtual 89, 3) := by decide +kernel
theorem d_15_15_31 : decode prog_15_method_15_code 31 = .ok (.return_, 1) := by decide +kernel
def y_DR_toPrecision : MethodName := ⟨"NumberHouseModel$DecimalRows", "toPrecision", "(IJII)V"⟩
def F_DR_toPrecision_c170 (x2 : Int32) (x3 : Int64) (x4 : Int32) (x5 : Int32) (t0_0 : Int32) (t0_1 : Int32) (t0_2 : Int32) (t0_3 : Int64) (t0_4 : Int32) (t0_5 : Int32) (t0_6 : Int32) (t0_7 : Int32) (t0_8 : Int32) (t0_9 : Int32) (t0_10 : Int32) (t1_0 : (Nat → Int32)) (t2_0 : (Nat → Int32)) (t3_0 : (Nat → Int32)) (t4_0 : (Nat → Int32)) (t5_0 : (Nat → Int32)) (p75 : (Int32 × Int32 × Int32 × Int64 × Int32 × Int32 × Int32 × Int32 × Int32 × Int32 × Int32 × (Nat → Int32))) (y36 : Int32) (y37 : Int32) (y38 : Int32) (y39 : Int64) (y40 : Int32) (y41 : Int32) (y42 : Int32) (y43 : Int32) (y44 : Int32) (y45 : Int32) (y46 : Int32) (f47 : (Nat → Int32)) (p166 : (Int32 × Int32 × Int32 × Int32 × Int64 × Int32 × Int32 × Int32 × Int32 × Int32 × Int32 × Int32 × (Nat → Int32))) (p240 : (Int32 × Int32 × Int32 × Int64 × Int32 × Int32 × Int32 × Int32 × Int32 × Int32 × Int32 × (Nat → Int32) × (Nat → Int32) × (Nat → Int32) × (Nat → Int32) × (Nat → Int32))) : Int32 × Int32 × Int32 × Int64 × Int32 × Int32 × Int32 × Int32 × Int32 × Int32 × Int32 × (Nat → Int32) × (Nat → Int32) × (Nat → Int32) × (Nat → Int32) × (Nat → Int32) := ((p240.1 : Int32), (p240.2.1 : Int32), (p240.2.2.1 : Int32), (p240.2.2.2.1 : Int64), (p240.2.2.2.2.1 : Int32), (p240.2.2.2.2.2.1 : Int32), (p240.2.2.2.2.2.2.1 : Int32), (p240.2.2.2.2.2.2.2.1 : Int32), (p240.2.2.2.2.2.2.2.2.1 : Int32), (p240.2.2.2.2.2.2.2.2.2.1 : Int32), (p240.2.2.2.2.2.2.2.2.2.2.1 : Int32), (p240.2.2.2.2.2.2.2.2.2.2.2.1 : (Nat → Int32)), (p240.2.2.2.2.2.2.2.2.2.2.2.2.1 : (Nat → Int32)), (p240.2.2.2.2.2.2.2.2.2.2.2.2.2.1 : (Nat → Int32)), (p240.2.2.2.2.2.2.2.2.2.2.2.2.2.2.1 : (Nat → Int32)), (p240.2.2.2.2.2.2.2.2.2.2.2.2.2.2.2 : (Nat → Int32)))
def F_DR_toPrecision_c170_6 (x2 : Int32) (x3 : Int64) (x4 : Int32) (x5 : Int32) (t0_0 : Int32) (t0_1 : Int32) (t0_2 : Int32) (t0_3 : Int64) (t0_4 : Int32) (t0_5 : Int32) (t0_6 : Int32) (t0_7 : Int32) (t0_8 : Int32) (t0_9 : Int32) (t0_10 : Int32) (t1_0 : (Nat → Int32)) (t2_0 : (Nat → Int32)) (t3_0 : (Nat → Int32)) (t4_0 : (Nat → Int32)) (t5_0 : (Nat → Int32)) (p75 : (Int32 × Int32 × Int32 × Int64 × Int32 × Int32 × Int32 × Int32 × Int32 × Int32 × Int32 × (Nat → Int32))) (y36 : Int32) (y37 : Int32) (y38 : Int32) (y39 : Int64) (y40 : Int32) (y41 : Int32) (y42 : Int32) (y43 : Int32) (y44 : Int32) (y45 : Int32) (y46 : Int32) (f47 : (Nat → Int32)) (p166 : (Int32 × Int32 × Int32 × Int32 × Int64 × Int32 × Int32 × Int32 × Int32 × Int32 × Int32 × Int32 × (Nat → Int32))) (p322 : (Int32 × Int32 × Int32 × Int64 × Int32 × Int32 × Int32 × Int32 × Int32 × Int32 × Int32 × (Nat → Int32) × (Nat → Int32) × (Nat → Int32) × (Nat → Int32) × (Nat → Int32))) : Int32 × Int32 × Int32 × Int64 × Int32 × Int32 × Int32 × Int32 × Int32 × Int32 × Int32 × (Nat → Int32) × (Nat → Int32) × (Nat → Int32) × (Nat → Int32) × (Nat → Int32) := ((p322.1 : Int32), (p322.2.1 : Int32), (p322.2.2.1 : Int32), (p322.2.2.2.1 : Int64), (p322.2.2.2.2.1 : Int32), (p322.2.2.2.2.2.1 : Int32), (p322.2.2.2.2.2.2.1 : Int32), (p322.2.2.2.2.2.2.2.1 : Int32), (p322.2.2.2.2.2.2.2.2.1 : Int32), (p322.2.2.2.2.2.2.2.2.2.1 : Int32), (p322.2.2.2.2.2.2.2.2.2.2.1 : Int32), (p322.2.2.2.2.2.2.2.2.2.2.2.1 : (Nat → Int32)), (p322.2.2.2.2.2.2.2.2.2.2.2.2.1 : (Nat → Int32)), (p322.2.2.2.2.2.2.2.2.2.2.2.2.2.1 : (Nat → Int32)), (p322.2.2.2.2.2.2.2.2.2.2.2.2.2.2.1 : (Nat → Int32)), (p322.2.2.2.2.2.2.2.2.2.2.2.2.2.2.2 : (Nat → Int32)))
def F_DR_toPrecision_c133 (x2 : Int32) (x3 : Int64) (x4 : Int32) (x5 : Int32) (t0_0 : Int32) (t0_1 : Int32) (t0_2 : Int32) (t0_3 : Int64) (t0_4 : Int32) (t0_5 : Int32) (t0_6 : Int32) (t0_7 : Int32) (t0_8 : Int32) (t0_9 : Int32) (t0_10 : Int32) (t1_0 : (Nat → Int32)) (t2_0 : (Nat → Int32)) (t3_0 : (Nat → Int32)) (t4_0 : (Nat → Int32)) (t5_0 : (Nat → Int32)) (p75 : (Int32 × Int32 × Int32 × Int64 × Int32 × Int32 × Int32 × Int32 × Int32 × Int32 × Int32 × (Nat → Int32))) (y36 : Int32) (y37 : Int32) (y38 : Int32) (y39 : Int64) (y40 : Int32) (y41 : Int32) (y42 : Int32) (y43 : Int32) (y44 : Int32) (y45 : Int32) (y46 : Int32) (f47 : (Nat → Int32)) (p166 : (Int32 × Int32 × Int32 × Int32 × Int64 × Int32 × Int32 × Int32 × Int32 × Int32 × Int32 × Int32 × (Nat → Int32))) : Int32 × Int32 × Int32 × Int64 × Int32 × Int32 × Int32 × Int32 × Int32 × Int32 × Int32 × (Nat → Int32) × (Nat → Int32) × (Nat → Int32) × (Nat → Int32) × (Nat → Int32) := if (p166.1 : Int32) = (0 : Int32) then (((p166.2.1 : Int32), (p166.2.2.1 : Int32), (p166.2.2.2.1 : Int32), (p166.2.2.2.2.1 : Int64), (p166.2.2.2.2.2.1 : Int32), (p166.2.2.2.2.2.2.1 : Int32), (p166.2.2.2.2.2.2.2.1 : Int32), (p166.2.2.2.2.2.2.2.2.1 : Int32), (p166.2.2.2.2.2.2.2.2.2.1 : Int32), (p166.2.2.2.2.2.2.2.2.2.2.1 : Int32), (p166.2.2.2.2.2.2.2.2.2.2.2.1 : Int32), t1_0, t2_0, t3_0, t4_0, (p166.2.2.2.2.2.2.2.2.2.2.2.2 : (Nat → Int32)))) else (if (p166.2.2.2.1 : Int32) ≤ x2 then (F_DR_toPrecision_c170 x2 x3 x4 x5 t0_0 t0_1 t0_2 t0_3 t0_4 t0_5 t0_6 t0_7 t0_8 t0_9 t0_10 t1_0 t2_0 t3_0 t4_0 t5_0 p75 y36 y37 y38 y39 y40 y41 y42 y43 y44 y45 y46 f47 p166 ((F_DR_store x5 (p166.2.1 : Int32) (p166.2.2.1 : Int32) (p166.2.2.2.1 : Int32) (p166.2.2.2.2.1 : Int64) (p166.2.2.2.2.2.1 : Int32) (p166.2.2.2.2.2.2.1 : Int32) (p166.2.2.2.2.2.2.2.1 : Int32) (p166.2.2.2.2.2.2.2.2.1 : Int32) (p166.2.2.2.2.2.2.2.2.2.1 : Int32) (p166.2.2.2.2.2.2.2.2.2.2.1 : Int32) (p166.2.2.2.2.2.2.2.2.2.2.2.1 : Int32) t1_0 t2_0 t3_0 t4_0 (p166.2.2.2.2.2.2.2.2.2.2.2.2 : (Nat → Int32))) : (Int32 × Int32 × Int32 × Int64 × Int32 × Int32 × Int32 × Int32 × Int32 × Int32 × Int32 × (Nat → Int32) × (Nat → Int32) × (Nat → Int32) × (Nat → Int32) × (Nat → Int32)))) else (F_DR_toPrecision_c170_6 x2 x3 x4 x5 t0_0 t0_1 t0_2 t0_3 t0_4 t0_5 t0_6 t0_7 t0_8 t0_9 t0_10 t1_0 t2_0 t3_0 t4_0 t5_0 p75 y36 y37 y38 y39 y40 y41 y42 y43 y44 y45 y46 f47 p166 ((F_DR_store x5 (p166.2.1 : Int32) (p166.2.2.1 : Int32) ((p166.2.2.2.1 : Int32) - 1 : Int32) ((p166.2.2.2.2.1 : Int64) - 1 : Int64) (p166.2.2.2.2.2.1 : Int32) (p166.2.2.2.2.2.2.1 : Int32) (p166.2.2.2.2.2.2.2.1 : Int32) (p166.2.2.2.2.2.2.2.2.1 : Int32) (p166.2.2.2.2.2.2.2.2.2.1 : Int32) (p166.2.2.2.2.2.2.2.2.2.2.1 : Int32) (p166.2.2.2.2.2.2.2.2.2.2.2.1 : Int32) t1_0 t2_0 t3_0 t4_0 (p166.2.2.2.2.2.2.2.2.2.2.2.2 : (Nat → Int32))) : (Int32 × Int32 × Int32 × Int64 × Int32 × Int32 × Int32 × Int32 × Int32 × Int32 × Int32 × (Nat → Int32) × (Nat → Int32) × (Nat → Int32) × (Nat → Int32) × (Nat → Int32)))))
def F_DR_toPrecision_J129 (x2 : Int32) (x3 : Int64) (x4 : Int32) (x5 : Int32) (t0_0 : Int32) (t0_1 : Int32) (t0_2 : Int32) (t0_3 : Int64) (t0_4 : Int32) (t0_5 : Int32) (t0_6 : Int32) (t0_7 : Int32) (t0_8 : Int32) (t0_9 : Int32) (t0_10 : Int32) (t1_0 : (Nat → Int32)) (t2_0 : (Nat → Int32)) (t3_0 : (Nat → Int32)) (t4_0 : (Nat → Int32)) (t5_0 : (Nat → Int32)) (p75 : (Int32 × Int32 × Int32 × Int64 × Int32 × Int32 × Int32 × Int32 × Int32 × Int32 × Int32 × (Nat → Int32))) (y36 : Int32) (y37 : Int32) (y38 : Int32) (y39 : Int64) (y40 : Int32) (y41 : Int32) (y42 : Int32) (y43 : Int32) (y44 : Int32) (y45 : Int32) (y46 : Int32) (f47 : (Nat → Int32)) : Int32 × Int32 × Int32 × Int64 × Int32 × Int32 × Int32 × Int32 × Int32 × Int32 × Int32 × (Nat → Int32) × (Nat → Int32) × (Nat → Int32) × (Nat → Int32) × (Nat → Int32) := F_DR_toPrecision_c133 x2 x3 x4 x5 t0_0 t0_1 t0_2 t0_3 t0_4 t0_5 t0_6 t0_7 t0_8 t0_9 t0_10 t1_0 t2_0 t3_0 t4_0 t5_0 p75 y36 y37 y38 y39 y40 y41 y42 y43 y44 y45 y46 f47 ((F_DR_cut x2 x4 y36 y37 y38 y39 y40 y41 y42 y43 y44 y45 y46 f47) : (Int32 × Int32 × Int32 × Int32 × Int64 × Int32 × Int32 × Int32 × Int32 × Int32 × Int32 × Int32 × (Nat → Int32)))
def F_DR_toPrecision_c125 (x2 : Int32) (x3 : Int64) (x4 : Int32) (x5 : Int32) (t0_0 : Int32) (t0_1 : Int32) (t0_2 : Int32) (t0_3 : Int64) (t0_4 : Int32) (t0_5 : Int32) (t0_6 : Int32) (t0_7 : Int32) (t0_8 : Int32) (t0_9 : Int32) (t0_10 : Int32) (t1_0 : (Nat → Int32)) (t2_0 : (Nat → Int32)) (t3_0 : (Nat → Int32)) (t4_0 : (Nat → Int32)) (t5_0 : (Nat → Int32)) (p75 : (Int32 × Int32 × Int32 × Int64 × Int32 × Int32 × Int32 × Int32 × Int32 × Int32 × Int32 × (Nat → Int32))) (y36 : Int32) (y37 : Int32) (y38 : Int32) (y39 : Int64) (y40 : Int32) (y41 : Int32) (y42 : Int32) (y43 : Int32) (y44 : Int32) (y45 : Int32) (y46 : Int32) (f47 : (Nat → Int32)) (j362 : Int64) (a111 : Int32) (p417 : (Int32 × Int32 × Int32 × Int64 × Int32 × Int32 × Int32 × Int32 × Int32 × Int32 × Int32 × (Nat → Int32))) (p485 : (Int32 × Int32 × Int32 × Int64 × Int32 × Int32 × Int32 × Int32 × Int32 × Int32 × Int32 × (Nat → Int32) × (Nat → Int32) × (Nat → Int32) × (Nat → Int32) × (Nat → Int32))) : Int32 × Int32 × Int32 × Int64 × Int32 × Int32 × Int32 × Int32 × Int32 × Int32 × Int32 × (Nat → Int32) × (Nat → Int32) × (Nat → Int32) × (Nat → Int32) × (Nat → Int32) := ((p485.1 : Int32), (p485.2.1 : Int32), (p485.2.2.1 : Int32), (p485.2.2.2.1 : Int64), (p485.2.2.2.2.1 : Int32), (p485.2.2.2.2.2.1 : Int32), (p485.2.2.2.2.2.2.1 : Int32), (p485.2.2.2.2.2.2.2.1 : Int32), (p485.2.2.2.2.2.2.2.2.1 : Int32), (p485.2.2.2.2.2.2.2.2.2.1 : Int32), (p485.2.2.2.2.2.2.2.2.2.2.1 : Int32), (p485.2.2.2.2.2.2.2.2.2.2.2.1 : (Nat → Int32)), (p485.2.2.2.2.2.2.2.2.2.2.2.2.1 : (Nat → Int32)), (p485.2.2.2.2.2.2.2.2.2.2.2.2.2.1 : (Nat → Int32)), (p485.2.2.2.2.2.2.2.2.2.2.2.2.2.2.1 : (Nat → Int32)), (p485.2.2.2.2.2.2.2.2.2.2.2.2.2.2.2 : (Nat → Int32)))
def F_DR_toPrecision_c119 (x2 : Int32) (x3 : Int64) (x4 : Int32) (x5 : Int32) (t0_0 : Int32) (t0_1 : Int32) (t0_2 : Int32) (t0_3 : Int64) (t0_4 : Int32) (t0_5 : Int32) (t0_6 : Int32) (t0_7 : Int32) (t0_8 : Int32) (t0_9 : Int32) (t0_10 : Int32) (t1_0 : (Nat → Int32)) (t2_0 : (Nat → Int32)) (t3_0 : (Nat → Int32)) (t4_0 : (Nat → Int32)) (t5_0 : (Nat → Int32)) (p75 : (Int32 × Int32 × Int32 × Int64 × Int32 × Int32 × Int32 × Int32 × Int32 × Int32 × Int32 × (Nat → Int32))) (y36 : Int32) (y37 : Int32) (y38 : Int32) (y39 : Int64) (y40 : Int32) (y41 : Int32) (y42 : Int32) (y43 : Int32) (y44 : Int32) (y45 : Int32) (y46 : Int32) (f47 : (Nat → Int32)) (j362 : Int64) (a111 : Int32) (p417 : (Int32 × Int32 × Int32 × Int64 × Int32 × Int32 × Int32 × Int32 × Int32 × Int32 × Int32 × (Nat → Int32))) : Int32 × Int32 × Int32 × Int64 × Int32 × Int32 × Int32 × Int32 × Int32 × Int32 × Int32 × (Nat → Int32) × (Nat → Int32) × (Nat → Int32) × (Nat → Int32) × (Nat → Int32) := F_DR_toPrecision_c125 x2 x3 x4 x5 t0_0 t0_1 t0_2 t0_3 t0_4 t0_5 t0_6 t0_7 t0_8 t0_9 t0_10 t1_0 t2_0 t3_0 t4_0 t5_0 p75 y36 y37 y38 y39 y40 y41 y42 y43 y44 y45 y46 f47 j362 a111 p417 ((F_DR_store x5 (p417.1 : Int32) (p417.2.1 : Int32) (p417.2.2.1 : Int32) (p417.2.2.2.1 : Int64) (p417.2.2.2.2.1 : Int32) (p417.2.2.2.2.2.1 : Int32) (p417.2.2.2.2.2.2.1 : Int32) (p417.2.2.2.2.2.2.2.1 : Int32) (p417.2.2.2.2.2.2.2.2.1 : Int32) (p417.2.2.2.2.2.2.2.2.2.1 : Int32) (p417.2.2.2.2.2.2.2.2.2.2.1 : Int32) t1_0 t2_0 t3_0 t4_0 (p417.2.2.2.2.2.2.2.2.2.2.2 : (Nat → Int32))) : (Int32 × Int32 × Int32 × Int64 × Int32 × Int32 × Int32 × Int32 × Int32 × Int32 × Int32 × (Nat → Int32) × (Nat → Int32) × (Nat → Int32) × (Nat → Int32) × (Nat → Int32)))
def F_DR_toPrecision_c125_10 (x2 : Int32) (x3 : Int64) (x4 : Int32) (x5 : Int32) (t0_0 : Int32) (t0_1 : Int32) (t0_2 : Int32) (t0_3 : Int64) (t0_4 : Int32) (t0_5 : Int32) (t0_6 : Int32) (t0_7 : Int32) (t0_8 : Int32) (t0_9 : Int32) (t0_10 : Int32) (t1_0 : (Nat → Int32)) (t2_0 : (Nat → Int32)) (t3_0 : (Nat → Int32)) (t4_0 : (Nat → Int32)) (t5_0 : (Nat → Int32)) (p75 : (Int32 × Int32 × Int32 × Int64 × Int32 × Int32 × Int32 × Int32 × Int32 × Int32 × Int32 × (Nat → Int32))) (y36 : Int32) (y37 : Int32) (y38 : Int32) (y39 : Int64) (y40 : Int32) (y41 : Int32) (y42 : Int32) (y43 : Int32) (y44 : Int32) (y45 : Int32) (y46 : Int32) (f47 : (Nat → Int32)) (j511 : Int64) (a111 : Int32) (p552 : (Int32 × Int32 × Int32 × Int64 × Int32 × Int32 × Int32 × Int32 × Int32 × Int32 × Int32 × (Nat → Int32))) (p620 : (Int32 × Int32 × Int32 × Int64 × Int32 × Int32 × Int32 × Int32 × Int32 × Int32 × Int32 × (Nat → Int32) × (Nat → Int32) × (Nat → Int32) × (Nat → Int32) × (Nat → Int32))) : Int32 × Int32 × Int32 × Int64 × Int32 × Int32 × Int32 × Int32 × Int32 × Int32 × Int32 × (Nat → Int32) × (Nat → Int32) × (Nat → Int32) × (Nat → Int32) × (Nat → Int32) := ((p620.1 : Int32), (p620.2.1 : Int32), (p620.2.2.1 : Int32), (p620.2.2.2.1 : Int64), (p620.2.2.2.2.1 : Int32), (p620.2.2.2.2.2.1 : Int32), (p620.2.2.2.2.2.2.1 : Int32), (p620.2.2.2.2.2.2.2.1 : Int32), (p620.2.2.2.2.2.2.2.2.1 : Int32), (p620.2.2.2.2.2.2.2.2.2.1 : Int32), (p620.2.2.2.2.2.2.2.2.2.2.1 : Int32), (p620.2.2.2.2.2.2.2.2.2.2.2.1 : (Nat → Int32)), (p620.2.2.2.2.2.2.2.2.2.2.2.2.1 : (Nat → Int32)), (p620.2.2.2.2.2.2.2.2.2.2.2.2.2.1 : (Nat → Int32)), (p620.2.2.2.2.2.2.2.2.2.2.2.2.2.2.1 : (Nat → Int32)), (p620.2.2.2.2.2.2.2.2.2.2.2.2.2.2.2 : (Nat → Int32)))
def F_DR_toPrecision_c119_9 (x2 : Int32) (x3 : Int64) (x4 : Int32) (x5 : Int32) (t0_0 : Int32) (t0_1 : Int32) (t0_2 : Int32) (t0_3 : Int64) (t0_4 : Int32) (t0_5 : Int32) (t0_6 : Int32) (t0_7 : Int32) (t0_8 : Int32) (t0_9 : Int32) (t0_10 : Int32) (t1_0 : (Nat → Int32)) (t2_0 : (Nat → Int32)) (t3_0 : (Nat → Int32)) (t4_0 : (Nat → Int32)) (t5_0 : (Nat → Int32)) (p75 : (Int32 × Int32 × Int32 × Int64 × Int32 × Int32 × Int32 × Int32 × Int32 × Int32 × Int32 × (Nat → Int32))) (y36 : Int32) (y37 : Int32) (y38 : Int32) (y39 : Int64) (y40 : Int32) (y41 : Int32) (y42 : Int32) (y43 : Int32) (y44 : Int32) (y45 : Int32) (y46 : Int32) (f47 : (Nat → Int32)) (j511 : Int64) (a111 : Int32) (p552 : (Int32 × Int32 × Int32 × Int64 × Int32 × Int32 × Int32 × Int32 × Int32 × Int32 × Int32 × (Nat → Int32))) : Int32 × Int32 × Int32 × Int64 × Int32 × Int32 × Int32 × Int32 × Int32 × Int32 × Int32 × (Nat → Int32) × (Nat → Int32) × (Nat → Int32) × (Nat → Int32) × (Nat → Int32) := F_DR_toPrecision_c125_10 x2 x3 x4 x5 t0_0 t0_1 t0_2 t0_3 t0_4 t0_5 t0_6 t0_7 t0_8 t0_9 t0_10 t1_0 t2_0 t3_0 t4_0 t5_0 p75 y36 y37 y38 y39 y40 y41 y42 y43 y44 y45 y46 f47 j511 a111 p552 ((F_DR_store x5 (p552.1 : Int32) (p552.2.1 : Int32) (p552.2.2.1 : Int32) (p552.2.2.2.1 : Int64) (p552.2.2.2.2.1 : Int32) (p552.2.2.2.2.2.1 : Int32) (p552.2.2.2.2.2.2.1 : Int32) (p552.2.2.2.2.2.2.2.1 : Int32) (p552.2.2.2.2.2.2.2.2.1 : Int32) (p552.2.2.2.2.2.2.2.2.2.1 : Int32) (p552.2.2.2.2.2.2.2.2.2.2.1 : Int32) t1_0 t2_0 t3_0 t4_0 (p552.2.2.2.2.2.2.2.2.2.2.2 : (Nat → Int32))) : (Int32 × Int32 × Int32 × Int64 × Int32 × Int32 × Int32 × Int32 × Int32 × Int32 × Int32 × (Nat → Int32) × (Nat → Int32) × (Nat → Int32) × (Nat → Int32) × (Nat → Int32)))
def F_DR_toPrecision_c125_12 (x2 : Int32) (x3 : Int64) (x4 : Int32) (x5 : Int32) (t0_0 : Int32) (t0_1 : Int32) (t0_2 : Int32) (t0_3 : Int64) (t0_4 : Int32) (t0_5 : Int32) (t0_6 : Int32) (t0_7 : Int32) (t0_8 : Int32) (t0_9 : Int32) (t0_10 : Int32) (t1_0 : (Nat → Int32)) (t2_0 : (Nat → Int32)) (t3_0 : (Nat → Int32)) (t4_0 : (Nat → Int32)) (t5_0 : (Nat → Int32)) (p75 : (Int32 × Int32 × Int32 × Int64 × Int32 × Int32 × Int32 × Int32 × Int32 × Int32 × Int32 × (Nat → Int32))) (y36 : Int32) (y37 : Int32) (y38 : Int32) (y39 : Int64) (y40 : Int32) (y41 : Int32) (y42 : Int32) (y43 : Int32) (y44 : Int32) (y45 : Int32) (y46 : Int32) (f47 : (Nat → Int32)) (a111 : Int32) (p682 : (Int32 × Int32 × Int32 × Int64 × Int32 × Int32 × Int32 × Int32 × Int32 × Int32 × Int32 × (Nat → Int32))) (p750 : (Int32 × Int32 × Int32 × Int64 × Int32 × Int32 × Int32 × Int32 × Int32 × Int32 × Int32 × (Nat → Int32) × (Nat → Int32) × (Nat → Int32) × (Nat → Int32) × (Nat → Int32))) : Int32 × Int32 × Int32 × Int64 × Int32 × Int32 × Int32 × Int32 × Int32 × Int32 × Int32 × (Nat → Int32) × (Nat → Int32) × (Nat → Int32) × (Nat → Int32) × (Nat → Int32) := ((p750.1 : Int32), (p750.2.1 : Int32), (p750.2.2.1 : Int32), (p750.2.2.2.1 : Int64), (p750.2.2.2.2.1 : Int32), (p750.2.2.2.2.2.1 : Int32), (p750.2.2.2.2.2.2.1 : Int32), (p750.2.2.2.2.2.2.2.1 : Int32), (p750.2.2.2.2.2.2.2.2.1 : Int32), (p750.2.2.2.2.2.2.2.2.2.1 : Int32), (p750.2.2.2.2.2.2.2.2.2.2.1 : Int32), (p750.2.2.2.2.2.2.2.2.2.2.2.1 : (Nat → Int32)), (p750.2.2.2.2.2.2.2.2.2.2.2.2.1 : (Nat → Int32)), (p750.2.2.2.2.2.2.2.2.2.2.2.2.2.1 : (Nat → Int32)), (p750.2.2.2.2.2.2.2.2.2.2.2.2.2.2.1 : (Nat → Int32)), (p750.2.2.2.2.2.2.2.2.2.2.2.2.2.2.2 : (Nat → Int32)))
def F_DR_toPrecision_c119_11 (x2 : Int32) (x3 : Int64) (x4 : Int32) (x5 : Int32) (t0_0 : Int32) (t0_1 : Int32) (t0_2 : Int32) (t0_3 : Int64) (t0_4 : Int32) (t0_5 : Int32) (t0_6 : Int32) (t0_7 : Int32) (t0_8 : Int32) (t0_9 : Int32) (t0_10 : Int32) (t1_0 : (Nat → Int32)) (t2_0 : (Nat → Int32)) (t3_0 : (Nat → Int32)) (t4_0 : (Nat → Int32)) (t5_0 : (Nat → Int32)) (p75 : (Int32 × Int32 × Int32 × Int64 × Int32 × Int32 × Int32 × Int32 × Int32 × Int32 × Int32 × (Nat → Int32))) (y36 : Int32) (y37 : Int32) (y38 : Int32) (y39 : Int64) (y40 : Int32) (y41 : Int32) (y42 : Int32) (y43 : Int32) (y44 : Int32) (y45 : Int32) (y46 : Int32) (f47 : (Nat → Int32)) (a111 : Int32) (p682 : (Int32 × Int32 × Int32 × Int64 × Int32 × Int32 × Int32 × Int32 × Int32 × Int32 × Int32 × (Nat → Int32))) : Int32 × Int32 × Int32 × Int64 × Int32 × Int32 × Int32 × Int32 × Int32 × Int32 × Int32 × (Nat → Int32) × (Nat → Int32) × (Nat → Int32) × (Nat → Int32) × (Nat → Int32) := F_DR_toPrecision_c125_12 x2 x3 x4 x5 t0_0 t0_1 t0_2 t0_3 t0_4 t0_5 t0_6 t0_7 t0_8 t0_9 t0_10 t1_0 t2_0 t3_0 t4_0 t5_0 p75 y36 y37 y38 y39 y40 y41 y42 y43 y44 y45 y46 f47 a111 p682 ((F_DR_store x5 (p682.1 : Int32) (p682.2.1 : Int32) (p682.2.2.1 : Int32) (p682.2.2.2.1 : Int64) (p682.2.2.2.2.1 : Int32) (p682.2.2.2.2.2.1 : Int32) (p682.2.2.2.2.2.2.1 : Int32) (p682.2.2.2.2.2.2.2.1 : Int32) (p682.2.2.2.2.2.2.2.2.1 : Int32) (p682.2.2.2.2.2.2.2.2.2.1 : Int32) (p682.2.2.2.2.2.2.2.2.2.2.1 : Int32) t1_0 t2_0 t3_0 t4_0 (p682.2.2.2.2.2.2.2.2.2.2.2 : (Nat → Int32))) : (Int32 × Int32 × Int32 × Int64 × Int32 × Int32 × Int32 × Int32 × Int32 × Int32 × Int32 × (Nat → Int32) × (Nat → Int32) × (Nat → Int32) × (Nat → Int32) × (Nat → Int32)))
def F_DR_toPrecision_J32 (x2 : Int32) (x3 : Int64) (x4 : Int32) (x5 : Int32) (t0_0 : Int32) (t0_1 : Int32) (t0_2 : Int32) (t0_3 : Int64) (t0_4 : Int32) (t0_5 : Int32) (t0_6 : Int32) (t0_7 : Int32) (t0_8 : Int32) (t0_9 : Int32) (t0_10 : Int32) (t1_0 : (Nat → Int32)) (t2_0 : (Nat → Int32)) (t3_0 : (Nat → Int32)) (t4_0 : (Nat → Int32)) (t5_0 : (Nat → Int32)) (p75 : (Int32 × Int32 × Int32 × Int64 × Int32 × Int32 × Int32 × Int32 × Int32 × Int32 × Int32 × (Nat → Int32))) (y36 : Int32) (y37 : Int32) (y38 : Int32) (y39 : Int64) (y40 : Int32) (y41 : Int32) (y42 : Int32) (y43 : Int32) (y44 : Int32) (y45 : Int32) (y46 : Int32) (f47 : (Nat → Int32)) : Int32 × Int32 × Int32 × Int64 × Int32 × Int32 × Int32 × Int32 × Int32 × Int32 × Int32 × (Nat → Int32) × (Nat → Int32) × (Nat → Int32) × (Nat → Int32) × (Nat → Int32) := if y40 = (0 : Int32) then (if x2 < ((F_DR_needed y36 y37 y38 y39 y40 y41 y42 y43 y44 y45 y46 f47) : Int32) then (F_DR_toPrecision_J129 x2 x3 x4 x5 t0_0 t0_1 t0_2 t0_3 t0_4 t0_5 t0_6 t0_7 t0_8 t0_9 t0_10 t1_0 t2_0 t3_0 t4_0 t5_0 p75 y36 y37 y38 y39 y40 y41 y42 y43 y44 y45 y46 f47) else (if (0 : Int32) ≤ (lg_cmp (x3 - (y39 - ((y38 - ((F_DR_needed y36 y37 y38 y39 y40 y41 y42 y43 y44 y45 y46 f47) : Int32) : Int32).toInt64 : Int64) : Int64) : Int64) 0 : Int32) then (if (lg_cmp (x3 - (y39 - ((y38 - ((F_DR_needed y36 y37 y38 y39 y40 y41 y42 y43 y44 y45 y46 f47) : Int32) : Int32).toInt64 : Int64) : Int64) : Int64) ((x2 - ((F_DR_needed y36 y37 y38 y39 y40 y41 y42 y43 y44 y45 y46 f47) : Int32) : Int32).toInt64 : Int64) : Int32) ≤ (0 : Int32) then (F_DR_toPrecision_c119 x2 x3 x4 x5 t0_0 t0_1 t0_2 t0_3 t0_4 t0_5 t0_6 t0_7 t0_8 t0_9 t0_10 t1_0 t2_0 t3_0 t4_0 t5_0 p75 y36 y37 y38 y39 y40 y41 y42 y43 y44 y45 y46 f47 (x3 - (y39 - ((y38 - ((F_DR_needed y36 y37 y38 y39 y40 y41 y42 y43 y44 y45 y46 f47) : Int32) : Int32).toInt64 : Int64) : Int64) : Int64) ((F_DR_needed y36 y37 y38 y39 y40 y41 y42 y43 y44 y45 y46 f47) : Int32) ((F_DR_lengthen (x3 - (y39 - ((y38 - ((F_DR_needed y36 y37 y38 y39 y40 y41 y42 y43 y44 y45 y46 f47) : Int32) : Int32).toInt64 : Int64) : Int64) : Int64) y36 y37 ((F_DR_needed y36 y37 y38 y39 y40 y41 y42 y43 y44 y45 y46 f47) : Int32) (y39 - ((y38 - ((F_DR_needed y36 y37 y38 y39 y40 y41 y42 y43 y44 y45 y46 f47) : Int32) : Int32).toInt64 : Int64) : Int64) y40 y41 y42 y43 y44 y45 y46 f47) : (Int32 × Int32 × Int32 × Int64 × Int32 × Int32 × Int32 × Int32 × Int32 × Int32 × Int32 × (Nat → Int32)))) else (F_DR_toPrecision_c119_9 x2 x3 x4 x5 t0_0 t0_1 t0_2 t0_3 t0_4 t0_5 t0_6 t0_7 t0_8 t0_9 t0_10 t1_0 t2_0 t3_0 t4_0 t5_0 p75 y36 y37 y38 y39 y40 y41 y42 y43 y44 y45 y46 f47 ((x2 - ((F_DR_needed y36 y37 y38 y39 y40 y41 y42 y43 y44 y45 y46 f47) : Int32) : Int32).toInt64 : Int64) ((F_DR_needed y36 y37 y38 y39 y40 y41 y42 y43 y44 y45 y46 f47) : Int32) ((F_DR_lengthen ((x2 - ((F_DR_needed y36 y37 y38 y39 y40 y41 y42 y43 y44 y45 y46 f47) : Int32) : Int32).toInt64 : Int64) y36 y37 ((F_DR_needed y36 y37 y38 y39 y40 y41 y42 y43 y44 y45 y46 f47) : Int32) (y39 - ((y38 - ((F_DR_needed y36 y37 y38 y39 y40 y41 y42 y43 y44 y45 y46 f47) : Int32) : Int32).toInt64 : Int64) : Int64) y40 y41 y42 y43 y44 y45 y46 f47) : (Int32 × Int32 × Int32 × Int64 × Int32 × Int32 × Int32 × Int32 × Int32 × Int32 × Int32 × (Nat → Int32))))) else (F_DR_toPrecision_c119_11 x2 x3 x4 x5 t0_0 t0_1 t0_2 t0_3 t0_4 t0_5 t0_6 t0_7 t0_8 t0_9 t0_10 t1_0 t2_0 t3_0 t4_0 t5_0 p75 y36 y37 y38 y39 y40 y41 y42 y43 y44 y45 y46 f47 ((F_DR_needed y36 y37 y38 y39 y40 y41 y42 y43 y44 y45 y46 f47) : Int32) ((F_DR_lengthen (0 : Int64) y36 y37 ((F_DR_needed y36 y37 y38 y39 y40 y41 y42 y43 y44 y45 y46 f47) : Int32) (y39 - ((y38 - ((F_DR_needed y36 y37 y38 y39 y40 y41 y42 y43 y44 y45 y46 f47) : Int32) : Int32).toInt64 : Int64) : Int64) y40 y41 y42 y43 y44 y45 y46 f47) : (Int32 × Int32 × Int32 × Int64 × Int32 × Int32 × Int32 × Int32 × Int32 × Int32 × Int32 × (Nat → Int32)))))) else (F_DR_toPrecision_J129 x2 x3 x4 x5 t0_0 t0_1 t0_2 t0_3 t0_4 t0_5 t0_6 t0_7 t0_8 t0_9 t0_10 t1_0 t2_0 t3_0 t4_0 t5_0 p75 y36 y37 y38 y39 y40 y41 y42 y43 y44 y45 y46 f47)
def F_DR_toPrecision_c28 (x2 : Int32) (x3 : Int64) (x4 : Int32) (x5 : Int32) (t0_0 : Int32) (t0_1 : Int32) (t0_2 : Int32) (t0_3 : Int64) (t0_4 : Int32) (t0_5 : Int32) (t0_6 : Int32) (t0_7 : Int32) (t0_8 : Int32) (t0_9 : Int32) (t0_10 : Int32) (t1_0 : (Nat → Int32)) (t2_0 : (Nat → Int32)) (t3_0 : (Nat → Int32)) (t4_0 : (Nat → Int32)) (t5_0 : (Nat → Int32)) (p75 : (Int32 × Int32 × Int32 × Int64 × Int32 × Int32 × Int32 × Int32 × Int32 × Int32 × Int32 × (Nat → Int32))) (p830 : (Int32 × Int32 × Int32 × Int64 × Int32 × Int32 × Int32 × Int32 × Int32 × Int32 × Int32 × (Nat → Int32) × (Nat → Int32) × (Nat → Int32) × (Nat → Int32) × (Nat → Int32))) : Int32 × Int32 × Int32 × Int64 × Int32 × Int32 × Int32 × Int32 × Int32 × Int32 × Int32 × (Nat → Int32) × (Nat → Int32) × (Nat → Int32) × (Nat → Int32) × (Nat → Int32) := ((p830.1 : Int32), (p830.2.1 : Int32), (p830.2.2.1 : Int32), (p830.2.2.2.1 : Int64), (p830.2.2.2.2.1 : Int32), (p830.2.2.2.2.2.1 : Int32), (p830.2.2.2.2.2.2.1 : Int32), (p830.2.2.2.2.2.2.2.1 : Int32), (p830.2.2.2.2.2.2.2.2.1 : Int32), (p830.2.2.2.2.2.2.2.2.2.1 : Int32), (p830.2.2.2.2.2.2.2.2.2.2.1 : Int32), (p830.2.2.2.2.2.2.2.2.2.2.2.1 : (Nat → Int32)), (p830.2.2.2.2.2.2.2.2.2.2.2.2.1 : (Nat → Int32)), (p830.2.2.2.2.2.2.2.2.2.2.2.2.2.1 : (Nat → Int32)), (p830.2.2.2.2.2.2.2.2.2.2.2.2.2.2.1 : (Nat → Int32)), (p830.2.2.2.2.2.2.2.2.2.2.2.2.2.2.2 : (Nat → Int32)))
def F_DR_toPrecision_c1 (x2 : Int32) (x3 : Int64) (x4 : Int32) (x5 : Int32) (t0_0 : Int32) (t0_1 : Int32) (t0_2 : Int32) (t0_3 : Int64) (t0_4 : Int32) (t0_5 : Int32) (t0_6 : Int32) (t0_7 : Int32) (t0_8 : Int32) (t0_9 : Int32) (t0_10 : Int32) (t1_0 : (Nat → Int32)) (t2_0 : (Nat → Int32)) (t3_0 : (Nat → Int32)) (t4_0 : (Nat → Int32)) (t5_0 : (Nat → Int32)) (p75 : (Int32 × Int32 × Int32 × Int64 × Int32 × Int32 × Int32 × Int32 × Int32 × Int32 × Int32 × (Nat → Int32))) : Int32 × Int32 × Int32 × Int64 × Int32 × Int32 × Int32 × Int32 × Int32 × Int32 × Int32 × (Nat → Int32) × (Nat → Int32) × (Nat → Int32) × (Nat → Int32) × (Nat → Int32) := if ((p75.2.2.2.2.2.2.2.2.2.2.2 : (Nat → Int32)) (0 : Int32).toNatClampNeg : Int32) = (0 : Int32) then (if (p75.2.2.2.2.1 : Int32) = (0 : Int32) then (F_DR_toPrecision_c28 x2 x3 x4 x5 t0_0 t0_1 t0_2 t0_3 t0_4 t0_5 t0_6 t0_7 t0_8 t0_9 t0_10 t1_0 t2_0 t3_0 t4_0 t5_0 p75 ((F_DR_store x5 (p75.1 : Int32) (p75.2.1 : Int32) (p75.2.2.1 : Int32) x3 (p75.2.2.2.2.1 : Int32) (p75.2.2.2.2.2.1 : Int32) (p75.2.2.2.2.2.2.1 : Int32) (p75.2.2.2.2.2.2.2.1 : Int32) (p75.2.2.2.2.2.2.2.2.1 : Int32) (p75.2.2.2.2.2.2.2.2.2.1 : Int32) (p75.2.2.2.2.2.2.2.2.2.2.1 : Int32) t1_0 t2_0 t3_0 t4_0 (p75.2.2.2.2.2.2.2.2.2.2.2 : (Nat → Int32))) : (Int32 × Int32 × Int32 × Int64 × Int32 × Int32 × Int32 × Int32 × Int32 × Int32 × Int32 × (Nat → Int32) × (Nat → Int32) × (Nat → Int32) × (Nat → Int32) × (Nat → Int32)))) else (F_DR_toPrecision_J32 x2 x3 x4 x5 t0_0 t0_1 t0_2 t0_3 t0_4 t0_5 t0_6 t0_7 t0_8 t0_9 t0_10 t1_0 t2_0 t3_0 t4_0 t5_0 p75 (p75.1 : Int32) (p75.2.1 : Int32) (p75.2.2.1 : Int32) (p75.2.2.2.1 : Int64) (p75.2.2.2.2.1 : Int32) (p75.2.2.2.2.2.1 : Int32) (p75.2.2.2.2.2.2.1 : Int32) (p75.2.2.2.2.2.2.2.1 : Int32) (p75.2.2.2.2.2.2.2.2.1 : Int32) (p75.2.2.2.2.2.2.2.2.2.1 : Int32) (p75.2.2.2.2.2.2.2.2.2.2.1 : Int32) (p75.2.2.2.2.2.2.2.2.2.2.2 : (Nat → Int32)))) else (F_DR_toPrecision_J32 x2 x3 x4 x5 t0_0 t0_1 t0_2 t0_3 t0_4 t0_5 t0_6 t0_7 t0_8 t0_9 t0_10 t1_0 t2_0 t3_0 t4_0 t5_0 p75 (p75.1 : Int32) (p75.2.1 : Int32) (p75.2.2.1 : Int32) (p75.2.2.2.1 : Int64) (p75.2.2.2.2.1 : Int32) (p75.2.2.2.2.2.1 : Int32) (p75.2.2.2.2.2.2.1 : Int32) (p75.2.2.2.2.2.2.2.1 : Int32) (p75.2.2.2.2.2.2.2.2.1 : Int32) (p75.2.2.2.2.2.2.2.2.2.1 : Int32) (p75.2.2.2.2.2.2.2.2.2.2.1 : Int32) (p75.2.2.2.2.2.2.2.2.2.2.2 : (Nat → Int32)))
def F_DR_toPrecision (x2 : Int32) (x3 : Int64) (x4 : Int32) (x5 : Int32) (t0_0 : Int32) (t0_1 : Int32) (t0_2 : Int32) (t0_3 : Int64) (t0_4 : Int32) (t0_5 : Int32) (t0_6 : Int32) (t0_7 : Int32) (t0_8 : Int32) (t0_9 : Int32) (t0_10 : Int32) (t1_0 : (Nat → Int32)) (t2_0 : (Nat → Int32)) (t3_0 : (Nat → Int32)) (t4_0 : (Nat → Int32)) (t5_0 : (Nat → Int32)) : Int32 × Int32 × Int32 × Int64 × Int32 × Int32 × Int32 × Int32 × Int32 × Int32 × Int32 × (Nat → Int32) × (Nat → Int32) × (Nat → Int32) × (Nat → Int32) × (Nat → Int32) := F_DR_toPrecision_c1 x2 x3 x4 x5 t0_0 t0_1 t0_2 t0_3 t0_4 t0_5 t0_6 t0_7 t0_8 t0_9 t0_10 t1_0 t2_0 t3_0 t4_0 t5_0 ((F_DR_trim t0_0 t0_1 t0_2 t0_3 t0_4 t0_5 t0_6 t0_7 t0_8 t0_9 t0_10 t5_0) : (Int32 × Int32 × Int32 × Int64 × Int32 × Int32 × Int32 × Int32 × Int32 × Int32 × Int32 × (Nat → Int32)))
def S_DR_toPrecision_c170 (x2 : Int32) (x3 : Int64) (x4 : Int32) (x5 : Int32) (t0_0 : Int32) (t0_1 : Int32) (t0_2 : Int32) (t0_3 : Int64) (t0_4 : Int32) (t0_5 : Int32) (t0_6 : Int32) (t0_7 : Int32) (t0_8 : Int32) (t0_9 : Int32) (t0_10 : Int32) (t1_0 : (Nat → Int32)) (t2_0 : (Nat → Int32)) (t3_0 : (Nat → Int32)) (t4_0 : (Nat → Int32)) (t5_0 : (Nat → Int32)) (p75 : (Int32 × Int32 × Int32 × Int64 × Int32 × Int32 × Int32 × Int32 × Int32 × Int32 × Int32 × (Nat → Int32))) (y36 : Int32) (y37 : Int32) (y38 : Int32) (y39 : Int64) (y40 : Int32) (y41 : Int32) (y42 : Int32) (y43 : Int32) (y44 : Int32) (y45 : Int32) (y46 : Int32) (f47 : (Nat → Int32)) (p166 : (Int32 × Int32 × Int32 × Int32 × Int64 × Int32 × Int32 × Int32 × Int32 × Int32 × Int32 × Int32 × (Nat → Int32))) (p240 : (Int32 × Int32 × Int32 × Int64 × Int32 × Int32 × Int32 × Int32 × Int32 × Int32 × Int32 × (Nat → Int32) × (Nat → Int32) × (Nat → Int32) × (Nat → Int32) × (Nat → Int32))) : Prop := True
def S_DR_toPrecision_c170_6 (x2 : Int32) (x3 : Int64) (x4 : Int32) (x5 : Int32) (t0_0 : Int32) (t0_1 : Int32) (t0_2 : Int32) (t0_3 : Int64) (t0_4 : Int32) (t0_5 : Int32) (t0_6 : Int32) (t0_7 : Int32) (t0_8 : Int32) (t0_9 : Int32) (t0_10 : Int32) (t1_0 : (Nat → Int32)) (t2_0 : (Nat → Int32)) (t3_0 : (Nat → Int32)) (t4_0 : (Nat → Int32)) (t5_0 : (Nat → Int32)) (p75 : (Int32 × Int32 × Int32 × Int64 × Int32 × Int32 × Int32 × Int32 × Int32 × Int32 × Int32 × (Nat → Int32))) (y36 : Int32) (y37 : Int32) (y38 : Int32) (y39 : Int64) (y40 : Int32) (y41 : Int32) (y42 : Int32) (y43 : Int32) (y44 : Int32) (y45 : Int32) (y46 : Int32) (f47 : (Nat → Int32)) (p166 : (Int32 × Int32 × Int32 × Int32 × Int64 × Int32 × Int32 × Int32 × Int32 × Int32 × Int32 × Int32 × (Nat → Int32))) (p322 : (Int32 × Int32 × Int32 × Int64 × Int32 × Int32 × Int32 × Int32 × Int32 × Int32 × Int32 × (Nat → Int32) × (Nat → Int32) × (Nat → Int32) × (Nat → Int32) × (Nat → Int32))) : Prop := True
def S_DR_toPrecision_c133 (x2 : Int32) (x3 : Int64) (x4 : Int32) (x5 : Int32) (t0_0 : Int32) (t0_1 : Int32) (t0_2 : Int32) (t0_3 : Int64) (t0_4 : Int32) (t0_5 : Int32) (t0_6 : Int32) (t0_7 : Int32) (t0_8 : Int32) (t0_9 : Int32) (t0_10 : Int32) (t1_0 : (Nat → Int32)) (t2_0 : (Nat → Int32)) (t3_0 : (Nat → Int32)) (t4_0 : (Nat → Int32)) (t5_0 : (Nat → Int32)) (p75 : (Int32 × Int32 × Int32 × Int64 × Int32 × Int32 × Int32 × Int32 × Int32 × Int32 × Int32 × (Nat → Int32))) (y36 : Int32) (y37 : Int32) (y38 : Int32) (y39 : Int64) (y40 : Int32) (y41 : Int32) (y42 : Int32) (y43 : Int32) (y44 : Int32) (y45 : Int32) (y46 : Int32) (f47 : (Nat → Int32)) (p166 : (Int32 × Int32 × Int32 × Int32 × Int64 × Int32 × Int32 × Int32 × Int32 × Int32 × Int32 × Int32 × (Nat → Int32))) : Prop := if (p166.1 : Int32) = (0 : Int32) then (True) else (if (p166.2.2.2.1 : Int32) ≤ x2 then ((True ∧ S_DR_store x5 (p166.2.1 : Int32) (p166.2.2.1 : Int32) (p166.2.2.2.1 : Int32) (p166.2.2.2.2.1 : Int64) (p166.2.2.2.2.2.1 : Int32) (p166.2.2.2.2.2.2.1 : Int32) (p166.2.2.2.2.2.2.2.1 : Int32) (p166.2.2.2.2.2.2.2.2.1 : Int32) (p166.2.2.2.2.2.2.2.2.2.1 : Int32) (p166.2.2.2.2.2.2.2.2.2.2.1 : Int32) (p166.2.2.2.2.2.2.2.2.2.2.2.1 : Int32) t1_0 t2_0 t3_0 t4_0 (p166.2.2.2.2.2.2.2.2.2.2.2.2 : (Nat → Int32))) ∧ (S_DR_toPrecision_c170 x2 x3 x4 x5 t0_0 t0_1 t0_2 t0_3 t0_4 t0_5 t0_6 t0_7 t0_8 t0_9 t0_10 t1_0 t2_0 t3_0 t4_0 t5_0 p75 y36 y37 y38 y39 y40 y41 y42 y43 y44 y45 y46 f47 p166 ((F_DR_store x5 (p166.2.1 : Int32) (p166.2.2.1 : Int32) (p166.2.2.2.1 : Int32) (p166.2.2.2.2.1 : Int64) (p166.2.2.2.2.2.1 : Int32) (p166.2.2.2.2.2.2.1 : Int32) (p166.2.2.2.2.2.2.2.1 : Int32) (p166.2.2.2.2.2.2.2.2.1 : Int32) (p166.2.2.2.2.2.2.2.2.2.1 : Int32) (p166.2.2.2.2.2.2.2.2.2.2.1 : Int32) (p166.2.2.2.2.2.2.2.2.2.2.2.1 : Int32) t1_0 t2_0 t3_0 t4_0 (p166.2.2.2.2.2.2.2.2.2.2.2.2 : (Nat → Int32))) : (Int32 × Int32 × Int32 × Int64 × Int32 × Int32 × Int32 × Int32 × Int32 × Int32 × Int32 × (Nat → Int32) × (Nat → Int32) × (Nat → Int32) × (Nat → Int32) × (Nat → Int32))))) else ((True ∧ S_DR_store x5 (p166.2.1 : Int32) (p166.2.2.1 : Int32) ((p166.2.2.2.1 : Int32) - 1 : Int32) ((p166.2.2.2.2.1 : Int64) - 1 : Int64) (p166.2.2.2.2.2.1 : Int32) (p166.2.2.2.2.2.2.1 : Int32) (p166.2.2.2.2.2.2.2.1 : Int32) (p166.2.2.2.2.2.2.2.2.1 : Int32) (p166.2.2.2.2.2.2.2.2.2.1 : Int32) (p166.2.2.2.2.2.2.2.2.2.2.1 : Int32) (p166.2.2.2.2.2.2.2.2.2.2.2.1 : Int32) t1_0 t2_0 t3_0 t4_0 (p166.2.2.2.2.2.2.2.2.2.2.2.2 : (Nat → Int32))) ∧ (S_DR_toPrecision_c170_6 x2 x3 x4 x5 t0_0 t0_1 t0_2 t0_3 t0_4 t0_5 t0_6 t0_7 t0_8 t0_9 t0_10 t1_0 t2_0 t3_0 t4_0 t5_0 p75 y36 y37 y38 y39 y40 y41 y42 y43 y44 y45 y46 f47 p166 ((F_DR_store x5 (p166.2.1 : Int32) (p166.2.2.1 : Int32) ((p166.2.2.2.1 : Int32) - 1 : Int32) ((p166.2.2.2.2.1 : Int64) - 1 : Int64) (p166.2.2.2.2.2.1 : Int32) (p166.2.2.2.2.2.2.1 : Int32) (p166.2.2.2.2.2.2.2.1 : Int32) (p166.2.2.2.2.2.2.2.2.1 : Int32) (p166.2.2.2.2.2.2.2.2.2.1 : Int32) (p166.2.2.2.2.2.2.2.2.2.2.1 : Int32) (p166.2.2.2.2.2.2.2.2.2.2.2.1 : Int32) t1_0 t2_0 t3_0 t4_0 (p166.2.2.2.2.2.2.2.2.2.2.2.2 : (Nat → Int32))) : (Int32 × Int32 × Int32 × Int64 × Int32 × Int32 × Int32 × Int32 × Int32 × Int32 × Int32 × (Nat → Int32) × (Nat → Int32) × (Nat → Int32) × (Nat → Int32) × (Nat → Int32))))))
def S_DR_toPrecision_J129 (x2 : Int32) (x3 : Int64) (x4 : Int32) (x5 : Int32) (t0_0 : Int32) (t0_1 : Int32) (t0_2 : Int32) (t0_3 : Int64) (t0_4 : Int32) (t0_5 : Int32) (t0_6 : Int32) (t0_7 : Int32) (t0_8 : Int32) (t0_9 : Int32) (t0_10 : Int32) (t1_0 : (Nat → Int32)) (t2_0 : (Nat → Int32)) (t3_0 : (Nat → Int32)) (t4_0 : (Nat → Int32)) (t5_0 : (Nat → Int32)) (p75 : (Int32 × Int32 × Int32 × Int64 × Int32 × Int32 × Int32 × Int32 × Int32 × Int32 × Int32 × (Nat → Int32))) (y36 : Int32) (y37 : Int32) (y38 : Int32) (y39 : Int64) (y40 : Int32) (y41 : Int32) (y42 : Int32) (y43 : Int32) (y44 : Int32) (y45 : Int32) (y46 : Int32) (f47 : (Nat → Int32)) : Prop := (True ∧ S_DR_cut x2 x4 y36 y37 y38 y39 y40 y41 y42 y43 y44 y45 y46 f47) ∧ (S_DR_toPrecision_c133 x2 x3 x4 x5 t0_0 t0_1 t0_2 t0_3 t0_4 t0_5 t0_6 t0_7 t0_8 t0_9 t0_10 t1_0 t2_0 t3_0 t4_0 t5_0 p75 y36 y37 y38 y39 y40 y41 y42 y43 y44 y45 y46 f47 ((F_DR_cut x2 x4 y36 y37 y38 y39 y40 y41 y42 y43 y44 y45 y46 f47) : (Int32 × Int32 × Int32 × Int32 × Int64 × Int32 × Int32 × Int32 × Int32 × Int32 × Int32 × Int32 × (Nat → Int32))))
def S_DR_toPrecision_c125 (x2 : Int32) (x3 : Int64) (x4 : Int32) (x5 : Int32) (t0_0 : Int32) (t0_1 : Int32) (t0_2 : Int32) (t0_3 : Int64) (t0_4 : Int32) (t0_5 : Int32) (t0_6 : Int32) (t0_7 : Int32) (t0_8 : Int32) (t0_9 : Int32) (t0_10 : Int32) (t1_0 : (Nat → Int32)) (t2_0 : (Nat → Int32)) (t3_0 : (Nat → Int32)) (t4_0 : (Nat → Int32)) (t5_0 : (Nat → Int32)) (p75 : (Int32 × Int32 × Int32 × Int64 × Int32 × Int32 × Int32 × Int32 × Int32 × Int32 × Int32 × (Nat → Int32))) (y36 : Int32) (y37 : Int32) (y38 : Int32) (y39 : Int64) (y40 : Int32) (y41 : Int32) (y42 : Int32) (y43 : Int32) (y44 : Int32) (y45 : Int32) (y46 : Int32) (f47 : (Nat → Int32)) (j362 : Int64) (a111 : Int32) (p417 : (Int32 × Int32 × Int32 × Int64 × Int32 × Int32 × Int32 × Int32 × Int32 × Int32 × Int32 × (Nat → Int32))) (p485 : (Int32 × Int32 × Int32 × Int64 × Int32 × Int32 × Int32 × Int32 × Int32 × Int32 × Int32 × (Nat → Int32) × (Nat → Int32) × (Nat → Int32) × (Nat → Int32) × (Nat → Int32))) : Prop := True
def S_DR_toPrecision_c119 (x2 : Int32) (x3 : Int64) (x4 : Int32) (x5 : Int32) (t0_0 : Int32) (t0_1 : Int32) (t0_2 : Int32) (t0_3 : Int64) (t0_4 : Int32) (t0_5 : Int32) (t0_6 : Int32) (t0_7 : Int32) (t0_8 : Int32) (t0_9 : Int32) (t0_10 : Int32) (t1_0 : (Nat → Int32)) (t2_0 : (Nat → Int32)) (t3_0 : (Nat → Int32)) (t4_0 : (Nat → Int32)) (t5_0 : (Nat → Int32)) (p75 : (Int32 × Int32 × Int32 × Int64 × Int32 × Int32 × Int32 × Int32 × Int32 × Int32 × Int32 × (Nat → Int32))) (y36 : Int32) (y37 : Int32) (y38 : Int32) (y39 : Int64) (y40 : Int32) (y41 : Int32) (y42 : Int32) (y43 : Int32) (y44 : Int32) (y45 : Int32) (y46 : Int32) (f47 : (Nat → Int32)) (j362 : Int64) (a111 : Int32) (p417 : (Int32 × Int32 × Int32 × Int64 × Int32 × Int32 × Int32 × Int32 × Int32 × Int32 × Int32 × (Nat → Int32))) : Prop := (True ∧ S_DR_store x5 (p417.1 : Int32) (p417.2.1 : Int32) (p417.2.2.1 : Int32) (p417.2.2.2.1 : Int64) (p417.2.2.2.2.1 : Int32) (p417.2.2.2.2.2.1 : Int32) (p417.2.2.2.2.2.2.1 : Int32) (p417.2.2.2.2.2.2.2.1 : Int32) (p417.2.2.2.2.2.2.2.2.1 : Int32) (p417.2.2.2.2.2.2.2.2.2.1 : Int32) (p417.2.2.2.2.2.2.2.2.2.2.1 : Int32) t1_0 t2_0 t3_0 t4_0 (p417.2.2.2.2.2.2.2.2.2.2.2 : (Nat → Int32))) ∧ (S_DR_toPrecision_c125 x2 x3 x4 x5 t0_0 t0_1 t0_2 t0_3 t0_4 t0_5 t0_6 t0_7 t0_8 t0_9 t0_10 t1_0 t2_0 t3_0 t4_0 t5_0 p75 y36 y37 y38 y39 y40 y41 y42 y43 y44 y45 y46 f47 j362 a111 p417 ((F_DR_store x5 (p417.1 : Int32) (p417.2.1 : Int32) (p417.2.2.1 : Int32) (p417.2.2.2.1 : Int64) (p417.2.2.2.2.1 : Int32) (p417.2.2.2.2.2.1 : Int32) (p417.2.2.2.2.2.2.1 : Int32) (p417.2.2.2.2.2.2.2.1 : Int32) (p417.2.2.2.2.2.2.2.2.1 : Int32) (p417.2.2.2.2.2.2.2.2.2.1 : Int32) (p417.2.2.2.2.2.2.2.2.2.2.1 : Int32) t1_0 t2_0 t3_0 t4_0 (p417.2.2.2.2.2.2.2.2.2.2.2 : (Nat → Int32))) : (Int32 × Int32 × Int32 × Int64 × Int32 × Int32 × Int32 × Int32 × Int32 × Int32 × Int32 × (Nat → Int32) × (Nat → Int32) × (Nat → Int32) × (Nat → Int32) × (Nat → Int32))))
def S_DR_toPrecision_c125_10 (x2 : Int32) (x3 : Int64) (x4 : Int32) (x5 : Int32) (t0_0 : Int32) (t0_1 : Int32) (t0_2 : Int32) (t0_3 : Int64) (t0_4 : Int32) (t0_5 : Int32) (t0_6 : Int32) (t0_7 : Int32) (t0_8 : Int32) (t0_9 : Int32) (t0_10 : Int32) (t1_0 : (Nat → Int32)) (t2_0 : (Nat → Int32)) (t3_0 : (Nat → Int32)) (t4_0 : (Nat → Int32)) (t5_0 : (Nat → Int32)) (p75 : (Int32 × Int32 × Int32 × Int64 × Int32 × Int32 × Int32 × Int32 × Int32 × Int32 × Int32 × (Nat → Int32))) (y36 : Int32) (y37 : Int32) (y38 : Int32) (y39 : Int64) (y40 : Int32) (y41 : Int32) (y42 : Int32) (y43 : Int32) (y44 : Int32) (y45 : Int32) (y46 : Int32) (f47 : (Nat → Int32)) (j511 : Int64) (a111 : Int32) (p552 : (Int32 × Int32 × Int32 × Int64 × Int32 × Int32 × Int32 × Int32 × Int32 × Int32 × Int32 × (Nat → Int32))) (p620 : (Int32 × Int32 × Int32 × Int64 × Int32 × Int32 × Int32 × Int32 × Int32 × Int32 × Int32 × (Nat → Int32) × (Nat → Int32) × (Nat → Int32) × (Nat → Int32) × (Nat → Int32))) : Prop := True
def S_DR_toPrecision_c119_9 (x2 : Int32) (x3 : Int64) (x4 : Int32) (x5 : Int32) (t0_0 : Int32) (t0_1 : Int32) (t0_2 : Int32) (t0_3 : Int64) (t0_4 : Int32) (t0_5 : Int32) (t0_6 : Int32) (t0_7 : Int32) (t0_8 : Int32) (t0_9 : Int32) (t0_10 : Int32) (t1_0 : (Nat → Int32)) (t2_0 : (Nat → Int32)) (t3_0 : (Nat → Int32)) (t4_0 : (Nat → Int32)) (t5_0 : (Nat → Int32)) (p75 : (Int32 × Int32 × Int32 × Int64 × Int32 × Int32 × Int32 × Int32 × Int32 × Int32 × Int32 × (Nat → Int32))) (y36 : Int32) (y37 : Int32) (y38 : Int32) (y39 : Int64) (y40 : Int32) (y41 : Int32) (y42 : Int32) (y43 : Int32) (y44 : Int32) (y45 : Int32) (y46 : Int32) (f47 : (Nat → Int32)) (j511 : Int64) (a111 : Int32) (p552 : (Int32 × Int32 × Int32 × Int64 × Int32 × Int32 × Int32 × Int32 × Int32 × Int32 × Int32 × (Nat → Int32))) : Prop := (True ∧ S_DR_store x5 (p552.1 : Int32) (p552.2.1 : Int32) (p552.2.2.1 : Int32) (p552.2.2.2.1 : Int64) (p552.2.2.2.2.1 : Int32) (p552.2.2.2.2.2.1 : Int32) (p552.2.2.2.2.2.2.1 : Int32) (p552.2.2.2.2.2.2.2.1 : Int32) (p552.2.2.2.2.2.2.2.2.1 : Int32) (p552.2.2.2.2.2.2.2.2.2.1 : Int32) (p552.2.2.2.2.2.2.2.2.2.2.1 : Int32) t1_0 t2_0 t3_0 t4_0 (p552.2.2.2.2.2.2.2.2.2.2.2 : (Nat → Int32))) ∧ (S_DR_toPrecision_c125_10 x2 x3 x4 x5 t0_0 t0_1 t0_2 t0_3 t0_4 t0_5 t0_6 t0_7 t0_8 t0_9 t0_10 t1_0 t2_0 t3_0 t4_0 t5_0 p75 y36 y37 y38 y39 y40 y41 y42 y43 y44 y45 y46 f47 j511 a111 p552 ((F_DR_store x5 (p552.1 : Int32) (p552.2.1 : Int32) (p552.2.2.1 : Int32) (p552.2.2.2.1 : Int64) (p552.2.2.2.2.1 : Int32) (p552.2.2.2.2.2.1 : Int32) (p552.2.2.2.2.2.2.1 : Int32) (p552.2.2.2.2.2.2.2.1 : Int32) (p552.2.2.2.2.2.2.2.2.1 : Int32) (p552.2.2.2.2.2.2.2.2.2.1 : Int32) (p552.2.2.2.2.2.2.2.2.2.2.1 : Int32) t1_0 t2_0 t3_0 t4_0 (p552.2.2.2.2.2.2.2.2.2.2.2 : (Nat → Int32))) : (Int32 × Int32 × Int32 × Int64 × Int32 × Int32 × Int32 × Int32 × Int32 × Int32 × Int32 × (Nat → Int32) × (Nat → Int32) × (Nat → Int32) × (Nat → Int32) × (Nat → Int32))))
def S_DR_toPrecision_c125_12 (x2 : Int32) (x3 : Int64) (x4 : Int32) (x5 : Int32) (t0_0 : Int32) (t0_1 : Int32) (t0_2 : Int32) (t0_3 : Int64) (t0_4 : Int32) (t0_5 : Int32) (t0_6 : Int32) (t0_7 : Int32) (t0_8 : Int32) (t0_9 : Int32) (t0_10 : Int32) (t1_0 : (Nat → Int32)) (t2_0 : (Nat → Int32)) (t3_0 : (Nat → Int32)) (t4_0 : (Nat → Int32)) (t5_0 : (Nat → Int32)) (p75 : (Int32 × Int32 × Int32 × Int64 × Int32 × Int32 × Int32 × Int32 × Int32 × Int32 × Int32 × (Nat → Int32))) (y36 : Int32) (y37 : Int32) (y38 : Int32) (y39 : Int64) (y40 : Int32) (y41 : Int32) (y42 : Int32) (y43 : Int32) (y44 : Int32) (y45 : Int32) (y46 : Int32) (f47 : (Nat → Int32)) (a111 : Int32) (p682 : (Int32 × Int32 × Int32 × Int64 × Int32 × Int32 × Int32 × Int32 × Int32 × Int32 × Int32 × (Nat → Int32))) (p750 : (Int32 × Int32 × Int32 × Int64 × Int32 × Int32 × Int32 × Int32 × Int32 × Int32 × Int32 × (Nat → Int32) × (Nat → Int32) × (Nat → Int32) × (Nat → Int32) × (Nat → Int32))) : Prop := True
def S_DR_toPrecision_c119_11 (x2 : Int32) (x3 : Int64) (x4 : Int32) (x5 : Int32) (t0_0 : Int32) (t0_1 : Int32) (t0_2 : Int32) (t0_3 : Int64) (t0_4 : Int32) (t0_5 : Int32) (t0_6 : Int32) (t0_7 : Int32) (t0_8 : Int32) (t0_9 : Int32) (t0_10 : Int32) (t1_0 : (Nat → Int32)) (t2_0 : (Nat → Int32)) (t3_0 : (Nat → Int32)) (t4_0 : (Nat → Int32)) (t5_0 : (Nat → Int32)) (p75 : (Int32 × Int32 × Int32 × Int64 × Int32 × Int32 × Int32 × Int32 × Int32 × Int32 × Int32 × (Nat → Int32))) (y36 : Int32) (y37 : Int32) (y38 : Int32) (y39 : Int64) (y40 : Int32) (y41 : Int32) (y42 : Int32) (y43 : Int32) (y44 : Int32) (y45 : Int32) (y46 : Int32) (f47 : (Nat → Int32)) (a111 : Int32) (p682 : (Int32 × Int32 × Int32 × Int64 × Int32 × Int32 × Int32 × Int32 × Int32 × Int32 × Int32 × (Nat → Int32))) : Prop := (True ∧ S_DR_store x5 (p682.1 : Int32) (p682.2.1 : Int32) (p682.2.2.1 : Int32) (p682.2.2.2.1 : Int64) (p682.2.2.2.2.1 : Int32) (p682.2.2.2.2.2.1 : Int32) (p682.2.2.2.2.2.2.1 : Int32) (p682.2.2.2.2.2.2.2.1 : Int32) (p682.2.2.2.2.2.2.2.2.1 : Int32) (p682.2.2.2.2.2.2.2.2.2.1 : Int32) (p682.2.2.2.2.2.2.2.2.2.2.1 : Int32) t1_0 t2_0 t3_0 t4_0 (p682.2.2.2.2.2.2.2.2.2.2.2 : (Nat → Int32))) ∧ (S_DR_toPrecision_c125_12 x2 x3 x4 x5 t0_0 t0_1 t0_2 t0_3 t0_4 t0_5 t0_6 t0_7 t0_8 t0_9 t0_10 t1_0 t2_0 t3_0 t4_0 t5_0 p75 y36 y37 y38 y39 y40 y41 y42 y43 y44 y45 y46 f47 a111 p682 ((F_DR_store x5 (p682.1 : Int32) (p682.2.1 : Int32) (p682.2.2.1 : Int32) (p682.2.2.2.1 : Int64) (p682.2.2.2.2.1 : Int32) (p682.2.2.2.2.2.1 : Int32) (p682.2.2.2.2.2.2.1 : Int32) (p682.2.2.2.2.2.2.2.1 : Int32) (p682.2.2.2.2.2.2.2.2.1 : Int32) (p682.2.2.2.2.2.2.2.2.2.1 : Int32) (p682.2.2.2.2.2.2.2.2.2.2.1 : Int32) t1_0 t2_0 t3_0 t4_0 (p682.2.2.2.2.2.2.2.2.2.2.2 : (Nat → Int32))) : (Int32 × Int32 × Int32 × Int64 × Int32 × Int32 × Int32 × Int32 × Int32 × Int32 × Int32 × (Nat → Int32) × (Nat → Int32) × (Nat → Int32) × (Nat → Int32) × (Nat → Int32))))
def S_DR_toPrecision_J32 (x2 : Int32) (x3 : Int64) (x4 : Int32) (x5 : Int32) (t0_0 : Int32) (t0_1 : Int32) (t0_2 : Int32) (t0_3 : Int64) (t0_4 : Int32) (t0_5 : Int32) (t0_6 : Int32) (t0_7 : Int32) (t0_8 : Int32) (t0_9 : Int32) (t0_10 : Int32) (t1_0 : (Nat → Int32)) (t2_0 : (Nat → Int32)) (t3_0 : (Nat → Int32)) (t4_0 : (Nat → Int32)) (t5_0 : (Nat → Int32)) (p75 : (Int32 × Int32 × Int32 × Int64 × Int32 × Int32 × Int32 × Int32 × Int32 × Int32 × Int32 × (Nat → Int32))) (y36 : Int32) (y37 : Int32) (y38 : Int32) (y39 : Int64) (y40 : Int32) (y41 : Int32) (y42 : Int32) (y43 : Int32) (y44 : Int32) (y45 : Int32) (y46 : Int32) (f47 : (Nat → Int32)) : Prop := (True ∧ S_DR_needed y36 y37 y38 y39 y40 y41 y42 y43 y44 y45 y46 f47) ∧ (if y40 = (0 : Int32) then (if x2 < ((F_DR_needed y36 y37 y38 y39 y40 y41 y42 y43 y44 y45 y46 f47) : Int32) then (S_DR_toPrecision_J129 x2 x3 x4 x5 t0_0 t0_1 t0_2 t0_3 t0_4 t0_5 t0_6 t0_7 t0_8 t0_9 t0_10 t1_0 t2_0 t3_0 t4_0 t5_0 p75 y36 y37 y38 y39 y40 y41 y42 y43 y44 y45 y46 f47) else (if (0 : Int32) ≤ (lg_cmp (x3 - (y39 - ((y38 - ((F_DR_needed y36 y37 y38 y39 y40 y41 y42 y43 y44 y45 y46 f47) : Int32) : Int32).toInt64 : Int64) : Int64) : Int64) 0 : Int32) then (if (lg_cmp (x3 - (y39 - ((y38 - ((F_DR_needed y36 y37 y38 y39 y40 y41 y42 y43 y44 y45 y46 f47) : Int32) : Int32).toInt64 : Int64) : Int64) : Int64) ((x2 - ((F_DR_needed y36 y37 y38 y39 y40 y41 y42 y43 y44 y45 y46 f47) : Int32) : Int32).toInt64 : Int64) : Int32) ≤ (0 : Int32) then ((True ∧ S_DR_lengthen (x3 - (y39 - ((y38 - ((F_DR_needed y36 y37 y38 y39 y40 y41 y42 y43 y44 y45 y46 f47) : Int32) : Int32).toInt64 : Int64) : Int64) : Int64) y36 y37 ((F_DR_needed y36 y37 y38 y39 y40 y41 y42 y43 y44 y45 y46 f47) : Int32) (y39 - ((y38 - ((F_DR_needed y36 y37 y38 y39 y40 y41 y42 y43 y44 y45 y46 f47) : Int32) : Int32).toInt64 : Int64) : Int64) y40 y41 y42 y43 y44 y45 y46 f47) ∧ (S_DR_toPrecision_c119 x2 x3 x4 x5 t0_0 t0_1 t0_2 t0_3 t0_4 t0_5 t0_6 t0_7 t0_8 t0_9 t0_10 t1_0 t2_0 t3_0 t4_0 t5_0 p75 y36 y37 y38 y39 y40 y41 y42 y43 y44 y45 y46 f47 (x3 - (y39 - ((y38 - ((F_DR_needed y36 y37 y38 y39 y40 y41 y42 y43 y44 y45 y46 f47) : Int32) : Int32).toInt64 : Int64) : Int64) : Int64) ((F_DR_needed y36 y37 y38 y39 y40 y41 y42 y43 y44 y45 y46 f47) : Int32) ((F_DR_lengthen (x3 - (y39 - ((y38 - ((F_DR_needed y36 y37 y38 y39 y40 y41 y42 y43 y44 y45 y46 f47) : Int32) : Int32).toInt64 : Int64) : Int64) : Int64) y36 y37 ((F_DR_needed y36 y37 y38 y39 y40 y41 y42 y43 y44 y45 y46 f47) : Int32) (y39 - ((y38 - ((F_DR_needed y36 y37 y38 y39 y40 y41 y42 y43 y44 y45 y46 f47) : Int32) : Int32).toInt64 : Int64) : Int64) y40 y41 y42 y43 y44 y45 y46 f47) : (Int32 × Int32 × Int32 × Int64 × Int32 × Int32 × Int32 × Int32 × Int32 × Int32 × Int32 × (Nat → Int32))))) else ((True ∧ S_DR_lengthen ((x2 - ((F_DR_needed y36 y37 y38 y39 y40 y41 y42 y43 y44 y45 y46 f47) : Int32) : Int32).toInt64 : Int64) y36 y37 ((F_DR_needed y36 y37 y38 y39 y40 y41 y42 y43 y44 y45 y46 f47) : Int32) (y39 - ((y38 - ((F_DR_needed y36 y37 y38 y39 y40 y41 y42 y43 y44 y45 y46 f47) : Int32) : Int32).toInt64 : Int64) : Int64) y40 y41 y42 y43 y44 y45 y46 f47) ∧ (S_DR_toPrecision_c119_9 x2 x3 x4 x5 t0_0 t0_1 t0_2 t0_3 t0_4 t0_5 t0_6 t0_7 t0_8 t0_9 t0_10 t1_0 t2_0 t3_0 t4_0 t5_0 p75 y36 y37 y38 y39 y40 y41 y42 y43 y44 y45 y46 f47 ((x2 - ((F_DR_needed y36 y37 y38 y39 y40 y41 y42 y43 y44 y45 y46 f47) : Int32) : Int32).toInt64 : Int64) ((F_DR_needed y36 y37 y38 y39 y40 y41 y42 y43 y44 y45 y46 f47) : Int32) ((F_DR_lengthen ((x2 - ((F_DR_needed y36 y37 y38 y39 y40 y41 y42 y43 y44 y45 y46 f47) : Int32) : Int32).toInt64 : Int64) y36 y37 ((F_DR_needed y36 y37 y38 y39 y40 y41 y42 y43 y44 y45 y46 f47) : Int32) (y39 - ((y38 - ((F_DR_needed y36 y37 y38 y39 y40 y41 y42 y43 y44 y45 y46 f47) : Int32) : Int32).toInt64 : Int64) : Int64) y40 y41 y42 y43 y44 y45 y46 f47) : (Int32 × Int32 × Int32 × Int64 × Int32 × Int32 × Int32 × Int32 × Int32 × Int32 × Int32 × (Nat → Int32)))))) else ((True ∧ S_DR_lengthen (0 : Int64) y36 y37 ((F_DR_needed y36 y37 y38 y39 y40 y41 y42 y43 y44 y45 y46 f47) : Int32) (y39 - ((y38 - ((F_DR_needed y36 y37 y38 y39 y40 y41 y42 y43 y44 y45 y46 f47) : Int32) : Int32).toInt64 : Int64) : Int64) y40 y41 y42 y43 y44 y45 y46 f47) ∧ (S_DR_toPrecision_c119_11 x2 x3 x4 x5 t0_0 t0_1 t0_2 t0_3 t0_4 t0_5 t0_6 t0_7 t0_8 t0_9 t0_10 t1_0 t2_0 t3_0 t4_0 t5_0 p75 y36 y37 y38 y39 y40 y41 y42 y43 y44 y45 y46 f47 ((F_DR_needed y36 y37 y38 y39 y40 y41 y42 y43 y44 y45 y46 f47) : Int32) ((F_DR_lengthen (0 : Int64) y36 y37 ((F_DR_needed y36 y37 y38 y39 y40 y41 y42 y43 y44 y45 y46 f47) : Int32) (y39 - ((y38 - ((F_DR_needed y36 y37 y38 y39 y40 y41 y42 y43 y44 y45 y46 f47) : Int32) : Int32).toInt64 : Int64) : Int64) y40 y41 y42 y43 y44 y45 y46 f47) : (Int32 × Int32 × Int32 × Int64 × Int32 × Int32 × Int32 × Int32 × Int32 × Int32 × Int32 × (Nat → Int32))))))) else (S_DR_toPrecision_J129 x2 x3 x4 x5 t0_0 t0_1 t0_2 t0_3 t0_4 t0_5 t0_6 t0_7 t0_8 t0_9 t0_10 t1_0 t2_0 t3_0 t4_0 t5_0 p75 y36 y37 y38 y39 y40 y41 y42 y43 y44 y45 y46 f47))
def S_DR_toPrecision_c28 (x2 : Int32) (x3 : Int64) (x4 : Int32) (x5 : Int32) (t0_0 : Int32) (t0_1 : Int32) (t0_2 : Int32) (t0_3 : Int64) (t0_4 : Int32) (t0_5 : Int32) (t0_6 : Int32) (t0_7 : Int32) (t0_8 : Int32) (t0_9 : Int32) (t0_10 : Int32) (t1_0 : (Nat → Int32)) (t2_0 : (Nat → Int32)) (t3_0 : (Nat → Int32)) (t4_0 : (Nat → Int32)) (t5_0 : (Nat → Int32)) (p75 : (Int32 × Int32 × Int32 × Int64 × Int32 × Int32 × Int32 × Int32 × Int32 × Int32 × Int32 × (Nat → Int32))) (p830 : (Int32 × Int32 × Int32 × Int64 × Int32 × Int32 × Int32 × Int32 × Int32 × Int32 × Int32 × (Nat → Int32) × (Nat → Int32) × (Nat → Int32) × (Nat → Int32) × (Nat → Int32))) : Prop := True
def S_DR_toPrecision_c1 (x2 : Int32) (x3 : Int64) (x4 : Int32) (x5 : Int32) (t0_0 : Int32) (t0_1 : Int32) (t0_2 : Int32) (t0_3 : Int64) (t0_4 : Int32) (t0_5 : Int32) (t0_6 : Int32) (t0_7 : Int32) (t0_8 : Int32) (t0_9 : Int32) (t0_10 : Int32) (t1_0 : (Nat → Int32)) (t2_0 : (Nat → Int32)) (t3_0 : (Nat → Int32)) (t4_0 : (Nat → Int32)) (t5_0 : (Nat → Int32)) (p75 : (Int32 × Int32 × Int32 × Int64 × Int32 × Int32 × Int32 × Int32 × Int32 × Int32 × Int32 × (Nat → Int32))) : Prop := if ((p75.2.2.2.2.2.2.2.2.2.2.2 : (Nat → Int32)) (0 : Int32).toNatClampNeg : Int32) = (0 : Int32) then (if (p75.2.2.2.2.1 : Int32) = (0 : Int32) then ((True ∧ S_DR_store x5 (p75.1 : Int32) (p75.2.1 : Int32) (p75.2.2.1 : Int32) x3 (p75.2.2.2.2.1 : Int32) (p75.2.2.2.2.2.1 : Int32) (p75.2.2.2.2.2.2.1 : Int32) (p75.2.2.2.2.2.2.2.1 : Int32) (p75.2.2.2.2.2.2.2.2.1 : Int32) (p75.2.2.2.2.2.2.2.2.2.1 : Int32) (p75.2.2.2.2.2.2.2.2.2.2.1 : Int32) t1_0 t2_0 t3_0 t4_0 (p75.2.2.2.2.2.2.2.2.2.2.2 : (Nat → Int32))) ∧ (S_DR_toPrecision_c28 x2 x3 x4 x5 t0_0 t0_1 t0_2 t0_3 t0_4 t0_5 t0_6 t0_7 t0_8 t0_9 t0_10 t1_0 t2_0 t3_0 t4_0 t5_0 p75 ((F_DR_store x5 (p75.1 : Int32) (p75.2.1 : Int32) (p75.2.2.1 : Int32) x3 (p75.2.2.2.2.1 : Int32) (p75.2.2.2.2.2.1 : Int32) (p75.2.2.2.2.2.2.1 : Int32) (p75.2.2.2.2.2.2.2.1 : Int32) (p75.2.2.2.2.2.2.2.2.1 : Int32) (p75.2.2.2.2.2.2.2.2.2.1 : Int32) (p75.2.2.2.2.2.2.2.2.2.2.1 : Int32) t1_0 t2_0 t3_0 t4_0 (p75.2.2.2.2.2.2.2.2.2.2.2 : (Nat → Int32))) : (Int32 × Int32 × Int32 × Int64 × Int32 × Int32 × Int32 × Int32 × Int32 × Int32 × Int32 × (Nat → Int32) × (Nat → Int32) × (Nat → Int32) × (Nat → Int32) × (Nat → Int32))))) else (S_DR_toPrecision_J32 x2 x3 x4 x5 t0_0 t0_1 t0_2 t0_3 t0_4 t0_5 t0_6 t0_7 t0_8 t0_9 t0_10 t1_0 t2_0 t3_0 t4_0 t5_0 p75 (p75.1 : Int32) (p75.2.1 : Int32) (p75.2.2.1 : Int32) (p75.2.2.2.1 : Int64) (p75.2.2.2.2.1 : Int32) (p75.2.2.2.2.2.1 : Int32) (p75.2.2.2.2.2.2.1 : Int32) (p75.2.2.2.2.2.2.2.1 : Int32) (p75.2.2.2.2.2.2.2.2.1 : Int32) (p75.2.2.2.2.2.2.2.2.2.1 : Int32) (p75.2.2.2.2.2.2.2.2.2.2.1 : Int32) (p75.2.2.2.2.2.2.2.2.2.2.2 : (Nat → Int32)))) else (S_DR_toPrecision_J32 x2 x3 x4 x5 t0_0 t0_1 t0_2 t0_3 t0_4 t0_5 t0_6 t0_7 t0_8 t0_9 t0_10 t1_0 t2_0 t3_0 t4_0 t5_0 p75 (p75.1 : Int32) (p75.2.1 : Int32) (p75.2.2.1 : Int32) (p75.2.2.2.1 : Int64) (p75.2.2.2.2.1 : Int32) (p75.2.2.2.2.2.1 : Int32) (p75.2.2.2.2.2.2.1 : Int32) (p75.2.2.2.2.2.2.2.1 : Int32) (p75.2.2.2.2.2.2.2.2.1 : Int32) (p75.2.2.2.2.2.2.2.2.2.1 : Int32) (p75.2.2.2.2.2.2.2.2.2.2.1 : Int32) (p75.2.2.2.2.2.2.2.2.2.2.2 : (Nat → Int32)))
def S_DR_toPrecision (x2 : Int32) (x3 : Int64) (x4 : Int32) (x5 : Int32) (t0_0 : Int32) (t0_1 : Int32) (t0_2 : Int32) (t0_3 : Int64) (t0_4 : Int32) (t0_5 : Int32) (t0_6 : Int32) (t0_7 : Int32) (t0_8 : Int32) (t0_9 : Int32) (t0_10 : Int32) (t1_0 : (Nat → Int32)) (t2_0 : (Nat → Int32)) (t3_0 : (Nat → Int32)) (t4_0 : (Nat → Int32)) (t5_0 : (Nat → Int32)) : Prop := (True ∧ S_DR_trim t0_0 t0_1 t0_2 t0_3 t0_4 t0_5 t0_6 t0_7 t0_8 t0_9 t0_10 t5_0) ∧ (S_DR_toPrecision_c1 x2 x3 x4 x5 t0_0 t0_1 t0_2 t0_3 t0_4 t0_5 t0_6 t0_7 t0_8 t0_9 t0_10 t1_0 t2_0 t3_0 t4_0 t5_0 ((F_DR_trim t0_0 t0_1 t0_2 t0_3 t0_4 t0_5 t0_6 t0_7 t0_8 t0_9 t0_10 t5_0) : (Int32 × Int32 × Int32 × Int64 × Int32 × Int32 × Int32 × Int32 × Int32 × Int32 × Int32 × (Nat → Int32))))
set_option maxRecDepth 100000 in
set_option maxHeartbeats 4000000 in
theorem X_DR_toPrecision (l : Launch) (D : va_G) (g : Nat → ClassId) (q : Nat → Nat) (ws : va_W) (x2 : Int32) (x3 : Int64) (x4 : Int32) (x5 : Int32) (hI : q_I (msh g q) q ws) (t0_0 : Int32) (t0_1 : Int32) (t0_2 : Int32) (t0_3 : Int64) (t0_4 : Int32) (t0_5 : Int32) (t0_6 : Int32) (t0_7 : Int32) (t0_8 : Int32) (t0_9 : Int32) (t0_10 : Int32) (hT0 : ws[134]? = (some (q 134, .inr (14, [.int t0_0, .ref (q 135), .int t0_1, .ref (q 136), .ref (q 137), .ref (q 138), .ref (q 139), .ref (q 140), .int t0_2, .long t0_3, .int t0_4, .int t0_5, .ref (q 141), .int t0_6, .ref (q 142), .int t0_7, .ref (q 143), .int t0_8, .ref (q 144), .int t0_9, .int t0_10])) : Option (Nat × va_E))) (t1_0 : (Nat → Int32)) (hT1 : ws[136]? = (some (q 136, .inl (g 0, (10000 : Int32).toNatClampNeg, .inl t1_0)) : Option (Nat × va_E))) (t2_0 : (Nat → Int32)) (hT2 : ws[137]? = (some (q 137, .inl (g 0, (10 : Int32).toNatClampNeg, .inl t2_0)) : Option (Nat × va_E))) (t3_0 : (Nat → Int32)) (hT3 : ws[138]? = (some (q 138, .inl (g 3, 10, .inl t3_0)) : Option (Nat × va_E))) (t4_0 : (Nat → Int32)) (hT4 : ws[139]? = (some (q 139, .inl (g 0, (10 : Int32).toNatClampNeg, .inl t4_0)) : Option (Nat × va_E))) (t5_0 : (Nat → Int32)) (hT5 : ws[140]? = (some (q 140, .inl (g 0, (4400 : Int32).toNatClampNeg, .inl t5_0)) : Option (Nat × va_E))) (hS : True ∧ S_DR_toPrecision x2 x3 x4 x5 t0_0 t0_1 t0_2 t0_3 t0_4 t0_5 t0_6 t0_7 t0_8 t0_9 t0_10 t1_0 t2_0 t3_0 t4_0 t5_0) : q_mV l y_DR_toPrecision prog_15_method_15_code 9 4 0 0 D g [.ref (q 134), .int x2, .long x3, .int x4, .int x5] ws (fun u => q_I (msh g q) q u ∧ q_un ws u [134, 136, 137, 138, 139, 140] ∧ ∃ (u0_0 : Int32) (u0_1 : Int32) (u0_2 : Int32) (u0_3 : Int64) (u0_4 : Int32) (u0_5 : Int32) (u0_6 : Int32) (u0_7 : Int32) (u0_8 : Int32) (u0_9 : Int32) (u0_10 : Int32) (u1_0 : (Nat → Int32)) (u2_0 : (Nat → Int32)) (u3_0 : (Nat → Int32)) (u4_0 : (Nat → Int32)) (u5_0 : (Nat → Int32)), u[134]? = (some (q 134, .inr (14, [.int u0_0, .ref (q 135), .int u0_1, .ref (q 136), .ref (q 137), .ref (q 138), .ref (q 139), .ref (q 140), .int u0_2, .long u0_3, .int u0_4, .int u0_5, .ref (q 141), .int u0_6, .ref (q 142), .int u0_7, .ref (q 143), .int u0_8, .ref (q 144), .int u0_9, .int u0_10])) : Option (Nat × va_E)) ∧ u[136]? = (some (q 136, .inl (g 0, (10000 : Int32).toNatClampNeg, .inl u1_0)) : Option (Nat × va_E)) ∧ u[137]? = (some (q 137, .inl (g 0, (10 : Int32).toNatClampNeg, .inl u2_0)) : Option (Nat × va_E)) ∧ u[138]? = (some (q 138, .inl (g 3, 10, .inl u3_0)) : Option (Nat × va_E)) ∧ u[139]? = (some (q 139, .inl (g 0, (10 : Int32).toNatClampNeg, .inl u4_0)) : Option (Nat × va_E)) ∧ u[140]? = (some (q 140, .inl (g 0, (4400 : Int32).toNatClampNeg, .inl u5_0)) : Option (Nat × va_E)) ∧ (0 ≤ u0_4.toInt) ∧ (0 ≤ u0_5.toInt) ∧ (t0_1.toInt ≤ u0_1.toInt) ∧ (u0_1.toInt ≤ t0_1.toInt) ∧ (t0_2.toInt ≤ u0_1.toInt + 24400) ∧ (t0_2.toInt ≤ u0_4.toInt + 24401) ∧ (u0_4.toInt ≤ t0_4.toInt) ∧ (t0_2.toInt ≤ u0_5.toInt + 24401) ∧ (u0_5.toInt ≤ t0_5.toInt) ∧ (t0_6.toInt ≤ u0_6.toInt) ∧ (u0_6.toInt ≤ t0_6.toInt) ∧ (t0_7.toInt ≤ u0_7.toInt) ∧ (u0_7.toInt ≤ t0_7.toInt) ∧ (t0_8.toInt ≤ u0_8.toInt) ∧ (u0_8.toInt ≤ t0_8.toInt) ∧ (t0_2.toInt ≤ u0_9.toInt + 24400) ∧ (t0_9.toInt ≤ u0_9.toInt) ∧ (u0_9.toInt ≤ t0_9.toInt) ∧ (t0_10.toInt ≤ u0_10.toInt) ∧ (u0_10.toInt ≤ t0_10.toInt) ∧ (u0_0, u0_1, u0_2, u0_3, u0_4, u0_5, u0_6, u0_7, u0_8, u0_9, u0_10, u1_0, u2_0, u3_0, u4_0, u5_0) = (F_DR_toPrecision x2 x3 x4 x5 t0_0 t0_1 t0_2 t0_3 t0_4 t0_5 t0_6 t0_7 t0_8 t0_9 t0_10 t1_0 t2_0 t3_0 t4_0 t5_0)) := by
  intro sz
  refine q_into (by decide) (Nat.le_of_ble_eq_true rfl) ?_
  intro p e s m below meth c ls hsz C0 V hl
  have hx := C0.1
  have hb := C0.2.1
  obtain ⟨btt0_1, hZ9⟩ := n_w134 hI hT0
  obtain ⟨btt0_4, hZ9⟩ := hZ9
  obtain ⟨btt0_5, btt0_9⟩ := hZ9
  replace btt0_1 : q_F (0 ≤ t0_1.toInt ∧ t0_1.toInt ≤ 4100) := btt0_1
  replace btt0_4 : q_F (0 ≤ t0_4.toInt ∧ t0_4.toInt ≤ 1) := btt0_4
  replace btt0_5 : q_F (0 ≤ t0_5.toInt ∧ t0_5.toInt ≤ 1) := btt0_5
  replace btt0_9 : q_F (0 ≤ t0_9.toInt ∧ t0_9.toInt ≤ 12200) := btt0_9
  have hF : q_un ws ws [134, 136, 137, 138, 139, 140] := q_u0
  have hl : lv_has ls 9 [(0, .ref (q 134)), (1, .int x2), (2, .long x3), (4, .int x4), (5, .int x5)] := hl
  refine lv_aload_n hx hb d_15_15_0 rfl (lv_at hl 0 rfl) ?_
  have ob32 : True ∧ S_DR_trim t0_0 t0_1 t0_2 t0_3 t0_4 t0_5 t0_6 t0_7 t0_8 t0_9 t0_10 t5_0 := (by have h := hS; rw [S_DR_toPrecision.eq_1] at h; with_reducible exact h.2.1)
  refine q_gov V (q_runV (As := []) (rest := []) (d := 1) (mc := 0) (ms := 0) (ci := 14) C0 V rfl LV_DR_59 (X_DR_trim l D g q ws   hI t0_0 t0_1 t0_2 t0_3 t0_4 t0_5 t0_6 t0_7 t0_8 t0_9 t0_10 hT0 t5_0 hT5 ob32 _) rfl rfl hT0 rfl hl.1 rfl (Nat.le_of_ble_eq_true rfl) ⟨by decide, by decide⟩ ⟨Nat.le_of_ble_eq_true rfl, Nat.le_of_ble_eq_true rfl⟩ d_15_15_1) (fun u33 H locs hp34 V => ?_)
  obtain ⟨hI, hZ9⟩ := hp34
  obtain ⟨hu74, hZ9⟩ := hZ9
  obtain ⟨y36, hZ9⟩ := hZ9
  obtain ⟨y37, hZ9⟩ := hZ9
  obtain ⟨y38, hZ9⟩ := hZ9
  obtain ⟨y39, hZ9⟩ := hZ9
  obtain ⟨y40, hZ9⟩ := hZ9
  obtain ⟨y41, hZ9⟩ := hZ9
  obtain ⟨y42, hZ9⟩ := hZ9
  obtain ⟨y43, hZ9⟩ := hZ9
  obtain ⟨y44, hZ9⟩ := hZ9
  obtain ⟨y45, hZ9⟩ := hZ9
  obtain ⟨y46, hZ9⟩ := hZ9
  obtain ⟨f47, hZ9⟩ := hZ9
  obtain ⟨hO35, hZ9⟩ := hZ9
  obtain ⟨hA48, hZ9⟩ := hZ9
  obtain ⟨b49, hZ9⟩ := hZ9
  replace hZ9 := hZ9.2.2
  obtain ⟨b52, hZ9⟩ := hZ9
  obtain ⟨b53, hZ9⟩ := hZ9
  obtain ⟨b54, hZ9⟩ := hZ9
  replace hZ9 := hZ9.2.2
  obtain ⟨b57, hZ9⟩ := hZ9
  replace hZ9 := hZ9.2
  obtain ⟨b59, hZ9⟩ := hZ9
  obtain ⟨b60, hZ9⟩ := hZ9
  obtain ⟨b61, hZ9⟩ := hZ9
  obtain ⟨b62, hZ9⟩ := hZ9
  obtain ⟨b63, hZ9⟩ := hZ9
  obtain ⟨b64, hZ9⟩ := hZ9
  obtain ⟨b65, hZ9⟩ := hZ9
  obtain ⟨b66, hZ9⟩ := hZ9
  obtain ⟨b67, hZ9⟩ := hZ9
  obtain ⟨b68, hZ9⟩ := hZ9
  obtain ⟨b69, hZ9⟩ := hZ9
  obtain ⟨b70, hZ9⟩ := hZ9
  obtain ⟨b71, hZ9⟩ := hZ9
  obtain ⟨b72, hE73⟩ := hZ9
  replace hO35 : u33[134]? = (some (q 134, .inr (14, [.int y36, .ref (q 135), .int y37, .ref (q 136), .ref (q 137), .ref (q 138), .ref (q 139), .ref (q 140), .int y38, .long y39, .int y40, .int y41, .ref (q 141), .int y42, .ref (q 142), .int y43, .ref (q 143), .int y44, .ref (q 144), .int y45, .int y46])) : Option (Nat × va_E)) := hO35
  replace hA48 : u33[140]? = (some (q 140, .inl (g 0, (4400 : Int32).toNatClampNeg, .inl f47)) : Option (Nat × va_E)) := hA48
  obtain ⟨p75, e76⟩ : ∃ z, z = (F_DR_trim t0_0 t0_1 t0_2 t0_3 t0_4 t0_5 t0_6 t0_7 t0_8 t0_9 t0_10 t5_0) := ⟨_, rfl⟩
  have e77 : y36 = p75.1 := congrArg (fun z => z.1) (hE73.trans e76.symm)
  have e78 : y37 = p75.2.1 := congrArg (fun z => z.2.1) (hE73.trans e76.symm)
  have e79 : y38 = p75.2.2.1 := congrArg (fun z => z.2.2.1) (hE73.trans e76.symm)
  have e80 : y39 = p75.2.2.2.1 := congrArg (fun z => z.2.2.2.1) (hE73.trans e76.symm)
  have e81 : y40 = p75.2.2.2.2.1 := congrArg (fun z => z.2.2.2.2.1) (hE73.trans e76.symm)
  have e82 : y41 = p75.2.2.2.2.2.1 := congrArg (fun z => z.2.2.2.2.2.1) (hE73.trans e76.symm)
  have e83 : y42 = p75.2.2.2.2.2.2.1 := congrArg (fun z => z.2.2.2.2.2.2.1) (hE73.trans e76.symm)
  have e84 : y43 = p75.2.2.2.2.2.2.2.1 := congrArg (fun z => z.2.2.2.2.2.2.2.1) (hE73.trans e76.symm)
  have e85 : y44 = p75.2.2.2.2.2.2.2.2.1 := congrArg (fun z => z.2.2.2.2.2.2.2.2.1) (hE73.trans e76.symm)
  have e86 : y45 = p75.2.2.2.2.2.2.2.2.2.1 := congrArg (fun z => z.2.2.2.2.2.2.2.2.2.1) (hE73.trans e76.symm)
  have e87 : y46 = p75.2.2.2.2.2.2.2.2.2.2.1 := congrArg (fun z => z.2.2.2.2.2.2.2.2.2.2.1) (hE73.trans e76.symm)
  have e88 : f47 = p75.2.2.2.2.2.2.2.2.2.2.2 := congrArg (fun z => z.2.2.2.2.2.2.2.2.2.2.2) (hE73.trans e76.symm)
  replace b49 : q_F (0 ≤ y41.toInt) := b49
  replace b52 : q_F (t0_1.toInt ≤ y37.toInt) := b52
  replace b53 : q_F (y37.toInt ≤ t0_1.toInt) := b53
  replace b54 : q_F (t0_2.toInt ≤ y37.toInt + 24400) := b54
  replace b57 : q_F (t0_2.toInt ≤ y40.toInt + 24400) := b57
  replace b59 : q_F (y40.toInt ≤ t0_4.toInt) := b59
  replace b60 : q_F (t0_2.toInt ≤ y41.toInt + 24400) := b60
  replace b61 : q_F (y41.toInt ≤ t0_5.toInt) := b61
  replace b62 : q_F (t0_6.toInt ≤ y42.toInt) := b62
  replace b63 : q_F (y42.toInt ≤ t0_6.toInt) := b63
  replace b64 : q_F (t0_7.toInt ≤ y43.toInt) := b64
  replace b65 : q_F (y43.toInt ≤ t0_7.toInt) := b65
  replace b66 : q_F (t0_8.toInt ≤ y44.toInt) := b66
  replace b67 : q_F (y44.toInt ≤ t0_8.toInt) := b67
  replace b68 : q_F (t0_2.toInt ≤ y45.toInt + 24400) := b68
  replace b69 : q_F (t0_9.toInt ≤ y45.toInt) := b69
  replace b70 : q_F (y45.toInt ≤ t0_9.toInt) := b70
  replace b71 : q_F (t0_10.toInt ≤ y46.toInt) := b71
  replace b72 : q_F (y46.toInt ≤ t0_10.toInt) := b72
  replace hT1 := (hu74 _ (by decide)).trans hT1
  replace hT2 := (hu74 _ (by decide)).trans hT2
  replace hT3 := (hu74 _ (by decide)).trans hT3
  replace hT4 := (hu74 _ (by decide)).trans hT4
  replace hF := q_uc hF hu74 (by simp)
  have hR89 := (show F_DR_toPrecision_c1 x2 x3 x4 x5 t0_0 t0_1 t0_2 t0_3 t0_4 t0_5 t0_6 t0_7 t0_8 t0_9 t0_10 t1_0 t2_0 t3_0 t4_0 t5_0 p75 = (F_DR_toPrecision x2 x3 x4 x5 t0_0 t0_1 t0_2 t0_3 t0_4 t0_5 t0_6 t0_7 t0_8 t0_9 t0_10 t1_0 t2_0 t3_0 t4_0 t5_0) from (by rw [e76, F_DR_toPrecision.eq_1]))
  have hS90 := (show True ∧ S_DR_toPrecision_c1 x2 x3 x4 x5 t0_0 t0_1 t0_2 t0_3 t0_4 t0_5 t0_6 t0_7 t0_8 t0_9 t0_10 t1_0 t2_0 t3_0 t4_0 t5_0 p75 from (by rw [e76]; have h := hS; rw [S_DR_toPrecision.eq_1] at h; replace h := q_s2 h; with_reducible exact h))
  refine lv_aload_n hx hb d_15_15_4 rfl (lv_at hl 0 rfl) ?_
  refine q_get (ci := 14) (j := 7) (v := .ref (q 140)) C0 V i_DR rfl rfl hO35 (by decide) w_2010 rfl d_15_15_5 ?_
  refine lv_iconst (v := 0) hx hb d_15_15_8 (by decide) ?_
  refine q_iald C0 V hA48 (q_ix (x := 0) (by decide) (by omega) (by have e9 : (((4400 : Int32).toNatClampNeg : Nat) : Int) = 4400 := (by decide); omega)) d_15_15_9 ?_
  obtain ⟨a94, e95⟩ := q_nm (f47 (0 : Int32).toNatClampNeg : Int32)
  refine q_ti (v := a94) e95 ?_
  refine q_join (X := Unit) (fun z H locs ls _ => q_Wd D g (va_A ws sz) s u33 H locs ∧ lv_has ls 9 [(0, .ref (q 134)), (1, .int x2), (2, .long x3), (4, .int x4), (5, .int x5)] ∧ F_DR_toPrecision_J32 x2 x3 x4 x5 t0_0 t0_1 t0_2 t0_3 t0_4 t0_5 t0_6 t0_7 t0_8 t0_9 t0_10 t1_0 t2_0 t3_0 t4_0 t5_0 p75 y36 y37 y38 y39 y40 y41 y42 y43 y44 y45 y46 f47 = (F_DR_toPrecision x2 x3 x4 x5 t0_0 t0_1 t0_2 t0_3 t0_4 t0_5 t0_6 t0_7 t0_8 t0_9 t0_10 t1_0 t2_0 t3_0 t4_0 t5_0) ∧ True ∧ S_DR_toPrecision_J32 x2 x3 x4 x5 t0_0 t0_1 t0_2 t0_3 t0_4 t0_5 t0_6 t0_7 t0_8 t0_9 t0_10 t1_0 t2_0 t3_0 t4_0 t5_0 p75 y36 y37 y38 y39 y40 y41 y42 y43 y44 y45 y46 f47) (fun z => []) 32 0 0 ?_ ?_
  ·
    rintro _ H locs ls _ ⟨V, hl, hR103, hS104⟩
    replace hl : lv_has ls 9 [(0, .ref (q 134)), (1, .int x2), (2, .long x3), (4, .int x4), (5, .int x5)] := hl
    refine lv_aload_n hx hb d_15_15_32 rfl (lv_at hl 0 rfl) ?_
    have ob108 : True ∧ S_DR_needed y36 y37 y38 y39 y40 y41 y42 y43 y44 y45 y46 f47 := (by have h := hS104; rw [S_DR_toPrecision_J32.eq_1] at h; with_reducible exact h.2.1)
    refine q_goi V (q_runV (As := []) (rest := []) (d := 1) (mc := 0) (ms := 0) (ci := 14) C0 V rfl LV_DR_93 (X_DR_needed l D g q u33   hI y36 y37 y38 y39 y40 y41 y42 y43 y44 y45 y46 hO35 f47 hA48 ob108 _) rfl rfl hO35 rfl hl.1 rfl (Nat.le_of_ble_eq_true rfl) ⟨by decide, by decide⟩ ⟨Nat.le_of_ble_eq_true rfl, Nat.le_of_ble_eq_true rfl⟩ d_15_15_33) (fun a111 u109 H locs hp110 V => ?_)
    obtain ⟨rfl, b112, b113, hE114⟩ := hp110
    have e115 : a111 = (F_DR_needed y36 y37 y38 y39 y40 y41 y42 y43 y44 y45 y46 f47) := hE114
    clear b112
    clear b113
    refine lv_istore (lv' := [(6, .int a111), (0, .ref (q 134)), (1, .int x2), (2, .long x3), (4, .int x4), (5, .int x5)]) hx hb d_15_15_36 hl (by decide) rfl (fun ls hl => ?_)
    refine lv_aload_n hx hb d_15_15_38 rfl (lv_at hl 1 rfl) ?_
    refine q_get (ci := 14) (j := 10) (v := .int y40) C0 V i_DR rfl rfl hO35 (by decide) w_2013 rfl d_15_15_39 ?_
    refine q_join (X := Unit) (fun z H locs ls _ => q_Wd D g (va_A ws sz) s u33 H locs ∧ lv_has ls 9 [(0, .ref (q 134)), (1, .int x2), (4, .int x4), (5, .int x5)] ∧ F_DR_toPrecision_J129 x2 x3 x4 x5 t0_0 t0_1 t0_2 t0_3 t0_4 t0_5 t0_6 t0_7 t0_8 t0_9 t0_10 t1_0 t2_0 t3_0 t4_0 t5_0 p75 y36 y37 y38 y39 y40 y41 y42 y43 y44 y45 y46 f47 = (F_DR_toPrecision x2 x3 x4 x5 t0_0 t0_1 t0_2 t0_3 t0_4 t0_5 t0_6 t0_7 t0_8 t0_9 t0_10 t1_0 t2_0 t3_0 t4_0 t5_0) ∧ True ∧ S_DR_toPrecision_J129 x2 x3 x4 x5 t0_0 t0_1 t0_2 t0_3 t0_4 t0_5 t0_6 t0_7 t0_8 t0_9 t0_10 t1_0 t2_0 t3_0 t4_0 t5_0 p75 y36 y37 y38 y39 y40 y41 y42 y43 y44 y45 y46 f47) (fun z => []) 129 0 0 ?_ ?_
    ·
      rintro _ H locs ls _ ⟨V, hl, hR123, hS124⟩
      replace hl : lv_has ls 9 [(0, .ref (q 134)), (1, .int x2), (4, .int x4), (5, .int x5)] := hl
      refine lv_aload_n hx hb d_15_15_129 rfl (lv_at hl 0 rfl) ?_
      refine lv_iload_n hx hb d_15_15_130 rfl (lv_at hl 1 rfl) ?_
      refine lv_iload hx hb d_15_15_131 (lv_at hl 2 rfl) ?_
      have ob128 : True ∧ S_DR_cut x2 x4 y36 y37 y38 y39 y40 y41 y42 y43 y44 y45 y46 f47 := (by have h := hS124; rw [S_DR_toPrecision_J129.eq_1] at h; with_reducible exact h.2.1)
      refine q_goi V (q_runV (As := [.int x2, .int x4]) (rest := []) (d := 3) (mc := 0) (ms := 0) (ci := 14) C0 V rfl LV_DR_85 (X_DR_cut l D g q u33  x2 x4 hI y36 y37 y38 y39 y40 y41 y42 y43 y44 y45 y46 hO35 f47 hA48 ob128 _) rfl rfl hO35 rfl hl.1 rfl (Nat.le_of_ble_eq_true rfl) ⟨by decide, by decide⟩ ⟨Nat.le_of_ble_eq_true rfl, Nat.le_of_ble_eq_true rfl⟩ d_15_15_133) (fun a131 u129 H locs hp130 V => ?_)
      obtain ⟨hI, hZ9⟩ := hp130
      obtain ⟨hu165, hZ9⟩ := hZ9
      obtain ⟨y133, hZ9⟩ := hZ9
      obtain ⟨y134, hZ9⟩ := hZ9
      obtain ⟨y135, hZ9⟩ := hZ9
      obtain ⟨y136, hZ9⟩ := hZ9
      obtain ⟨y137, hZ9⟩ := hZ9
      obtain ⟨y138, hZ9⟩ := hZ9
      obtain ⟨y139, hZ9⟩ := hZ9
      obtain ⟨y140, hZ9⟩ := hZ9
      obtain ⟨y141, hZ9⟩ := hZ9
      obtain ⟨y142, hZ9⟩ := hZ9
      obtain ⟨y143, hZ9⟩ := hZ9
      obtain ⟨f144, hZ9⟩ := hZ9
      obtain ⟨hO132, hZ9⟩ := hZ9
      obtain ⟨hA145, hZ9⟩ := hZ9
      replace hZ9 := hZ9.2.2
      obtain ⟨b148, hZ9⟩ := hZ9
      obtain ⟨b149, hZ9⟩ := hZ9
      obtain ⟨b150, hZ9⟩ := hZ9
      obtain ⟨b151, hZ9⟩ := hZ9
      obtain ⟨b152, hZ9⟩ := hZ9
      obtain ⟨b153, hZ9⟩ := hZ9
      obtain ⟨b154, hZ9⟩ := hZ9
      obtain ⟨b155, hZ9⟩ := hZ9
      obtain ⟨b156, hZ9⟩ := hZ9
      obtain ⟨b157, hZ9⟩ := hZ9
      obtain ⟨b158, hZ9⟩ := hZ9
      obtain ⟨b159, hZ9⟩ := hZ9
      obtain ⟨b160, hZ9⟩ := hZ9
      obtain ⟨b161, hZ9⟩ := hZ9
      obtain ⟨b162, hZ9⟩ := hZ9
      obtain ⟨b163, hE164⟩ := hZ9
      replace hO132 : u129[134]? = (some (q 134, .inr (14, [.int y133, .ref (q 135), .int y134, .ref (q 136), .ref (q 137), .ref (q 138), .ref (q 139), .ref (q 140), .int y135, .long y136, .int y137, .int y138, .ref (q 141), .int y139, .ref (q 142), .int y140, .ref (q 143), .int y141, .ref (q 144), .int y142, .int y143])) : Option (Nat × va_E)) := hO132
      replace hA145 : u129[140]? = (some (q 140, .inl (g 0, (4400 : Int32).toNatClampNeg, .inl f144)) : Option (Nat × va_E)) := hA145
      obtain ⟨p166, e167⟩ : ∃ z, z = (F_DR_cut x2 x4 y36 y37 y38 y39 y40 y41 y42 y43 y44 y45 y46 f47) := ⟨_, rfl⟩
      have e168 : a131 = p166.1 := congrArg (fun z => z.1) (hE164.trans e167.symm)
      have e169 : y133 = p166.2.1 := congrArg (fun z => z.2.1) (hE164.trans e167.symm)
      have e170 : y134 = p166.2.2.1 := congrArg (fun z => z.2.2.1) (hE164.trans e167.symm)
      have e171 : y135 = p166.2.2.2.1 := congrArg (fun z => z.2.2.2.1) (hE164.trans e167.symm)
      have e172 : y136 = p166.2.2.2.2.1 := congrArg (fun z => z.2.2.2.2.1) (hE164.trans e167.symm)
      have e173 : y137 = p166.2.2.2.2.2.1 := congrArg (fun z => z.2.2.2.2.2.1) (hE164.trans e167.symm)
      have e174 : y138 = p166.2.2.2.2.2.2.1 := congrArg (fun z => z.2.2.2.2.2.2.1) (hE164.trans e167.symm)
      have e175 : y139 = p166.2.2.2.2.2.2.2.1 := congrArg (fun z => z.2.2.2.2.2.2.2.1) (hE164.trans e167.symm)
      have e176 : y140 = p166.2.2.2.2.2.2.2.2.1 := congrArg (fun z => z.2.2.2.2.2.2.2.2.1) (hE164.trans e167.symm)
      have e177 : y141 = p166.2.2.2.2.2.2.2.2.2.1 := congrArg (fun z => z.2.2.2.2.2.2.2.2.2.1) (hE164.trans e167.symm)
      have e178 : y142 = p166.2.2.2.2.2.2.2.2.2.2.1 := congrArg (fun z => z.2.2.2.2.2.2.2.2.2.2.1) (hE164.trans e167.symm)
      have e179 : y143 = p166.2.2.2.2.2.2.2.2.2.2.2.1 := congrArg (fun z => z.2.2.2.2.2.2.2.2.2.2.2.1) (hE164.trans e167.symm)
      have e180 : f144 = p166.2.2.2.2.2.2.2.2.2.2.2.2 := congrArg (fun z => z.2.2.2.2.2.2.2.2.2.2.2.2) (hE164.trans e167.symm)
      replace b148 : q_F (0 ≤ y137.toInt) := b148
      replace b149 : q_F (y37.toInt ≤ y134.toInt) := b149
      replace b150 : q_F (y134.toInt ≤ y37.toInt) := b150
      replace b151 : q_F (y137.toInt ≤ y40.toInt) := b151
      replace b152 : q_F (y41.toInt ≤ y138.toInt) := b152
      replace b153 : q_F (y138.toInt ≤ y41.toInt) := b153
      replace b154 : q_F (y42.toInt ≤ y139.toInt) := b154
      replace b155 : q_F (y139.toInt ≤ y42.toInt) := b155
      replace b156 : q_F (y43.toInt ≤ y140.toInt) := b156
      replace b157 : q_F (y140.toInt ≤ y43.toInt) := b157
      replace b158 : q_F (y44.toInt ≤ y141.toInt) := b158
      replace b159 : q_F (y141.toInt ≤ y44.toInt) := b159
      replace b160 : q_F (y45.toInt ≤ y142.toInt) := b160
      replace b161 : q_F (y142.toInt ≤ y45.toInt) := b161
      replace b162 : q_F (y46.toInt ≤ y143.toInt) := b162
      replace b163 : q_F (y143.toInt ≤ y46.toInt) := b163
      replace hT1 := (hu165 _ (by decide)).trans hT1
      replace hT2 := (hu165 _ (by decide)).trans hT2
      replace hT3 := (hu165 _ (by decide)).trans hT3
      replace hT4 := (hu165 _ (by decide)).trans hT4
      replace hF := q_uc hF hu165 (by simp)
      have hR181 := (show F_DR_toPrecision_c133 x2 x3 x4 x5 t0_0 t0_1 t0_2 t0_3 t0_4 t0_5 t0_6 t0_7 t0_8 t0_9 t0_10 t1_0 t2_0 t3_0 t4_0 t5_0 p75 y36 y37 y38 y39 y40 y41 y42 y43 y44 y45 y46 f47 p166 = (F_DR_toPrecision x2 x3 x4 x5 t0_0 t0_1 t0_2 t0_3 t0_4 t0_5 t0_6 t0_7 t0_8 t0_9 t0_10 t1_0 t2_0 t3_0 t4_0 t5_0) from Eq.trans (by rw [e167, F_DR_toPrecision_J129.eq_1]) hR123)
      have hS182 := (show True ∧ S_DR_toPrecision_c133 x2 x3 x4 x5 t0_0 t0_1 t0_2 t0_3 t0_4 t0_5 t0_6 t0_7 t0_8 t0_9 t0_10 t1_0 t2_0 t3_0 t4_0 t5_0 p75 y36 y37 y38 y39 y40 y41 y42 y43 y44 y45 y46 f47 p166 from (by rw [e167]; have h := hS124; rw [S_DR_toPrecision_J129.eq_1] at h; replace h := q_s2 h; with_reducible exact h))
      refine lv_if_eq (tgt := 173) hx hb d_15_15_136 (by decide) (fun c186 => ?_) (fun c186 => ?_)
      ·
        exact q_retv C0 V (⟨hI, hF, y133, y134, y135, y136, y137, y138, y139, y140, y141, y142, y143, t1_0, t2_0, t3_0, t4_0, f144, hO132, hT1, hT2, hT3, hT4, hA145, (show 0 ≤ y137.toInt from (by first | with_reducible exact q_fe b148 | (have t1 : 0 ≤ y137.toInt := b148; omega))), (show 0 ≤ y138.toInt from (by have t1 : 0 ≤ y41.toInt := b49; have t2 : y41.toInt ≤ y138.toInt := b152; omega)), (show t0_1.toInt ≤ y134.toInt from (by have t1 : t0_1.toInt ≤ y37.toInt := b52; have t2 : y37.toInt ≤ y134.toInt := b149; omega)), (show y134.toInt ≤ t0_1.toInt from (by have t1 : y37.toInt ≤ t0_1.toInt := b53; have t2 : y134.toInt ≤ y37.toInt := b150; omega)), (show t0_2.toInt ≤ y134.toInt + 24400 from (by have t1 : t0_2.toInt ≤ y37.toInt + 24400 := b54; have t2 : y37.toInt ≤ y134.toInt := b149; omega)), (show t0_2.toInt ≤ y137.toInt + 24401 from (by have t1 : 0 ≤ t0_4.toInt ∧ t0_4.toInt ≤ 1 := btt0_4; have t2 : t0_2.toInt ≤ y40.toInt + 24400 := b57; have t3 : y40.toInt ≤ t0_4.toInt := b59; have t4 : 0 ≤ y137.toInt := b148; omega)), (show y137.toInt ≤ t0_4.toInt from (by have t1 : y40.toInt ≤ t0_4.toInt := b59; have t2 : y137.toInt ≤ y40.toInt := b151; omega)), (show t0_2.toInt ≤ y138.toInt + 24401 from (by have t1 : t0_2.toInt ≤ y41.toInt + 24400 := b60; have t2 : y41.toInt ≤ y138.toInt := b152; omega)), (show y138.toInt ≤ t0_5.toInt from (by have t1 : y41.toInt ≤ t0_5.toInt := b61; have t2 : y138.toInt ≤ y41.toInt := b153; omega)), (show t0_6.toInt ≤ y139.toInt from (by have t1 : t0_6.toInt ≤ y42.toInt := b62; have t2 : y42.toInt ≤ y139.toInt := b154; omega)), (show y139.toInt ≤ t0_6.toInt from (by have t1 : y42.toInt ≤ t0_6.toInt := b63; have t2 : y139.toInt ≤ y42.toInt := b155; omega)), (show t0_7.toInt ≤ y140.toInt from (by have t1 : t0_7.toInt ≤ y43.toInt := b64; have t2 : y43.toInt ≤ y140.toInt := b156; omega)), (show y140.toInt ≤ t0_7.toInt from (by have t1 : y43.toInt ≤ t0_7.toInt := b65; have t2 : y140.toInt ≤ y43.toInt := b157; omega)), (show t0_8.toInt ≤ y141.toInt from (by have t1 : t0_8.toInt ≤ y44.toInt := b66; have t2 : y44.toInt ≤ y141.toInt := b158; omega)), (show y141.toInt ≤ t0_8.toInt from (by have t1 : y44.toInt ≤ t0_8.toInt := b67; have t2 : y141.toInt ≤ y44.toInt := b159; omega)), (show t0_2.toInt ≤ y142.toInt + 24400 from (by have t1 : t0_2.toInt ≤ y45.toInt + 24400 := b68; have t2 : y45.toInt ≤ y142.toInt := b160; omega)), (show t0_9.toInt ≤ y142.toInt from (by have t1 : t0_9.toInt ≤ y45.toInt := b69; have t2 : y45.toInt ≤ y142.toInt := b160; omega)), (show y142.toInt ≤ t0_9.toInt from (by have t1 : y45.toInt ≤ t0_9.toInt := b70; have t2 : y142.toInt ≤ y45.toInt := b161; omega)), (show t0_10.toInt ≤ y143.toInt from (by have t1 : t0_10.toInt ≤ y46.toInt := b71; have t2 : y46.toInt ≤ y143.toInt := b162; omega)), (show y143.toInt ≤ t0_10.toInt from (by have t1 : y46.toInt ≤ t0_10.toInt := b72; have t2 : y143.toInt ≤ y46.toInt := b163; omega)), (show (y133, y134, y135, y136, y137, y138, y139, y140, y141, y142, y143, t1_0, t2_0, t3_0, t4_0, f144) = (F_DR_toPrecision x2 x3 x4 x5 t0_0 t0_1 t0_2 t0_3 t0_4 t0_5 t0_6 t0_7 t0_8 t0_9 t0_10 t1_0 t2_0 t3_0 t4_0 t5_0) from Eq.trans (by have c186x := c186; rw [e168] at c186x; rw [e180, e179, e178, e177, e176, e175, e174, e173, e172, e171, e170, e169, F_DR_toPrecision_c133.eq_1, if_pos c186x]) hR181)⟩) d_15_15_173
      ·
        refine lv_aload_n hx hb d_15_15_139 rfl (lv_at hl 0 rfl) ?_
        refine q_get (ci := 14) (j := 8) (v := .int y135) C0 V i_DR rfl rfl hO132 (by decide) w_2011 rfl d_15_15_140 ?_
        refine lv_iload_n hx hb d_15_15_143 rfl (lv_at hl 1 rfl) ?_
        refine lv_icmp_le (tgt := 167) hx hb d_15_15_144 (by decide) (fun c189 => ?_) (fun c189 => ?_)
        ·
          refine lv_aload_n hx hb d_15_15_167 rfl (lv_at hl 0 rfl) ?_
          refine lv_iload hx hb d_15_15_168 (lv_at hl 3 rfl) ?_
          have ob191 : True ∧ S_DR_store x5 y133 y134 y135 y136 y137 y138 y139 y140 y141 y142 y143 t1_0 t2_0 t3_0 t4_0 f144 := (by rw [e180, e179, e178, e177, e176, e175, e174, e173, e172, e171, e170, e169]; have h := hS182; rw [S_DR_toPrecision_c133.eq_1] at h; have c186x := c186; rw [e168] at c186x; rw [if_neg c186x] at h; have c189x := c189; rw [e171] at c189x; rw [if_pos c189x] at h; with_reducible exact h.2.1)
          refine q_gov V (q_runV (As := [.int x5]) (rest := []) (d := 2) (mc := 0) (ms := 0) (ci := 14) C0 V rfl LV_DR_89 (X_DR_store l D g q u129  x5 hI y133 y134 y135 y136 y137 y138 y139 y140 y141 y142 y143 hO132 t1_0 hT1 t2_0 hT2 t3_0 hT3 t4_0 hT4 f144 hA145 ob191 _) rfl rfl hO132 rfl hl.1 rfl (Nat.le_of_ble_eq_true rfl) ⟨by decide, by decide⟩ ⟨Nat.le_of_ble_eq_true rfl, Nat.le_of_ble_eq_true rfl⟩ d_15_15_170) (fun u192 H locs hp193 V => ?_)
          obtain ⟨hI, hZ9⟩ := hp193
          obtain ⟨hu239, hZ9⟩ := hZ9
          obtain ⟨y195, hZ9⟩ := hZ9
          obtain ⟨y196, hZ9⟩ := hZ9
          obtain ⟨y197, hZ9⟩ := hZ9
          obtain ⟨y198, hZ9⟩ := hZ9
          obtain ⟨y199, hZ9⟩ := hZ9
          obtain ⟨y200, hZ9⟩ := hZ9
          obtain ⟨y201, hZ9⟩ := hZ9
          obtain ⟨y202, hZ9⟩ := hZ9
          obtain ⟨y203, hZ9⟩ := hZ9
          obtain ⟨y204, hZ9⟩ := hZ9
          obtain ⟨y205, hZ9⟩ := hZ9
          obtain ⟨f206, hZ9⟩ := hZ9
          obtain ⟨f208, hZ9⟩ := hZ9
          obtain ⟨f210, hZ9⟩ := hZ9
          obtain ⟨f212, hZ9⟩ := hZ9
          obtain ⟨f214, hZ9⟩ := hZ9
          obtain ⟨hO194, hZ9⟩ := hZ9
          obtain ⟨hA207, hZ9⟩ := hZ9
          obtain ⟨hA209, hZ9⟩ := hZ9
          obtain ⟨hA211, hZ9⟩ := hZ9
          obtain ⟨hA213, hZ9⟩ := hZ9
          obtain ⟨hA215, hZ9⟩ := hZ9
          obtain ⟨b216, hZ9⟩ := hZ9
          obtain ⟨b217, hZ9⟩ := hZ9
          obtain ⟨b218, hZ9⟩ := hZ9
          replace hZ9 := hZ9.2.2.2.2
          obtain ⟨b223, hZ9⟩ := hZ9
          obtain ⟨b224, hZ9⟩ := hZ9
          replace hZ9 := hZ9.2
          obtain ⟨b226, hZ9⟩ := hZ9
          obtain ⟨b227, hZ9⟩ := hZ9
          obtain ⟨b228, hZ9⟩ := hZ9
          obtain ⟨b229, hZ9⟩ := hZ9
          obtain ⟨b230, hZ9⟩ := hZ9
          obtain ⟨b231, hZ9⟩ := hZ9
          obtain ⟨b232, hZ9⟩ := hZ9
          replace hZ9 := hZ9.2
          obtain ⟨b234, hZ9⟩ := hZ9
          obtain ⟨b235, hZ9⟩ := hZ9
          obtain ⟨b236, hZ9⟩ := hZ9
          obtain ⟨b237, hE238⟩ := hZ9
          replace hO194 : u192[134]? = (some (q 134, .inr (14, [.int y195, .ref (q 135), .int y196, .ref (q 136), .ref (q 137), .ref (q 138), .ref (q 139), .ref (q 140), .int y197, .long y198, .int y199, .int y200, .ref (q 141), .int y201, .ref (q 142), .int y202, .ref (q 143), .int y203, .ref (q 144), .int y204, .int y205])) : Option (Nat × va_E)) := hO194
          replace hA207 : u192[136]? = (some (q 136, .inl (g 0, (10000 : Int32).toNatClampNeg, .inl f206)) : Option (Nat × va_E)) := hA207
          replace hA209 : u192[137]? = (some (q 137, .inl (g 0, (10 : Int32).toNatClampNeg, .inl f208)) : Option (Nat × va_E)) := hA209
          replace hA211 : u192[138]? = (some (q 138, .inl (g 3, 10, .inl f210)) : Option (Nat × va_E)) := hA211
          replace hA213 : u192[139]? = (some (q 139, .inl (g 0, (10 : Int32).toNatClampNeg, .inl f212)) : Option (Nat × va_E)) := hA213
          replace hA215 : u192[140]? = (some (q 140, .inl (g 0, (4400 : Int32).toNatClampNeg, .inl f214)) : Option (Nat × va_E)) := hA215
          obtain ⟨p240, e241⟩ : ∃ z, z = (F_DR_store x5 y133 y134 y135 y136 y137 y138 y139 y140 y141 y142 y143 t1_0 t2_0 t3_0 t4_0 f144) := ⟨_, rfl⟩
          have e242 : y195 = p240.1 := congrArg (fun z => z.1) (hE238.trans e241.symm)
          have e243 : y196 = p240.2.1 := congrArg (fun z => z.2.1) (hE238.trans e241.symm)
          have e244 : y197 = p240.2.2.1 := congrArg (fun z => z.2.2.1) (hE238.trans e241.symm)
          have e245 : y198 = p240.2.2.2.1 := congrArg (fun z => z.2.2.2.1) (hE238.trans e241.symm)
          have e246 : y199 = p240.2.2.2.2.1 := congrArg (fun z => z.2.2.2.2.1) (hE238.trans e241.symm)
          have e247 : y200 = p240.2.2.2.2.2.1 := congrArg (fun z => z.2.2.2.2.2.1) (hE238.trans e241.symm)
          have e248 : y201 = p240.2.2.2.2.2.2.1 := congrArg (fun z => z.2.2.2.2.2.2.1) (hE238.trans e241.symm)
          have e249 : y202 = p240.2.2.2.2.2.2.2.1 := congrArg (fun z => z.2.2.2.2.2.2.2.1) (hE238.trans e241.symm)
          have e250 : y203 = p240.2.2.2.2.2.2.2.2.1 := congrArg (fun z => z.2.2.2.2.2.2.2.2.1) (hE238.trans e241.symm)
          have e251 : y204 = p240.2.2.2.2.2.2.2.2.2.1 := congrArg (fun z => z.2.2.2.2.2.2.2.2.2.1) (hE238.trans e241.symm)
          have e252 : y205 = p240.2.2.2.2.2.2.2.2.2.2.1 := congrArg (fun z => z.2.2.2.2.2.2.2.2.2.2.1) (hE238.trans e241.symm)
          have e253 : f206 = p240.2.2.2.2.2.2.2.2.2.2.2.1 := congrArg (fun z => z.2.2.2.2.2.2.2.2.2.2.2.1) (hE238.trans e241.symm)
          have e254 : f208 = p240.2.2.2.2.2.2.2.2.2.2.2.2.1 := congrArg (fun z => z.2.2.2.2.2.2.2.2.2.2.2.2.1) (hE238.trans e241.symm)
          have e255 : f210 = p240.2.2.2.2.2.2.2.2.2.2.2.2.2.1 := congrArg (fun z => z.2.2.2.2.2.2.2.2.2.2.2.2.2.1) (hE238.trans e241.symm)
          have e256 : f212 = p240.2.2.2.2.2.2.2.2.2.2.2.2.2.2.1 := congrArg (fun z => z.2.2.2.2.2.2.2.2.2.2.2.2.2.2.1) (hE238.trans e241.symm)
          have e257 : f214 = p240.2.2.2.2.2.2.2.2.2.2.2.2.2.2.2 := congrArg (fun z => z.2.2.2.2.2.2.2.2.2.2.2.2.2.2.2) (hE238.trans e241.symm)
          replace b216 : q_F (0 ≤ y200.toInt) := b216
          replace b217 : q_F (y134.toInt ≤ y196.toInt) := b217
          replace b218 : q_F (y196.toInt ≤ y134.toInt) := b218
          replace b223 : q_F (y137.toInt ≤ y199.toInt) := b223
          replace b224 : q_F (y199.toInt ≤ y137.toInt) := b224
          replace b226 : q_F (y200.toInt ≤ y138.toInt) := b226
          replace b227 : q_F (y139.toInt ≤ y201.toInt) := b227
          replace b228 : q_F (y201.toInt ≤ y139.toInt) := b228
          replace b229 : q_F (y140.toInt ≤ y202.toInt) := b229
          replace b230 : q_F (y202.toInt ≤ y140.toInt) := b230
          replace b231 : q_F (y141.toInt ≤ y203.toInt) := b231
          replace b232 : q_F (y203.toInt ≤ y141.toInt) := b232
          replace b234 : q_F (y142.toInt ≤ y204.toInt) := b234
          replace b235 : q_F (y204.toInt ≤ y142.toInt) := b235
          replace b236 : q_F (y143.toInt ≤ y205.toInt) := b236
          replace b237 : q_F (y205.toInt ≤ y143.toInt) := b237
          replace hF := q_uc hF hu239 (by simp)
          have hR258 := (show F_DR_toPrecision_c170 x2 x3 x4 x5 t0_0 t0_1 t0_2 t0_3 t0_4 t0_5 t0_6 t0_7 t0_8 t0_9 t0_10 t1_0 t2_0 t3_0 t4_0 t5_0 p75 y36 y37 y38 y39 y40 y41 y42 y43 y44 y45 y46 f47 p166 p240 = (F_DR_toPrecision x2 x3 x4 x5 t0_0 t0_1 t0_2 t0_3 t0_4 t0_5 t0_6 t0_7 t0_8 t0_9 t0_10 t1_0 t2_0 t3_0 t4_0 t5_0) from Eq.trans (by have c186x := c186; rw [e168] at c186x; have c189x := c189; rw [e171] at c189x; rw [e241, e180, e179, e178, e177, e176, e175, e174, e173, e172, e171, e170, e169, F_DR_toPrecision_c133.eq_1, if_neg c186x, if_pos c189x]) hR181)
          have hS259 := (show True ∧ S_DR_toPrecision_c170 x2 x3 x4 x5 t0_0 t0_1 t0_2 t0_3 t0_4 t0_5 t0_6 t0_7 t0_8 t0_9 t0_10 t1_0 t2_0 t3_0 t4_0 t5_0 p75 y36 y37 y38 y39 y40 y41 y42 y43 y44 y45 y46 f47 p166 p240 from (by rw [e241, e180, e179, e178, e177, e176, e175, e174, e173, e172, e171, e170, e169]; have h := hS182; rw [S_DR_toPrecision_c133.eq_1] at h; have c186x := c186; rw [e168] at c186x; rw [if_neg c186x] at h; have c189x := c189; rw [e171] at c189x; rw [if_pos c189x] at h; replace h := q_s2 h; with_reducible exact h))
          exact q_retv C0 V (⟨hI, hF, y195, y196, y197, y198, y199, y200, y201, y202, y203, y204, y205, f206, f208, f210, f212, f214, hO194, hA207, hA209, hA211, hA213, hA215, (show 0 ≤ y199.toInt from (by have t1 : 0 ≤ y137.toInt := b148; have t2 : y137.toInt ≤ y199.toInt := b223; omega)), (show 0 ≤ y200.toInt from (by first | with_reducible exact q_fe b216 | (have t1 : 0 ≤ y200.toInt := b216; omega))), (show t0_1.toInt ≤ y196.toInt from (by have t1 : t0_1.toInt ≤ y37.toInt := b52; have t2 : y37.toInt ≤ y134.toInt := b149; have t3 : y134.toInt ≤ y196.toInt := b217; omega)), (show y196.toInt ≤ t0_1.toInt from (by have t1 : y37.toInt ≤ t0_1.toInt := b53; have t2 : y134.toInt ≤ y37.toInt := b150; have t3 : y196.toInt ≤ y134.toInt := b218; omega)), (show t0_2.toInt ≤ y196.toInt + 24400 from (by have t1 : t0_2.toInt ≤ y37.toInt + 24400 := b54; have t2 : y37.toInt ≤ y134.toInt := b149; have t3 : y134.toInt ≤ y196.toInt := b217; omega)), (show t0_2.toInt ≤ y199.toInt + 24401 from (by have t1 : 0 ≤ t0_4.toInt ∧ t0_4.toInt ≤ 1 := btt0_4; have t2 : t0_2.toInt ≤ y40.toInt + 24400 := b57; have t3 : y40.toInt ≤ t0_4.toInt := b59; have t4 : 0 ≤ y137.toInt := b148; have t5 : y137.toInt ≤ y199.toInt := b223; omega)), (show y199.toInt ≤ t0_4.toInt from (by have t1 : y40.toInt ≤ t0_4.toInt := b59; have t2 : y137.toInt ≤ y40.toInt := b151; have t3 : y199.toInt ≤ y137.toInt := b224; omega)), (show t0_2.toInt ≤ y200.toInt + 24401 from (by have t1 : 0 ≤ t0_4.toInt ∧ t0_4.toInt ≤ 1 := btt0_4; have t2 : t0_2.toInt ≤ y40.toInt + 24400 := b57; have t3 : y40.toInt ≤ t0_4.toInt := b59; have t4 : 0 ≤ y200.toInt := b216; omega)), (show y200.toInt ≤ t0_5.toInt from (by have t1 : y41.toInt ≤ t0_5.toInt := b61; have t2 : y138.toInt ≤ y41.toInt := b153; have t3 : y200.toInt ≤ y138.toInt := b226; omega)), (show t0_6.toInt ≤ y201.toInt from (by have t1 : t0_6.toInt ≤ y42.toInt := b62; have t2 : y42.toInt ≤ y139.toInt := b154; have t3 : y139.toInt ≤ y201.toInt := b227; omega)), (show y201.toInt ≤ t0_6.toInt from (by have t1 : y42.toInt ≤ t0_6.toInt := b63; have t2 : y139.toInt ≤ y42.toInt := b155; have t3 : y201.toInt ≤ y139.toInt := b228; omega)), (show t0_7.toInt ≤ y202.toInt from (by have t1 : t0_7.toInt ≤ y43.toInt := b64; have t2 : y43.toInt ≤ y140.toInt := b156; have t3 : y140.toInt ≤ y202.toInt := b229; omega)), (show y202.toInt ≤ t0_7.toInt from (by have t1 : y43.toInt ≤ t0_7.toInt := b65; have t2 : y140.toInt ≤ y43.toInt := b157; have t3 : y202.toInt ≤ y140.toInt := b230; omega)), (show t0_8.toInt ≤ y203.toInt from (by have t1 : t0_8.toInt ≤ y44.toInt := b66; have t2 : y44.toInt ≤ y141.toInt := b158; have t3 : y141.toInt ≤ y203.toInt := b231; omega)), (show y203.toInt ≤ t0_8.toInt from (by have t1 : y44.toInt ≤ t0_8.toInt := b67; have t2 : y141.toInt ≤ y44.toInt := b159; have t3 : y203.toInt ≤ y141.toInt := b232; omega)), (show t0_2.toInt ≤ y204.toInt + 24400 from (by have t1 : t0_2.toInt ≤ y45.toInt + 24400 := b68; have t2 : y45.toInt ≤ y142.toInt := b160; have t3 : y142.toInt ≤ y204.toInt := b234; omega)), (show t0_9.toInt ≤ y204.toInt from (by have t1 : t0_9.toInt ≤ y45.toInt := b69; have t2 : y45.toInt ≤ y142.toInt := b160; have t3 : y142.toInt ≤ y204.toInt := b234; omega)), (show y204.toInt ≤ t0_9.toInt from (by have t1 : y45.toInt ≤ t0_9.toInt := b70; have t2 : y142.toInt ≤ y45.toInt := b161; have t3 : y204.toInt ≤ y142.toInt := b235; omega)), (show t0_10.toInt ≤ y205.toInt from (by have t1 : t0_10.toInt ≤ y46.toInt := b71; have t2 : y46.toInt ≤ y143.toInt := b162; have t3 : y143.toInt ≤ y205.toInt := b236; omega)), (show y205.toInt ≤ t0_10.toInt from (by have t1 : y46.toInt ≤ t0_10.toInt := b72; have t2 : y143.toInt ≤ y46.toInt := b163; have t3 : y205.toInt ≤ y143.toInt := b237; omega)), (show (y195, y196, y197, y198, y199, y200, y201, y202, y203, y204, y205, f206, f208, f210, f212, f214) = (F_DR_toPrecision x2 x3 x4 x5 t0_0 t0_1 t0_2 t0_3 t0_4 t0_5 t0_6 t0_7 t0_8 t0_9 t0_10 t1_0 t2_0 t3_0 t4_0 t5_0) from Eq.trans (by rw [e257, e256, e255, e254, e253, e252, e251, e250, e249, e248, e247, e246, e245, e244, e243, e242, F_DR_toPrecision_c170.eq_1]) hR258)⟩) d_15_15_173
        ·
          refine lv_aload_n hx hb d_15_15_147 rfl (lv_at hl 0 rfl) ?_
          refine lv_dup hx hb d_15_15_148 rfl ?_
          refine q_get (ci := 14) (j := 8) (v := .int y135) C0 V i_DR rfl rfl hO132 (by decide) w_2011 rfl d_15_15_149 ?_
          refine lv_iconst (v := 1) hx hb d_15_15_152 (by decide) ?_
          refine lv_isub hx hb d_15_15_153 ?_
          obtain ⟨a264, e265⟩ := q_nm (y135 - 1 : Int32)
          refine q_ti (v := a264) e265 ?_
          refine q_put (ci := 14) (j := 8) (v := .int a264) (ty := .int) C0 V i_DR o_DR n_DR rfl rfl hO132 (by decide) w_2011 rfl rfl rfl rfl (Nat.le_of_ble_eq_true rfl) d_15_15_154 (fun H locs w267 hu268 hO132 V => ?_)
          replace hO132 : w267[134]? = (some (q 134, .inr (14, [.int y133, .ref (q 135), .int y134, .ref (q 136), .ref (q 137), .ref (q 138), .ref (q 139), .ref (q 140), .int a264, .long y136, .int y137, .int y138, .ref (q 141), .int y139, .ref (q 142), .int y140, .ref (q 143), .int y141, .ref (q 144), .int y142, .int y143])) : Option (Nat × va_E)) := hO132
          replace hI := n_p134 hI hu268 hO132 ⟨(by have t1 : 0 ≤ t0_1.toInt ∧ t0_1.toInt ≤ 4100 := btt0_1; have t2 : t0_1.toInt ≤ y37.toInt := b52; have t3 : y37.toInt ≤ y134.toInt := b149; omega), (by have t1 : 0 ≤ t0_1.toInt ∧ t0_1.toInt ≤ 4100 := btt0_1; have t2 : y37.toInt ≤ t0_1.toInt := b53; have t3 : y134.toInt ≤ y37.toInt := b150; omega)⟩ ⟨(by first | with_reducible exact q_fe b148 | (have t1 : 0 ≤ y137.toInt := b148; omega)), (by have t1 : 0 ≤ t0_4.toInt ∧ t0_4.toInt ≤ 1 := btt0_4; have t2 : y40.toInt ≤ t0_4.toInt := b59; have t3 : y137.toInt ≤ y40.toInt := b151; omega)⟩ ⟨(by have t1 : 0 ≤ y41.toInt := b49; have t2 : y41.toInt ≤ y138.toInt := b152; omega), (by have t1 : 0 ≤ t0_5.toInt ∧ t0_5.toInt ≤ 1 := btt0_5; have t2 : y41.toInt ≤ t0_5.toInt := b61; have t3 : y138.toInt ≤ y41.toInt := b153; omega)⟩ ⟨(by have t1 : 0 ≤ t0_9.toInt ∧ t0_9.toInt ≤ 12200 := btt0_9; have t2 : t0_9.toInt ≤ y45.toInt := b69; have t3 : y45.toInt ≤ y142.toInt := b160; omega), (by have t1 : 0 ≤ t0_9.toInt ∧ t0_9.toInt ≤ 12200 := btt0_9; have t2 : y45.toInt ≤ t0_9.toInt := b70; have t3 : y142.toInt ≤ y45.toInt := b161; omega)⟩
          replace hT1 := (hu268 _ (by decide)).trans hT1
          replace hT2 := (hu268 _ (by decide)).trans hT2
          replace hT3 := (hu268 _ (by decide)).trans hT3
          replace hT4 := (hu268 _ (by decide)).trans hT4
          replace hA145 := (hu268 _ (by decide)).trans hA145
          replace hF := q_us hF hu268 (by simp)
          refine lv_aload_n hx hb d_15_15_157 rfl (lv_at hl 0 rfl) ?_
          refine lv_dup hx hb d_15_15_158 rfl ?_
          refine q_get (ci := 14) (j := 9) (v := .long y136) C0 V i_DR rfl rfl hO132 (by decide) w_2012 rfl d_15_15_159 ?_
          refine lv_lconst (v := 1) hx hb d_15_15_162 (by decide) ?_
          refine lv_lsub hx hb d_15_15_163 ?_
          obtain ⟨j269, e270⟩ := q_nm (y136 - 1 : Int64)
          refine q_tl (v := j269) e270 ?_
          refine q_put (ci := 14) (j := 9) (v := .long j269) (ty := .long) C0 V i_DR o_DR n_DR rfl rfl hO132 (by decide) w_2012 rfl rfl rfl rfl (Nat.le_of_ble_eq_true rfl) d_15_15_164 (fun H locs w271 hu272 hO132 V => ?_)
          replace hO132 : w271[134]? = (some (q 134, .inr (14, [.int y133, .ref (q 135), .int y134, .ref (q 136), .ref (q 137), .ref (q 138), .ref (q 139), .ref (q 140), .int a264, .long j269, .int y137, .int y138, .ref (q 141), .int y139, .ref (q 142), .int y140, .ref (q 143), .int y141, .ref (q 144), .int y142, .int y143])) : Option (Nat × va_E)) := hO132
          replace hI := n_p134 hI hu272 hO132 ⟨(by have t1 : 0 ≤ t0_1.toInt ∧ t0_1.toInt ≤ 4100 := btt0_1; have t2 : t0_1.toInt ≤ y37.toInt := b52; have t3 : y37.toInt ≤ y134.toInt := b149; omega), (by have t1 : 0 ≤ t0_1.toInt ∧ t0_1.toInt ≤ 4100 := btt0_1; have t2 : y37.toInt ≤ t0_1.toInt := b53; have t3 : y134.toInt ≤ y37.toInt := b150; omega)⟩ ⟨(by first | with_reducible exact q_fe b148 | (have t1 : 0 ≤ y137.toInt := b148; omega)), (by have t1 : 0 ≤ t0_4.toInt ∧ t0_4.toInt ≤ 1 := btt0_4; have t2 : y40.toInt ≤ t0_4.toInt := b59; have t3 : y137.toInt ≤ y40.toInt := b151; omega)⟩ ⟨(by have t1 : 0 ≤ y41.toInt := b49; have t2 : y41.toInt ≤ y138.toInt := b152; omega), (by have t1 : 0 ≤ t0_5.toInt ∧ t0_5.toInt ≤ 1 := btt0_5; have t2 : y41.toInt ≤ t0_5.toInt := b61; have t3 : y138.toInt ≤ y41.toInt := b153; omega)⟩ ⟨(by have t1 : 0 ≤ t0_9.toInt ∧ t0_9.toInt ≤ 12200 := btt0_9; have t2 : t0_9.toInt ≤ y45.toInt := b69; have t3 : y45.toInt ≤ y142.toInt := b160; omega), (by have t1 : 0 ≤ t0_9.toInt ∧ t0_9.toInt ≤ 12200 := btt0_9; have t2 : y45.toInt ≤ t0_9.toInt := b70; have t3 : y142.toInt ≤ y45.toInt := b161; omega)⟩
          replace hT1 := (hu272 _ (by decide)).trans hT1
          replace hT2 := (hu272 _ (by decide)).trans hT2
          replace hT3 := (hu272 _ (by decide)).trans hT3
          replace hT4 := (hu272 _ (by decide)).trans hT4
          replace hA145 := (hu272 _ (by decide)).trans hA145
          replace hF := q_us hF hu272 (by simp)
          refine lv_aload_n hx hb d_15_15_167 rfl (lv_at hl 0 rfl) ?_
          refine lv_iload hx hb d_15_15_168 (lv_at hl 3 rfl) ?_
          have ob273 : True ∧ S_DR_store x5 y133 y134 a264 j269 y137 y138 y139 y140 y141 y142 y143 t1_0 t2_0 t3_0 t4_0 f144 := (by rw [← e270, ← e265, e180, e179, e178, e177, e176, e175, e174, e173, e172, e171, e170, e169]; have h := hS182; rw [S_DR_toPrecision_c133.eq_1] at h; have c186x := c186; rw [e168] at c186x; rw [if_neg c186x] at h; have c189x := c189; rw [e171] at c189x; rw [if_neg c189x] at h; with_reducible exact h.2.1)
          refine q_gov V (q_runV (As := [.int x5]) (rest := []) (d := 2) (mc := 0) (ms := 0) (ci := 14) C0 V rfl LV_DR_89 (X_DR_store l D g q w271  x5 hI y133 y134 a264 j269 y137 y138 y139 y140 y141 y142 y143 hO132 t1_0 hT1 t2_0 hT2 t3_0 hT3 t4_0 hT4 f144 hA145 ob273 _) rfl rfl hO132 rfl hl.1 rfl (Nat.le_of_ble_eq_true rfl) ⟨by decide, by decide⟩ ⟨Nat.le_of_ble_eq_true rfl, Nat.le_of_ble_eq_true rfl⟩ d_15_15_170) (fun u274 H locs hp275 V => ?_)
          obtain ⟨hI, hZ9⟩ := hp275
          obtain ⟨hu321, hZ9⟩ := hZ9
          obtain ⟨y277, hZ9⟩ := hZ9
          obtain ⟨y278, hZ9⟩ := hZ9
          obtain ⟨y279, hZ9⟩ := hZ9
          obtain ⟨y280, hZ9⟩ := hZ9
          obtain ⟨y281, hZ9⟩ := hZ9
          obtain ⟨y282, hZ9⟩ := hZ9
          obtain ⟨y283, hZ9⟩ := hZ9
          obtain ⟨y284, hZ9⟩ := hZ9
          obtain ⟨y285, hZ9⟩ := hZ9
          obtain ⟨y286, hZ9⟩ := hZ9
          obtain ⟨y287, hZ9⟩ := hZ9
          obtain ⟨f288, hZ9⟩ := hZ9
          obtain ⟨f290, hZ9⟩ := hZ9
          obtain ⟨f292, hZ9⟩ := hZ9
          obtain ⟨f294, hZ9⟩ := hZ9
          obtain ⟨f296, hZ9⟩ := hZ9
          obtain ⟨hO276, hZ9⟩ := hZ9
          obtain ⟨hA289, hZ9⟩ := hZ9
          obtain ⟨hA291, hZ9⟩ := hZ9
          obtain ⟨hA293, hZ9⟩ := hZ9
          obtain ⟨hA295, hZ9⟩ := hZ9
          obtain ⟨hA297, hZ9⟩ := hZ9
          obtain ⟨b298, hZ9⟩ := hZ9
          obtain ⟨b299, hZ9⟩ := hZ9
          obtain ⟨b300, hZ9⟩ := hZ9
          replace hZ9 := hZ9.2.2.2.2
          obtain ⟨b305, hZ9⟩ := hZ9
          obtain ⟨b306, hZ9⟩ := hZ9
          replace hZ9 := hZ9.2
          obtain ⟨b308, hZ9⟩ := hZ9
          obtain ⟨b309, hZ9⟩ := hZ9
          obtain ⟨b310, hZ9⟩ := hZ9
          obtain ⟨b311, hZ9⟩ := hZ9
          obtain ⟨b312, hZ9⟩ := hZ9
          obtain ⟨b313, hZ9⟩ := hZ9
          obtain ⟨b314, hZ9⟩ := hZ9
          replace hZ9 := hZ9.2
          obtain ⟨b316, hZ9⟩ := hZ9
          obtain ⟨b317, hZ9⟩ := hZ9
          obtain ⟨b318, hZ9⟩ := hZ9
          obtain ⟨b319, hE320⟩ := hZ9
          replace hO276 : u274[134]? = (some (q 134, .inr (14, [.int y277, .ref (q 135), .int y278, .ref (q 136), .ref (q 137), .ref (q 138), .ref (q 139), .ref (q 140), .int y279, .long y280, .int y281, .int y282, .ref (q 141), .int y283, .ref (q 142), .int y284, .ref (q 143), .int y285, .ref (q 144), .int y286, .int y287])) : Option (Nat × va_E)) := hO276
          replace hA289 : u274[136]? = (some (q 136, .inl (g 0, (10000 : Int32).toNatClampNeg, .inl f288)) : Option (Nat × va_E)) := hA289
          replace hA291 : u274[137]? = (some (q 137, .inl (g 0, (10 : Int32).toNatClampNeg, .inl f290)) : Option (Nat × va_E)) := hA291
          replace hA293 : u274[138]? = (some (q 138, .inl (g 3, 10, .inl f292)) : Option (Nat × va_E)) := hA293
          replace hA295 : u274[139]? = (some (q 139, .inl (g 0, (10 : Int32).toNatClampNeg, .inl f294)) : Option (Nat × va_E)) := hA295
          replace hA297 : u274[140]? = (some (q 140, .inl (g 0, (4400 : Int32).toNatClampNeg, .inl f296)) : Option (Nat × va_E)) := hA297
          obtain ⟨p322, e323⟩ : ∃ z, z = (F_DR_store x5 y133 y134 a264 j269 y137 y138 y139 y140 y141 y142 y143 t1_0 t2_0 t3_0 t4_0 f144) := ⟨_, rfl⟩
          have e324 : y277 = p322.1 := congrArg (fun z => z.1) (hE320.trans e323.symm)
          have e325 : y278 = p322.2.1 := congrArg (fun z => z.2.1) (hE320.trans e323.symm)
          have e326 : y279 = p322.2.2.1 := congrArg (fun z => z.2.2.1) (hE320.trans e323.symm)
          have e327 : y280 = p322.2.2.2.1 := congrArg (fun z => z.2.2.2.1) (hE320.trans e323.symm)
          have e328 : y281 = p322.2.2.2.2.1 := congrArg (fun z => z.2.2.2.2.1) (hE320.trans e323.symm)
          have e329 : y282 = p322.2.2.2.2.2.1 := congrArg (fun z => z.2.2.2.2.2.1) (hE320.trans e323.symm)
          have e330 : y283 = p322.2.2.2.2.2.2.1 := congrArg (fun z => z.2.2.2.2.2.2.1) (hE320.trans e323.symm)
          have e331 : y284 = p322.2.2.2.2.2.2.2.1 := congrArg (fun z => z.2.2.2.2.2.2.2.1) (hE320.trans e323.symm)
          have e332 : y285 = p322.2.2.2.2.2.2.2.2.1 := congrArg (fun z => z.2.2.2.2.2.2.2.2.1) (hE320.trans e323.symm)
          have e333 : y286 = p322.2.2.2.2.2.2.2.2.2.1 := congrArg (fun z => z.2.2.2.2.2.2.2.2.2.1) (hE320.trans e323.symm)
          have e334 : y287 = p322.2.2.2.2.2.2.2.2.2.2.1 := congrArg (fun z => z.2.2.2.2.2.2.2.2.2.2.1) (hE320.trans e323.symm)
          have e335 : f288 = p322.2.2.2.2.2.2.2.2.2.2.2.1 := congrArg (fun z => z.2.2.2.2.2.2.2.2.2.2.2.1) (hE320.trans e323.symm)
          have e336 : f290 = p322.2.2.2.2.2.2.2.2.2.2.2.2.1 := congrArg (fun z => z.2.2.2.2.2.2.2.2.2.2.2.2.1) (hE320.trans e323.symm)
          have e337 : f292 = p322.2.2.2.2.2.2.2.2.2.2.2.2.2.1 := congrArg (fun z => z.2.2.2.2.2.2.2.2.2.2.2.2.2.1) (hE320.trans e323.symm)
          have e338 : f294 = p322.2.2.2.2.2.2.2.2.2.2.2.2.2.2.1 := congrArg (fun z => z.2.2.2.2.2.2.2.2.2.2.2.2.2.2.1) (hE320.trans e323.symm)
          have e339 : f296 = p322.2.2.2.2.2.2.2.2.2.2.2.2.2.2.2 := congrArg (fun z => z.2.2.2.2.2.2.2.2.2.2.2.2.2.2.2) (hE320.trans e323.symm)
          replace b298 : q_F (0 ≤ y282.toInt) := b298
          replace b299 : q_F (y134.toInt ≤ y278.toInt) := b299
          replace b300 : q_F (y278.toInt ≤ y134.toInt) := b300
          replace b305 : q_F (y137.toInt ≤ y281.toInt) := b305
          replace b306 : q_F (y281.toInt ≤ y137.toInt) := b306
          replace b308 : q_F (y282.toInt ≤ y138.toInt) := b308
          replace b309 : q_F (y139.toInt ≤ y283.toInt) := b309
          replace b310 : q_F (y283.toInt ≤ y139.toInt) := b310
          replace b311 : q_F (y140.toInt ≤ y284.toInt) := b311
          replace b312 : q_F (y284.toInt ≤ y140.toInt) := b312
          replace b313 : q_F (y141.toInt ≤ y285.toInt) := b313
          replace b314 : q_F (y285.toInt ≤ y141.toInt) := b314
          replace b316 : q_F (y142.toInt ≤ y286.toInt) := b316
          replace b317 : q_F (y286.toInt ≤ y142.toInt) := b317
          replace b318 : q_F (y143.toInt ≤ y287.toInt) := b318
          replace b319 : q_F (y287.toInt ≤ y143.toInt) := b319
          replace hF := q_uc hF hu321 (by simp)
          have hR340 := (show F_DR_toPrecision_c170_6 x2 x3 x4 x5 t0_0 t0_1 t0_2 t0_3 t0_4 t0_5 t0_6 t0_7 t0_8 t0_9 t0_10 t1_0 t2_0 t3_0 t4_0 t5_0 p75 y36 y37 y38 y39 y40 y41 y42 y43 y44 y45 y46 f47 p166 p322 = (F_DR_toPrecision x2 x3 x4 x5 t0_0 t0_1 t0_2 t0_3 t0_4 t0_5 t0_6 t0_7 t0_8 t0_9 t0_10 t1_0 t2_0 t3_0 t4_0 t5_0) from Eq.trans (by have c186x := c186; rw [e168] at c186x; have c189x := c189; rw [e171] at c189x; rw [e323, ← e270, ← e265, e180, e179, e178, e177, e176, e175, e174, e173, e172, e171, e170, e169, F_DR_toPrecision_c133.eq_1, if_neg c186x, if_neg c189x]) hR181)
          have hS341 := (show True ∧ S_DR_toPrecision_c170_6 x2 x3 x4 x5 t0_0 t0_1 t0_2 t0_3 t0_4 t0_5 t0_6 t0_7 t0_8 t0_9 t0_10 t1_0 t2_0 t3_0 t4_0 t5_0 p75 y36 y37 y38 y39 y40 y41 y42 y43 y44 y45 y46 f47 p166 p322 from (by rw [e323, ← e270, ← e265, e180, e179, e178, e177, e176, e175, e174, e173, e172, e171, e170, e169]; have h := hS182; rw [S_DR_toPrecision_c133.eq_1] at h; have c186x := c186; rw [e168] at c186x; rw [if_neg c186x] at h; have c189x := c189; rw [e171] at c189x; rw [if_neg c189x] at h; replace h := q_s2 h; with_reducible exact h))
          exact q_retv C0 V (⟨hI, hF, y277, y278, y279, y280, y281, y282, y283, y284, y285, y286, y287, f288, f290, f292, f294, f296, hO276, hA289, hA291, hA293, hA295, hA297, (show 0 ≤ y281.toInt from (by have t1 : 0 ≤ y137.toInt := b148; have t2 : y137.toInt ≤ y281.toInt := b305; omega)), (show 0 ≤ y282.toInt from (by first | with_reducible exact q_fe b298 | (have t1 : 0 ≤ y282.toInt := b298; omega))), (show t0_1.toInt ≤ y278.toInt from (by have t1 : t0_1.toInt ≤ y37.toInt := b52; have t2 : y37.toInt ≤ y134.toInt := b149; have t3 : y134.toInt ≤ y278.toInt := b299; omega)), (show y278.toInt ≤ t0_1.toInt from (by have t1 : y37.toInt ≤ t0_1.toInt := b53; have t2 : y134.toInt ≤ y37.toInt := b150; have t3 : y278.toInt ≤ y134.toInt := b300; omega)), (show t0_2.toInt ≤ y278.toInt + 24400 from (by have t1 : t0_2.toInt ≤ y37.toInt + 24400 := b54; have t2 : y37.toInt ≤ y134.toInt := b149; have t3 : y134.toInt ≤ y278.toInt := b299; omega)), (show t0_2.toInt ≤ y281.toInt + 24401 from (by have t1 : 0 ≤ t0_4.toInt ∧ t0_4.toInt ≤ 1 := btt0_4; have t2 : t0_2.toInt ≤ y40.toInt + 24400 := b57; have t3 : y40.toInt ≤ t0_4.toInt := b59; have t4 : 0 ≤ y137.toInt := b148; have t5 : y137.toInt ≤ y281.toInt := b305; omega)), (show y281.toInt ≤ t0_4.toInt from (by have t1 : y40.toInt ≤ t0_4.toInt := b59; have t2 : y137.toInt ≤ y40.toInt := b151; have t3 : y281.toInt ≤ y137.toInt := b306; omega)), (show t0_2.toInt ≤ y282.toInt + 24401 from (by have t1 : 0 ≤ t0_4.toInt ∧ t0_4.toInt ≤ 1 := btt0_4; have t2 : t0_2.toInt ≤ y40.toInt + 24400 := b57; have t3 : y40.toInt ≤ t0_4.toInt := b59; have t4 : 0 ≤ y282.toInt := b298; omega)), (show y282.toInt ≤ t0_5.toInt from (by have t1 : y41.toInt ≤ t0_5.toInt := b61; have t2 : y138.toInt ≤ y41.toInt := b153; have t3 : y282.toInt ≤ y138.toInt := b308; omega)), (show t0_6.toInt ≤ y283.toInt from (by have t1 : t0_6.toInt ≤ y42.toInt := b62; have t2 : y42.toInt ≤ y139.toInt := b154; have t3 : y139.toInt ≤ y283.toInt := b309; omega)), (show y283.toInt ≤ t0_6.toInt from (by have t1 : y42.toInt ≤ t0_6.toInt := b63; have t2 : y139.toInt ≤ y42.toInt := b155; have t3 : y283.toInt ≤ y139.toInt := b310; omega)), (show t0_7.toInt ≤ y284.toInt from (by have t1 : t0_7.toInt ≤ y43.toInt := b64; have t2 : y43.toInt ≤ y140.toInt := b156; have t3 : y140.toInt ≤ y284.toInt := b311; omega)), (show y284.toInt ≤ t0_7.toInt from (by have t1 : y43.toInt ≤ t0_7.toInt := b65; have t2 : y140.toInt ≤ y43.toInt := b157; have t3 : y284.toInt ≤ y140.toInt := b312; omega)), (show t0_8.toInt ≤ y285.toInt from (by have t1 : t0_8.toInt ≤ y44.toInt := b66; have t2 : y44.toInt ≤ y141.toInt := b158; have t3 : y141.toInt ≤ y285.toInt := b313; omega)), (show y285.toInt ≤ t0_8.toInt from (by have t1 : y44.toInt ≤ t0_8.toInt := b67; have t2 : y141.toInt ≤ y44.toInt := b159; have t3 : y285.toInt ≤ y141.toInt := b314; omega)), (show t0_2.toInt ≤ y286.toInt + 24400 from (by have t1 : t0_2.toInt ≤ y45.toInt + 24400 := b68; have t2 : y45.toInt ≤ y142.toInt := b160; have t3 : y142.toInt ≤ y286.toInt := b316; omega)), (show t0_9.toInt ≤ y286.toInt from (by have t1 : t0_9.toInt ≤ y45.toInt := b69; have t2 : y45.toInt ≤ y142.toInt := b160; have t3 : y142.toInt ≤ y286.toInt := b316; omega)), (show y286.toInt ≤ t0_9.toInt from (by have t1 : y45.toInt ≤ t0_9.toInt := b70; have t2 : y142.toInt ≤ y45.toInt := b161; have t3 : y286.toInt ≤ y142.toInt := b317; omega)), (show t0_10.toInt ≤ y287.toInt from (by have t1 : t0_10.toInt ≤ y46.toInt := b71; have t2 : y46.toInt ≤ y143.toInt := b162; have t3 : y143.toInt ≤ y287.toInt := b318; omega)), (show y287.toInt ≤ t0_10.toInt from (by have t1 : y46.toInt ≤ t0_10.toInt := b72; have t2 : y143.toInt ≤ y46.toInt := b163; have t3 : y287.toInt ≤ y143.toInt := b319; omega)), (show (y277, y278, y279, y280, y281, y282, y283, y284, y285, y286, y287, f288, f290, f292, f294, f296) = (F_DR_toPrecision x2 x3 x4 x5 t0_0 t0_1 t0_2 t0_3 t0_4 t0_5 t0_6 t0_7 t0_8 t0_9 t0_10 t1_0 t2_0 t3_0 t4_0 t5_0) from Eq.trans (by rw [e339, e338, e337, e336, e335, e334, e333, e332, e331, e330, e329, e328, e327, e326, e325, e324, F_DR_toPrecision_c170_6.eq_1]) hR340)⟩) d_15_15_173
    ·
      intro J122
      refine lv_if_ne (tgt := 129) hx hb d_15_15_42 (by decide) (fun c345 => ?_) (fun c345 => ?_)
      ·
        exact J122 (()) _ _ _ u33 ⟨V, q_lw hl (q_lw1 1 rfl (q_lw1 2 rfl (q_lw1 4 rfl (q_lw1 5 rfl q_lw0)))), (show F_DR_toPrecision_J129 x2 x3 x4 x5 t0_0 t0_1 t0_2 t0_3 t0_4 t0_5 t0_6 t0_7 t0_8 t0_9 t0_10 t1_0 t2_0 t3_0 t4_0 t5_0 p75 y36 y37 y38 y39 y40 y41 y42 y43 y44 y45 y46 f47 = (F_DR_toPrecision x2 x3 x4 x5 t0_0 t0_1 t0_2 t0_3 t0_4 t0_5 t0_6 t0_7 t0_8 t0_9 t0_10 t1_0 t2_0 t3_0 t4_0 t5_0) from Eq.trans (by rw [F_DR_toPrecision_J32.eq_1, if_neg c345]) hR103), (show True ∧ S_DR_toPrecision_J129 x2 x3 x4 x5 t0_0 t0_1 t0_2 t0_3 t0_4 t0_5 t0_6 t0_7 t0_8 t0_9 t0_10 t1_0 t2_0 t3_0 t4_0 t5_0 p75 y36 y37 y38 y39 y40 y41 y42 y43 y44 y45 y46 f47 from (by have h := hS104; rw [S_DR_toPrecision_J32.eq_1] at h; replace h := q_s2 h; rw [if_neg c345] at h; with_reducible exact h))⟩
      ·
        have b347 : q_F (y40.toInt = 0) := (q_eqI c345)
        refine lv_iload hx hb d_15_15_45 (lv_at hl 0 rfl) ?_
        refine lv_iload_n hx hb d_15_15_47 rfl (lv_at hl 2 rfl) ?_
        refine lv_icmp_gt (tgt := 129) hx hb d_15_15_48 (by decide) (fun c348 => ?_) (fun c348 => ?_)
        ·
          exact J122 (()) _ _ _ u33 ⟨V, q_lw hl (q_lw1 1 rfl (q_lw1 2 rfl (q_lw1 4 rfl (q_lw1 5 rfl q_lw0)))), (show F_DR_toPrecision_J129 x2 x3 x4 x5 t0_0 t0_1 t0_2 t0_3 t0_4 t0_5 t0_6 t0_7 t0_8 t0_9 t0_10 t1_0 t2_0 t3_0 t4_0 t5_0 p75 y36 y37 y38 y39 y40 y41 y42 y43 y44 y45 y46 f47 = (F_DR_toPrecision x2 x3 x4 x5 t0_0 t0_1 t0_2 t0_3 t0_4 t0_5 t0_6 t0_7 t0_8 t0_9 t0_10 t1_0 t2_0 t3_0 t4_0 t5_0) from Eq.trans (by have c348x := c348; rw [e115] at c348x; rw [F_DR_toPrecision_J32.eq_1, if_pos c345, if_pos c348x]) hR103), (show True ∧ S_DR_toPrecision_J129 x2 x3 x4 x5 t0_0 t0_1 t0_2 t0_3 t0_4 t0_5 t0_6 t0_7 t0_8 t0_9 t0_10 t1_0 t2_0 t3_0 t4_0 t5_0 p75 y36 y37 y38 y39 y40 y41 y42 y43 y44 y45 y46 f47 from (by have h := hS104; rw [S_DR_toPrecision_J32.eq_1] at h; replace h := q_s2 h; rw [if_pos c345] at h; have c348x := c348; rw [e115] at c348x; rw [if_pos c348x] at h; with_reducible exact h))⟩
        ·
          refine lv_aload_n hx hb d_15_15_51 rfl (lv_at hl 1 rfl) ?_
          refine lv_aload_n hx hb d_15_15_52 rfl (lv_at hl 1 rfl) ?_
          refine q_get (ci := 14) (j := 9) (v := .long y39) C0 V i_DR rfl rfl hO35 (by decide) w_2012 rfl d_15_15_53 ?_
          refine lv_aload_n hx hb d_15_15_56 rfl (lv_at hl 1 rfl) ?_
          refine q_get (ci := 14) (j := 8) (v := .int y38) C0 V i_DR rfl rfl hO35 (by decide) w_2011 rfl d_15_15_57 ?_
          refine lv_iload hx hb d_15_15_60 (lv_at hl 0 rfl) ?_
          refine lv_isub hx hb d_15_15_62 ?_
          obtain ⟨a351, e352⟩ := q_nm (y38 - a111 : Int32)
          refine q_ti (v := a351) e352 ?_
          refine lv_i2l hx hb d_15_15_63 rfl ?_
          obtain ⟨j353, e354⟩ := q_nm (a351.toInt64 : Int64)
          refine q_tl (v := j353) e354 ?_
          refine lv_lsub hx hb d_15_15_64 ?_
          obtain ⟨j356, e357⟩ := q_nm (y39 - j353 : Int64)
          refine q_tl (v := j356) e357 ?_
          refine q_put (ci := 14) (j := 9) (v := .long j356) (ty := .long) C0 V i_DR o_DR n_DR rfl rfl hO35 (by decide) w_2012 rfl rfl rfl rfl (Nat.le_of_ble_eq_true rfl) d_15_15_65 (fun H locs w358 hu359 hO35 V => ?_)
          replace hO35 : w358[134]? = (some (q 134, .inr (14, [.int y36, .ref (q 135), .int y37, .ref (q 136), .ref (q 137), .ref (q 138), .ref (q 139), .ref (q 140), .int y38, .long j356, .int y40, .int y41, .ref (q 141), .int y42, .ref (q 142), .int y43, .ref (q 143), .int y44, .ref (q 144), .int y45, .int y46])) : Option (Nat × va_E)) := hO35
          replace hI := n_p134 hI hu359 hO35 ⟨(by have t1 : 0 ≤ t0_1.toInt ∧ t0_1.toInt ≤ 4100 := btt0_1; have t2 : t0_1.toInt ≤ y37.toInt := b52; omega), (by have t1 : 0 ≤ t0_1.toInt ∧ t0_1.toInt ≤ 4100 := btt0_1; have t2 : y37.toInt ≤ t0_1.toInt := b53; omega)⟩ ⟨(by first | with_reducible exact q_fe b347 | (have t1 : y40.toInt = 0 := b347; omega)), (by first | with_reducible exact q_fe b347 | (have t1 : y40.toInt = 0 := b347; omega))⟩ ⟨(by first | with_reducible exact q_fe b49 | (have t1 : 0 ≤ y41.toInt := b49; omega)), (by have t1 : 0 ≤ t0_5.toInt ∧ t0_5.toInt ≤ 1 := btt0_5; have t2 : y41.toInt ≤ t0_5.toInt := b61; omega)⟩ ⟨(by have t1 : 0 ≤ t0_9.toInt ∧ t0_9.toInt ≤ 12200 := btt0_9; have t2 : t0_9.toInt ≤ y45.toInt := b69; omega), (by have t1 : 0 ≤ t0_9.toInt ∧ t0_9.toInt ≤ 12200 := btt0_9; have t2 : y45.toInt ≤ t0_9.toInt := b70; omega)⟩
          replace hT1 := (hu359 _ (by decide)).trans hT1
          replace hT2 := (hu359 _ (by decide)).trans hT2
          replace hT3 := (hu359 _ (by decide)).trans hT3
          replace hT4 := (hu359 _ (by decide)).trans hT4
          replace hA48 := (hu359 _ (by decide)).trans hA48
          replace hF := q_us hF hu359 (by simp)
          refine lv_aload_n hx hb d_15_15_68 rfl (lv_at hl 1 rfl) ?_
          refine lv_iload hx hb d_15_15_69 (lv_at hl 0 rfl) ?_
          refine q_put (ci := 14) (j := 8) (v := .int a111) (ty := .int) C0 V i_DR o_DR n_DR rfl rfl hO35 (by decide) w_2011 rfl rfl rfl rfl (Nat.le_of_ble_eq_true rfl) d_15_15_71 (fun H locs w360 hu361 hO35 V => ?_)
          replace hO35 : w360[134]? = (some (q 134, .inr (14, [.int y36, .ref (q 135), .int y37, .ref (q 136), .ref (q 137), .ref (q 138), .ref (q 139), .ref (q 140), .int a111, .long j356, .int y40, .int y41, .ref (q 141), .int y42, .ref (q 142), .int y43, .ref (q 143), .int y44, .ref (q 144), .int y45, .int y46])) : Option (Nat × va_E)) := hO35
          replace hI := n_p134 hI hu361 hO35 ⟨(by have t1 : 0 ≤ t0_1.toInt ∧ t0_1.toInt ≤ 4100 := btt0_1; have t2 : t0_1.toInt ≤ y37.toInt := b52; omega), (by have t1 : 0 ≤ t0_1.toInt ∧ t0_1.toInt ≤ 4100 := btt0_1; have t2 : y37.toInt ≤ t0_1.toInt := b53; omega)⟩ ⟨(by first | with_reducible exact q_fe b347 | (have t1 : y40.toInt = 0 := b347; omega)), (by first | with_reducible exact q_fe b347 | (have t1 : y40.toInt = 0 := b347; omega))⟩ ⟨(by first | with_reducible exact q_fe b49 | (have t1 : 0 ≤ y41.toInt := b49; omega)), (by have t1 : 0 ≤ t0_5.toInt ∧ t0_5.toInt ≤ 1 := btt0_5; have t2 : y41.toInt ≤ t0_5.toInt := b61; omega)⟩ ⟨(by have t1 : 0 ≤ t0_9.toInt ∧ t0_9.toInt ≤ 12200 := btt0_9; have t2 : t0_9.toInt ≤ y45.toInt := b69; omega), (by have t1 : 0 ≤ t0_9.toInt ∧ t0_9.toInt ≤ 12200 := btt0_9; have t2 : y45.toInt ≤ t0_9.toInt := b70; omega)⟩
          replace hT1 := (hu361 _ (by decide)).trans hT1
          replace hT2 := (hu361 _ (by decide)).trans hT2
          replace hT3 := (hu361 _ (by decide)).trans hT3
          replace hT4 := (hu361 _ (by decide)).trans hT4
          replace hA48 := (hu361 _ (by decide)).trans hA48
          replace hF := q_us hF hu361 (by simp)
          refine lv_lload_n hx hb d_15_15_74 rfl (lv_at hl 3 rfl) ?_
          refine lv_aload_n hx hb d_15_15_75 rfl (lv_at hl 1 rfl) ?_
          refine q_get (ci := 14) (j := 9) (v := .long j356) C0 V i_DR rfl rfl hO35 (by decide) w_2012 rfl d_15_15_76 ?_
          refine lv_lsub hx hb d_15_15_79 ?_
          obtain ⟨j362, e363⟩ := q_nm (x3 - j356 : Int64)
          refine q_tl (v := j362) e363 ?_
          refine lv_lstore (lv' := [(7, .long j362), (6, .int a111), (0, .ref (q 134)), (1, .int x2), (2, .long x3), (4, .int x4), (5, .int x5)]) hx hb d_15_15_80 hl (by decide) rfl (fun ls hl => ?_)
          refine lv_lload hx hb d_15_15_82 (lv_at hl 0 rfl) ?_
          refine lv_lconst (v := 0) hx hb d_15_15_84 (by decide) ?_
          refine W.lcmp hx hb d_15_15_85 ?_
          obtain ⟨a364, e365⟩ := q_nm (lg_cmp j362 0 : Int32)
          refine q_ti (v := a364) e365 ?_
          refine lv_if_ge (tgt := 93) hx hb d_15_15_86 (by decide) (fun c367 => ?_) (fun c367 => ?_)
          ·
            refine lv_lload hx hb d_15_15_93 (lv_at hl 0 rfl) ?_
            refine lv_iload_n hx hb d_15_15_95 rfl (lv_at hl 3 rfl) ?_
            refine lv_iload hx hb d_15_15_96 (lv_at hl 1 rfl) ?_
            refine lv_isub hx hb d_15_15_98 ?_
            obtain ⟨a369, e370⟩ := q_nm (x2 - a111 : Int32)
            refine q_ti (v := a369) e370 ?_
            refine lv_i2l hx hb d_15_15_99 rfl ?_
            obtain ⟨j371, e372⟩ := q_nm (a369.toInt64 : Int64)
            refine q_tl (v := j371) e372 ?_
            refine W.lcmp hx hb d_15_15_100 ?_
            obtain ⟨a374, e375⟩ := q_nm (lg_cmp j362 j371 : Int32)
            refine q_ti (v := a374) e375 ?_
            refine lv_if_le (tgt := 112) hx hb d_15_15_101 (by decide) (fun c377 => ?_) (fun c377 => ?_)
            ·
              refine lv_lload hx hb d_15_15_112 (lv_at hl 0 rfl) ?_
              refine lv_lstore (lv' := [(7, .long j362), (6, .int a111), (0, .ref (q 134)), (1, .int x2), (2, .long x3), (4, .int x4), (5, .int x5)]) hx hb d_15_15_114 hl (by decide) rfl (fun ls hl => ?_)
              refine lv_aload_n hx hb d_15_15_116 rfl (lv_at hl 2 rfl) ?_
              refine lv_lload hx hb d_15_15_117 (lv_at hl 0 rfl) ?_
              have ob379 : True ∧ S_DR_lengthen j362 y36 y37 a111 j356 y40 y41 y42 y43 y44 y45 y46 f47 := (by rw [← e363, ← e357, ← e354, ← e352, e115]; have h := hS104; rw [S_DR_toPrecision_J32.eq_1] at h; replace h := q_s2 h; rw [if_pos c345] at h; have c348x := c348; rw [e115] at c348x; rw [if_neg c348x] at h; have c367x := c367; rw [← e365, ← e363, ← e357, ← e354, ← e352, e115] at c367x; rw [if_pos c367x] at h; have c377x := c377; rw [← e375, ← e372, ← e370, ← e363, ← e357, ← e354, ← e352, e115] at c377x; rw [if_pos c377x] at h; with_reducible exact h.2.1)
              refine q_gov V (q_runV (As := [.long j362]) (rest := []) (d := 1) (mc := 0) (ms := 0) (ci := 14) C0 V rfl LV_DR_79 (X_DR_lengthen l D g q w360  j362 hI y36 y37 a111 j356 y40 y41 y42 y43 y44 y45 y46 hO35 f47 hA48 ob379 _) rfl rfl hO35 rfl hl.1 rfl (Nat.le_of_ble_eq_true rfl) ⟨by decide, by decide⟩ ⟨Nat.le_of_ble_eq_true rfl, Nat.le_of_ble_eq_true rfl⟩ d_15_15_119) (fun u380 H locs hp381 V => ?_)
              obtain ⟨hI, hZ9⟩ := hp381
              obtain ⟨hu416, hZ9⟩ := hZ9
              obtain ⟨y383, hZ9⟩ := hZ9
              obtain ⟨y384, hZ9⟩ := hZ9
              obtain ⟨y385, hZ9⟩ := hZ9
              obtain ⟨y386, hZ9⟩ := hZ9
              obtain ⟨y387, hZ9⟩ := hZ9
              obtain ⟨y388, hZ9⟩ := hZ9
              obtain ⟨y389, hZ9⟩ := hZ9
              obtain ⟨y390, hZ9⟩ := hZ9
              obtain ⟨y391, hZ9⟩ := hZ9
              obtain ⟨y392, hZ9⟩ := hZ9
              obtain ⟨y393, hZ9⟩ := hZ9
              obtain ⟨f394, hZ9⟩ := hZ9
              obtain ⟨hO382, hZ9⟩ := hZ9
              obtain ⟨hA395, hZ9⟩ := hZ9
              replace hZ9 := hZ9.2.2
              obtain ⟨b398, hZ9⟩ := hZ9
              obtain ⟨b399, hZ9⟩ := hZ9
              replace hZ9 := hZ9.2
              obtain ⟨b401, hZ9⟩ := hZ9
              obtain ⟨b402, hZ9⟩ := hZ9
              replace hZ9 := hZ9.2
              obtain ⟨b404, hZ9⟩ := hZ9
              obtain ⟨b405, hZ9⟩ := hZ9
              obtain ⟨b406, hZ9⟩ := hZ9
              obtain ⟨b407, hZ9⟩ := hZ9
              obtain ⟨b408, hZ9⟩ := hZ9
              obtain ⟨b409, hZ9⟩ := hZ9
              obtain ⟨b410, hZ9⟩ := hZ9
              obtain ⟨b411, hZ9⟩ := hZ9
              obtain ⟨b412, hZ9⟩ := hZ9
              obtain ⟨b413, hZ9⟩ := hZ9
              obtain ⟨b414, hE415⟩ := hZ9
              replace hO382 : u380[134]? = (some (q 134, .inr (14, [.int y383, .ref (q 135), .int y384, .ref (q 136), .ref (q 137), .ref (q 138), .ref (q 139), .ref (q 140), .int y385, .long y386, .int y387, .int y388, .ref (q 141), .int y389, .ref (q 142), .int y390, .ref (q 143), .int y391, .ref (q 144), .int y392, .int y393])) : Option (Nat × va_E)) := hO382
              replace hA395 : u380[140]? = (some (q 140, .inl (g 0, (4400 : Int32).toNatClampNeg, .inl f394)) : Option (Nat × va_E)) := hA395
              obtain ⟨p417, e418⟩ : ∃ z, z = (F_DR_lengthen j362 y36 y37 a111 j356 y40 y41 y42 y43 y44 y45 y46 f47) := ⟨_, rfl⟩
              have e419 : y383 = p417.1 := congrArg (fun z => z.1) (hE415.trans e418.symm)
              have e420 : y384 = p417.2.1 := congrArg (fun z => z.2.1) (hE415.trans e418.symm)
              have e421 : y385 = p417.2.2.1 := congrArg (fun z => z.2.2.1) (hE415.trans e418.symm)
              have e422 : y386 = p417.2.2.2.1 := congrArg (fun z => z.2.2.2.1) (hE415.trans e418.symm)
              have e423 : y387 = p417.2.2.2.2.1 := congrArg (fun z => z.2.2.2.2.1) (hE415.trans e418.symm)
              have e424 : y388 = p417.2.2.2.2.2.1 := congrArg (fun z => z.2.2.2.2.2.1) (hE415.trans e418.symm)
              have e425 : y389 = p417.2.2.2.2.2.2.1 := congrArg (fun z => z.2.2.2.2.2.2.1) (hE415.trans e418.symm)
              have e426 : y390 = p417.2.2.2.2.2.2.2.1 := congrArg (fun z => z.2.2.2.2.2.2.2.1) (hE415.trans e418.symm)
              have e427 : y391 = p417.2.2.2.2.2.2.2.2.1 := congrArg (fun z => z.2.2.2.2.2.2.2.2.1) (hE415.trans e418.symm)
              have e428 : y392 = p417.2.2.2.2.2.2.2.2.2.1 := congrArg (fun z => z.2.2.2.2.2.2.2.2.2.1) (hE415.trans e418.symm)
              have e429 : y393 = p417.2.2.2.2.2.2.2.2.2.2.1 := congrArg (fun z => z.2.2.2.2.2.2.2.2.2.2.1) (hE415.trans e418.symm)
              have e430 : f394 = p417.2.2.2.2.2.2.2.2.2.2.2 := congrArg (fun z => z.2.2.2.2.2.2.2.2.2.2.2) (hE415.trans e418.symm)
              replace b398 : q_F (y37.toInt ≤ y384.toInt) := b398
              replace b399 : q_F (y384.toInt ≤ y37.toInt) := b399
              replace b401 : q_F (y40.toInt ≤ y387.toInt) := b401
              replace b402 : q_F (y387.toInt ≤ y40.toInt) := b402
              replace b404 : q_F (y388.toInt ≤ y41.toInt) := b404
              replace b405 : q_F (y42.toInt ≤ y389.toInt) := b405
              replace b406 : q_F (y389.toInt ≤ y42.toInt) := b406
              replace b407 : q_F (y43.toInt ≤ y390.toInt) := b407
              replace b408 : q_F (y390.toInt ≤ y43.toInt) := b408
              replace b409 : q_F (y44.toInt ≤ y391.toInt) := b409
              replace b410 : q_F (y391.toInt ≤ y44.toInt) := b410
              replace b411 : q_F (y45.toInt ≤ y392.toInt) := b411
              replace b412 : q_F (y392.toInt ≤ y45.toInt) := b412
              replace b413 : q_F (y46.toInt ≤ y393.toInt) := b413
              replace b414 : q_F (y393.toInt ≤ y46.toInt) := b414
              replace hT1 := (hu416 _ (by decide)).trans hT1
              replace hT2 := (hu416 _ (by decide)).trans hT2
              replace hT3 := (hu416 _ (by decide)).trans hT3
              replace hT4 := (hu416 _ (by decide)).trans hT4
              replace hF := q_uc hF hu416 (by simp)
              have hR431 := (show F_DR_toPrecision_c119 x2 x3 x4 x5 t0_0 t0_1 t0_2 t0_3 t0_4 t0_5 t0_6 t0_7 t0_8 t0_9 t0_10 t1_0 t2_0 t3_0 t4_0 t5_0 p75 y36 y37 y38 y39 y40 y41 y42 y43 y44 y45 y46 f47 j362 a111 p417 = (F_DR_toPrecision x2 x3 x4 x5 t0_0 t0_1 t0_2 t0_3 t0_4 t0_5 t0_6 t0_7 t0_8 t0_9 t0_10 t1_0 t2_0 t3_0 t4_0 t5_0) from Eq.trans (by have c348x := c348; rw [e115] at c348x; have c367x := c367; rw [← e365, ← e363, ← e357, ← e354, ← e352, e115] at c367x; have c377x := c377; rw [← e375, ← e372, ← e370, ← e363, ← e357, ← e354, ← e352, e115] at c377x; rw [e418, ← e363, ← e357, ← e354, ← e352, e115, F_DR_toPrecision_J32.eq_1, if_pos c345, if_neg c348x, if_pos c367x, if_pos c377x]) hR103)
              have hS432 := (show True ∧ S_DR_toPrecision_c119 x2 x3 x4 x5 t0_0 t0_1 t0_2 t0_3 t0_4 t0_5 t0_6 t0_7 t0_8 t0_9 t0_10 t1_0 t2_0 t3_0 t4_0 t5_0 p75 y36 y37 y38 y39 y40 y41 y42 y43 y44 y45 y46 f47 j362 a111 p417 from (by rw [e418, ← e363, ← e357, ← e354, ← e352, e115]; have h := hS104; rw [S_DR_toPrecision_J32.eq_1] at h; replace h := q_s2 h; rw [if_pos c345] at h; have c348x := c348; rw [e115] at c348x; rw [if_neg c348x] at h; have c367x := c367; rw [← e365, ← e363, ← e357, ← e354, ← e352, e115] at c367x; rw [if_pos c367x] at h; have c377x := c377; rw [← e375, ← e372, ← e370, ← e363, ← e357, ← e354, ← e352, e115] at c377x; rw [if_pos c377x] at h; replace h := q_s2 h; with_reducible exact h))
              refine lv_aload_n hx hb d_15_15_122 rfl (lv_at hl 2 rfl) ?_
              refine lv_iload hx hb d_15_15_123 (lv_at hl 6 rfl) ?_
              have ob436 : True ∧ S_DR_store x5 y383 y384 y385 y386 y387 y388 y389 y390 y391 y392 y393 t1_0 t2_0 t3_0 t4_0 f394 := (by rw [e430, e429, e428, e427, e426, e425, e424, e423, e422, e421, e420, e419]; have h := hS432; rw [S_DR_toPrecision_c119.eq_1] at h; with_reducible exact h.2.1)
              refine q_gov V (q_runV (As := [.int x5]) (rest := []) (d := 2) (mc := 0) (ms := 0) (ci := 14) C0 V rfl LV_DR_89 (X_DR_store l D g q u380  x5 hI y383 y384 y385 y386 y387 y388 y389 y390 y391 y392 y393 hO382 t1_0 hT1 t2_0 hT2 t3_0 hT3 t4_0 hT4 f394 hA395 ob436 _) rfl rfl hO382 rfl hl.1 rfl (Nat.le_of_ble_eq_true rfl) ⟨by decide, by decide⟩ ⟨Nat.le_of_ble_eq_true rfl, Nat.le_of_ble_eq_true rfl⟩ d_15_15_125) (fun u437 H locs hp438 V => ?_)
              obtain ⟨hI, hZ9⟩ := hp438
              obtain ⟨hu484, hZ9⟩ := hZ9
              obtain ⟨y440, hZ9⟩ := hZ9
              obtain ⟨y441, hZ9⟩ := hZ9
              obtain ⟨y442, hZ9⟩ := hZ9
              obtain ⟨y443, hZ9⟩ := hZ9
              obtain ⟨y444, hZ9⟩ := hZ9
              obtain ⟨y445, hZ9⟩ := hZ9
              obtain ⟨y446, hZ9⟩ := hZ9
              obtain ⟨y447, hZ9⟩ := hZ9
              obtain ⟨y448, hZ9⟩ := hZ9
              obtain ⟨y449, hZ9⟩ := hZ9
              obtain ⟨y450, hZ9⟩ := hZ9
              obtain ⟨f451, hZ9⟩ := hZ9
              obtain ⟨f453, hZ9⟩ := hZ9
              obtain ⟨f455, hZ9⟩ := hZ9
              obtain ⟨f457, hZ9⟩ := hZ9
              obtain ⟨f459, hZ9⟩ := hZ9
              obtain ⟨hO439, hZ9⟩ := hZ9
              obtain ⟨hA452, hZ9⟩ := hZ9
              obtain ⟨hA454, hZ9⟩ := hZ9
              obtain ⟨hA456, hZ9⟩ := hZ9
              obtain ⟨hA458, hZ9⟩ := hZ9
              obtain ⟨hA460, hZ9⟩ := hZ9
              obtain ⟨b461, hZ9⟩ := hZ9
              obtain ⟨b462, hZ9⟩ := hZ9
              obtain ⟨b463, hZ9⟩ := hZ9
              replace hZ9 := hZ9.2.2.2.2
              obtain ⟨b468, hZ9⟩ := hZ9
              obtain ⟨b469, hZ9⟩ := hZ9
              replace hZ9 := hZ9.2
              obtain ⟨b471, hZ9⟩ := hZ9
              obtain ⟨b472, hZ9⟩ := hZ9
              obtain ⟨b473, hZ9⟩ := hZ9
              obtain ⟨b474, hZ9⟩ := hZ9
              obtain ⟨b475, hZ9⟩ := hZ9
              obtain ⟨b476, hZ9⟩ := hZ9
              obtain ⟨b477, hZ9⟩ := hZ9
              replace hZ9 := hZ9.2
              obtain ⟨b479, hZ9⟩ := hZ9
              obtain ⟨b480, hZ9⟩ := hZ9
              obtain ⟨b481, hZ9⟩ := hZ9
              obtain ⟨b482, hE483⟩ := hZ9
              replace hO439 : u437[134]? = (some (q 134, .inr (14, [.int y440, .ref (q 135), .int y441, .ref (q 136), .ref (q 137), .ref (q 138), .ref (q 139), .ref (q 140), .int y442, .long y443, .int y444, .int y445, .ref (q 141), .int y446, .ref (q 142), .int y447, .ref (q 143), .int y448, .ref (q 144), .int y449, .int y450])) : Option (Nat × va_E)) := hO439
              replace hA452 : u437[136]? = (some (q 136, .inl (g 0, (10000 : Int32).toNatClampNeg, .inl f451)) : Option (Nat × va_E)) := hA452
              replace hA454 : u437[137]? = (some (q 137, .inl (g 0, (10 : Int32).toNatClampNeg, .inl f453)) : Option (Nat × va_E)) := hA454
              replace hA456 : u437[138]? = (some (q 138, .inl (g 3, 10, .inl f455)) : Option (Nat × va_E)) := hA456
              replace hA458 : u437[139]? = (some (q 139, .inl (g 0, (10 : Int32).toNatClampNeg, .inl f457)) : Option (Nat × va_E)) := hA458
              replace hA460 : u437[140]? = (some (q 140, .inl (g 0, (4400 : Int32).toNatClampNeg, .inl f459)) : Option (Nat × va_E)) := hA460
              obtain ⟨p485, e486⟩ : ∃ z, z = (F_DR_store x5 y383 y384 y385 y386 y387 y388 y389 y390 y391 y392 y393 t1_0 t2_0 t3_0 t4_0 f394) := ⟨_, rfl⟩
              have e487 : y440 = p485.1 := congrArg (fun z => z.1) (hE483.trans e486.symm)
              have e488 : y441 = p485.2.1 := congrArg (fun z => z.2.1) (hE483.trans e486.symm)
              have e489 : y442 = p485.2.2.1 := congrArg (fun z => z.2.2.1) (hE483.trans e486.symm)
              have e490 : y443 = p485.2.2.2.1 := congrArg (fun z => z.2.2.2.1) (hE483.trans e486.symm)
              have e491 : y444 = p485.2.2.2.2.1 := congrArg (fun z => z.2.2.2.2.1) (hE483.trans e486.symm)
              have e492 : y445 = p485.2.2.2.2.2.1 := congrArg (fun z => z.2.2.2.2.2.1) (hE483.trans e486.symm)
              have e493 : y446 = p485.2.2.2.2.2.2.1 := congrArg (fun z => z.2.2.2.2.2.2.1) (hE483.trans e486.symm)
              have e494 : y447 = p485.2.2.2.2.2.2.2.1 := congrArg (fun z => z.2.2.2.2.2.2.2.1) (hE483.trans e486.symm)
              have e495 : y448 = p485.2.2.2.2.2.2.2.2.1 := congrArg (fun z => z.2.2.2.2.2.2.2.2.1) (hE483.trans e486.symm)
              have e496 : y449 = p485.2.2.2.2.2.2.2.2.2.1 := congrArg (fun z => z.2.2.2.2.2.2.2.2.2.1) (hE483.trans e486.symm)
              have e497 : y450 = p485.2.2.2.2.2.2.2.2.2.2.1 := congrArg (fun z => z.2.2.2.2.2.2.2.2.2.2.1) (hE483.trans e486.symm)
              have e498 : f451 = p485.2.2.2.2.2.2.2.2.2.2.2.1 := congrArg (fun z => z.2.2.2.2.2.2.2.2.2.2.2.1) (hE483.trans e486.symm)
              have e499 : f453 = p485.2.2.2.2.2.2.2.2.2.2.2.2.1 := congrArg (fun z => z.2.2.2.2.2.2.2.2.2.2.2.2.1) (hE483.trans e486.symm)
              have e500 : f455 = p485.2.2.2.2.2.2.2.2.2.2.2.2.2.1 := congrArg (fun z => z.2.2.2.2.2.2.2.2.2.2.2.2.2.1) (hE483.trans e486.symm)
              have e501 : f457 = p485.2.2.2.2.2.2.2.2.2.2.2.2.2.2.1 := congrArg (fun z => z.2.2.2.2.2.2.2.2.2.2.2.2.2.2.1) (hE483.trans e486.symm)
              have e502 : f459 = p485.2.2.2.2.2.2.2.2.2.2.2.2.2.2.2 := congrArg (fun z => z.2.2.2.2.2.2.2.2.2.2.2.2.2.2.2) (hE483.trans e486.symm)
              replace b461 : q_F (0 ≤ y445.toInt) := b461
              replace b462 : q_F (y384.toInt ≤ y441.toInt) := b462
              replace b463 : q_F (y441.toInt ≤ y384.toInt) := b463
              replace b468 : q_F (y387.toInt ≤ y444.toInt) := b468
              replace b469 : q_F (y444.toInt ≤ y387.toInt) := b469
              replace b471 : q_F (y445.toInt ≤ y388.toInt) := b471
              replace b472 : q_F (y389.toInt ≤ y446.toInt) := b472
              replace b473 : q_F (y446.toInt ≤ y389.toInt) := b473
              replace b474 : q_F (y390.toInt ≤ y447.toInt) := b474
              replace b475 : q_F (y447.toInt ≤ y390.toInt) := b475
              replace b476 : q_F (y391.toInt ≤ y448.toInt) := b476
              replace b477 : q_F (y448.toInt ≤ y391.toInt) := b477
              replace b479 : q_F (y392.toInt ≤ y449.toInt) := b479
              replace b480 : q_F (y449.toInt ≤ y392.toInt) := b480
              replace b481 : q_F (y393.toInt ≤ y450.toInt) := b481
              replace b482 : q_F (y450.toInt ≤ y393.toInt) := b482
              replace hF := q_uc hF hu484 (by simp)
              have hR503 := (show F_DR_toPrecision_c125 x2 x3 x4 x5 t0_0 t0_1 t0_2 t0_3 t0_4 t0_5 t0_6 t0_7 t0_8 t0_9 t0_10 t1_0 t2_0 t3_0 t4_0 t5_0 p75 y36 y37 y38 y39 y40 y41 y42 y43 y44 y45 y46 f47 j362 a111 p417 p485 = (F_DR_toPrecision x2 x3 x4 x5 t0_0 t0_1 t0_2 t0_3 t0_4 t0_5 t0_6 t0_7 t0_8 t0_9 t0_10 t1_0 t2_0 t3_0 t4_0 t5_0) from Eq.trans (by rw [e486, e430, e429, e428, e427, e426, e425, e424, e423, e422, e421, e420, e419, F_DR_toPrecision_c119.eq_1]) hR431)
              have hS504 := (show True ∧ S_DR_toPrecision_c125 x2 x3 x4 x5 t0_0 t0_1 t0_2 t0_3 t0_4 t0_5 t0_6 t0_7 t0_8 t0_9 t0_10 t1_0 t2_0 t3_0 t4_0 t5_0 p75 y36 y37 y38 y39 y40 y41 y42 y43 y44 y45 y46 f47 j362 a111 p417 p485 from (by rw [e486, e430, e429, e428, e427, e426, e425, e424, e423, e422, e421, e420, e419]; have h := hS432; rw [S_DR_toPrecision_c119.eq_1] at h; replace h := q_s2 h; with_reducible exact h))
              exact q_retv C0 V (⟨hI, hF, y440, y441, y442, y443, y444, y445, y446, y447, y448, y449, y450, f451, f453, f455, f457, f459, hO439, hA452, hA454, hA456, hA458, hA460, (show 0 ≤ y444.toInt from (by have t1 : y40.toInt = 0 := b347; have t2 : y40.toInt ≤ y387.toInt := b401; have t3 : y387.toInt ≤ y444.toInt := b468; omega)), (show 0 ≤ y445.toInt from (by first | with_reducible exact q_fe b461 | (have t1 : 0 ≤ y445.toInt := b461; omega))), (show t0_1.toInt ≤ y441.toInt from (by have t1 : t0_1.toInt ≤ y37.toInt := b52; have t2 : y37.toInt ≤ y384.toInt := b398; have t3 : y384.toInt ≤ y441.toInt := b462; omega)), (show y441.toInt ≤ t0_1.toInt from (by have t1 : y37.toInt ≤ t0_1.toInt := b53; have t2 : y384.toInt ≤ y37.toInt := b399; have t3 : y441.toInt ≤ y384.toInt := b463; omega)), (show t0_2.toInt ≤ y441.toInt + 24400 from (by have t1 : t0_2.toInt ≤ y37.toInt + 24400 := b54; have t2 : y37.toInt ≤ y384.toInt := b398; have t3 : y384.toInt ≤ y441.toInt := b462; omega)), (show t0_2.toInt ≤ y444.toInt + 24401 from (by have t1 : t0_2.toInt ≤ y40.toInt + 24400 := b57; have t2 : y40.toInt ≤ y387.toInt := b401; have t3 : y387.toInt ≤ y444.toInt := b468; omega)), (show y444.toInt ≤ t0_4.toInt from (by have t1 : y40.toInt ≤ t0_4.toInt := b59; have t2 : y387.toInt ≤ y40.toInt := b402; have t3 : y444.toInt ≤ y387.toInt := b469; omega)), (show t0_2.toInt ≤ y445.toInt + 24401 from (by have t1 : t0_2.toInt ≤ y40.toInt + 24400 := b57; have t2 : y40.toInt = 0 := b347; have t3 : 0 ≤ y445.toInt := b461; omega)), (show y445.toInt ≤ t0_5.toInt from (by have t1 : y41.toInt ≤ t0_5.toInt := b61; have t2 : y388.toInt ≤ y41.toInt := b404; have t3 : y445.toInt ≤ y388.toInt := b471; omega)), (show t0_6.toInt ≤ y446.toInt from (by have t1 : t0_6.toInt ≤ y42.toInt := b62; have t2 : y42.toInt ≤ y389.toInt := b405; have t3 : y389.toInt ≤ y446.toInt := b472; omega)), (show y446.toInt ≤ t0_6.toInt from (by have t1 : y42.toInt ≤ t0_6.toInt := b63; have t2 : y389.toInt ≤ y42.toInt := b406; have t3 : y446.toInt ≤ y389.toInt := b473; omega)), (show t0_7.toInt ≤ y447.toInt from (by have t1 : t0_7.toInt ≤ y43.toInt := b64; have t2 : y43.toInt ≤ y390.toInt := b407; have t3 : y390.toInt ≤ y447.toInt := b474; omega)), (show y447.toInt ≤ t0_7.toInt from (by have t1 : y43.toInt ≤ t0_7.toInt := b65; have t2 : y390.toInt ≤ y43.toInt := b408; have t3 : y447.toInt ≤ y390.toInt := b475; omega)), (show t0_8.toInt ≤ y448.toInt from (by have t1 : t0_8.toInt ≤ y44.toInt := b66; have t2 : y44.toInt ≤ y391.toInt := b409; have t3 : y391.toInt ≤ y448.toInt := b476; omega)), (show y448.toInt ≤ t0_8.toInt from (by have t1 : y44.toInt ≤ t0_8.toInt := b67; have t2 : y391.toInt ≤ y44.toInt := b410; have t3 : y448.toInt ≤ y391.toInt := b477; omega)), (show t0_2.toInt ≤ y449.toInt + 24400 from (by have t1 : t0_2.toInt ≤ y45.toInt + 24400 := b68; have t2 : y45.toInt ≤ y392.toInt := b411; have t3 : y392.toInt ≤ y449.toInt := b479; omega)), (show t0_9.toInt ≤ y449.toInt from (by have t1 : t0_9.toInt ≤ y45.toInt := b69; have t2 : y45.toInt ≤ y392.toInt := b411; have t3 : y392.toInt ≤ y449.toInt := b479; omega)), (show y449.toInt ≤ t0_9.toInt from (by have t1 : y45.toInt ≤ t0_9.toInt := b70; have t2 : y392.toInt ≤ y45.toInt := b412; have t3 : y449.toInt ≤ y392.toInt := b480; omega)), (show t0_10.toInt ≤ y450.toInt from (by have t1 : t0_10.toInt ≤ y46.toInt := b71; have t2 : y46.toInt ≤ y393.toInt := b413; have t3 : y393.toInt ≤ y450.toInt := b481; omega)), (show y450.toInt ≤ t0_10.toInt from (by have t1 : y46.toInt ≤ t0_10.toInt := b72; have t2 : y393.toInt ≤ y46.toInt := b414; have t3 : y450.toInt ≤ y393.toInt := b482; omega)), (show (y440, y441, y442, y443, y444, y445, y446, y447, y448, y449, y450, f451, f453, f455, f457, f459) = (F_DR_toPrecision x2 x3 x4 x5 t0_0 t0_1 t0_2 t0_3 t0_4 t0_5 t0_6 t0_7 t0_8 t0_9 t0_10 t1_0 t2_0 t3_0 t4_0 t5_0) from Eq.trans (by rw [e502, e501, e500, e499, e498, e497, e496, e495, e494, e493, e492, e491, e490, e489, e488, e487, F_DR_toPrecision_c125.eq_1]) hR503)⟩) d_15_15_128
            ·
              refine lv_iload_n hx hb d_15_15_104 rfl (lv_at hl 3 rfl) ?_
              refine lv_iload hx hb d_15_15_105 (lv_at hl 1 rfl) ?_
              refine lv_isub hx hb d_15_15_107 ?_
              obtain ⟨a509, e510⟩ := q_nm (x2 - a111 : Int32)
              refine q_ti (v := a509) e510 ?_
              refine lv_i2l hx hb d_15_15_108 rfl ?_
              obtain ⟨j511, e512⟩ := q_nm (a509.toInt64 : Int64)
              refine q_tl (v := j511) e512 ?_
              refine lv_goto (tgt := 114) hx hb d_15_15_109 (by decide) ?_
              refine lv_lstore (lv' := [(7, .long j511), (6, .int a111), (0, .ref (q 134)), (1, .int x2), (2, .long x3), (4, .int x4), (5, .int x5)]) hx hb d_15_15_114 hl (by decide) rfl (fun ls hl => ?_)
              refine lv_aload_n hx hb d_15_15_116 rfl (lv_at hl 2 rfl) ?_
              refine lv_lload hx hb d_15_15_117 (lv_at hl 0 rfl) ?_
              have ob514 : True ∧ S_DR_lengthen j511 y36 y37 a111 j356 y40 y41 y42 y43 y44 y45 y46 f47 := (by rw [← e512, ← e510, ← e357, ← e354, ← e352, e115]; have h := hS104; rw [S_DR_toPrecision_J32.eq_1] at h; replace h := q_s2 h; rw [if_pos c345] at h; have c348x := c348; rw [e115] at c348x; rw [if_neg c348x] at h; have c367x := c367; rw [← e365, ← e363, ← e357, ← e354, ← e352, e115] at c367x; rw [if_pos c367x] at h; have c377x := c377; rw [← e375, ← e372, ← e370, ← e363, ← e357, ← e354, ← e352, e115] at c377x; rw [if_neg c377x] at h; with_reducible exact h.2.1)
              refine q_gov V (q_runV (As := [.long j511]) (rest := []) (d := 1) (mc := 0) (ms := 0) (ci := 14) C0 V rfl LV_DR_79 (X_DR_lengthen l D g q w360  j511 hI y36 y37 a111 j356 y40 y41 y42 y43 y44 y45 y46 hO35 f47 hA48 ob514 _) rfl rfl hO35 rfl hl.1 rfl (Nat.le_of_ble_eq_true rfl) ⟨by decide, by decide⟩ ⟨Nat.le_of_ble_eq_true rfl, Nat.le_of_ble_eq_true rfl⟩ d_15_15_119) (fun u515 H locs hp516 V => ?_)
              obtain ⟨hI, hZ9⟩ := hp516
              obtain ⟨hu551, hZ9⟩ := hZ9
              obtain ⟨y518, hZ9⟩ := hZ9
              obtain ⟨y519, hZ9⟩ := hZ9
              obtain ⟨y520, hZ9⟩ := hZ9
              obtain ⟨y521, hZ9⟩ := hZ9
              obtain ⟨y522, hZ9⟩ := hZ9
              obtain ⟨y523, hZ9⟩ := hZ9
              obtain ⟨y524, hZ9⟩ := hZ9
              obtain ⟨y525, hZ9⟩ := hZ9
              obtain ⟨y526, hZ9⟩ := hZ9
              obtain ⟨y527, hZ9⟩ := hZ9
              obtain ⟨y528, hZ9⟩ := hZ9
              obtain ⟨f529, hZ9⟩ := hZ9
              obtain ⟨hO517, hZ9⟩ := hZ9
              obtain ⟨hA530, hZ9⟩ := hZ9
              replace hZ9 := hZ9.2.2
              obtain ⟨b533, hZ9⟩ := hZ9
              obtain ⟨b534, hZ9⟩ := hZ9
              replace hZ9 := hZ9.2
              obtain ⟨b536, hZ9⟩ := hZ9
              obtain ⟨b537, hZ9⟩ := hZ9
              replace hZ9 := hZ9.2
              obtain ⟨b539, hZ9⟩ := hZ9
              obtain ⟨b540, hZ9⟩ := hZ9
              obtain ⟨b541, hZ9⟩ := hZ9
              obtain ⟨b542, hZ9⟩ := hZ9
              obtain ⟨b543, hZ9⟩ := hZ9
              obtain ⟨b544, hZ9⟩ := hZ9
              obtain ⟨b545, hZ9⟩ := hZ9
              obtain ⟨b546, hZ9⟩ := hZ9
              obtain ⟨b547, hZ9⟩ := hZ9
              obtain ⟨b548, hZ9⟩ := hZ9
              obtain ⟨b549, hE550⟩ := hZ9
              replace hO517 : u515[134]? = (some (q 134, .inr (14, [.int y518, .ref (q 135), .int y519, .ref (q 136), .ref (q 137), .ref (q 138), .ref (q 139), .ref (q 140), .int y520, .long y521, .int y522, .int y523, .ref (q 141), .int y524, .ref (q 142), .int y525, .ref (q 143), .int y526, .ref (q 144), .int y527, .int y528])) : Option (Nat × va_E)) := hO517
              replace hA530 : u515[140]? = (some (q 140, .inl (g 0, (4400 : Int32).toNatClampNeg, .inl f529)) : Option (Nat × va_E)) := hA530
              obtain ⟨p552, e553⟩ : ∃ z, z = (F_DR_lengthen j511 y36 y37 a111 j356 y40 y41 y42 y43 y44 y45 y46 f47) := ⟨_, rfl⟩
              have e554 : y518 = p552.1 := congrArg (fun z => z.1) (hE550.trans e553.symm)
              have e555 : y519 = p552.2.1 := congrArg (fun z => z.2.1) (hE550.trans e553.symm)
              have e556 : y520 = p552.2.2.1 := congrArg (fun z => z.2.2.1) (hE550.trans e553.symm)
              have e557 : y521 = p552.2.2.2.1 := congrArg (fun z => z.2.2.2.1) (hE550.trans e553.symm)
              have e558 : y522 = p552.2.2.2.2.1 := congrArg (fun z => z.2.2.2.2.1) (hE550.trans e553.symm)
              have e559 : y523 = p552.2.2.2.2.2.1 := congrArg (fun z => z.2.2.2.2.2.1) (hE550.trans e553.symm)
              have e560 : y524 = p552.2.2.2.2.2.2.1 := congrArg (fun z => z.2.2.2.2.2.2.1) (hE550.trans e553.symm)
              have e561 : y525 = p552.2.2.2.2.2.2.2.1 := congrArg (fun z => z.2.2.2.2.2.2.2.1) (hE550.trans e553.symm)
              have e562 : y526 = p552.2.2.2.2.2.2.2.2.1 := congrArg (fun z => z.2.2.2.2.2.2.2.2.1) (hE550.trans e553.symm)
              have e563 : y527 = p552.2.2.2.2.2.2.2.2.2.1 := congrArg (fun z => z.2.2.2.2.2.2.2.2.2.1) (hE550.trans e553.symm)
              have e564 : y528 = p552.2.2.2.2.2.2.2.2.2.2.1 := congrArg (fun z => z.2.2.2.2.2.2.2.2.2.2.1) (hE550.trans e553.symm)
              have e565 : f529 = p552.2.2.2.2.2.2.2.2.2.2.2 := congrArg (fun z => z.2.2.2.2.2.2.2.2.2.2.2) (hE550.trans e553.symm)
              replace b533 : q_F (y37.toInt ≤ y519.toInt) := b533
              replace b534 : q_F (y519.toInt ≤ y37.toInt) := b534
              replace b536 : q_F (y40.toInt ≤ y522.toInt) := b536
              replace b537 : q_F (y522.toInt ≤ y40.toInt) := b537
              replace b539 : q_F (y523.toInt ≤ y41.toInt) := b539
              replace b540 : q_F (y42.toInt ≤ y524.toInt) := b540
              replace b541 : q_F (y524.toInt ≤ y42.toInt) := b541
              replace b542 : q_F (y43.toInt ≤ y525.toInt) := b542
              replace b543 : q_F (y525.toInt ≤ y43.toInt) := b543
              replace b544 : q_F (y44.toInt ≤ y526.toInt) := b544
              replace b545 : q_F (y526.toInt ≤ y44.toInt) := b545
              replace b546 : q_F (y45.toInt ≤ y527.toInt) := b546
              replace b547 : q_F (y527.toInt ≤ y45.toInt) := b547
              replace b548 : q_F (y46.toInt ≤ y528.toInt) := b548
              replace b549 : q_F (y528.toInt ≤ y46.toInt) := b549
              replace hT1 := (hu551 _ (by decide)).trans hT1
              replace hT2 := (hu551 _ (by decide)).trans hT2
              replace hT3 := (hu551 _ (by decide)).trans hT3
              replace hT4 := (hu551 _ (by decide)).trans hT4
              replace hF := q_uc hF hu551 (by simp)
              have hR566 := (show F_DR_toPrecision_c119_9 x2 x3 x4 x5 t0_0 t0_1 t0_2 t0_3 t0_4 t0_5 t0_6 t0_7 t0_8 t0_9 t0_10 t1_0 t2_0 t3_0 t4_0 t5_0 p75 y36 y37 y38 y39 y40 y41 y42 y43 y44 y45 y46 f47 j511 a111 p552 = (F_DR_toPrecision x2 x3 x4 x5 t0_0 t0_1 t0_2 t0_3 t0_4 t0_5 t0_6 t0_7 t0_8 t0_9 t0_10 t1_0 t2_0 t3_0 t4_0 t5_0) from Eq.trans (by have c348x := c348; rw [e115] at c348x; have c367x := c367; rw [← e365, ← e363, ← e357, ← e354, ← e352, e115] at c367x; have c377x := c377; rw [← e375, ← e372, ← e370, ← e363, ← e357, ← e354, ← e352, e115] at c377x; rw [e553, ← e512, ← e510, ← e357, ← e354, ← e352, e115, F_DR_toPrecision_J32.eq_1, if_pos c345, if_neg c348x, if_pos c367x, if_neg c377x]) hR103)
              have hS567 := (show True ∧ S_DR_toPrecision_c119_9 x2 x3 x4 x5 t0_0 t0_1 t0_2 t0_3 t0_4 t0_5 t0_6 t0_7 t0_8 t0_9 t0_10 t1_0 t2_0 t3_0 t4_0 t5_0 p75 y36 y37 y38 y39 y40 y41 y42 y43 y44 y45 y46 f47 j511 a111 p552 from (by rw [e553, ← e512, ← e510, ← e357, ← e354, ← e352, e115]; have h := hS104; rw [S_DR_toPrecision_J32.eq_1] at h; replace h := q_s2 h; rw [if_pos c345] at h; have c348x := c348; rw [e115] at c348x; rw [if_neg c348x] at h; have c367x := c367; rw [← e365, ← e363, ← e357, ← e354, ← e352, e115] at c367x; rw [if_pos c367x] at h; have c377x := c377; rw [← e375, ← e372, ← e370, ← e363, ← e357, ← e354, ← e352, e115] at c377x; rw [if_neg c377x] at h; replace h := q_s2 h; with_reducible exact h))
              refine lv_aload_n hx hb d_15_15_122 rfl (lv_at hl 2 rfl) ?_
              refine lv_iload hx hb d_15_15_123 (lv_at hl 6 rfl) ?_
              have ob571 : True ∧ S_DR_store x5 y518 y519 y520 y521 y522 y523 y524 y525 y526 y527 y528 t1_0 t2_0 t3_0 t4_0 f529 := (by rw [e565, e564, e563, e562, e561, e560, e559, e558, e557, e556, e555, e554]; have h := hS567; rw [S_DR_toPrecision_c119_9.eq_1] at h; with_reducible exact h.2.1)
              refine q_gov V (q_runV (As := [.int x5]) (rest := []) (d := 2) (mc := 0) (ms := 0) (ci := 14) C0 V rfl LV_DR_89 (X_DR_store l D g q u515  x5 hI y518 y519 y520 y521 y522 y523 y524 y525 y526 y527 y528 hO517 t1_0 hT1 t2_0 hT2 t3_0 hT3 t4_0 hT4 f529 hA530 ob571 _) rfl rfl hO517 rfl hl.1 rfl (Nat.le_of_ble_eq_true rfl) ⟨by decide, by decide⟩ ⟨Nat.le_of_ble_eq_true rfl, Nat.le_of_ble_eq_true rfl⟩ d_15_15_125) (fun u572 H locs hp573 V => ?_)
              obtain ⟨hI, hZ9⟩ := hp573
              obtain ⟨hu619, hZ9⟩ := hZ9
              obtain ⟨y575, hZ9⟩ := hZ9
              obtain ⟨y576, hZ9⟩ := hZ9
              obtain ⟨y577, hZ9⟩ := hZ9
              obtain ⟨y578, hZ9⟩ := hZ9
              obtain ⟨y579, hZ9⟩ := hZ9
              obtain ⟨y580, hZ9⟩ := hZ9
              obtain ⟨y581, hZ9⟩ := hZ9
              obtain ⟨y582, hZ9⟩ := hZ9
              obtain ⟨y583, hZ9⟩ := hZ9
              obtain ⟨y584, hZ9⟩ := hZ9
              obtain ⟨y585, hZ9⟩ := hZ9
              obtain ⟨f586, hZ9⟩ := hZ9
              obtain ⟨f588, hZ9⟩ := hZ9
              obtain ⟨f590, hZ9⟩ := hZ9
              obtain ⟨f592, hZ9⟩ := hZ9
              obtain ⟨f594, hZ9⟩ := hZ9
              obtain ⟨hO574, hZ9⟩ := hZ9
              obtain ⟨hA587, hZ9⟩ := hZ9
              obtain ⟨hA589, hZ9⟩ := hZ9
              obtain ⟨hA591, hZ9⟩ := hZ9
              obtain ⟨hA593, hZ9⟩ := hZ9
              obtain ⟨hA595, hZ9⟩ := hZ9
              obtain ⟨b596, hZ9⟩ := hZ9
              obtain ⟨b597, hZ9⟩ := hZ9
              obtain ⟨b598, hZ9⟩ := hZ9
              replace hZ9 := hZ9.2.2.2.2
              obtain ⟨b603, hZ9⟩ := hZ9
              obtain ⟨b604, hZ9⟩ := hZ9
              replace hZ9 := hZ9.2
              obtain ⟨b606, hZ9⟩ := hZ9
              obtain ⟨b607, hZ9⟩ := hZ9
              obtain ⟨b608, hZ9⟩ := hZ9
              obtain ⟨b609, hZ9⟩ := hZ9
              obtain ⟨b610, hZ9⟩ := hZ9
              obtain ⟨b611, hZ9⟩ := hZ9
              obtain ⟨b612, hZ9⟩ := hZ9
              replace hZ9 := hZ9.2
              obtain ⟨b614, hZ9⟩ := hZ9
              obtain ⟨b615, hZ9⟩ := hZ9
              obtain ⟨b616, hZ9⟩ := hZ9
              obtain ⟨b617, hE618⟩ := hZ9
              replace hO574 : u572[134]? = (some (q 134, .inr (14, [.int y575, .ref (q 135), .int y576, .ref (q 136), .ref (q 137), .ref (q 138), .ref (q 139), .ref (q 140), .int y577, .long y578, .int y579, .int y580, .ref (q 141), .int y581, .ref (q 142), .int y582, .ref (q 143), .int y583, .ref (q 144), .int y584, .int y585])) : Option (Nat × va_E)) := hO574
              replace hA587 : u572[136]? = (some (q 136, .inl (g 0, (10000 : Int32).toNatClampNeg, .inl f586)) : Option (Nat × va_E)) := hA587
              replace hA589 : u572[137]? = (some (q 137, .inl (g 0, (10 : Int32).toNatClampNeg, .inl f588)) : Option (Nat × va_E)) := hA589
              replace hA591 : u572[138]? = (some (q 138, .inl (g 3, 10, .inl f590)) : Option (Nat × va_E)) := hA591
              replace hA593 : u572[139]? = (some (q 139, .inl (g 0, (10 : Int32).toNatClampNeg, .inl f592)) : Option (Nat × va_E)) := hA593
              replace hA595 : u572[140]? = (some (q 140, .inl (g 0, (4400 : Int32).toNatClampNeg, .inl f594)) : Option (Nat × va_E)) := hA595
              obtain ⟨p620, e621⟩ : ∃ z, z = (F_DR_store x5 y518 y519 y520 y521 y522 y523 y524 y525 y526 y527 y528 t1_0 t2_0 t3_0 t4_0 f529) := ⟨_, rfl⟩
              have e622 : y575 = p620.1 := congrArg (fun z => z.1) (hE618.trans e621.symm)
              have e623 : y576 = p620.2.1 := congrArg (fun z => z.2.1) (hE618.trans e621.symm)
              have e624 : y577 = p620.2.2.1 := congrArg (fun z => z.2.2.1) (hE618.trans e621.symm)
              have e625 : y578 = p620.2.2.2.1 := congrArg (fun z => z.2.2.2.1) (hE618.trans e621.symm)
              have e626 : y579 = p620.2.2.2.2.1 := congrArg (fun z => z.2.2.2.2.1) (hE618.trans e621.symm)
              have e627 : y580 = p620.2.2.2.2.2.1 := congrArg (fun z => z.2.2.2.2.2.1) (hE618.trans e621.symm)
              have e628 : y581 = p620.2.2.2.2.2.2.1 := congrArg (fun z => z.2.2.2.2.2.2.1) (hE618.trans e621.symm)
              have e629 : y582 = p620.2.2.2.2.2.2.2.1 := congrArg (fun z => z.2.2.2.2.2.2.2.1) (hE618.trans e621.symm)
              have e630 : y583 = p620.2.2.2.2.2.2.2.2.1 := congrArg (fun z => z.2.2.2.2.2.2.2.2.1) (hE618.trans e621.symm)
              have e631 : y584 = p620.2.2.2.2.2.2.2.2.2.1 := congrArg (fun z => z.2.2.2.2.2.2.2.2.2.1) (hE618.trans e621.symm)
              have e632 : y585 = p620.2.2.2.2.2.2.2.2.2.2.1 := congrArg (fun z => z.2.2.2.2.2.2.2.2.2.2.1) (hE618.trans e621.symm)
              have e633 : f586 = p620.2.2.2.2.2.2.2.2.2.2.2.1 := congrArg (fun z => z.2.2.2.2.2.2.2.2.2.2.2.1) (hE618.trans e621.symm)
              have e634 : f588 = p620.2.2.2.2.2.2.2.2.2.2.2.2.1 := congrArg (fun z => z.2.2.2.2.2.2.2.2.2.2.2.2.1) (hE618.trans e621.symm)
              have e635 : f590 = p620.2.2.2.2.2.2.2.2.2.2.2.2.2.1 := congrArg (fun z => z.2.2.2.2.2.2.2.2.2.2.2.2.2.1) (hE618.trans e621.symm)
              have e636 : f592 = p620.2.2.2.2.2.2.2.2.2.2.2.2.2.2.1 := congrArg (fun z => z.2.2.2.2.2.2.2.2.2.2.2.2.2.2.1) (hE618.trans e621.symm)
              have e637 : f594 = p620.2.2.2.2.2.2.2.2.2.2.2.2.2.2.2 := congrArg (fun z => z.2.2.2.2.2.2.2.2.2.2.2.2.2.2.2) (hE618.trans e621.symm)
              replace b596 : q_F (0 ≤ y580.toInt) := b596
              replace b597 : q_F (y519.toInt ≤ y576.toInt) := b597
              replace b598 : q_F (y576.toInt ≤ y519.toInt) := b598
              replace b603 : q_F (y522.toInt ≤ y579.toInt) := b603
              replace b604 : q_F (y579.toInt ≤ y522.toInt) := b604
              replace b606 : q_F (y580.toInt ≤ y523.toInt) := b606
              replace b607 : q_F (y524.toInt ≤ y581.toInt) := b607
              replace b608 : q_F (y581.toInt ≤ y524.toInt) := b608
              replace b609 : q_F (y525.toInt ≤ y582.toInt) := b609
              replace b610 : q_F (y582.toInt ≤ y525.toInt) := b610
              replace b611 : q_F (y526.toInt ≤ y583.toInt) := b611
              replace b612 : q_F (y583.toInt ≤ y526.toInt) := b612
              replace b614 : q_F (y527.toInt ≤ y584.toInt) := b614
              replace b615 : q_F (y584.toInt ≤ y527.toInt) := b615
              replace b616 : q_F (y528.toInt ≤ y585.toInt) := b616
              replace b617 : q_F (y585.toInt ≤ y528.toInt) := b617
              replace hF := q_uc hF hu619 (by simp)
              have hR638 := (show F_DR_toPrecision_c125_10 x2 x3 x4 x5 t0_0 t0_1 t0_2 t0_3 t0_4 t0_5 t0_6 t0_7 t0_8 t0_9 t0_10 t1_0 t2_0 t3_0 t4_0 t5_0 p75 y36 y37 y38 y39 y40 y41 y42 y43 y44 y45 y46 f47 j511 a111 p552 p620 = (F_DR_toPrecision x2 x3 x4 x5 t0_0 t0_1 t0_2 t0_3 t0_4 t0_5 t0_6 t0_7 t0_8 t0_9 t0_10 t1_0 t2_0 t3_0 t4_0 t5_0) from Eq.trans (by rw [e621, e565, e564, e563, e562, e561, e560, e559, e558, e557, e556, e555, e554, F_DR_toPrecision_c119_9.eq_1]) hR566)
              have hS639 := (show True ∧ S_DR_toPrecision_c125_10 x2 x3 x4 x5 t0_0 t0_1 t0_2 t0_3 t0_4 t0_5 t0_6 t0_7 t0_8 t0_9 t0_10 t1_0 t2_0 t3_0 t4_0 t5_0 p75 y36 y37 y38 y39 y40 y41 y42 y43 y44 y45 y46 f47 j511 a111 p552 p620 from (by rw [e621, e565, e564, e563, e562, e561, e560, e559, e558, e557, e556, e555, e554]; have h := hS567; rw [S_DR_toPrecision_c119_9.eq_1] at h; replace h := q_s2 h; with_reducible exact h))
              exact q_retv C0 V (⟨hI, hF, y575, y576, y577, y578, y579, y580, y581, y582, y583, y584, y585, f586, f588, f590, f592, f594, hO574, hA587, hA589, hA591, hA593, hA595, (show 0 ≤ y579.toInt from (by have t1 : y40.toInt = 0 := b347; have t2 : y40.toInt ≤ y522.toInt := b536; have t3 : y522.toInt ≤ y579.toInt := b603; omega)), (show 0 ≤ y580.toInt from (by first | with_reducible exact q_fe b596 | (have t1 : 0 ≤ y580.toInt := b596; omega))), (show t0_1.toInt ≤ y576.toInt from (by have t1 : t0_1.toInt ≤ y37.toInt := b52; have t2 : y37.toInt ≤ y519.toInt := b533; have t3 : y519.toInt ≤ y576.toInt := b597; omega)), (show y576.toInt ≤ t0_1.toInt from (by have t1 : y37.toInt ≤ t0_1.toInt := b53; have t2 : y519.toInt ≤ y37.toInt := b534; have t3 : y576.toInt ≤ y519.toInt := b598; omega)), (show t0_2.toInt ≤ y576.toInt + 24400 from (by have t1 : t0_2.toInt ≤ y37.toInt + 24400 := b54; have t2 : y37.toInt ≤ y519.toInt := b533; have t3 : y519.toInt ≤ y576.toInt := b597; omega)), (show t0_2.toInt ≤ y579.toInt + 24401 from (by have t1 : t0_2.toInt ≤ y40.toInt + 24400 := b57; have t2 : y40.toInt ≤ y522.toInt := b536; have t3 : y522.toInt ≤ y579.toInt := b603; omega)), (show y579.toInt ≤ t0_4.toInt from (by have t1 : y40.toInt ≤ t0_4.toInt := b59; have t2 : y522.toInt ≤ y40.toInt := b537; have t3 : y579.toInt ≤ y522.toInt := b604; omega)), (show t0_2.toInt ≤ y580.toInt + 24401 from (by have t1 : t0_2.toInt ≤ y40.toInt + 24400 := b57; have t2 : y40.toInt = 0 := b347; have t3 : 0 ≤ y580.toInt := b596; omega)), (show y580.toInt ≤ t0_5.toInt from (by have t1 : y41.toInt ≤ t0_5.toInt := b61; have t2 : y523.toInt ≤ y41.toInt := b539; have t3 : y580.toInt ≤ y523.toInt := b606; omega)), (show t0_6.toInt ≤ y581.toInt from (by have t1 : t0_6.toInt ≤ y42.toInt := b62; have t2 : y42.toInt ≤ y524.toInt := b540; have t3 : y524.toInt ≤ y581.toInt := b607; omega)), (show y581.toInt ≤ t0_6.toInt from (by have t1 : y42.toInt ≤ t0_6.toInt := b63; have t2 : y524.toInt ≤ y42.toInt := b541; have t3 : y581.toInt ≤ y524.toInt := b608; omega)), (show t0_7.toInt ≤ y582.toInt from (by have t1 : t0_7.toInt ≤ y43.toInt := b64; have t2 : y43.toInt ≤ y525.toInt := b542; have t3 : y525.toInt ≤ y582.toInt := b609; omega)), (show y582.toInt ≤ t0_7.toInt from (by have t1 : y43.toInt ≤ t0_7.toInt := b65; have t2 : y525.toInt ≤ y43.toInt := b543; have t3 : y582.toInt ≤ y525.toInt := b610; omega)), (show t0_8.toInt ≤ y583.toInt from (by have t1 : t0_8.toInt ≤ y44.toInt := b66; have t2 : y44.toInt ≤ y526.toInt := b544; have t3 : y526.toInt ≤ y583.toInt := b611; omega)), (show y583.toInt ≤ t0_8.toInt from (by have t1 : y44.toInt ≤ t0_8.toInt := b67; have t2 : y526.toInt ≤ y44.toInt := b545; have t3 : y583.toInt ≤ y526.toInt := b612; omega)), (show t0_2.toInt ≤ y584.toInt + 24400 from (by have t1 : t0_2.toInt ≤ y45.toInt + 24400 := b68; have t2 : y45.toInt ≤ y527.toInt := b546; have t3 : y527.toInt ≤ y584.toInt := b614; omega)), (show t0_9.toInt ≤ y584.toInt from (by have t1 : t0_9.toInt ≤ y45.toInt := b69; have t2 : y45.toInt ≤ y527.toInt := b546; have t3 : y527.toInt ≤ y584.toInt := b614; omega)), (show y584.toInt ≤ t0_9.toInt from (by have t1 : y45.toInt ≤ t0_9.toInt := b70; have t2 : y527.toInt ≤ y45.toInt := b547; have t3 : y584.toInt ≤ y527.toInt := b615; omega)), (show t0_10.toInt ≤ y585.toInt from (by have t1 : t0_10.toInt ≤ y46.toInt := b71; have t2 : y46.toInt ≤ y528.toInt := b548; have t3 : y528.toInt ≤ y585.toInt := b616; omega)), (show y585.toInt ≤ t0_10.toInt from (by have t1 : y46.toInt ≤ t0_10.toInt := b72; have t2 : y528.toInt ≤ y46.toInt := b549; have t3 : y585.toInt ≤ y528.toInt := b617; omega)), (show (y575, y576, y577, y578, y579, y580, y581, y582, y583, y584, y585, f586, f588, f590, f592, f594) = (F_DR_toPrecision x2 x3 x4 x5 t0_0 t0_1 t0_2 t0_3 t0_4 t0_5 t0_6 t0_7 t0_8 t0_9 t0_10 t1_0 t2_0 t3_0 t4_0 t5_0) from Eq.trans (by rw [e637, e636, e635, e634, e633, e632, e631, e630, e629, e628, e627, e626, e625, e624, e623, e622, F_DR_toPrecision_c125_10.eq_1]) hR638)⟩) d_15_15_128
          ·
            refine lv_lconst (v := 0) hx hb d_15_15_89 (by decide) ?_
            refine lv_goto (tgt := 114) hx hb d_15_15_90 (by decide) ?_
            refine lv_lstore (lv' := [(7, .long 0), (6, .int a111), (0, .ref (q 134)), (1, .int x2), (2, .long x3), (4, .int x4), (5, .int x5)]) hx hb d_15_15_114 hl (by decide) rfl (fun ls hl => ?_)
            refine lv_aload_n hx hb d_15_15_116 rfl (lv_at hl 2 rfl) ?_
            refine lv_lload hx hb d_15_15_117 (lv_at hl 0 rfl) ?_
            have ob644 : True ∧ S_DR_lengthen (0 : Int64) y36 y37 a111 j356 y40 y41 y42 y43 y44 y45 y46 f47 := (by rw [← e357, ← e354, ← e352, e115]; have h := hS104; rw [S_DR_toPrecision_J32.eq_1] at h; replace h := q_s2 h; rw [if_pos c345] at h; have c348x := c348; rw [e115] at c348x; rw [if_neg c348x] at h; have c367x := c367; rw [← e365, ← e363, ← e357, ← e354, ← e352, e115] at c367x; rw [if_neg c367x] at h; with_reducible exact h.2.1)
            refine q_gov V (q_runV (As := [.long 0]) (rest := []) (d := 1) (mc := 0) (ms := 0) (ci := 14) C0 V rfl LV_DR_79 (X_DR_lengthen l D g q w360  0 hI y36 y37 a111 j356 y40 y41 y42 y43 y44 y45 y46 hO35 f47 hA48 ob644 _) rfl rfl hO35 rfl hl.1 rfl (Nat.le_of_ble_eq_true rfl) ⟨by decide, by decide⟩ ⟨Nat.le_of_ble_eq_true rfl, Nat.le_of_ble_eq_true rfl⟩ d_15_15_119) (fun u645 H locs hp646 V => ?_)
            obtain ⟨hI, hZ9⟩ := hp646
            obtain ⟨hu681, hZ9⟩ := hZ9
            obtain ⟨y648, hZ9⟩ := hZ9
            obtain ⟨y649, hZ9⟩ := hZ9
            obtain ⟨y650, hZ9⟩ := hZ9
            obtain ⟨y651, hZ9⟩ := hZ9
            obtain ⟨y652, hZ9⟩ := hZ9
            obtain ⟨y653, hZ9⟩ := hZ9
            obtain ⟨y654, hZ9⟩ := hZ9
            obtain ⟨y655, hZ9⟩ := hZ9
            obtain ⟨y656, hZ9⟩ := hZ9
            obtain ⟨y657, hZ9⟩ := hZ9
            obtain ⟨y658, hZ9⟩ := hZ9
            obtain ⟨f659, hZ9⟩ := hZ9
            obtain ⟨hO647, hZ9⟩ := hZ9
            obtain ⟨hA660, hZ9⟩ := hZ9
            replace hZ9 := hZ9.2.2
            obtain ⟨b663, hZ9⟩ := hZ9
            obtain ⟨b664, hZ9⟩ := hZ9
            replace hZ9 := hZ9.2
            obtain ⟨b666, hZ9⟩ := hZ9
            obtain ⟨b667, hZ9⟩ := hZ9
            replace hZ9 := hZ9.2
            obtain ⟨b669, hZ9⟩ := hZ9
            obtain ⟨b670, hZ9⟩ := hZ9
            obtain ⟨b671, hZ9⟩ := hZ9
            obtain ⟨b672, hZ9⟩ := hZ9
            obtain ⟨b673, hZ9⟩ := hZ9
            obtain ⟨b674, hZ9⟩ := hZ9
            obtain ⟨b675, hZ9⟩ := hZ9
            obtain ⟨b676, hZ9⟩ := hZ9
            obtain ⟨b677, hZ9⟩ := hZ9
            obtain ⟨b678, hZ9⟩ := hZ9
            obtain ⟨b679, hE680⟩ := hZ9
            replace hO647 : u645[134]? = (some (q 134, .inr (14, [.int y648, .ref (q 135), .int y649, .ref (q 136), .ref (q 137), .ref (q 138), .ref (q 139), .ref (q 140), .int y650, .long y651, .int y652, .int y653, .ref (q 141), .int y654, .ref (q 142), .int y655, .ref (q 143), .int y656, .ref (q 144), .int y657, .int y658])) : Option (Nat × va_E)) := hO647
            replace hA660 : u645[140]? = (some (q 140, .inl (g 0, (4400 : Int32).toNatClampNeg, .inl f659)) : Option (Nat × va_E)) := hA660
            obtain ⟨p682, e683⟩ : ∃ z, z = (F_DR_lengthen (0 : Int64) y36 y37 a111 j356 y40 y41 y42 y43 y44 y45 y46 f47) := ⟨_, rfl⟩
            have e684 : y648 = p682.1 := congrArg (fun z => z.1) (hE680.trans e683.symm)
            have e685 : y649 = p682.2.1 := congrArg (fun z => z.2.1) (hE680.trans e683.symm)
            have e686 : y650 = p682.2.2.1 := congrArg (fun z => z.2.2.1) (hE680.trans e683.symm)
            have e687 : y651 = p682.2.2.2.1 := congrArg (fun z => z.2.2.2.1) (hE680.trans e683.symm)
            have e688 : y652 = p682.2.2.2.2.1 := congrArg (fun z => z.2.2.2.2.1) (hE680.trans e683.symm)
            have e689 : y653 = p682.2.2.2.2.2.1 := congrArg (fun z => z.2.2.2.2.2.1) (hE680.trans e683.symm)
            have e690 : y654 = p682.2.2.2.2.2.2.1 := congrArg (fun z => z.2.2.2.2.2.2.1) (hE680.trans e683.symm)
            have e691 : y655 = p682.2.2.2.2.2.2.2.1 := congrArg (fun z => z.2.2.2.2.2.2.2.1) (hE680.trans e683.symm)
            have e692 : y656 = p682.2.2.2.2.2.2.2.2.1 := congrArg (fun z => z.2.2.2.2.2.2.2.2.1) (hE680.trans e683.symm)
            have e693 : y657 = p682.2.2.2.2.2.2.2.2.2.1 := congrArg (fun z => z.2.2.2.2.2.2.2.2.2.1) (hE680.trans e683.symm)
            have e694 : y658 = p682.2.2.2.2.2.2.2.2.2.2.1 := congrArg (fun z => z.2.2.2.2.2.2.2.2.2.2.1) (hE680.trans e683.symm)
            have e695 : f659 = p682.2.2.2.2.2.2.2.2.2.2.2 := congrArg (fun z => z.2.2.2.2.2.2.2.2.2.2.2) (hE680.trans e683.symm)
            replace b663 : q_F (y37.toInt ≤ y649.toInt) := b663
            replace b664 : q_F (y649.toInt ≤ y37.toInt) := b664
            replace b666 : q_F (y40.toInt ≤ y652.toInt) := b666
            replace b667 : q_F (y652.toInt ≤ y40.toInt) := b667
            replace b669 : q_F (y653.toInt ≤ y41.toInt) := b669
            replace b670 : q_F (y42.toInt ≤ y654.toInt) := b670
            replace b671 : q_F (y654.toInt ≤ y42.toInt) := b671
            replace b672 : q_F (y43.toInt ≤ y655.toInt) := b672
            replace b673 : q_F (y655.toInt ≤ y43.toInt) := b673
            replace b674 : q_F (y44.toInt ≤ y656.toInt) := b674
            replace b675 : q_F (y656.toInt ≤ y44.toInt) := b675
            replace b676 : q_F (y45.toInt ≤ y657.toInt) := b676
            replace b677 : q_F (y657.toInt ≤ y45.toInt) := b677
            replace b678 : q_F (y46.toInt ≤ y658.toInt) := b678
            replace b679 : q_F (y658.toInt ≤ y46.toInt) := b679
            replace hT1 := (hu681 _ (by decide)).trans hT1
            replace hT2 := (hu681 _ (by decide)).trans hT2
            replace hT3 := (hu681 _ (by decide)).trans hT3
            replace hT4 := (hu681 _ (by decide)).trans hT4
            replace hF := q_uc hF hu681 (by simp)
            have hR696 := (show F_DR_toPrecision_c119_11 x2 x3 x4 x5 t0_0 t0_1 t0_2 t0_3 t0_4 t0_5 t0_6 t0_7 t0_8 t0_9 t0_10 t1_0 t2_0 t3_0 t4_0 t5_0 p75 y36 y37 y38 y39 y40 y41 y42 y43 y44 y45 y46 f47 a111 p682 = (F_DR_toPrecision x2 x3 x4 x5 t0_0 t0_1 t0_2 t0_3 t0_4 t0_5 t0_6 t0_7 t0_8 t0_9 t0_10 t1_0 t2_0 t3_0 t4_0 t5_0) from Eq.trans (by have c348x := c348; rw [e115] at c348x; have c367x := c367; rw [← e365, ← e363, ← e357, ← e354, ← e352, e115] at c367x; rw [e683, ← e357, ← e354, ← e352, e115, F_DR_toPrecision_J32.eq_1, if_pos c345, if_neg c348x, if_neg c367x]) hR103)
            have hS697 := (show True ∧ S_DR_toPrecision_c119_11 x2 x3 x4 x5 t0_0 t0_1 t0_2 t0_3 t0_4 t0_5 t0_6 t0_7 t0_8 t0_9 t0_10 t1_0 t2_0 t3_0 t4_0 t5_0 p75 y36 y37 y38 y39 y40 y41 y42 y43 y44 y45 y46 f47 a111 p682 from (by rw [e683, ← e357, ← e354, ← e352, e115]; have h := hS104; rw [S_DR_toPrecision_J32.eq_1] at h; replace h := q_s2 h; rw [if_pos c345] at h; have c348x := c348; rw [e115] at c348x; rw [if_neg c348x] at h; have c367x := c367; rw [← e365, ← e363, ← e357, ← e354, ← e352, e115] at c367x; rw [if_neg c367x] at h; replace h := q_s2 h; with_reducible exact h))
            refine lv_aload_n hx hb d_15_15_122 rfl (lv_at hl 2 rfl) ?_
            refine lv_iload hx hb d_15_15_123 (lv_at hl 6 rfl) ?_
            have ob701 : True ∧ S_DR_store x5 y648 y649 y650 y651 y652 y653 y654 y655 y656 y657 y658 t1_0 t2_0 t3_0 t4_0 f659 := (by rw [e695, e694, e693, e692, e691, e690, e689, e688, e687, e686, e685, e684]; have h := hS697; rw [S_DR_toPrecision_c119_11.eq_1] at h; with_reducible exact h.2.1)
            refine q_gov V (q_runV (As := [.int x5]) (rest := []) (d := 2) (mc := 0) (ms := 0) (ci := 14) C0 V rfl LV_DR_89 (X_DR_store l D g q u645  x5 hI y648 y649 y650 y651 y652 y653 y654 y655 y656 y657 y658 hO647 t1_0 hT1 t2_0 hT2 t3_0 hT3 t4_0 hT4 f659 hA660 ob701 _) rfl rfl hO647 rfl hl.1 rfl (Nat.le_of_ble_eq_true rfl) ⟨by decide, by decide⟩ ⟨Nat.le_of_ble_eq_true rfl, Nat.le_of_ble_eq_true rfl⟩ d_15_15_125) (fun u702 H locs hp703 V => ?_)
            obtain ⟨hI, hZ9⟩ := hp703
            obtain ⟨hu749, hZ9⟩ := hZ9
            obtain ⟨y705, hZ9⟩ := hZ9
            obtain ⟨y706, hZ9⟩ := hZ9
            obtain ⟨y707, hZ9⟩ := hZ9
            obtain ⟨y708, hZ9⟩ := hZ9
            obtain ⟨y709, hZ9⟩ := hZ9
            obtain ⟨y710, hZ9⟩ := hZ9
            obtain ⟨y711, hZ9⟩ := hZ9
            obtain ⟨y712, hZ9⟩ := hZ9
            obtain ⟨y713, hZ9⟩ := hZ9
            obtain ⟨y714, hZ9⟩ := hZ9
            obtain ⟨y715, hZ9⟩ := hZ9
            obtain ⟨f716, hZ9⟩ := hZ9
            obtain ⟨f718, hZ9⟩ := hZ9
            obtain ⟨f720, hZ9⟩ := hZ9
            obtain ⟨f722, hZ9⟩ := hZ9
            obtain ⟨f724, hZ9⟩ := hZ9
            obtain ⟨hO704, hZ9⟩ := hZ9
            obtain ⟨hA717, hZ9⟩ := hZ9
            obtain ⟨hA719, hZ9⟩ := hZ9
            obtain ⟨hA721, hZ9⟩ := hZ9
            obtain ⟨hA723, hZ9⟩ := hZ9
            obtain ⟨hA725, hZ9⟩ := hZ9
            obtain ⟨b726, hZ9⟩ := hZ9
            obtain ⟨b727, hZ9⟩ := hZ9
            obtain ⟨b728, hZ9⟩ := hZ9
            replace hZ9 := hZ9.2.2.2.2
            obtain ⟨b733, hZ9⟩ := hZ9
            obtain ⟨b734, hZ9⟩ := hZ9
            replace hZ9 := hZ9.2
            obtain ⟨b736, hZ9⟩ := hZ9
            obtain ⟨b737, hZ9⟩ := hZ9
            obtain ⟨b738, hZ9⟩ := hZ9
            obtain ⟨b739, hZ9⟩ := hZ9
            obtain ⟨b740, hZ9⟩ := hZ9
            obtain ⟨b741, hZ9⟩ := hZ9
            obtain ⟨b742, hZ9⟩ := hZ9
            replace hZ9 := hZ9.2
            obtain ⟨b744, hZ9⟩ := hZ9
            obtain ⟨b745, hZ9⟩ := hZ9
            obtain ⟨b746, hZ9⟩ := hZ9
            obtain ⟨b747, hE748⟩ := hZ9
            replace hO704 : u702[134]? = (some (q 134, .inr (14, [.int y705, .ref (q 135), .int y706, .ref (q 136), .ref (q 137), .ref (q 138), .ref (q 139), .ref (q 140), .int y707, .long y708, .int y709, .int y710, .ref (q 141), .int y711, .ref (q 142), .int y712, .ref (q 143), .int y713, .ref (q 144), .int y714, .int y715])) : Option (Nat × va_E)) := hO704
            replace hA717 : u702[136]? = (some (q 136, .inl (g 0, (10000 : Int32).toNatClampNeg, .inl f716)) : Option (Nat × va_E)) := hA717
            replace hA719 : u702[137]? = (some (q 137, .inl (g 0, (10 : Int32).toNatClampNeg, .inl f718)) : Option (Nat × va_E)) := hA719
            replace hA721 : u702[138]? = (some (q 138, .inl (g 3, 10, .inl f720)) : Option (Nat × va_E)) := hA721
            replace hA723 : u702[139]? = (some (q 139, .inl (g 0, (10 : Int32).toNatClampNeg, .inl f722)) : Option (Nat × va_E)) := hA723
            replace hA725 : u702[140]? = (some (q 140, .inl (g 0, (4400 : Int32).toNatClampNeg, .inl f724)) : Option (Nat × va_E)) := hA725
            obtain ⟨p750, e751⟩ : ∃ z, z = (F_DR_store x5 y648 y649 y650 y651 y652 y653 y654 y655 y656 y657 y658 t1_0 t2_0 t3_0 t4_0 f659) := ⟨_, rfl⟩
            have e752 : y705 = p750.1 := congrArg (fun z => z.1) (hE748.trans e751.symm)
            have e753 : y706 = p750.2.1 := congrArg (fun z => z.2.1) (hE748.trans e751.symm)
            have e754 : y707 = p750.2.2.1 := congrArg (fun z => z.2.2.1) (hE748.trans e751.symm)
            have e755 : y708 = p750.2.2.2.1 := congrArg (fun z => z.2.2.2.1) (hE748.trans e751.symm)
            have e756 : y709 = p750.2.2.2.2.1 := congrArg (fun z => z.2.2.2.2.1) (hE748.trans e751.symm)
            have e757 : y710 = p750.2.2.2.2.2.1 := congrArg (fun z => z.2.2.2.2.2.1) (hE748.trans e751.symm)
            have e758 : y711 = p750.2.2.2.2.2.2.1 := congrArg (fun z => z.2.2.2.2.2.2.1) (hE748.trans e751.symm)
            have e759 : y712 = p750.2.2.2.2.2.2.2.1 := congrArg (fun z => z.2.2.2.2.2.2.2.1) (hE748.trans e751.symm)
            have e760 : y713 = p750.2.2.2.2.2.2.2.2.1 := congrArg (fun z => z.2.2.2.2.2.2.2.2.1) (hE748.trans e751.symm)
            have e761 : y714 = p750.2.2.2.2.2.2.2.2.2.1 := congrArg (fun z => z.2.2.2.2.2.2.2.2.2.1) (hE748.trans e751.symm)
            have e762 : y715 = p750.2.2.2.2.2.2.2.2.2.2.1 := congrArg (fun z => z.2.2.2.2.2.2.2.2.2.2.1) (hE748.trans e751.symm)
            have e763 : f716 = p750.2.2.2.2.2.2.2.2.2.2.2.1 := congrArg (fun z => z.2.2.2.2.2.2.2.2.2.2.2.1) (hE748.trans e751.symm)
            have e764 : f718 = p750.2.2.2.2.2.2.2.2.2.2.2.2.1 := congrArg (fun z => z.2.2.2.2.2.2.2.2.2.2.2.2.1) (hE748.trans e751.symm)
            have e765 : f720 = p750.2.2.2.2.2.2.2.2.2.2.2.2.2.1 := congrArg (fun z => z.2.2.2.2.2.2.2.2.2.2.2.2.2.1) (hE748.trans e751.symm)
            have e766 : f722 = p750.2.2.2.2.2.2.2.2.2.2.2.2.2.2.1 := congrArg (fun z => z.2.2.2.2.2.2.2.2.2.2.2.2.2.2.1) (hE748.trans e751.symm)
            have e767 : f724 = p750.2.2.2.2.2.2.2.2.2.2.2.2.2.2.2 := congrArg (fun z => z.2.2.2.2.2.2.2.2.2.2.2.2.2.2.2) (hE748.trans e751.symm)
            replace b726 : q_F (0 ≤ y710.toInt) := b726
            replace b727 : q_F (y649.toInt ≤ y706.toInt) := b727
            replace b728 : q_F (y706.toInt ≤ y649.toInt) := b728
            replace b733 : q_F (y652.toInt ≤ y709.toInt) := b733
            replace b734 : q_F (y709.toInt ≤ y652.toInt) := b734
            replace b736 : q_F (y710.toInt ≤ y653.toInt) := b736
            replace b737 : q_F (y654.toInt ≤ y711.toInt) := b737
            replace b738 : q_F (y711.toInt ≤ y654.toInt) := b738
            replace b739 : q_F (y655.toInt ≤ y712.toInt) := b739
            replace b740 : q_F (y712.toInt ≤ y655.toInt) := b740
            replace b741 : q_F (y656.toInt ≤ y713.toInt) := b741
            replace b742 : q_F (y713.toInt ≤ y656.toInt) := b742
            replace b744 : q_F (y657.toInt ≤ y714.toInt) := b744
            replace b745 : q_F (y714.toInt ≤ y657.toInt) := b745
            replace b746 : q_F (y658.toInt ≤ y715.toInt) := b746
            replace b747 : q_F (y715.toInt ≤ y658.toInt) := b747
            replace hF := q_uc hF hu749 (by simp)
            have hR768 := (show F_DR_toPrecision_c125_12 x2 x3 x4 x5 t0_0 t0_1 t0_2 t0_3 t0_4 t0_5 t0_6 t0_7 t0_8 t0_9 t0_10 t1_0 t2_0 t3_0 t4_0 t5_0 p75 y36 y37 y38 y39 y40 y41 y42 y43 y44 y45 y46 f47 a111 p682 p750 = (F_DR_toPrecision x2 x3 x4 x5 t0_0 t0_1 t0_2 t0_3 t0_4 t0_5 t0_6 t0_7 t0_8 t0_9 t0_10 t1_0 t2_0 t3_0 t4_0 t5_0) from Eq.trans (by rw [e751, e695, e694, e693, e692, e691, e690, e689, e688, e687, e686, e685, e684, F_DR_toPrecision_c119_11.eq_1]) hR696)
            have hS769 := (show True ∧ S_DR_toPrecision_c125_12 x2 x3 x4 x5 t0_0 t0_1 t0_2 t0_3 t0_4 t0_5 t0_6 t0_7 t0_8 t0_9 t0_10 t1_0 t2_0 t3_0 t4_0 t5_0 p75 y36 y37 y38 y39 y40 y41 y42 y43 y44 y45 y46 f47 a111 p682 p750 from (by rw [e751, e695, e694, e693, e692, e691, e690, e689, e688, e687, e686, e685, e684]; have h := hS697; rw [S_DR_toPrecision_c119_11.eq_1] at h; replace h := q_s2 h; with_reducible exact h))
            exact q_retv C0 V (⟨hI, hF, y705, y706, y707, y708, y709, y710, y711, y712, y713, y714, y715, f716, f718, f720, f722, f724, hO704, hA717, hA719, hA721, hA723, hA725, (show 0 ≤ y709.toInt from (by have t1 : y40.toInt = 0 := b347; have t2 : y40.toInt ≤ y652.toInt := b666; have t3 : y652.toInt ≤ y709.toInt := b733; omega)), (show 0 ≤ y710.toInt from (by first | with_reducible exact q_fe b726 | (have t1 : 0 ≤ y710.toInt := b726; omega))), (show t0_1.toInt ≤ y706.toInt from (by have t1 : t0_1.toInt ≤ y37.toInt := b52; have t2 : y37.toInt ≤ y649.toInt := b663; have t3 : y649.toInt ≤ y706.toInt := b727; omega)), (show y706.toInt ≤ t0_1.toInt from (by have t1 : y37.toInt ≤ t0_1.toInt := b53; have t2 : y649.toInt ≤ y37.toInt := b664; have t3 : y706.toInt ≤ y649.toInt := b728; omega)), (show t0_2.toInt ≤ y706.toInt + 24400 from (by have t1 : t0_2.toInt ≤ y37.toInt + 24400 := b54; have t2 : y37.toInt ≤ y649.toInt := b663; have t3 : y649.toInt ≤ y706.toInt := b727; omega)), (show t0_2.toInt ≤ y709.toInt + 24401 from (by have t1 : t0_2.toInt ≤ y40.toInt + 24400 := b57; have t2 : y40.toInt ≤ y652.toInt := b666; have t3 : y652.toInt ≤ y709.toInt := b733; omega)), (show y709.toInt ≤ t0_4.toInt from (by have t1 : y40.toInt ≤ t0_4.toInt := b59; have t2 : y652.toInt ≤ y40.toInt := b667; have t3 : y709.toInt ≤ y652.toInt := b734; omega)), (show t0_2.toInt ≤ y710.toInt + 24401 from (by have t1 : t0_2.toInt ≤ y40.toInt + 24400 := b57; have t2 : y40.toInt = 0 := b347; have t3 : 0 ≤ y710.toInt := b726; omega)), (show y710.toInt ≤ t0_5.toInt from (by have t1 : y41.toInt ≤ t0_5.toInt := b61; have t2 : y653.toInt ≤ y41.toInt := b669; have t3 : y710.toInt ≤ y653.toInt := b736; omega)), (show t0_6.toInt ≤ y711.toInt from (by have t1 : t0_6.toInt ≤ y42.toInt := b62; have t2 : y42.toInt ≤ y654.toInt := b670; have t3 : y654.toInt ≤ y711.toInt := b737; omega)), (show y711.toInt ≤ t0_6.toInt from (by have t1 : y42.toInt ≤ t0_6.toInt := b63; have t2 : y654.toInt ≤ y42.toInt := b671; have t3 : y711.toInt ≤ y654.toInt := b738; omega)), (show t0_7.toInt ≤ y712.toInt from (by have t1 : t0_7.toInt ≤ y43.toInt := b64; have t2 : y43.toInt ≤ y655.toInt := b672; have t3 : y655.toInt ≤ y712.toInt := b739; omega)), (show y712.toInt ≤ t0_7.toInt from (by have t1 : y43.toInt ≤ t0_7.toInt := b65; have t2 : y655.toInt ≤ y43.toInt := b673; have t3 : y712.toInt ≤ y655.toInt := b740; omega)), (show t0_8.toInt ≤ y713.toInt from (by have t1 : t0_8.toInt ≤ y44.toInt := b66; have t2 : y44.toInt ≤ y656.toInt := b674; have t3 : y656.toInt ≤ y713.toInt := b741; omega)), (show y713.toInt ≤ t0_8.toInt from (by have t1 : y44.toInt ≤ t0_8.toInt := b67; have t2 : y656.toInt ≤ y44.toInt := b675; have t3 : y713.toInt ≤ y656.toInt := b742; omega)), (show t0_2.toInt ≤ y714.toInt + 24400 from (by have t1 : t0_2.toInt ≤ y45.toInt + 24400 := b68; have t2 : y45.toInt ≤ y657.toInt := b676; have t3 : y657.toInt ≤ y714.toInt := b744; omega)), (show t0_9.toInt ≤ y714.toInt from (by have t1 : t0_9.toInt ≤ y45.toInt := b69; have t2 : y45.toInt ≤ y657.toInt := b676; have t3 : y657.toInt ≤ y714.toInt := b744; omega)), (show y714.toInt ≤ t0_9.toInt from (by have t1 : y45.toInt ≤ t0_9.toInt := b70; have t2 : y657.toInt ≤ y45.toInt := b677; have t3 : y714.toInt ≤ y657.toInt := b745; omega)), (show t0_10.toInt ≤ y715.toInt from (by have t1 : t0_10.toInt ≤ y46.toInt := b71; have t2 : y46.toInt ≤ y658.toInt := b678; have t3 : y658.toInt ≤ y715.toInt := b746; omega)), (show y715.toInt ≤ t0_10.toInt from (by have t1 : y46.toInt ≤ t0_10.toInt := b72; have t2 : y658.toInt ≤ y46.toInt := b679; have t3 : y715.toInt ≤ y658.toInt := b747; omega)), (show (y705, y706, y707, y708, y709, y710, y711, y712, y713, y714, y715, f716, f718, f720, f722, f724) = (F_DR_toPrecision x2 x3 x4 x5 t0_0 t0_1 t0_2 t0_3 t0_4 t0_5 t0_6 t0_7 t0_8 t0_9 t0_10 t1_0 t2_0 t3_0 t4_0 t5_0) from Eq.trans (by rw [e767, e766, e765, e764, e763, e762, e761, e760, e759, e758, e757, e756, e755, e754, e753, e752, F_DR_toPrecision_c125_12.eq_1]) hR768)⟩) d_15_15_128
  ·
    intro J102
    refine lv_if_ne (tgt := 32) hx hb d_15_15_10 (by decide) (fun c773 => ?_) (fun c773 => ?_)
    ·
      exact J102 (()) _ _ _ u33 ⟨V, q_lw hl (q_lw1 0 rfl (q_lw1 1 rfl (q_lw1 2 rfl (q_lw1 3 rfl (q_lw1 4 rfl q_lw0))))), (show F_DR_toPrecision_J32 x2 x3 x4 x5 t0_0 t0_1 t0_2 t0_3 t0_4 t0_5 t0_6 t0_7 t0_8 t0_9 t0_10 t1_0 t2_0 t3_0 t4_0 t5_0 p75 y36 y37 y38 y39 y40 y41 y42 y43 y44 y45 y46 f47 = (F_DR_toPrecision x2 x3 x4 x5 t0_0 t0_1 t0_2 t0_3 t0_4 t0_5 t0_6 t0_7 t0_8 t0_9 t0_10 t1_0 t2_0 t3_0 t4_0 t5_0) from Eq.trans (by have c773x := c773; rw [← e95, e88] at c773x; rw [e88, e87, e86, e85, e84, e83, e82, e81, e80, e79, e78, e77, F_DR_toPrecision_c1.eq_1, if_neg c773x]) hR89), (show True ∧ S_DR_toPrecision_J32 x2 x3 x4 x5 t0_0 t0_1 t0_2 t0_3 t0_4 t0_5 t0_6 t0_7 t0_8 t0_9 t0_10 t1_0 t2_0 t3_0 t4_0 t5_0 p75 y36 y37 y38 y39 y40 y41 y42 y43 y44 y45 y46 f47 from (by rw [e88, e87, e86, e85, e84, e83, e82, e81, e80, e79, e78, e77]; have h := hS90; rw [S_DR_toPrecision_c1.eq_1] at h; have c773x := c773; rw [← e95, e88] at c773x; rw [if_neg c773x] at h; with_reducible exact h))⟩
    ·
      refine lv_aload_n hx hb d_15_15_13 rfl (lv_at hl 0 rfl) ?_
      refine q_get (ci := 14) (j := 10) (v := .int y40) C0 V i_DR rfl rfl hO35 (by decide) w_2013 rfl d_15_15_14 ?_
      refine lv_if_ne (tgt := 32) hx hb d_15_15_17 (by decide) (fun c776 => ?_) (fun c776 => ?_)
      ·
        exact J102 (()) _ _ _ u33 ⟨V, q_lw hl (q_lw1 0 rfl (q_lw1 1 rfl (q_lw1 2 rfl (q_lw1 3 rfl (q_lw1 4 rfl q_lw0))))), (show F_DR_toPrecision_J32 x2 x3 x4 x5 t0_0 t0_1 t0_2 t0_3 t0_4 t0_5 t0_6 t0_7 t0_8 t0_9 t0_10 t1_0 t2_0 t3_0 t4_0 t5_0 p75 y36 y37 y38 y39 y40 y41 y42 y43 y44 y45 y46 f47 = (F_DR_toPrecision x2 x3 x4 x5 t0_0 t0_1 t0_2 t0_3 t0_4 t0_5 t0_6 t0_7 t0_8 t0_9 t0_10 t1_0 t2_0 t3_0 t4_0 t5_0) from Eq.trans (by have c773x := c773; rw [← e95, e88] at c773x; have c776x := c776; rw [e81] at c776x; rw [e88, e87, e86, e85, e84, e83, e82, e81, e80, e79, e78, e77, F_DR_toPrecision_c1.eq_1, if_pos c773x, if_neg c776x]) hR89), (show True ∧ S_DR_toPrecision_J32 x2 x3 x4 x5 t0_0 t0_1 t0_2 t0_3 t0_4 t0_5 t0_6 t0_7 t0_8 t0_9 t0_10 t1_0 t2_0 t3_0 t4_0 t5_0 p75 y36 y37 y38 y39 y40 y41 y42 y43 y44 y45 y46 f47 from (by rw [e88, e87, e86, e85, e84, e83, e82, e81, e80, e79, e78, e77]; have h := hS90; rw [S_DR_toPrecision_c1.eq_1] at h; have c773x := c773; rw [← e95, e88] at c773x; rw [if_pos c773x] at h; have c776x := c776; rw [e81] at c776x; rw [if_neg c776x] at h; with_reducible exact h))⟩
      ·
        have b778 : q_F (y40.toInt = 0) := (q_eqI c776)
        refine lv_aload_n hx hb d_15_15_20 rfl (lv_at hl 0 rfl) ?_
        refine lv_lload_n hx hb d_15_15_21 rfl (lv_at hl 2 rfl) ?_
        refine q_put (ci := 14) (j := 9) (v := .long x3) (ty := .long) C0 V i_DR o_DR n_DR rfl rfl hO35 (by decide) w_2012 rfl rfl rfl rfl (Nat.le_of_ble_eq_true rfl) d_15_15_22 (fun H locs w779 hu780 hO35 V => ?_)
        replace hO35 : w779[134]? = (some (q 134, .inr (14, [.int y36, .ref (q 135), .int y37, .ref (q 136), .ref (q 137), .ref (q 138), .ref (q 139), .ref (q 140), .int y38, .long x3, .int y40, .int y41, .ref (q 141), .int y42, .ref (q 142), .int y43, .ref (q 143), .int y44, .ref (q 144), .int y45, .int y46])) : Option (Nat × va_E)) := hO35
        replace hI := n_p134 hI hu780 hO35 ⟨(by have t1 : 0 ≤ t0_1.toInt ∧ t0_1.toInt ≤ 4100 := btt0_1; have t2 : t0_1.toInt ≤ y37.toInt := b52; omega), (by have t1 : 0 ≤ t0_1.toInt ∧ t0_1.toInt ≤ 4100 := btt0_1; have t2 : y37.toInt ≤ t0_1.toInt := b53; omega)⟩ ⟨(by first | with_reducible exact q_fe b778 | (have t1 : y40.toInt = 0 := b778; omega)), (by first | with_reducible exact q_fe b778 | (have t1 : y40.toInt = 0 := b778; omega))⟩ ⟨(by first | with_reducible exact q_fe b49 | (have t1 : 0 ≤ y41.toInt := b49; omega)), (by have t1 : 0 ≤ t0_5.toInt ∧ t0_5.toInt ≤ 1 := btt0_5; have t2 : y41.toInt ≤ t0_5.toInt := b61; omega)⟩ ⟨(by have t1 : 0 ≤ t0_9.toInt ∧ t0_9.toInt ≤ 12200 := btt0_9; have t2 : t0_9.toInt ≤ y45.toInt := b69; omega), (by have t1 : 0 ≤ t0_9.toInt ∧ t0_9.toInt ≤ 12200 := btt0_9; have t2 : y45.toInt ≤ t0_9.toInt := b70; omega)⟩
        replace hT1 := (hu780 _ (by decide)).trans hT1
        replace hT2 := (hu780 _ (by decide)).trans hT2
        replace hT3 := (hu780 _ (by decide)).trans hT3
        replace hT4 := (hu780 _ (by decide)).trans hT4
        replace hA48 := (hu780 _ (by decide)).trans hA48
        replace hF := q_us hF hu780 (by simp)
        refine lv_aload_n hx hb d_15_15_25 rfl (lv_at hl 0 rfl) ?_
        refine lv_iload hx hb d_15_15_26 (lv_at hl 4 rfl) ?_
        have ob781 : True ∧ S_DR_store x5 y36 y37 y38 x3 y40 y41 y42 y43 y44 y45 y46 t1_0 t2_0 t3_0 t4_0 f47 := (by rw [e88, e87, e86, e85, e84, e83, e82, e81, e79, e78, e77]; have h := hS90; rw [S_DR_toPrecision_c1.eq_1] at h; have c773x := c773; rw [← e95, e88] at c773x; rw [if_pos c773x] at h; have c776x := c776; rw [e81] at c776x; rw [if_pos c776x] at h; with_reducible exact h.2.1)
        refine q_gov V (q_runV (As := [.int x5]) (rest := []) (d := 2) (mc := 0) (ms := 0) (ci := 14) C0 V rfl LV_DR_89 (X_DR_store l D g q w779  x5 hI y36 y37 y38 x3 y40 y41 y42 y43 y44 y45 y46 hO35 t1_0 hT1 t2_0 hT2 t3_0 hT3 t4_0 hT4 f47 hA48 ob781 _) rfl rfl hO35 rfl hl.1 rfl (Nat.le_of_ble_eq_true rfl) ⟨by decide, by decide⟩ ⟨Nat.le_of_ble_eq_true rfl, Nat.le_of_ble_eq_true rfl⟩ d_15_15_28) (fun u782 H locs hp783 V => ?_)
        obtain ⟨hI, hZ9⟩ := hp783
        obtain ⟨hu829, hZ9⟩ := hZ9
        obtain ⟨y785, hZ9⟩ := hZ9
        obtain ⟨y786, hZ9⟩ := hZ9
        obtain ⟨y787, hZ9⟩ := hZ9
        obtain ⟨y788, hZ9⟩ := hZ9
        obtain ⟨y789, hZ9⟩ := hZ9
        obtain ⟨y790, hZ9⟩ := hZ9
        obtain ⟨y791, hZ9⟩ := hZ9
        obtain ⟨y792, hZ9⟩ := hZ9
        obtain ⟨y793, hZ9⟩ := hZ9
        obtain ⟨y794, hZ9⟩ := hZ9
        obtain ⟨y795, hZ9⟩ := hZ9
        obtain ⟨f796, hZ9⟩ := hZ9
        obtain ⟨f798, hZ9⟩ := hZ9
        obtain ⟨f800, hZ9⟩ := hZ9
        obtain ⟨f802, hZ9⟩ := hZ9
        obtain ⟨f804, hZ9⟩ := hZ9
        obtain ⟨hO784, hZ9⟩ := hZ9
        obtain ⟨hA797, hZ9⟩ := hZ9
        obtain ⟨hA799, hZ9⟩ := hZ9
        obtain ⟨hA801, hZ9⟩ := hZ9
        obtain ⟨hA803, hZ9⟩ := hZ9
        obtain ⟨hA805, hZ9⟩ := hZ9
        obtain ⟨b806, hZ9⟩ := hZ9
        obtain ⟨b807, hZ9⟩ := hZ9
        obtain ⟨b808, hZ9⟩ := hZ9
        replace hZ9 := hZ9.2.2.2.2
        obtain ⟨b813, hZ9⟩ := hZ9
        obtain ⟨b814, hZ9⟩ := hZ9
        replace hZ9 := hZ9.2
        obtain ⟨b816, hZ9⟩ := hZ9
        obtain ⟨b817, hZ9⟩ := hZ9
        obtain ⟨b818, hZ9⟩ := hZ9
        obtain ⟨b819, hZ9⟩ := hZ9
        obtain ⟨b820, hZ9⟩ := hZ9
        obtain ⟨b821, hZ9⟩ := hZ9
        obtain ⟨b822, hZ9⟩ := hZ9
        replace hZ9 := hZ9.2
        obtain ⟨b824, hZ9⟩ := hZ9
        obtain ⟨b825, hZ9⟩ := hZ9
        obtain ⟨b826, hZ9⟩ := hZ9
        obtain ⟨b827, hE828⟩ := hZ9
        replace hO784 : u782[134]? = (some (q 134, .inr (14, [.int y785, .ref (q 135), .int y786, .ref (q 136), .ref (q 137), .ref (q 138), .ref (q 139), .ref (q 140), .int y787, .long y788, .int y789, .int y790, .ref (q 141), .int y791, .ref (q 142), .int y792, .ref (q 143), .int y793, .ref (q 144), .int y794, .int y795])) : Option (Nat × va_E)) := hO784
        replace hA797 : u782[136]? = (some (q 136, .inl (g 0, (10000 : Int32).toNatClampNeg, .inl f796)) : Option (Nat × va_E)) := hA797
        replace hA799 : u782[137]? = (some (q 137, .inl (g 0, (10 : Int32).toNatClampNeg, .inl f798)) : Option (Nat × va_E)) := hA799
        replace hA801 : u782[138]? = (some (q 138, .inl (g 3, 10, .inl f800)) : Option (Nat × va_E)) := hA801
        replace hA803 : u782[139]? = (some (q 139, .inl (g 0, (10 : Int32).toNatClampNeg, .inl f802)) : Option (Nat × va_E)) := hA803
        replace hA805 : u782[140]? = (some (q 140, .inl (g 0, (4400 : Int32).toNatClampNeg, .inl f804)) : Option (Nat × va_E)) := hA805
        obtain ⟨p830, e831⟩ : ∃ z, z = (F_DR_store x5 y36 y37 y38 x3 y40 y41 y42 y43 y44 y45 y46 t1_0 t2_0 t3_0 t4_0 f47) := ⟨_, rfl⟩
        have e832 : y785 = p830.1 := congrArg (fun z => z.1) (hE828.trans e831.symm)
        have e833 : y786 = p830.2.1 := congrArg (fun z => z.2.1) (hE828.trans e831.symm)
        have e834 : y787 = p830.2.2.1 := congrArg (fun z => z.2.2.1) (hE828.trans e831.symm)
        have e835 : y788 = p830.2.2.2.1 := congrArg (fun z => z.2.2.2.1) (hE828.trans e831.symm)
        have e836 : y789 = p830.2.2.2.2.1 := congrArg (fun z => z.2.2.2.2.1) (hE828.trans e831.symm)
        have e837 : y790 = p830.2.2.2.2.2.1 := congrArg (fun z => z.2.2.2.2.2.1) (hE828.trans e831.symm)
        have e838 : y791 = p830.2.2.2.2.2.2.1 := congrArg (fun z => z.2.2.2.2.2.2.1) (hE828.trans e831.symm)
        have e839 : y792 = p830.2.2.2.2.2.2.2.1 := congrArg (fun z => z.2.2.2.2.2.2.2.1) (hE828.trans e831.symm)
        have e840 : y793 = p830.2.2.2.2.2.2.2.2.1 := congrArg (fun z => z.2.2.2.2.2.2.2.2.1) (hE828.trans e831.symm)
        have e841 : y794 = p830.2.2.2.2.2.2.2.2.2.1 := congrArg (fun z => z.2.2.2.2.2.2.2.2.2.1) (hE828.trans e831.symm)
        have e842 : y795 = p830.2.2.2.2.2.2.2.2.2.2.1 := congrArg (fun z => z.2.2.2.2.2.2.2.2.2.2.1) (hE828.trans e831.symm)
        have e843 : f796 = p830.2.2.2.2.2.2.2.2.2.2.2.1 := congrArg (fun z => z.2.2.2.2.2.2.2.2.2.2.2.1) (hE828.trans e831.symm)
        have e844 : f798 = p830.2.2.2.2.2.2.2.2.2.2.2.2.1 := congrArg (fun z => z.2.2.2.2.2.2.2.2.2.2.2.2.1) (hE828.trans e831.symm)
        have e845 : f800 = p830.2.2.2.2.2.2.2.2.2.2.2.2.2.1 := congrArg (fun z => z.2.2.2.2.2.2.2.2.2.2.2.2.2.1) (hE828.trans e831.symm)
        have e846 : f802 = p830.2.2.2.2.2.2.2.2.2.2.2.2.2.2.1 := congrArg (fun z => z.2.2.2.2.2.2.2.2.2.2.2.2.2.2.1) (hE828.trans e831.symm)
        have e847 : f804 = p830.2.2.2.2.2.2.2.2.2.2.2.2.2.2.2 := congrArg (fun z => z.2.2.2.2.2.2.2.2.2.2.2.2.2.2.2) (hE828.trans e831.symm)
        replace b806 : q_F (0 ≤ y790.toInt) := b806
        replace b807 : q_F (y37.toInt ≤ y786.toInt) := b807
        replace b808 : q_F (y786.toInt ≤ y37.toInt) := b808
        replace b813 : q_F (y40.toInt ≤ y789.toInt) := b813
        replace b814 : q_F (y789.toInt ≤ y40.toInt) := b814
        replace b816 : q_F (y790.toInt ≤ y41.toInt) := b816
        replace b817 : q_F (y42.toInt ≤ y791.toInt) := b817
        replace b818 : q_F (y791.toInt ≤ y42.toInt) := b818
        replace b819 : q_F (y43.toInt ≤ y792.toInt) := b819
        replace b820 : q_F (y792.toInt ≤ y43.toInt) := b820
        replace b821 : q_F (y44.toInt ≤ y793.toInt) := b821
        replace b822 : q_F (y793.toInt ≤ y44.toInt) := b822
        replace b824 : q_F (y45.toInt ≤ y794.toInt) := b824
        replace b825 : q_F (y794.toInt ≤ y45.toInt) := b825
        replace b826 : q_F (y46.toInt ≤ y795.toInt) := b826
        replace b827 : q_F (y795.toInt ≤ y46.toInt) := b827
        replace hF := q_uc hF hu829 (by simp)
        have hR848 := (show F_DR_toPrecision_c28 x2 x3 x4 x5 t0_0 t0_1 t0_2 t0_3 t0_4 t0_5 t0_6 t0_7 t0_8 t0_9 t0_10 t1_0 t2_0 t3_0 t4_0 t5_0 p75 p830 = (F_DR_toPrecision x2 x3 x4 x5 t0_0 t0_1 t0_2 t0_3 t0_4 t0_5 t0_6 t0_7 t0_8 t0_9 t0_10 t1_0 t2_0 t3_0 t4_0 t5_0) from Eq.trans (by have c773x := c773; rw [← e95, e88] at c773x; have c776x := c776; rw [e81] at c776x; rw [e831, e88, e87, e86, e85, e84, e83, e82, e81, e79, e78, e77, F_DR_toPrecision_c1.eq_1, if_pos c773x, if_pos c776x]) hR89)
        have hS849 := (show True ∧ S_DR_toPrecision_c28 x2 x3 x4 x5 t0_0 t0_1 t0_2 t0_3 t0_4 t0_5 t0_6 t0_7 t0_8 t0_9 t0_10 t1_0 t2_0 t3_0 t4_0 t5_0 p75 p830 from (by rw [e831, e88, e87, e86, e85, e84, e83, e82, e81, e79, e78, e77]; have h := hS90; rw [S_DR_toPrecision_c1.eq_1] at h; have c773x := c773; rw [← e95, e88] at c773x; rw [if_pos c773x] at h; have c776x := c776; rw [e81] at c776x; rw [if_pos c776x] at h; replace h := q_s2 h; with_reducible exact h))
        exact q_retv C0 V (⟨hI, hF, y785, y786, y787, y788, y789, y790, y791, y792, y793, y794, y795, f796, f798, f800, f802, f804, hO784, hA797, hA799, hA801, hA803, hA805, (show 0 ≤ y789.toInt from (by have t1 : y40.toInt = 0 := b778; have t2 : y40.toInt ≤ y789.toInt := b813; omega)), (show 0 ≤ y790.toInt from (by first | with_reducible exact q_fe b806 | (have t1 : 0 ≤ y790.toInt := b806; omega))), (show t0_1.toInt ≤ y786.toInt from (by have t1 : t0_1.toInt ≤ y37.toInt := b52; have t2 : y37.toInt ≤ y786.toInt := b807; omega)), (show y786.toInt ≤ t0_1.toInt from (by have t1 : y37.toInt ≤ t0_1.toInt := b53; have t2 : y786.toInt ≤ y37.toInt := b808; omega)), (show t0_2.toInt ≤ y786.toInt + 24400 from (by have t1 : t0_2.toInt ≤ y37.toInt + 24400 := b54; have t2 : y37.toInt ≤ y786.toInt := b807; omega)), (show t0_2.toInt ≤ y789.toInt + 24401 from (by have t1 : t0_2.toInt ≤ y40.toInt + 24400 := b57; have t2 : y40.toInt ≤ y789.toInt := b813; omega)), (show y789.toInt ≤ t0_4.toInt from (by have t1 : y40.toInt ≤ t0_4.toInt := b59; have t2 : y789.toInt ≤ y40.toInt := b814; omega)), (show t0_2.toInt ≤ y790.toInt + 24401 from (by have t1 : t0_2.toInt ≤ y40.toInt + 24400 := b57; have t2 : y40.toInt = 0 := b778; have t3 : 0 ≤ y790.toInt := b806; omega)), (show y790.toInt ≤ t0_5.toInt from (by have t1 : y41.toInt ≤ t0_5.toInt := b61; have t2 : y790.toInt ≤ y41.toInt := b816; omega)), (show t0_6.toInt ≤ y791.toInt from (by have t1 : t0_6.toInt ≤ y42.toInt := b62; have t2 : y42.toInt ≤ y791.toInt := b817; omega)), (show y791.toInt ≤ t0_6.toInt from (by have t1 : y42.toInt ≤ t0_6.toInt := b63; have t2 : y791.toInt ≤ y42.toInt := b818; omega)), (show t0_7.toInt ≤ y792.toInt from (by have t1 : t0_7.toInt ≤ y43.toInt := b64; have t2 : y43.toInt ≤ y792.toInt := b819; omega)), (show y792.toInt ≤ t0_7.toInt from (by have t1 : y43.toInt ≤ t0_7.toInt := b65; have t2 : y792.toInt ≤ y43.toInt := b820; omega)), (show t0_8.toInt ≤ y793.toInt from (by have t1 : t0_8.toInt ≤ y44.toInt := b66; have t2 : y44.toInt ≤ y793.toInt := b821; omega)), (show y793.toInt ≤ t0_8.toInt from (by have t1 : y44.toInt ≤ t0_8.toInt := b67; have t2 : y793.toInt ≤ y44.toInt := b822; omega)), (show t0_2.toInt ≤ y794.toInt + 24400 from (by have t1 : t0_2.toInt ≤ y45.toInt + 24400 := b68; have t2 : y45.toInt ≤ y794.toInt := b824; omega)), (show t0_9.toInt ≤ y794.toInt from (by have t1 : t0_9.toInt ≤ y45.toInt := b69; have t2 : y45.toInt ≤ y794.toInt := b824; omega)), (show y794.toInt ≤ t0_9.toInt from (by have t1 : y45.toInt ≤ t0_9.toInt := b70; have t2 : y794.toInt ≤ y45.toInt := b825; omega)), (show t0_10.toInt ≤ y795.toInt from (by have t1 : t0_10.toInt ≤ y46.toInt := b71; have t2 : y46.toInt ≤ y795.toInt := b826; omega)), (show y795.toInt ≤ t0_10.toInt from (by have t1 : y46.toInt ≤ t0_10.toInt := b72; have t2 : y795.toInt ≤ y46.toInt := b827; omega)), (show (y785, y786, y787, y788, y789, y790, y791, y792, y793, y794, y795, f796, f798, f800, f802, f804) = (F_DR_toPrecision x2 x3 x4 x5 t0_0 t0_1 t0_2 t0_3 t0_4 t0_5 t0_6 t0_7 t0_8 t0_9 t0_10 t1_0 t2_0 t3_0 t4_0 t5_0) from Eq.trans (by rw [e847, e846, e845, e844, e843, e842, e841, e840, e839, e838, e837, e836, e835, e834, e833, e832, F_DR_toPrecision_c28.eq_1]) hR848)⟩) d_15_15_31

